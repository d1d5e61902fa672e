/-! the reference: bits, who lives, who gets out -/
theorem zpn_b : ∀ (n m : Nat), 0 ≤ zpn n m ∧ zpn n m ≤ n := by
  intro n
  induction n with
  | zero => intro m; exact ⟨Int.le_refl _, Int.le_refl _⟩
  | succ n ih =>
    intro m
    have := ih (m / 2)
    show 0 ≤ ((m % 2 : Nat) : Int) + zpn n (m / 2) ∧ ((m % 2 : Nat) : Int) + zpn n (m / 2) ≤ _
    omega
theorem zlandp {x : Int} (h : 0 < x ∧ x < 4611686018427387904) : 0 ≤ zland x (zlw (x - 1)) ∧ zland x (zlw (x - 1)) < x ∧ zpn 62 (zland x (zlw (x - 1))).toNat + 1 = zpn 62 x.toNat := by
  have e1 : zlw (x - 1) = ((x.toNat - 1 : Nat) : Int) := by rw [zlw_id (by unfold z64; omega)]; omega
  have e2 := zland_n (a := x.toNat) (b := x.toNat - 1) (by omega)
  rw [show ((x.toNat : Nat) : Int) = x by omega] at e2
  rw [e1, e2]
  have e3 := zand_low 62 x.toNat (by omega) (by omega)
  rw [show ((x.toNat &&& (x.toNat - 1) : Nat) : Int).toNat = x.toNat &&& (x.toNat - 1) by omega]
  omega
theorem zbl_bi {x : Int} {i : Nat} (h : 0 ≤ x ∧ x < 65536) : zbl x i = zbi x i := by rw [zbl_tn i (by omega), zbi_tn i (by omega)]
theorem zbi_hi {x : Int} {i : Nat} (h : 0 ≤ x ∧ x < 65536) (hi : 16 ≤ i) : zbi x i = false := by
  rw [zbi_tn i (by omega)]
  exact Nat.testBit_lt_two_pow (Nat.lt_of_lt_of_le (m := 2 ^ 16) (by omega) (Nat.pow_le_pow_right (by decide) hi))
theorem zst_of {x : Int} {p : Int → Prop} (h : 0 ≤ x ∧ x < 65536) (hp : ∀ i : Int, 0 ≤ i → i < 16 → (zbi x i.toNat = true ↔ p i)) : zst x p 16 := ⟨h, fun i hi => by
  by_cases q : i < 16
  · have := hp i (by omega) (by omega)
    rw [show (i : Int).toNat = i by omega] at this
    rw [this]
    exact ⟨fun a => ⟨by omega, a⟩, fun a => a.2⟩
  · rw [zbi_hi h (by omega)]
    exact ⟨fun a => (by cases a), fun a => (by omega)⟩⟩
theorem zst.at {x : Int} {p : Int → Prop} (h : zst x p 16) {i : Int} (h0 : 0 ≤ i) (h1 : i < 16) : zbi x i.toNat = true ↔ p i := by
  have := h.2 i.toNat (by omega)
  rw [show ((i.toNat : Nat) : Int) = i by omega] at this
  rw [this]
  exact ⟨fun a => a.2, fun a => ⟨h1, a⟩⟩
theorem zbi_16 {x : Int} (h : z32 x) (hb : ∀ i : Nat, 16 ≤ i → i < 32 → zbi x i = false) : 0 ≤ x ∧ x < 65536 := by
  have e : Int32.ofInt x = Int32.ofInt (((Int32.ofInt x).toBitVec.toNat : Nat) : Int) := by
    rw [zi_nn]
    apply Int32.toBitVec_inj.mp
    exact (BitVec.eq_of_toNat_eq (by show (BitVec.ofNat 32 _).toNat = _; rw [BitVec.toNat_ofNat, Nat.mod_eq_of_lt (BitVec.isLt _)])).symm
  have hn : (Int32.ofInt x).toBitVec.toNat < 2 ^ 16 := by
    refine Nat.lt_pow_two_of_testBit _ fun i hi => ?_
    rw [BitVec.testBit_toNat]
    by_cases q : i < 32
    · exact hb i hi q
    · exact BitVec.getLsbD_of_ge _ _ (by omega)
  have := (zi_inj h (by unfold z32; omega)).mp e
  omega
theorem zst_andn {a b : Int} {p q : Int → Prop} (ha : zst a p 16) (hb : zst b q 16) : zst (zand a (zxor b (-1))) (fun h => p h ∧ ¬ q h) 16 := by
  have hbit : ∀ i : Nat, i < 32 → zbi (zand a (zxor b (-1))) i = (zbi a i && !zbi b i) := fun i hi => by rw [zbi_and, zbi_not _ hi]
  refine ⟨zbi_16 (by unfold zand; exact z32_of _) fun i h0 h1 => by rw [hbit i h1, zbi_hi ha.1 h0, Bool.false_and], fun i hi => ?_⟩
  rw [hbit i hi, Bool.and_eq_true, ha.2 i hi, Bool.not_eq_true', Bool.eq_false_iff, ne_eq, hb.2 i hi]
  constructor
  · rintro ⟨⟨u, v⟩, w⟩; exact ⟨u, v, fun z => w ⟨u, z⟩⟩
  · rintro ⟨u, v, w⟩; exact ⟨⟨u, v⟩, fun z => w z.2⟩
theorem zst_z {x : Int} {p : Int → Prop} (h : zst x p 16) : x = 0 ↔ ∀ i : Int, 0 ≤ i → i < 16 → ¬ p i := by
  constructor
  · rintro rfl i h0 h1 hp
    have := (h.at h0 h1).mpr hp
    have e := zbi_nat (m := 0) i.toNat (by decide)
    rw [show ((0 : Nat) : Int) = 0 from rfl, Nat.zero_testBit] at e
    rw [e] at this
    cases this
  · intro hn
    have h2 : zst 0 p 16 := zst_of (by decide) fun i h0 h1 => by
      have e := zbi_nat (m := 0) i.toNat (by decide)
      rw [show ((0 : Nat) : Int) = 0 from rfl, Nat.zero_testBit] at e
      rw [e]
      exact ⟨fun a => (by cases a), fun a => absurd a (hn i h0 h1)⟩
    exact zst_one h h2
/-- who gets out, with the walls of D open -/
def zOut (D : Int → Prop) (h : Int) : Prop := ∀ P : Int → Prop, (∀ k : Int, 0 ≤ k → k < 16 → zsid k < 6 → P k) → (∀ w : Int, 0 ≤ w → w < 33 → D w → (P (zlow w) ↔ P (zhigh w))) → P h
def zopD (M : zMm) (x : Int) (w : Int) : Prop := M 57 (65 + w) = 1 ∨ zbl x w.toNat = true
def zIs (f : Int) (h : Int) : Prop := zbi f h.toNat = true
/-- while who gets out is gathered -/
def zGa (D : Int → Prop) (f0 f n : Int) : Prop := (0 ≤ f0 ∧ f0 ≤ f ∧ f < 65536) ∧ (∀ h : Int, 0 ≤ h → h < 16 → zIs f h → zOut D h) ∧ (∀ h : Int, 0 ≤ h → h < 16 → zsid h < 6 → zIs f h) ∧ (f0 = f → ∀ w : Int, 0 ≤ w → w < n → D w → (zIs f (zlow w) ↔ zIs f (zhigh w)))
theorem zGa.hit {D : Int → Prop} {f0 f w : Int} (h : zGa D f0 f w) (hw : 0 ≤ w ∧ w < 33) (hD : D w) (ho : zIs f (zlow w) ∨ zIs f (zhigh w)) : zGa D f0 (zor f (zor (zshl 1 (zlow w)) (zshl 1 (zhigh w)))) (w + 1) := by
  obtain ⟨b, h1, h2, h3⟩ := h
  have lb := zlow_b w
  have lh := zhigh_b w
  have s1 := zshl_bI lb.1 lb.2
  have s2 := zshl_bI lh.1 lh.2
  have b1 := zor_b (k := 16) (by decide) (x := zshl 1 (zlow w)) (y := zshl 1 (zhigh w)) (by omega) (by omega)
  have b2 := zor_b (k := 16) (by decide) (x := f) (y := zor (zshl 1 (zlow w)) (zshl 1 (zhigh w))) (by omega) (by omega)
  have bit : ∀ h : Int, 0 ≤ h → h < 16 → (zIs (zor f (zor (zshl 1 (zlow w)) (zshl 1 (zhigh w)))) h ↔ zIs f h ∨ h = zlow w ∨ h = zhigh w) := fun h h0 h1 => by
    unfold zIs
    rw [zbi_or, zbi_or, zbi_shI lb.1 (by omega), zbi_shI lh.1 (by omega), Bool.or_eq_true, Bool.or_eq_true, decide_eq_true_eq, decide_eq_true_eq]
    constructor
    · rintro (q | q | q)
      · exact Or.inl q
      · exact Or.inr (Or.inl (by omega))
      · exact Or.inr (Or.inr (by omega))
    · rintro (q | q | q)
      · exact Or.inl q
      · exact Or.inr (Or.inl (by omega))
      · exact Or.inr (Or.inr (by omega))
  have out : zOut D (zlow w) ∧ zOut D (zhigh w) := by
    rcases ho with ho | ho
    · have k := h1 _ lb.1 lb.2 ho
      exact ⟨k, fun P q1 q2 => (q2 w hw.1 hw.2 hD).mp (k P q1 q2)⟩
    · have k := h1 _ lh.1 lh.2 ho
      exact ⟨fun P q1 q2 => (q2 w hw.1 hw.2 hD).mpr (k P q1 q2), k⟩
  refine ⟨⟨b.1, by omega, by omega⟩, fun h h0 h4 h5 => ?_, fun h h0 h4 h5 => (bit h h0 h4).mpr (Or.inl (h2 h h0 h4 h5)), fun e v h0 h4 h5 => ?_⟩
  · rcases (bit h h0 h4).mp h5 with q | rfl | rfl
    · exact h1 h h0 h4 q
    · exact out.1
    · exact out.2
  · have e2 : f0 = f := by omega
    have e3 : zor f (zor (zshl 1 (zlow w)) (zshl 1 (zhigh w))) = f := by omega
    by_cases hv : v = w
    · subst hv
      exact ⟨fun _ => (bit _ lh.1 lh.2).mpr (Or.inr (Or.inr rfl)), fun _ => (bit _ lb.1 lb.2).mpr (Or.inr (Or.inl rfl))⟩
    · rw [e3]
      exact h3 e2 v h0 (by omega) h5
theorem zGa.miss {D : Int → Prop} {f0 f w : Int} (h : zGa D f0 f w) (ho : ¬ D w ∨ (¬ zIs f (zlow w) ∧ ¬ zIs f (zhigh w))) : zGa D f0 (zor f 0) (w + 1) := by
  obtain ⟨b, h1, h2, h3⟩ := h
  rw [zor_0 (by unfold z32; omega)]
  refine ⟨b, h1, h2, fun e v h0 h4 h5 => ?_⟩
  by_cases hv : v = w
  · subst hv
    rcases ho with q | q
    · exact absurd h5 q
    · exact ⟨fun a => absurd a q.1, fun a => absurd a q.2⟩
  · exact h3 e v h0 (by omega) h5
theorem zGa.nx {D : Int → Prop} {f0 f : Int} (h : zGa D f0 f 33) : zGa D f f 0 := ⟨⟨by have := h.1; omega, by omega, by have := h.1; omega⟩, h.2.1, h.2.2.1, fun _ w h0 h1 => by omega⟩
theorem zGa.end_ {D : Int → Prop} {f : Int} (h : zGa D f f 33) : zst f (zOut D) 16 := zst_of ⟨by have := h.1; omega, h.1.2.2⟩ fun i h0 h1 => ⟨h.2.1 i h0 h1, fun q => q (zIs f) (fun k a b c => h.2.2.1 k a b c) (fun w a b c => h.2.2.2 rfl w a b c)⟩
theorem zGa.st {D : Int → Prop} {f : Int} (h : zst f (fun k => zsid k < 6) 16) : zGa D 0 f 33 := by
  refine ⟨⟨by decide, h.1.1, h.1.2⟩, fun k h0 h1 q P p1 p2 => p1 k h0 h1 ((h.at h0 h1).mp q), fun k h0 h1 q => (h.at h0 h1).mpr q, fun e => ?_⟩
  have := (zst_z h).mp e.symm 0 (by decide) (by decide)
  exact absurd (show zsid 0 < 6 by decide) this
set_option maxHeartbeats 4000000 in
theorem cX10_isIn {M : zMm} (x k : Int) (hk : 0 ≤ k ∧ k < 63) : zW mX10_isIn 1 (fun rv S' M' => S' = zS0 ∧ M = M' ∧ rv = some (.inl (zb (zbl x k.toNat = true)))) (0, 0) zS0 0 (zargs 0 [.inr (.inl x), .inl k]) [] M := by
  change zW _ _ _ _ _ 0 [(0, .inr (.inl x)), (2, .inl k)] [] M
  refine z_lload_n 0 (zdec DX10_isIn 0 rfl) rfl rfl ?_
  refine z_iload_n 1 (zdec DX10_isIn 1 rfl) rfl rfl ?_
  refine z_lshr (zdec DX10_isIn 2 rfl) ?_
  refine z_lconst 1 (zdec DX10_isIn 3 rfl) rfl ?_
  refine z_land (zdec DX10_isIn 4 rfl) ?_
  have eb : zland (zlshr x k) 1 = if zbl x k.toNat = true then 1 else 0 := by have := zlshr_bit (x := x) (k := k.toNat) (by omega); rwa [show ((k.toNat : Nat) : Int) = k by omega] at this
  rw [eb]
  skip
  refine z_lconst 1 (zdec DX10_isIn 5 rfl) rfl ?_
  refine z_lcmp (zdec DX10_isIn 6 rfl) ?_
  refine z_if_ne 14 (zdec DX10_isIn 7 rfl) rfl (fun h7 => ?_) (fun h7 => ?_)
  ·
    have c7 : ¬ zbl x k.toNat = true := fun q => by rw [if_pos q] at h7; exact h7 rfl
    refine z_iconst 0 (zdec DX10_isIn 10 rfl) (by decide) ?_
    exact z_zret (zdec DX10_isIn 11 rfl) rfl (by omega) (by unfold zb; first | exact ⟨rfl, rfl, zri (if_pos c7).symm⟩ | exact ⟨rfl, rfl, zri (if_neg c7).symm⟩)
  ·
    have c7 : zbl x k.toNat = true := Classical.byContradiction fun q => by rw [if_neg q] at h7; exact h7 (by decide)
    refine z_iconst 1 (zdec DX10_isIn 8 rfl) (by decide) ?_
    refine z_goto 15 (zdec DX10_isIn 9 rfl) rfl ?_
    exact z_zret (zdec DX10_isIn 11 rfl) rfl (by omega) (by unfold zb; first | exact ⟨rfl, rfl, zri (if_pos c7).symm⟩ | exact ⟨rfl, rfl, zri (if_neg c7).symm⟩)
set_option maxHeartbeats 4000000 in
theorem lp_X10_bitsOf_4 {Q : zPost} {M : zMm} (x : Int) (hx : 0 ≤ x ∧ x < 4611686018427387904) (hx22 : ∀ (n2 : Int), (n2 = zpn 62 x.toNat) → zW mX10_bitsOf 1 Q (0, 0) zS0 22 [(2, .inl n2)] [] M) : ∀ (n : Nat) (n2 : Int) (x2 : Int), (x2).toNat < n → (0 ≤ n2 ∧ (0 ≤ x2 ∧ x2 < 4611686018427387904) ∧ n2 + zpn 62 x2.toNat = zpn 62 x.toNat) → zW mX10_bitsOf 1 Q (0, 0) zS0 4 [(2, .inl n2), (3, .inr (.inl x2))] [] M := by
  intro n
  induction n with
  | zero => intro n2 x2 hn; exact absurd hn (Nat.not_lt_zero _)
  | succ n ih =>
    intro n2 x2 hn hI
    have bn := zpn_b 62 x.toNat
    have bn2 := zpn_b 62 x2.toNat
    refine z_lload_n 1 (zdec DX10_bitsOf 4 rfl) rfl rfl ?_
    refine z_lconst 0 (zdec DX10_bitsOf 5 rfl) rfl ?_
    refine z_lcmp (zdec DX10_bitsOf 6 rfl) ?_
    refine z_if_eq 22 (zdec DX10_bitsOf 7 rfl) rfl (fun h7 => ?_) (fun h7 => ?_)
    ·
      have c7 : x2 = 0 := by unfold zcmp at h7; (repeat split at h7) <;> omega
      refine z_weak (L' := [(2, .inl n2)]) (by simp) ?_
      exact hx22 n2 (by rw [c7] at hI; have e : zpn 62 (0 : Int).toNat = 0 := (by decide +kernel); omega)
    ·
      have c7 : x2 ≠ 0 := fun q => h7 (by unfold zcmp; rw [if_neg (by omega), if_pos q])
      refine z_iinc (L' := [(2, .inl (n2 + 1)), (3, .inr (.inl x2))]) 0 (zdec DX10_bitsOf 8 rfl) rfl (by unfold z32; omega) rfl (by decide) ?_
      refine z_lload_n 1 (zdec DX10_bitsOf 9 rfl) rfl rfl ?_
      refine z_lload_n 1 (zdec DX10_bitsOf 10 rfl) rfl rfl ?_
      refine z_lconst 1 (zdec DX10_bitsOf 11 rfl) rfl ?_
      refine z_lsubw (zdec DX10_bitsOf 12 rfl) ?_
      refine z_land (zdec DX10_bitsOf 13 rfl) ?_
      obtain ⟨x3, e3⟩ : ∃ y, y = (zland x2 (zlw (x2 - 1))) := ⟨_, rfl⟩
      rw [← e3]
      have k3 := zlandp (x := x2) ⟨by omega, by omega⟩
      rw [← e3] at k3
      refine z_lstore_n (L' := [(2, .inl (n2 + 1)), (3, .inr (.inl x3))]) (zdec DX10_bitsOf 14 rfl) rfl rfl (by decide) ?_
      refine z_goto 4 (zdec DX10_bitsOf 15 rfl) rfl ?_
      exact ih (n2 + 1) x3 (by omega) ⟨by omega, ⟨k3.1, by omega⟩, by omega⟩
set_option maxHeartbeats 4000000 in
theorem cX10_bitsOf {M : zMm} (x : Int) (hx : 0 ≤ x ∧ x < 4611686018427387904) : zW mX10_bitsOf 1 (fun rv S' M' => S' = zS0 ∧ M = M' ∧ rv = some (.inl (zpn 62 x.toNat))) (0, 0) zS0 0 (zargs 0 [.inr (.inl x)]) [] M := by
  change zW _ _ _ _ _ 0 [(0, .inr (.inl x))] [] M
  refine z_iconst 0 (zdec DX10_bitsOf 0 rfl) (by decide) ?_
  refine z_istore_n (L' := [(0, .inr (.inl x)), (2, .inl 0)]) (zdec DX10_bitsOf 1 rfl) rfl rfl (by decide) ?_
  refine z_lload_n 0 (zdec DX10_bitsOf 2 rfl) rfl rfl ?_
  refine z_lstore_n (L' := [(0, .inr (.inl x)), (2, .inl 0), (3, .inr (.inl x))]) (zdec DX10_bitsOf 3 rfl) rfl rfl (by decide) ?_
  refine z_weak (L' := [(2, .inl 0), (3, .inr (.inl x))]) (by simp) ?_
  refine lp_X10_bitsOf_4 x hx (hx22 := fun n2 hx => ?_) _ 0 x (Nat.lt_succ_self _) ⟨by omega, hx, by omega⟩
  refine z_iload_n 0 (zdec DX10_bitsOf 16 rfl) rfl rfl ?_
  exact z_iret (zdec DX10_bitsOf 17 rfl) rfl (⟨rfl, rfl, zri hx⟩)
set_option maxHeartbeats 4000000 in
theorem lp_X10_livedIn_4 {Q : zPost} {M : zMm} (hP : zP M) (hg : zGr M) (hR : zRr M) (hx35 : ∀ (f : Int), (zst f (fun h => M 64 h = 1) 16) → zW mX10_livedIn 1 Q (0, 0) zS0 35 [(1, .inl f)] [] M) : ∀ (n : Nat) (f : Int) (h : Int), (16 - h).toNat < n → (0 ≤ h ∧ h ≤ 16 ∧ zst f (fun h => M 64 h = 1) h) → zW mX10_livedIn 1 Q (0, 0) zS0 4 [(0, .inr (.inr 56)), (1, .inl f), (2, .inl h)] [] M := by
  intro n
  induction n with
  | zero => intro f h hn; exact absurd hn (Nat.not_lt_zero _)
  | succ n ih =>
    intro f h hn hI
    refine z_iload_n 2 (zdec DX10_livedIn 4 rfl) rfl rfl ?_
    refine z_bipush 16 (zdec DX10_livedIn 5 rfl) (by decide) ?_
    refine z_icmp_ge 35 (zdec DX10_livedIn 6 rfl) rfl (fun h7 => ?_) (fun h7 => ?_)
    ·
      refine z_weak (L' := [(1, .inl f)]) (by simp) ?_
      exact hx35 f (by have e : h = 16 := (by omega); rw [e] at hI; exact hI.2.2)
    ·
      refine z_iload_n 1 (zdec DX10_livedIn 7 rfl) rfl rfl ?_
      refine z_aload_n 0 (zdec DX10_livedIn 8 rfl) rfl rfl (by decide) ?_
      refine z_getr (rw1 := -66) (ki := 10) (r' := 64) 56 10 (zdec DX10_livedIn 9 rfl) rfl rfl shp56 rfl (by decide) rfl rfl fl_SixWallsModel_31 (zPa hP 64 rfl) ?_
      refine z_iload_n 2 (zdec DX10_livedIn 10 rfl) rfl rfl ?_
      refine z_zald 64 (zdec DX10_livedIn 11 rfl) rfl shp64 ⟨by omega, by omega⟩ (fun hz16 => ?_)
      refine z_if_eq 26 (zdec DX10_livedIn 12 rfl) rfl (fun h17 => ?_) (fun h17 => ?_)
      ·
        refine z_iconst 0 (zdec DX10_livedIn 17 rfl) (by decide) ?_
        refine z_ior (zdec DX10_livedIn 18 rfl) ?_
        refine z_istore_n (L' := [(0, .inr (.inr 56)), (1, .inl (zor f 0)), (2, .inl h)]) (zdec DX10_livedIn 19 rfl) rfl rfl (by decide) ?_
        refine z_iinc (L' := [(0, .inr (.inr 56)), (1, .inl (zor f 0)), (2, .inl (h + 1))]) 2 (zdec DX10_livedIn 20 rfl) rfl (by unfold z32; omega) rfl (by decide) ?_
        refine z_goto 4 (zdec DX10_livedIn 21 rfl) rfl ?_
        exact ih (zor f 0) (h + 1) (by omega) (by have hb := (hR.1 h hI.1 (by omega)).1; have q := zst_s (d := M 64 h ≠ 0) hI.2.2 hI.1 (by omega) (by omega); refine ⟨by omega, by omega, ?_⟩; first | (rw [if_pos (by omega)] at q; exact q) | (rw [if_neg (by omega)] at q; exact q))
      ·
        refine z_iconst 1 (zdec DX10_livedIn 13 rfl) (by decide) ?_
        refine z_iload_n 2 (zdec DX10_livedIn 14 rfl) rfl rfl ?_
        refine z_ishl (zdec DX10_livedIn 15 rfl) ?_
        refine z_goto 27 (zdec DX10_livedIn 16 rfl) rfl ?_
        refine z_ior (zdec DX10_livedIn 18 rfl) ?_
        refine z_istore_n (L' := [(0, .inr (.inr 56)), (1, .inl (zor f (zshl 1 h))), (2, .inl h)]) (zdec DX10_livedIn 19 rfl) rfl rfl (by decide) ?_
        refine z_iinc (L' := [(0, .inr (.inr 56)), (1, .inl (zor f (zshl 1 h))), (2, .inl (h + 1))]) 2 (zdec DX10_livedIn 20 rfl) rfl (by unfold z32; omega) rfl (by decide) ?_
        refine z_goto 4 (zdec DX10_livedIn 21 rfl) rfl ?_
        exact ih (zor f (zshl 1 h)) (h + 1) (by omega) (by have hb := (hR.1 h hI.1 (by omega)).1; have q := zst_s (d := M 64 h ≠ 0) hI.2.2 hI.1 (by omega) (by omega); refine ⟨by omega, by omega, ?_⟩; first | (rw [if_pos (by omega)] at q; exact q) | (rw [if_neg (by omega)] at q; exact q))
set_option maxHeartbeats 4000000 in
theorem cX10_livedIn {M : zMm} (hP : zP M) (hg : zGr M) (hR : zRr M) : zW mX10_livedIn 1 (fun rv S' M' => S' = zS0 ∧ M = M' ∧ ∃ r, rv = some (.inl r) ∧ zst r (fun h => M 64 h = 1) 16) (0, 0) zS0 0 (zargs 0 [.inr (.inr 56)]) [] M := by
  change zW _ _ _ _ _ 0 [(0, .inr (.inr 56))] [] M
  refine z_iconst 0 (zdec DX10_livedIn 0 rfl) (by decide) ?_
  refine z_istore_n (L' := [(0, .inr (.inr 56)), (1, .inl 0)]) (zdec DX10_livedIn 1 rfl) rfl rfl (by decide) ?_
  refine z_iconst 0 (zdec DX10_livedIn 2 rfl) (by decide) ?_
  refine z_istore_n (L' := [(0, .inr (.inr 56)), (1, .inl 0), (2, .inl 0)]) (zdec DX10_livedIn 3 rfl) rfl rfl (by decide) ?_
  refine lp_X10_livedIn_4 hP hg hR (hx35 := fun f hx => ?_) _ 0 0 (Nat.lt_succ_self _) ⟨by omega, by omega, zst_0 _⟩
  refine z_iload_n 0 (zdec DX10_livedIn 22 rfl) rfl rfl ?_
  exact z_iret (zdec DX10_livedIn 23 rfl) rfl (⟨rfl, rfl, f, rfl, hx⟩)
set_option maxHeartbeats 4000000 in
theorem lp_X10_doorMany_4 {Q : zPost} {M : zMm} (hP : zP M) (hg : zGr M) (hR : zRr M) (hx28 : ∀ (a : Int), (a = zsum (fun w => M 57 (65 + w)) 33) → zW mX10_doorMany 1 Q (0, 0) zS0 28 [(1, .inl a)] [] M) : ∀ (n : Nat) (a : Int) (w : Int), (33 - w).toNat < n → (0 ≤ w ∧ w ≤ 33 ∧ (0 ≤ a ∧ a ≤ w) ∧ a = zsum (fun w => M 57 (65 + w)) w) → zW mX10_doorMany 1 Q (0, 0) zS0 4 [(0, .inr (.inr 56)), (1, .inl a), (2, .inl w)] [] M := by
  intro n
  induction n with
  | zero => intro a w hn; exact absurd hn (Nat.not_lt_zero _)
  | succ n ih =>
    intro a w hn hI
    have hb := hR.2.1 w hI.1
    refine z_iload_n 2 (zdec DX10_doorMany 4 rfl) rfl rfl ?_
    refine z_bipush 33 (zdec DX10_doorMany 5 rfl) (by decide) ?_
    refine z_icmp_ge 28 (zdec DX10_doorMany 6 rfl) rfl (fun h7 => ?_) (fun h7 => ?_)
    ·
      refine z_weak (L' := [(1, .inl a)]) (by simp) ?_
      exact hx28 a (by rw [hI.2.2.2, show w = 33 by omega])
    ·
      refine z_iload_n 1 (zdec DX10_doorMany 7 rfl) rfl rfl ?_
      refine z_aload_n 0 (zdec DX10_doorMany 8 rfl) rfl rfl (by decide) ?_
      refine z_getr (rw1 := -66) (ki := 0) (r' := 57) 56 10 (zdec DX10_doorMany 9 rfl) rfl rfl shp56 rfl (by decide) rfl rfl fl_SixWallsModel_9 (zPa hP 57 rfl) ?_
      refine z_bipush 65 (zdec DX10_doorMany 10 rfl) (by decide) ?_
      refine z_iload_n 2 (zdec DX10_doorMany 11 rfl) rfl rfl ?_
      refine z_iadd (zdec DX10_doorMany 12 rfl) (by unfold z32; omega) ?_
      refine z_iald 57 (zdec DX10_doorMany 13 rfl) rfl shp57 ⟨by omega, by omega⟩ ?_
      refine z_iadd (zdec DX10_doorMany 14 rfl) (by unfold z32; omega) ?_
      refine z_istore_n (L' := [(0, .inr (.inr 56)), (1, .inl (a + (M 57 (65 + w)))), (2, .inl w)]) (zdec DX10_doorMany 15 rfl) rfl rfl (by decide) ?_
      refine z_iinc (L' := [(0, .inr (.inr 56)), (1, .inl (a + (M 57 (65 + w)))), (2, .inl (w + 1))]) 2 (zdec DX10_doorMany 16 rfl) rfl (by unfold z32; omega) rfl (by decide) ?_
      refine z_goto 4 (zdec DX10_doorMany 17 rfl) rfl ?_
      exact ih (a + (M 57 (65 + w))) (w + 1) (by omega) ⟨by omega, by omega, by omega, by rw [zsum_s _ hI.1, hI.2.2.2]⟩
set_option maxHeartbeats 4000000 in
theorem cX10_doorMany {M : zMm} (hP : zP M) (hg : zGr M) (hR : zRr M) : zW mX10_doorMany 1 (fun rv S' M' => S' = zS0 ∧ M = M' ∧ rv = some (.inl (zsum (fun w => M 57 (65 + w)) 33))) (0, 0) zS0 0 (zargs 0 [.inr (.inr 56)]) [] M := by
  change zW _ _ _ _ _ 0 [(0, .inr (.inr 56))] [] M
  refine z_iconst 0 (zdec DX10_doorMany 0 rfl) (by decide) ?_
  refine z_istore_n (L' := [(0, .inr (.inr 56)), (1, .inl 0)]) (zdec DX10_doorMany 1 rfl) rfl rfl (by decide) ?_
  refine z_iconst 0 (zdec DX10_doorMany 2 rfl) (by decide) ?_
  refine z_istore_n (L' := [(0, .inr (.inr 56)), (1, .inl 0), (2, .inl 0)]) (zdec DX10_doorMany 3 rfl) rfl rfl (by decide) ?_
  refine lp_X10_doorMany_4 hP hg hR (hx28 := fun a hx => ?_) _ 0 0 (Nat.lt_succ_self _) ⟨by omega, by omega, by omega, rfl⟩
  refine z_iload_n 0 (zdec DX10_doorMany 18 rfl) rfl rfl ?_
  exact z_iret (zdec DX10_doorMany 19 rfl) rfl (⟨rfl, rfl, zri hx⟩)
set_option maxHeartbeats 4000000 in
theorem lp_X10_outWith_55 {Q : zPost} {M : zMm} (hP : zP M) (hg : zGr M) (hR : zRr M) (x : Int) (u : Int) (hx171 : ∀ (f2 : Int), (zGa (zopD M x) u f2 33) → zW mX10_outWith 2 Q (0, 0) zS0 171 [(0, .inr (.inr 56)), (1, .inr (.inl x)), (3, .inl f2), (4, .inl u)] [] M) : ∀ (n : Nat) (f2 : Int) (w : Int), (33 - w).toNat < n → (0 ≤ w ∧ w ≤ 33 ∧ zGa (zopD M x) u f2 w) → zW mX10_outWith 2 Q (0, 0) zS0 55 [(0, .inr (.inr 56)), (1, .inr (.inl x)), (3, .inl f2), (4, .inl u), (5, .inl w)] [] M := by
  intro n
  induction n with
  | zero => intro f2 w hn; exact absurd hn (Nat.not_lt_zero _)
  | succ n ih =>
    intro f2 w hn hI
    have lb := zlow_b w
    have lh := zhigh_b w
    have hb := hI.2.2.1
    have fb : 0 ≤ f2 ∧ f2 < 65536 := ⟨by omega, by omega⟩
    have hbw := hR.2.1 w hI.1
    refine z_iload 4 (zdec DX10_outWith 31 rfl) rfl ?_
    refine z_bipush 33 (zdec DX10_outWith 32 rfl) (by decide) ?_
    refine z_icmp_ge 171 (zdec DX10_outWith 33 rfl) rfl (fun h59 => ?_) (fun h59 => ?_)
    ·
      refine z_weak (L' := [(0, .inr (.inr 56)), (1, .inr (.inl x)), (3, .inl f2), (4, .inl u)]) (by simp) ?_
      exact hx171 f2 (by have e : w = 33 := (by omega); subst e; exact hI.2.2)
    ·
      refine z_aload_n 0 (zdec DX10_outWith 34 rfl) rfl rfl (by decide) ?_
      refine z_getr (rw1 := -66) (ki := 0) (r' := 57) 56 10 (zdec DX10_outWith 35 rfl) rfl rfl shp56 rfl (by decide) rfl rfl fl_SixWallsModel_9 (zPa hP 57 rfl) ?_
      refine z_bipush 65 (zdec DX10_outWith 36 rfl) (by decide) ?_
      refine z_iload 4 (zdec DX10_outWith 37 rfl) rfl ?_
      refine z_iadd (zdec DX10_outWith 38 rfl) (by unfold z32; omega) ?_
      refine z_iald 57 (zdec DX10_outWith 39 rfl) rfl shp57 ⟨by omega, by omega⟩ ?_
      refine z_iconst 1 (zdec DX10_outWith 40 rfl) (by decide) ?_
      refine z_icmp_eq 85 (zdec DX10_outWith 41 rfl) rfl (fun h73 => ?_) (fun h73 => ?_)
      ·
        refine z_iconst 1 (zdec DX10_outWith 46 rfl) (by decide) ?_
        refine z_goto 90 (zdec DX10_outWith 47 rfl) rfl ?_
        refine z_istore (L' := [(0, .inr (.inr 56)), (1, .inr (.inl x)), (3, .inl f2), (4, .inl u), (5, .inl w), (6, .inl 1)]) (zdec DX10_outWith 49 rfl) rfl (by decide) ?_
        refine z_iload 5 (zdec DX10_outWith 50 rfl) rfl ?_
        refine z_if_eq 131 (zdec DX10_outWith 51 rfl) rfl (fun h => absurd h (by decide)) (fun _ => ?_)
        refine z_iload_n 2 (zdec DX10_outWith 52 rfl) rfl rfl ?_
        refine z_i2l (zdec DX10_outWith 53 rfl) ?_
        refine z_aload_n 0 (zdec DX10_outWith 54 rfl) rfl rfl (by decide) ?_
        refine z_getr (rw1 := -66) (ki := 7) (r' := 61) 56 10 (zdec DX10_outWith 55 rfl) rfl rfl shp56 rfl (by decide) rfl rfl fl_SixWallsModel_22 (zPa hP 61 rfl) ?_
        refine z_iload 4 (zdec DX10_outWith 56 rfl) rfl ?_
        refine z_iald 61 (zdec DX10_outWith 57 rfl) rfl shp61 ⟨by omega, by omega⟩ ?_
        rw [(hg w hI.1 (by omega)).1]
        refine z_invs mX10_isIn [.inr (.inl f2), .inl (zlow w)] (zdec DX10_outWith 58 rfl) (Or.inl ml_SixWallsModel_266) okX10_isIn rfl rfl (Nat.le_of_ble_eq_true rfl) (Nat.le_of_ble_eq_true rfl) (b' := (0, 0)) ⟨Nat.le_refl 0, Nat.le_refl 0⟩ (Nat.le_of_ble_eq_true rfl) (cX10_isIn f2 (zlow w) ⟨by omega, by omega⟩) (fun rv9 S9 M106 h9 => ?_)
        obtain ⟨rfl, rfl, rfl⟩ := h9
        change zW _ _ _ _ _ 109 [(0, .inr (.inr 56)), (1, .inr (.inl x)), (3, .inl f2), (4, .inl u), (5, .inl w), (6, .inl 1)] [.inl (zb (zbl f2 ((zlow w)).toNat = true))] M
        refine z_if_ne 127 (zdec DX10_outWith 59 rfl) rfl (fun h109 => ?_) (fun h109 => ?_)
        ·
          have q109 := zb_ne0.mp h109
          rw [zbl_bi fb] at q109
          refine z_iconst 1 (zdec DX10_outWith 68 rfl) (by decide) ?_
          refine z_goto 132 (zdec DX10_outWith 69 rfl) rfl ?_
          refine z_istore (L' := [(0, .inr (.inr 56)), (1, .inr (.inl x)), (3, .inl f2), (4, .inl u), (5, .inl w), (6, .inl 1), (7, .inl 1)]) (zdec DX10_outWith 71 rfl) rfl (by decide) ?_
          refine z_iload_n 2 (zdec DX10_outWith 72 rfl) rfl rfl ?_
          refine z_iload 6 (zdec DX10_outWith 73 rfl) rfl ?_
          refine z_if_eq 162 (zdec DX10_outWith 74 rfl) rfl (fun h => absurd h (by decide)) (fun _ => ?_)
          refine z_iconst 1 (zdec DX10_outWith 75 rfl) (by decide) ?_
          refine z_aload_n 0 (zdec DX10_outWith 76 rfl) rfl rfl (by decide) ?_
          refine z_getr (rw1 := -66) (ki := 7) (r' := 61) 56 10 (zdec DX10_outWith 77 rfl) rfl rfl shp56 rfl (by decide) rfl rfl fl_SixWallsModel_22 (zPa hP 61 rfl) ?_
          refine z_iload 4 (zdec DX10_outWith 78 rfl) rfl ?_
          refine z_iald 61 (zdec DX10_outWith 79 rfl) rfl shp61 ⟨by omega, by omega⟩ ?_
          rw [(hg w hI.1 (by omega)).1]
          refine z_ishl (zdec DX10_outWith 80 rfl) ?_
          refine z_iconst 1 (zdec DX10_outWith 81 rfl) (by decide) ?_
          refine z_aload_n 0 (zdec DX10_outWith 82 rfl) rfl rfl (by decide) ?_
          refine z_getr (rw1 := -66) (ki := 8) (r' := 62) 56 10 (zdec DX10_outWith 83 rfl) rfl rfl shp56 rfl (by decide) rfl rfl fl_SixWallsModel_25 (zPa hP 62 rfl) ?_
          refine z_iload 4 (zdec DX10_outWith 84 rfl) rfl ?_
          refine z_iald 62 (zdec DX10_outWith 85 rfl) rfl shp62 ⟨by omega, by omega⟩ ?_
          rw [(hg w hI.1 (by omega)).2]
          refine z_ishl (zdec DX10_outWith 86 rfl) ?_
          refine z_ior (zdec DX10_outWith 87 rfl) ?_
          refine z_goto 163 (zdec DX10_outWith 88 rfl) rfl ?_
          refine z_ior (zdec DX10_outWith 90 rfl) ?_
          refine z_istore_n (L' := [(0, .inr (.inr 56)), (1, .inr (.inl x)), (3, .inl (zor f2 (zor (zshl 1 (zlow w)) (zshl 1 (zhigh w))))), (4, .inl u), (5, .inl w), (6, .inl 1), (7, .inl 1)]) (zdec DX10_outWith 91 rfl) rfl rfl (by decide) ?_
          refine z_iinc (L' := [(0, .inr (.inr 56)), (1, .inr (.inl x)), (3, .inl (zor f2 (zor (zshl 1 (zlow w)) (zshl 1 (zhigh w))))), (4, .inl u), (5, .inl (w + 1)), (6, .inl 1), (7, .inl 1)]) 4 (zdec DX10_outWith 92 rfl) rfl (by unfold z32; omega) rfl (by decide) ?_
          refine z_goto 55 (zdec DX10_outWith 93 rfl) rfl ?_
          refine z_weak (L' := [(0, .inr (.inr 56)), (1, .inr (.inl x)), (3, .inl (zor f2 (zor (zshl 1 (zlow w)) (zshl 1 (zhigh w))))), (4, .inl u), (5, .inl (w + 1))]) (by simp) ?_
          exact ih (zor f2 (zor (zshl 1 (zlow w)) (zshl 1 (zhigh w)))) (w + 1) (by omega) (by refine ⟨by omega, by omega, ?_⟩; first | exact hI.2.2.hit ⟨hI.1, by omega⟩ (by first | exact Or.inl (by omega) | exact Or.inr q82) (by first | exact Or.inl q109 | exact Or.inr q124) | exact hI.2.2.miss (Or.inl (by rintro (q | q); omega; exact q82 q)) | exact hI.2.2.miss (Or.inr ⟨q109, q124⟩))
        ·
          have q109 : ¬ zIs f2 (zlow w) := fun q => h109 (zb_ne0.mpr (by rw [zbl_bi fb]; exact q))
          refine z_iload_n 2 (zdec DX10_outWith 60 rfl) rfl rfl ?_
          refine z_i2l (zdec DX10_outWith 61 rfl) ?_
          refine z_aload_n 0 (zdec DX10_outWith 62 rfl) rfl rfl (by decide) ?_
          refine z_getr (rw1 := -66) (ki := 8) (r' := 62) 56 10 (zdec DX10_outWith 63 rfl) rfl rfl shp56 rfl (by decide) rfl rfl fl_SixWallsModel_25 (zPa hP 62 rfl) ?_
          refine z_iload 4 (zdec DX10_outWith 64 rfl) rfl ?_
          refine z_iald 62 (zdec DX10_outWith 65 rfl) rfl shp62 ⟨by omega, by omega⟩ ?_
          rw [(hg w hI.1 (by omega)).2]
          refine z_invs mX10_isIn [.inr (.inl f2), .inl (zhigh w)] (zdec DX10_outWith 66 rfl) (Or.inl ml_SixWallsModel_266) okX10_isIn rfl rfl (Nat.le_of_ble_eq_true rfl) (Nat.le_of_ble_eq_true rfl) (b' := (0, 0)) ⟨Nat.le_refl 0, Nat.le_refl 0⟩ (Nat.le_of_ble_eq_true rfl) (cX10_isIn f2 (zhigh w) ⟨by omega, by omega⟩) (fun rv9 S9 M121 h9 => ?_)
          obtain ⟨rfl, rfl, rfl⟩ := h9
          change zW _ _ _ _ _ 124 [(0, .inr (.inr 56)), (1, .inr (.inl x)), (3, .inl f2), (4, .inl u), (5, .inl w), (6, .inl 1)] [.inl (zb (zbl f2 ((zhigh w)).toNat = true))] M
          refine z_if_eq 131 (zdec DX10_outWith 67 rfl) rfl (fun h124 => ?_) (fun h124 => ?_)
          ·
            have q124 := zb_eq0.mp h124
            rw [zbl_bi fb] at q124
            refine z_iconst 0 (zdec DX10_outWith 70 rfl) (by decide) ?_
            refine z_istore (L' := [(0, .inr (.inr 56)), (1, .inr (.inl x)), (3, .inl f2), (4, .inl u), (5, .inl w), (6, .inl 1), (7, .inl 0)]) (zdec DX10_outWith 71 rfl) rfl (by decide) ?_
            refine z_iload_n 2 (zdec DX10_outWith 72 rfl) rfl rfl ?_
            refine z_iload 6 (zdec DX10_outWith 73 rfl) rfl ?_
            refine z_if_eq 162 (zdec DX10_outWith 74 rfl) rfl (fun _ => ?_) (fun h => absurd h (by decide))
            refine z_iconst 0 (zdec DX10_outWith 89 rfl) (by decide) ?_
            refine z_ior (zdec DX10_outWith 90 rfl) ?_
            refine z_istore_n (L' := [(0, .inr (.inr 56)), (1, .inr (.inl x)), (3, .inl (zor f2 0)), (4, .inl u), (5, .inl w), (6, .inl 1), (7, .inl 0)]) (zdec DX10_outWith 91 rfl) rfl rfl (by decide) ?_
            refine z_iinc (L' := [(0, .inr (.inr 56)), (1, .inr (.inl x)), (3, .inl (zor f2 0)), (4, .inl u), (5, .inl (w + 1)), (6, .inl 1), (7, .inl 0)]) 4 (zdec DX10_outWith 92 rfl) rfl (by unfold z32; omega) rfl (by decide) ?_
            refine z_goto 55 (zdec DX10_outWith 93 rfl) rfl ?_
            refine z_weak (L' := [(0, .inr (.inr 56)), (1, .inr (.inl x)), (3, .inl (zor f2 0)), (4, .inl u), (5, .inl (w + 1))]) (by simp) ?_
            exact ih (zor f2 0) (w + 1) (by omega) (by refine ⟨by omega, by omega, ?_⟩; first | exact hI.2.2.hit ⟨hI.1, by omega⟩ (by first | exact Or.inl (by omega) | exact Or.inr q82) (by first | exact Or.inl q109 | exact Or.inr q124) | exact hI.2.2.miss (Or.inl (by rintro (q | q); omega; exact q82 q)) | exact hI.2.2.miss (Or.inr ⟨q109, q124⟩))
          ·
            have q124 : zIs f2 (zhigh w) := Classical.byContradiction fun q => h124 (zb_eq0.mpr (by rw [zbl_bi fb]; exact q))
            refine z_iconst 1 (zdec DX10_outWith 68 rfl) (by decide) ?_
            refine z_goto 132 (zdec DX10_outWith 69 rfl) rfl ?_
            refine z_istore (L' := [(0, .inr (.inr 56)), (1, .inr (.inl x)), (3, .inl f2), (4, .inl u), (5, .inl w), (6, .inl 1), (7, .inl 1)]) (zdec DX10_outWith 71 rfl) rfl (by decide) ?_
            refine z_iload_n 2 (zdec DX10_outWith 72 rfl) rfl rfl ?_
            refine z_iload 6 (zdec DX10_outWith 73 rfl) rfl ?_
            refine z_if_eq 162 (zdec DX10_outWith 74 rfl) rfl (fun h => absurd h (by decide)) (fun _ => ?_)
            refine z_iconst 1 (zdec DX10_outWith 75 rfl) (by decide) ?_
            refine z_aload_n 0 (zdec DX10_outWith 76 rfl) rfl rfl (by decide) ?_
            refine z_getr (rw1 := -66) (ki := 7) (r' := 61) 56 10 (zdec DX10_outWith 77 rfl) rfl rfl shp56 rfl (by decide) rfl rfl fl_SixWallsModel_22 (zPa hP 61 rfl) ?_
            refine z_iload 4 (zdec DX10_outWith 78 rfl) rfl ?_
            refine z_iald 61 (zdec DX10_outWith 79 rfl) rfl shp61 ⟨by omega, by omega⟩ ?_
            rw [(hg w hI.1 (by omega)).1]
            refine z_ishl (zdec DX10_outWith 80 rfl) ?_
            refine z_iconst 1 (zdec DX10_outWith 81 rfl) (by decide) ?_
            refine z_aload_n 0 (zdec DX10_outWith 82 rfl) rfl rfl (by decide) ?_
            refine z_getr (rw1 := -66) (ki := 8) (r' := 62) 56 10 (zdec DX10_outWith 83 rfl) rfl rfl shp56 rfl (by decide) rfl rfl fl_SixWallsModel_25 (zPa hP 62 rfl) ?_
            refine z_iload 4 (zdec DX10_outWith 84 rfl) rfl ?_
            refine z_iald 62 (zdec DX10_outWith 85 rfl) rfl shp62 ⟨by omega, by omega⟩ ?_
            rw [(hg w hI.1 (by omega)).2]
            refine z_ishl (zdec DX10_outWith 86 rfl) ?_
            refine z_ior (zdec DX10_outWith 87 rfl) ?_
            refine z_goto 163 (zdec DX10_outWith 88 rfl) rfl ?_
            refine z_ior (zdec DX10_outWith 90 rfl) ?_
            refine z_istore_n (L' := [(0, .inr (.inr 56)), (1, .inr (.inl x)), (3, .inl (zor f2 (zor (zshl 1 (zlow w)) (zshl 1 (zhigh w))))), (4, .inl u), (5, .inl w), (6, .inl 1), (7, .inl 1)]) (zdec DX10_outWith 91 rfl) rfl rfl (by decide) ?_
            refine z_iinc (L' := [(0, .inr (.inr 56)), (1, .inr (.inl x)), (3, .inl (zor f2 (zor (zshl 1 (zlow w)) (zshl 1 (zhigh w))))), (4, .inl u), (5, .inl (w + 1)), (6, .inl 1), (7, .inl 1)]) 4 (zdec DX10_outWith 92 rfl) rfl (by unfold z32; omega) rfl (by decide) ?_
            refine z_goto 55 (zdec DX10_outWith 93 rfl) rfl ?_
            refine z_weak (L' := [(0, .inr (.inr 56)), (1, .inr (.inl x)), (3, .inl (zor f2 (zor (zshl 1 (zlow w)) (zshl 1 (zhigh w))))), (4, .inl u), (5, .inl (w + 1))]) (by simp) ?_
            exact ih (zor f2 (zor (zshl 1 (zlow w)) (zshl 1 (zhigh w)))) (w + 1) (by omega) (by refine ⟨by omega, by omega, ?_⟩; first | exact hI.2.2.hit ⟨hI.1, by omega⟩ (by first | exact Or.inl (by omega) | exact Or.inr q82) (by first | exact Or.inl q109 | exact Or.inr q124) | exact hI.2.2.miss (Or.inl (by rintro (q | q); omega; exact q82 q)) | exact hI.2.2.miss (Or.inr ⟨q109, q124⟩))
      ·
        refine z_lload_n 1 (zdec DX10_outWith 42 rfl) rfl rfl ?_
        refine z_iload 4 (zdec DX10_outWith 43 rfl) rfl ?_
        refine z_invs mX10_isIn [.inr (.inl x), .inl w] (zdec DX10_outWith 44 rfl) (Or.inl ml_SixWallsModel_266) okX10_isIn rfl rfl (Nat.le_of_ble_eq_true rfl) (Nat.le_of_ble_eq_true rfl) (b' := (0, 0)) ⟨Nat.le_refl 0, Nat.le_refl 0⟩ (Nat.le_of_ble_eq_true rfl) (cX10_isIn x w ⟨by omega, by omega⟩) (fun rv9 S9 M79 h9 => ?_)
        obtain ⟨rfl, rfl, rfl⟩ := h9
        change zW _ _ _ _ _ 82 [(0, .inr (.inr 56)), (1, .inr (.inl x)), (3, .inl f2), (4, .inl u), (5, .inl w)] [.inl (zb (zbl x (w).toNat = true))] M
        refine z_if_eq 89 (zdec DX10_outWith 45 rfl) rfl (fun h82 => ?_) (fun h82 => ?_)
        ·
          have q82 := zb_eq0.mp h82
          refine z_iconst 0 (zdec DX10_outWith 48 rfl) (by decide) ?_
          refine z_istore (L' := [(0, .inr (.inr 56)), (1, .inr (.inl x)), (3, .inl f2), (4, .inl u), (5, .inl w), (6, .inl 0)]) (zdec DX10_outWith 49 rfl) rfl (by decide) ?_
          refine z_iload 5 (zdec DX10_outWith 50 rfl) rfl ?_
          refine z_if_eq 131 (zdec DX10_outWith 51 rfl) rfl (fun _ => ?_) (fun h => absurd h (by decide))
          refine z_iconst 0 (zdec DX10_outWith 70 rfl) (by decide) ?_
          refine z_istore (L' := [(0, .inr (.inr 56)), (1, .inr (.inl x)), (3, .inl f2), (4, .inl u), (5, .inl w), (6, .inl 0), (7, .inl 0)]) (zdec DX10_outWith 71 rfl) rfl (by decide) ?_
          refine z_iload_n 2 (zdec DX10_outWith 72 rfl) rfl rfl ?_
          refine z_iload 6 (zdec DX10_outWith 73 rfl) rfl ?_
          refine z_if_eq 162 (zdec DX10_outWith 74 rfl) rfl (fun _ => ?_) (fun h => absurd h (by decide))
          refine z_iconst 0 (zdec DX10_outWith 89 rfl) (by decide) ?_
          refine z_ior (zdec DX10_outWith 90 rfl) ?_
          refine z_istore_n (L' := [(0, .inr (.inr 56)), (1, .inr (.inl x)), (3, .inl (zor f2 0)), (4, .inl u), (5, .inl w), (6, .inl 0), (7, .inl 0)]) (zdec DX10_outWith 91 rfl) rfl rfl (by decide) ?_
          refine z_iinc (L' := [(0, .inr (.inr 56)), (1, .inr (.inl x)), (3, .inl (zor f2 0)), (4, .inl u), (5, .inl (w + 1)), (6, .inl 0), (7, .inl 0)]) 4 (zdec DX10_outWith 92 rfl) rfl (by unfold z32; omega) rfl (by decide) ?_
          refine z_goto 55 (zdec DX10_outWith 93 rfl) rfl ?_
          refine z_weak (L' := [(0, .inr (.inr 56)), (1, .inr (.inl x)), (3, .inl (zor f2 0)), (4, .inl u), (5, .inl (w + 1))]) (by simp) ?_
          exact ih (zor f2 0) (w + 1) (by omega) (by refine ⟨by omega, by omega, ?_⟩; first | exact hI.2.2.hit ⟨hI.1, by omega⟩ (by first | exact Or.inl (by omega) | exact Or.inr q82) (by first | exact Or.inl q109 | exact Or.inr q124) | exact hI.2.2.miss (Or.inl (by rintro (q | q); omega; exact q82 q)) | exact hI.2.2.miss (Or.inr ⟨q109, q124⟩))
        ·
          have q82 := zb_ne0.mp h82
          refine z_iconst 1 (zdec DX10_outWith 46 rfl) (by decide) ?_
          refine z_goto 90 (zdec DX10_outWith 47 rfl) rfl ?_
          refine z_istore (L' := [(0, .inr (.inr 56)), (1, .inr (.inl x)), (3, .inl f2), (4, .inl u), (5, .inl w), (6, .inl 1)]) (zdec DX10_outWith 49 rfl) rfl (by decide) ?_
          refine z_iload 5 (zdec DX10_outWith 50 rfl) rfl ?_
          refine z_if_eq 131 (zdec DX10_outWith 51 rfl) rfl (fun h => absurd h (by decide)) (fun _ => ?_)
          refine z_iload_n 2 (zdec DX10_outWith 52 rfl) rfl rfl ?_
          refine z_i2l (zdec DX10_outWith 53 rfl) ?_
          refine z_aload_n 0 (zdec DX10_outWith 54 rfl) rfl rfl (by decide) ?_
          refine z_getr (rw1 := -66) (ki := 7) (r' := 61) 56 10 (zdec DX10_outWith 55 rfl) rfl rfl shp56 rfl (by decide) rfl rfl fl_SixWallsModel_22 (zPa hP 61 rfl) ?_
          refine z_iload 4 (zdec DX10_outWith 56 rfl) rfl ?_
          refine z_iald 61 (zdec DX10_outWith 57 rfl) rfl shp61 ⟨by omega, by omega⟩ ?_
          rw [(hg w hI.1 (by omega)).1]
          refine z_invs mX10_isIn [.inr (.inl f2), .inl (zlow w)] (zdec DX10_outWith 58 rfl) (Or.inl ml_SixWallsModel_266) okX10_isIn rfl rfl (Nat.le_of_ble_eq_true rfl) (Nat.le_of_ble_eq_true rfl) (b' := (0, 0)) ⟨Nat.le_refl 0, Nat.le_refl 0⟩ (Nat.le_of_ble_eq_true rfl) (cX10_isIn f2 (zlow w) ⟨by omega, by omega⟩) (fun rv9 S9 M106 h9 => ?_)
          obtain ⟨rfl, rfl, rfl⟩ := h9
          change zW _ _ _ _ _ 109 [(0, .inr (.inr 56)), (1, .inr (.inl x)), (3, .inl f2), (4, .inl u), (5, .inl w), (6, .inl 1)] [.inl (zb (zbl f2 ((zlow w)).toNat = true))] M
          refine z_if_ne 127 (zdec DX10_outWith 59 rfl) rfl (fun h109 => ?_) (fun h109 => ?_)
          ·
            have q109 := zb_ne0.mp h109
            rw [zbl_bi fb] at q109
            refine z_iconst 1 (zdec DX10_outWith 68 rfl) (by decide) ?_
            refine z_goto 132 (zdec DX10_outWith 69 rfl) rfl ?_
            refine z_istore (L' := [(0, .inr (.inr 56)), (1, .inr (.inl x)), (3, .inl f2), (4, .inl u), (5, .inl w), (6, .inl 1), (7, .inl 1)]) (zdec DX10_outWith 71 rfl) rfl (by decide) ?_
            refine z_iload_n 2 (zdec DX10_outWith 72 rfl) rfl rfl ?_
            refine z_iload 6 (zdec DX10_outWith 73 rfl) rfl ?_
            refine z_if_eq 162 (zdec DX10_outWith 74 rfl) rfl (fun h => absurd h (by decide)) (fun _ => ?_)
            refine z_iconst 1 (zdec DX10_outWith 75 rfl) (by decide) ?_
            refine z_aload_n 0 (zdec DX10_outWith 76 rfl) rfl rfl (by decide) ?_
            refine z_getr (rw1 := -66) (ki := 7) (r' := 61) 56 10 (zdec DX10_outWith 77 rfl) rfl rfl shp56 rfl (by decide) rfl rfl fl_SixWallsModel_22 (zPa hP 61 rfl) ?_
            refine z_iload 4 (zdec DX10_outWith 78 rfl) rfl ?_
            refine z_iald 61 (zdec DX10_outWith 79 rfl) rfl shp61 ⟨by omega, by omega⟩ ?_
            rw [(hg w hI.1 (by omega)).1]
            refine z_ishl (zdec DX10_outWith 80 rfl) ?_
            refine z_iconst 1 (zdec DX10_outWith 81 rfl) (by decide) ?_
            refine z_aload_n 0 (zdec DX10_outWith 82 rfl) rfl rfl (by decide) ?_
            refine z_getr (rw1 := -66) (ki := 8) (r' := 62) 56 10 (zdec DX10_outWith 83 rfl) rfl rfl shp56 rfl (by decide) rfl rfl fl_SixWallsModel_25 (zPa hP 62 rfl) ?_
            refine z_iload 4 (zdec DX10_outWith 84 rfl) rfl ?_
            refine z_iald 62 (zdec DX10_outWith 85 rfl) rfl shp62 ⟨by omega, by omega⟩ ?_
            rw [(hg w hI.1 (by omega)).2]
            refine z_ishl (zdec DX10_outWith 86 rfl) ?_
            refine z_ior (zdec DX10_outWith 87 rfl) ?_
            refine z_goto 163 (zdec DX10_outWith 88 rfl) rfl ?_
            refine z_ior (zdec DX10_outWith 90 rfl) ?_
            refine z_istore_n (L' := [(0, .inr (.inr 56)), (1, .inr (.inl x)), (3, .inl (zor f2 (zor (zshl 1 (zlow w)) (zshl 1 (zhigh w))))), (4, .inl u), (5, .inl w), (6, .inl 1), (7, .inl 1)]) (zdec DX10_outWith 91 rfl) rfl rfl (by decide) ?_
            refine z_iinc (L' := [(0, .inr (.inr 56)), (1, .inr (.inl x)), (3, .inl (zor f2 (zor (zshl 1 (zlow w)) (zshl 1 (zhigh w))))), (4, .inl u), (5, .inl (w + 1)), (6, .inl 1), (7, .inl 1)]) 4 (zdec DX10_outWith 92 rfl) rfl (by unfold z32; omega) rfl (by decide) ?_
            refine z_goto 55 (zdec DX10_outWith 93 rfl) rfl ?_
            refine z_weak (L' := [(0, .inr (.inr 56)), (1, .inr (.inl x)), (3, .inl (zor f2 (zor (zshl 1 (zlow w)) (zshl 1 (zhigh w))))), (4, .inl u), (5, .inl (w + 1))]) (by simp) ?_
            exact ih (zor f2 (zor (zshl 1 (zlow w)) (zshl 1 (zhigh w)))) (w + 1) (by omega) (by refine ⟨by omega, by omega, ?_⟩; first | exact hI.2.2.hit ⟨hI.1, by omega⟩ (by first | exact Or.inl (by omega) | exact Or.inr q82) (by first | exact Or.inl q109 | exact Or.inr q124) | exact hI.2.2.miss (Or.inl (by rintro (q | q); omega; exact q82 q)) | exact hI.2.2.miss (Or.inr ⟨q109, q124⟩))
          ·
            have q109 : ¬ zIs f2 (zlow w) := fun q => h109 (zb_ne0.mpr (by rw [zbl_bi fb]; exact q))
            refine z_iload_n 2 (zdec DX10_outWith 60 rfl) rfl rfl ?_
            refine z_i2l (zdec DX10_outWith 61 rfl) ?_
            refine z_aload_n 0 (zdec DX10_outWith 62 rfl) rfl rfl (by decide) ?_
            refine z_getr (rw1 := -66) (ki := 8) (r' := 62) 56 10 (zdec DX10_outWith 63 rfl) rfl rfl shp56 rfl (by decide) rfl rfl fl_SixWallsModel_25 (zPa hP 62 rfl) ?_
            refine z_iload 4 (zdec DX10_outWith 64 rfl) rfl ?_
            refine z_iald 62 (zdec DX10_outWith 65 rfl) rfl shp62 ⟨by omega, by omega⟩ ?_
            rw [(hg w hI.1 (by omega)).2]
            refine z_invs mX10_isIn [.inr (.inl f2), .inl (zhigh w)] (zdec DX10_outWith 66 rfl) (Or.inl ml_SixWallsModel_266) okX10_isIn rfl rfl (Nat.le_of_ble_eq_true rfl) (Nat.le_of_ble_eq_true rfl) (b' := (0, 0)) ⟨Nat.le_refl 0, Nat.le_refl 0⟩ (Nat.le_of_ble_eq_true rfl) (cX10_isIn f2 (zhigh w) ⟨by omega, by omega⟩) (fun rv9 S9 M121 h9 => ?_)
            obtain ⟨rfl, rfl, rfl⟩ := h9
            change zW _ _ _ _ _ 124 [(0, .inr (.inr 56)), (1, .inr (.inl x)), (3, .inl f2), (4, .inl u), (5, .inl w), (6, .inl 1)] [.inl (zb (zbl f2 ((zhigh w)).toNat = true))] M
            refine z_if_eq 131 (zdec DX10_outWith 67 rfl) rfl (fun h124 => ?_) (fun h124 => ?_)
            ·
              have q124 := zb_eq0.mp h124
              rw [zbl_bi fb] at q124
              refine z_iconst 0 (zdec DX10_outWith 70 rfl) (by decide) ?_
              refine z_istore (L' := [(0, .inr (.inr 56)), (1, .inr (.inl x)), (3, .inl f2), (4, .inl u), (5, .inl w), (6, .inl 1), (7, .inl 0)]) (zdec DX10_outWith 71 rfl) rfl (by decide) ?_
              refine z_iload_n 2 (zdec DX10_outWith 72 rfl) rfl rfl ?_
              refine z_iload 6 (zdec DX10_outWith 73 rfl) rfl ?_
              refine z_if_eq 162 (zdec DX10_outWith 74 rfl) rfl (fun _ => ?_) (fun h => absurd h (by decide))
              refine z_iconst 0 (zdec DX10_outWith 89 rfl) (by decide) ?_
              refine z_ior (zdec DX10_outWith 90 rfl) ?_
              refine z_istore_n (L' := [(0, .inr (.inr 56)), (1, .inr (.inl x)), (3, .inl (zor f2 0)), (4, .inl u), (5, .inl w), (6, .inl 1), (7, .inl 0)]) (zdec DX10_outWith 91 rfl) rfl rfl (by decide) ?_
              refine z_iinc (L' := [(0, .inr (.inr 56)), (1, .inr (.inl x)), (3, .inl (zor f2 0)), (4, .inl u), (5, .inl (w + 1)), (6, .inl 1), (7, .inl 0)]) 4 (zdec DX10_outWith 92 rfl) rfl (by unfold z32; omega) rfl (by decide) ?_
              refine z_goto 55 (zdec DX10_outWith 93 rfl) rfl ?_
              refine z_weak (L' := [(0, .inr (.inr 56)), (1, .inr (.inl x)), (3, .inl (zor f2 0)), (4, .inl u), (5, .inl (w + 1))]) (by simp) ?_
              exact ih (zor f2 0) (w + 1) (by omega) (by refine ⟨by omega, by omega, ?_⟩; first | exact hI.2.2.hit ⟨hI.1, by omega⟩ (by first | exact Or.inl (by omega) | exact Or.inr q82) (by first | exact Or.inl q109 | exact Or.inr q124) | exact hI.2.2.miss (Or.inl (by rintro (q | q); omega; exact q82 q)) | exact hI.2.2.miss (Or.inr ⟨q109, q124⟩))
            ·
              have q124 : zIs f2 (zhigh w) := Classical.byContradiction fun q => h124 (zb_eq0.mpr (by rw [zbl_bi fb]; exact q))
              refine z_iconst 1 (zdec DX10_outWith 68 rfl) (by decide) ?_
              refine z_goto 132 (zdec DX10_outWith 69 rfl) rfl ?_
              refine z_istore (L' := [(0, .inr (.inr 56)), (1, .inr (.inl x)), (3, .inl f2), (4, .inl u), (5, .inl w), (6, .inl 1), (7, .inl 1)]) (zdec DX10_outWith 71 rfl) rfl (by decide) ?_
              refine z_iload_n 2 (zdec DX10_outWith 72 rfl) rfl rfl ?_
              refine z_iload 6 (zdec DX10_outWith 73 rfl) rfl ?_
              refine z_if_eq 162 (zdec DX10_outWith 74 rfl) rfl (fun h => absurd h (by decide)) (fun _ => ?_)
              refine z_iconst 1 (zdec DX10_outWith 75 rfl) (by decide) ?_
              refine z_aload_n 0 (zdec DX10_outWith 76 rfl) rfl rfl (by decide) ?_
              refine z_getr (rw1 := -66) (ki := 7) (r' := 61) 56 10 (zdec DX10_outWith 77 rfl) rfl rfl shp56 rfl (by decide) rfl rfl fl_SixWallsModel_22 (zPa hP 61 rfl) ?_
              refine z_iload 4 (zdec DX10_outWith 78 rfl) rfl ?_
              refine z_iald 61 (zdec DX10_outWith 79 rfl) rfl shp61 ⟨by omega, by omega⟩ ?_
              rw [(hg w hI.1 (by omega)).1]
              refine z_ishl (zdec DX10_outWith 80 rfl) ?_
              refine z_iconst 1 (zdec DX10_outWith 81 rfl) (by decide) ?_
              refine z_aload_n 0 (zdec DX10_outWith 82 rfl) rfl rfl (by decide) ?_
              refine z_getr (rw1 := -66) (ki := 8) (r' := 62) 56 10 (zdec DX10_outWith 83 rfl) rfl rfl shp56 rfl (by decide) rfl rfl fl_SixWallsModel_25 (zPa hP 62 rfl) ?_
              refine z_iload 4 (zdec DX10_outWith 84 rfl) rfl ?_
              refine z_iald 62 (zdec DX10_outWith 85 rfl) rfl shp62 ⟨by omega, by omega⟩ ?_
              rw [(hg w hI.1 (by omega)).2]
              refine z_ishl (zdec DX10_outWith 86 rfl) ?_
              refine z_ior (zdec DX10_outWith 87 rfl) ?_
              refine z_goto 163 (zdec DX10_outWith 88 rfl) rfl ?_
              refine z_ior (zdec DX10_outWith 90 rfl) ?_
              refine z_istore_n (L' := [(0, .inr (.inr 56)), (1, .inr (.inl x)), (3, .inl (zor f2 (zor (zshl 1 (zlow w)) (zshl 1 (zhigh w))))), (4, .inl u), (5, .inl w), (6, .inl 1), (7, .inl 1)]) (zdec DX10_outWith 91 rfl) rfl rfl (by decide) ?_
              refine z_iinc (L' := [(0, .inr (.inr 56)), (1, .inr (.inl x)), (3, .inl (zor f2 (zor (zshl 1 (zlow w)) (zshl 1 (zhigh w))))), (4, .inl u), (5, .inl (w + 1)), (6, .inl 1), (7, .inl 1)]) 4 (zdec DX10_outWith 92 rfl) rfl (by unfold z32; omega) rfl (by decide) ?_
              refine z_goto 55 (zdec DX10_outWith 93 rfl) rfl ?_
              refine z_weak (L' := [(0, .inr (.inr 56)), (1, .inr (.inl x)), (3, .inl (zor f2 (zor (zshl 1 (zlow w)) (zshl 1 (zhigh w))))), (4, .inl u), (5, .inl (w + 1))]) (by simp) ?_
              exact ih (zor f2 (zor (zshl 1 (zlow w)) (zshl 1 (zhigh w)))) (w + 1) (by omega) (by refine ⟨by omega, by omega, ?_⟩; first | exact hI.2.2.hit ⟨hI.1, by omega⟩ (by first | exact Or.inl (by omega) | exact Or.inr q82) (by first | exact Or.inl q109 | exact Or.inr q124) | exact hI.2.2.miss (Or.inl (by rintro (q | q); omega; exact q82 q)) | exact hI.2.2.miss (Or.inr ⟨q109, q124⟩))
set_option maxHeartbeats 4000000 in
theorem lp_X10_outWith_43 {Q : zPost} {M : zMm} (hP : zP M) (hg : zGr M) (hR : zRr M) (x : Int) (hx174 : ∀ (f : Int), (zst f (zOut (zopD M x)) 16) → zW mX10_outWith 2 Q (0, 0) zS0 174 [(3, .inl f)] [] M) : ∀ (n : Nat) (f : Int) (u : Int), (65536 - u + (65536 - f)).toNat < n → (zGa (zopD M x) u f 33) → zW mX10_outWith 2 Q (0, 0) zS0 43 [(0, .inr (.inr 56)), (1, .inr (.inl x)), (3, .inl f), (4, .inl u)] [] M := by
  intro n
  induction n with
  | zero => intro f u hn; exact absurd hn (Nat.not_lt_zero _)
  | succ n ih =>
    intro f u hn hI
    have hb := hI.1
    refine z_iload 3 (zdec DX10_outWith 24 rfl) rfl ?_
    refine z_iload_n 2 (zdec DX10_outWith 25 rfl) rfl rfl ?_
    refine z_icmp_eq 174 (zdec DX10_outWith 26 rfl) rfl (fun h46 => ?_) (fun h46 => ?_)
    ·
      refine z_weak (L' := [(3, .inl f)]) (by simp) ?_
      exact hx174 f (by rw [h46] at hI; exact hI.end_)
    ·
      refine z_iload_n 2 (zdec DX10_outWith 27 rfl) rfl rfl ?_
      refine z_istore (L' := [(0, .inr (.inr 56)), (1, .inr (.inl x)), (3, .inl f), (4, .inl f)]) (zdec DX10_outWith 28 rfl) rfl (by decide) ?_
      refine z_iconst 0 (zdec DX10_outWith 29 rfl) (by decide) ?_
      refine z_istore (L' := [(0, .inr (.inr 56)), (1, .inr (.inl x)), (3, .inl f), (4, .inl f), (5, .inl 0)]) (zdec DX10_outWith 30 rfl) rfl (by decide) ?_
      refine lp_X10_outWith_55 hP hg hR x f (hx171 := fun f2 hy => ?_) _ f 0 (Nat.lt_succ_self _) ⟨by omega, by omega, hI.nx⟩
      have hb2 := hy.1
      refine z_goto 43 (zdec DX10_outWith 94 rfl) rfl ?_
      exact ih f2 f (by omega) hy
set_option maxHeartbeats 4000000 in
theorem lp_X10_outWith_5 {Q : zPost} {M : zMm} (hP : zP M) (hg : zGr M) (hR : zRr M) (x : Int) (hx40 : ∀ (f : Int), (zst f (fun k => zsid k < 6) 16) → zW mX10_outWith 2 Q (0, 0) zS0 40 [(0, .inr (.inr 56)), (1, .inr (.inl x)), (3, .inl f)] [] M) : ∀ (n : Nat) (f : Int) (h : Int), (16 - h).toNat < n → (0 ≤ h ∧ h ≤ 16 ∧ zst f (fun k => zsid k < 6) h) → zW mX10_outWith 2 Q (0, 0) zS0 5 [(0, .inr (.inr 56)), (1, .inr (.inl x)), (3, .inl f), (4, .inl h)] [] M := by
  intro n
  induction n with
  | zero => intro f h hn; exact absurd hn (Nat.not_lt_zero _)
  | succ n ih =>
    intro f h hn hI
    refine z_iload 3 (zdec DX10_outWith 4 rfl) rfl ?_
    refine z_bipush 16 (zdec DX10_outWith 5 rfl) (by decide) ?_
    refine z_icmp_ge 40 (zdec DX10_outWith 6 rfl) rfl (fun h9 => ?_) (fun h9 => ?_)
    ·
      refine z_weak (L' := [(0, .inr (.inr 56)), (1, .inr (.inl x)), (3, .inl f)]) (by simp) ?_
      exact hx40 f (by have e : h = 16 := (by omega); rw [e] at hI; exact hI.2.2)
    ·
      refine z_iload_n 2 (zdec DX10_outWith 7 rfl) rfl rfl ?_
      refine z_aload_n 0 (zdec DX10_outWith 8 rfl) rfl rfl (by decide) ?_
      refine z_iload 3 (zdec DX10_outWith 9 rfl) rfl ?_
      refine z_inv mX10_neighboursOf 56 10 [.inl h] (zdec DX10_outWith 10 rfl) ml_SixWallsModel_143 okX10_neighboursOf rfl shp56 rfl rfl rfl rfl (Nat.le_of_ble_eq_true rfl) (Nat.le_of_ble_eq_true rfl) (b' := (0, 0)) ⟨Nat.le_refl 0, Nat.le_refl 0⟩ (Nat.le_of_ble_eq_true rfl) (cX10_neighboursOf hP hg h) (fun rv9 S9 M16 h9 => ?_)
      obtain ⟨rfl, rfl, rfl⟩ := h9
      change zW _ _ _ _ _ 19 [(0, .inr (.inr 56)), (1, .inr (.inl x)), (3, .inl f), (4, .inl h)] [.inl (znb h 33), .inl f] M
      rw [znb_sidI (by omega) (by omega)]
      refine z_bipush 6 (zdec DX10_outWith 11 rfl) (by decide) ?_
      refine z_icmp_ge 31 (zdec DX10_outWith 12 rfl) rfl (fun h21 => ?_) (fun h21 => ?_)
      ·
        refine z_iconst 0 (zdec DX10_outWith 17 rfl) (by decide) ?_
        refine z_ior (zdec DX10_outWith 18 rfl) ?_
        refine z_istore_n (L' := [(0, .inr (.inr 56)), (1, .inr (.inl x)), (3, .inl (zor f 0)), (4, .inl h)]) (zdec DX10_outWith 19 rfl) rfl rfl (by decide) ?_
        refine z_iinc (L' := [(0, .inr (.inr 56)), (1, .inr (.inl x)), (3, .inl (zor f 0)), (4, .inl (h + 1))]) 3 (zdec DX10_outWith 20 rfl) rfl (by unfold z32; omega) rfl (by decide) ?_
        refine z_goto 5 (zdec DX10_outWith 21 rfl) rfl ?_
        exact ih (zor f 0) (h + 1) (by omega) (by have q := zst_s (p := fun k => zsid k < 6) (d := zsid h < 6) hI.2.2 hI.1 (by omega) Iff.rfl; refine ⟨by omega, by omega, ?_⟩; first | (rw [if_pos (by omega)] at q; exact q) | (rw [if_neg (by omega)] at q; exact q))
      ·
        refine z_iconst 1 (zdec DX10_outWith 13 rfl) (by decide) ?_
        refine z_iload 3 (zdec DX10_outWith 14 rfl) rfl ?_
        refine z_ishl (zdec DX10_outWith 15 rfl) ?_
        refine z_goto 32 (zdec DX10_outWith 16 rfl) rfl ?_
        refine z_ior (zdec DX10_outWith 18 rfl) ?_
        refine z_istore_n (L' := [(0, .inr (.inr 56)), (1, .inr (.inl x)), (3, .inl (zor f (zshl 1 h))), (4, .inl h)]) (zdec DX10_outWith 19 rfl) rfl rfl (by decide) ?_
        refine z_iinc (L' := [(0, .inr (.inr 56)), (1, .inr (.inl x)), (3, .inl (zor f (zshl 1 h))), (4, .inl (h + 1))]) 3 (zdec DX10_outWith 20 rfl) rfl (by unfold z32; omega) rfl (by decide) ?_
        refine z_goto 5 (zdec DX10_outWith 21 rfl) rfl ?_
        exact ih (zor f (zshl 1 h)) (h + 1) (by omega) (by have q := zst_s (p := fun k => zsid k < 6) (d := zsid h < 6) hI.2.2 hI.1 (by omega) Iff.rfl; refine ⟨by omega, by omega, ?_⟩; first | (rw [if_pos (by omega)] at q; exact q) | (rw [if_neg (by omega)] at q; exact q))
set_option maxHeartbeats 4000000 in
theorem cX10_outWith {M : zMm} (hP : zP M) (hg : zGr M) (hR : zRr M) (x : Int) : zW mX10_outWith 2 (fun rv S' M' => S' = zS0 ∧ M = M' ∧ ∃ r, rv = some (.inl r) ∧ zst r (zOut (zopD M x)) 16) (0, 0) zS0 0 (zargs 0 [.inr (.inr 56), .inr (.inl x)]) [] M := by
  change zW _ _ _ _ _ 0 [(0, .inr (.inr 56)), (1, .inr (.inl x))] [] M
  refine z_iconst 0 (zdec DX10_outWith 0 rfl) (by decide) ?_
  refine z_istore_n (L' := [(0, .inr (.inr 56)), (1, .inr (.inl x)), (3, .inl 0)]) (zdec DX10_outWith 1 rfl) rfl rfl (by decide) ?_
  refine z_iconst 0 (zdec DX10_outWith 2 rfl) (by decide) ?_
  refine z_istore (L' := [(0, .inr (.inr 56)), (1, .inr (.inl x)), (3, .inl 0), (4, .inl 0)]) (zdec DX10_outWith 3 rfl) rfl (by decide) ?_
  refine lp_X10_outWith_5 hP hg hR x (hx40 := fun f hx => ?_) _ 0 0 (Nat.lt_succ_self _) ⟨by omega, by omega, zst_0 _⟩
  refine z_iconst 0 (zdec DX10_outWith 22 rfl) (by decide) ?_
  refine z_istore (L' := [(0, .inr (.inr 56)), (1, .inr (.inl x)), (3, .inl f), (4, .inl 0)]) (zdec DX10_outWith 23 rfl) rfl (by decide) ?_
  refine lp_X10_outWith_43 hP hg hR x (hx174 := fun f hz => ?_) _ f 0 (Nat.lt_succ_self _) (zGa.st hx)
  refine z_iload_n 0 (zdec DX10_outWith 95 rfl) rfl rfl ?_
  exact z_iret (zdec DX10_outWith 96 rfl) rfl (⟨rfl, rfl, f, rfl, hz⟩)
set_option maxHeartbeats 4000000 in
theorem lp_X10_doors_37 {Q : zPost} {M : zMm} (hP : zP M) (hg : zGr M) (hR : zRr M) (v : Int) (hx98 : ∀ (a : Int), (a = zsum (fun w => if M 57 (65 + w) = 1 ∧ M 64 (zlow w) = 1 ∧ M 64 (zhigh w) = 1 then 1 else 0) 33) → zW mX10_doors 4 Q (0, 0) zS0 98 [(2, .inl a)] [] M) : ∀ (n : Nat) (a : Int) (w : Int), (33 - w).toNat < n → (0 ≤ w ∧ w ≤ 33 ∧ (0 ≤ a ∧ a ≤ w) ∧ a = zsum (fun w => if M 57 (65 + w) = 1 ∧ M 64 (zlow w) = 1 ∧ M 64 (zhigh w) = 1 then 1 else 0) w) → zW mX10_doors 4 Q (0, 0) zS0 37 [(0, .inr (.inr 56)), (2, .inl a), (3, .inl w)] [] M := by
  intro n
  induction n with
  | zero => intro a w hn; exact absurd hn (Nat.not_lt_zero _)
  | succ n ih =>
    intro a w hn hI
    have lb := zlow_b w
    have lh := zhigh_b w
    have bl := (hR.1 _ lb.1 lb.2).1
    have bh := (hR.1 _ lh.1 lh.2).1
    refine z_iload_n 2 (zdec DX10_doors 25 rfl) rfl rfl ?_
    refine z_bipush 33 (zdec DX10_doors 26 rfl) (by decide) ?_
    refine z_icmp_ge 98 (zdec DX10_doors 27 rfl) rfl (fun h40 => ?_) (fun h40 => ?_)
    ·
      refine z_weak (L' := [(2, .inl a)]) (by simp) ?_
      exact hx98 a (by rw [hI.2.2.2, show w = 33 by omega])
    ·
      refine z_iload_n 1 (zdec DX10_doors 28 rfl) rfl rfl ?_
      refine z_aload_n 0 (zdec DX10_doors 29 rfl) rfl rfl (by decide) ?_
      refine z_getr (rw1 := -66) (ki := 0) (r' := 57) 56 10 (zdec DX10_doors 30 rfl) rfl rfl shp56 rfl (by decide) rfl rfl fl_SixWallsModel_9 (zPa hP 57 rfl) ?_
      refine z_bipush 65 (zdec DX10_doors 31 rfl) (by decide) ?_
      refine z_iload_n 2 (zdec DX10_doors 32 rfl) rfl rfl ?_
      refine z_iadd (zdec DX10_doors 33 rfl) (by unfold z32; omega) ?_
      refine z_iald 57 (zdec DX10_doors 34 rfl) rfl shp57 ⟨by omega, by omega⟩ ?_
      refine z_iconst 1 (zdec DX10_doors 35 rfl) (by decide) ?_
      refine z_icmp_ne 89 (zdec DX10_doors 36 rfl) rfl (fun h54 => ?_) (fun h54 => ?_)
      ·
        refine z_iconst 0 (zdec DX10_doors 55 rfl) (by decide) ?_
        refine z_iadd (zdec DX10_doors 56 rfl) (by unfold z32; omega) ?_
        refine z_istore_n (L' := [(0, .inr (.inr 56)), (2, .inl (a + 0)), (3, .inl w)]) (zdec DX10_doors 57 rfl) rfl rfl (by decide) ?_
        refine z_iinc (L' := [(0, .inr (.inr 56)), (2, .inl (a + 0)), (3, .inl (w + 1))]) 2 (zdec DX10_doors 58 rfl) rfl (by unfold z32; omega) rfl (by decide) ?_
        refine z_goto 37 (zdec DX10_doors 59 rfl) rfl ?_
        exact ih (a + 0) (w + 1) (by omega) ⟨by omega, by omega, by omega, by rw [zsum_s _ hI.1, ← hI.2.2.2]; first | (rw [if_pos ⟨by omega, by omega, by omega⟩]; done) | (rw [if_neg (by omega)]; done)⟩
      ·
        refine z_aload_n 0 (zdec DX10_doors 37 rfl) rfl rfl (by decide) ?_
        refine z_getr (rw1 := -66) (ki := 10) (r' := 64) 56 10 (zdec DX10_doors 38 rfl) rfl rfl shp56 rfl (by decide) rfl rfl fl_SixWallsModel_31 (zPa hP 64 rfl) ?_
        refine z_aload_n 0 (zdec DX10_doors 39 rfl) rfl rfl (by decide) ?_
        refine z_getr (rw1 := -66) (ki := 7) (r' := 61) 56 10 (zdec DX10_doors 40 rfl) rfl rfl shp56 rfl (by decide) rfl rfl fl_SixWallsModel_22 (zPa hP 61 rfl) ?_
        refine z_iload_n 2 (zdec DX10_doors 41 rfl) rfl rfl ?_
        refine z_iald 61 (zdec DX10_doors 42 rfl) rfl shp61 ⟨by omega, by omega⟩ ?_
        rw [(hg w hI.1 (by omega)).1]
        refine z_zald 64 (zdec DX10_doors 43 rfl) rfl shp64 ⟨by omega, by omega⟩ (fun hz67 => ?_)
        refine z_if_eq 89 (zdec DX10_doors 44 rfl) rfl (fun h68 => ?_) (fun h68 => ?_)
        ·
          refine z_iconst 0 (zdec DX10_doors 55 rfl) (by decide) ?_
          refine z_iadd (zdec DX10_doors 56 rfl) (by unfold z32; omega) ?_
          refine z_istore_n (L' := [(0, .inr (.inr 56)), (2, .inl (a + 0)), (3, .inl w)]) (zdec DX10_doors 57 rfl) rfl rfl (by decide) ?_
          refine z_iinc (L' := [(0, .inr (.inr 56)), (2, .inl (a + 0)), (3, .inl (w + 1))]) 2 (zdec DX10_doors 58 rfl) rfl (by unfold z32; omega) rfl (by decide) ?_
          refine z_goto 37 (zdec DX10_doors 59 rfl) rfl ?_
          exact ih (a + 0) (w + 1) (by omega) ⟨by omega, by omega, by omega, by rw [zsum_s _ hI.1, ← hI.2.2.2]; first | (rw [if_pos ⟨by omega, by omega, by omega⟩]; done) | (rw [if_neg (by omega)]; done)⟩
        ·
          refine z_aload_n 0 (zdec DX10_doors 45 rfl) rfl rfl (by decide) ?_
          refine z_getr (rw1 := -66) (ki := 10) (r' := 64) 56 10 (zdec DX10_doors 46 rfl) rfl rfl shp56 rfl (by decide) rfl rfl fl_SixWallsModel_31 (zPa hP 64 rfl) ?_
          refine z_aload_n 0 (zdec DX10_doors 47 rfl) rfl rfl (by decide) ?_
          refine z_getr (rw1 := -66) (ki := 8) (r' := 62) 56 10 (zdec DX10_doors 48 rfl) rfl rfl shp56 rfl (by decide) rfl rfl fl_SixWallsModel_25 (zPa hP 62 rfl) ?_
          refine z_iload_n 2 (zdec DX10_doors 49 rfl) rfl rfl ?_
          refine z_iald 62 (zdec DX10_doors 50 rfl) rfl shp62 ⟨by omega, by omega⟩ ?_
          rw [(hg w hI.1 (by omega)).2]
          refine z_zald 64 (zdec DX10_doors 51 rfl) rfl shp64 ⟨by omega, by omega⟩ (fun hz81 => ?_)
          refine z_if_eq 89 (zdec DX10_doors 52 rfl) rfl (fun h82 => ?_) (fun h82 => ?_)
          ·
            refine z_iconst 0 (zdec DX10_doors 55 rfl) (by decide) ?_
            refine z_iadd (zdec DX10_doors 56 rfl) (by unfold z32; omega) ?_
            refine z_istore_n (L' := [(0, .inr (.inr 56)), (2, .inl (a + 0)), (3, .inl w)]) (zdec DX10_doors 57 rfl) rfl rfl (by decide) ?_
            refine z_iinc (L' := [(0, .inr (.inr 56)), (2, .inl (a + 0)), (3, .inl (w + 1))]) 2 (zdec DX10_doors 58 rfl) rfl (by unfold z32; omega) rfl (by decide) ?_
            refine z_goto 37 (zdec DX10_doors 59 rfl) rfl ?_
            exact ih (a + 0) (w + 1) (by omega) ⟨by omega, by omega, by omega, by rw [zsum_s _ hI.1, ← hI.2.2.2]; first | (rw [if_pos ⟨by omega, by omega, by omega⟩]; done) | (rw [if_neg (by omega)]; done)⟩
          ·
            refine z_iconst 1 (zdec DX10_doors 53 rfl) (by decide) ?_
            refine z_goto 90 (zdec DX10_doors 54 rfl) rfl ?_
            refine z_iadd (zdec DX10_doors 56 rfl) (by unfold z32; omega) ?_
            refine z_istore_n (L' := [(0, .inr (.inr 56)), (2, .inl (a + 1)), (3, .inl w)]) (zdec DX10_doors 57 rfl) rfl rfl (by decide) ?_
            refine z_iinc (L' := [(0, .inr (.inr 56)), (2, .inl (a + 1)), (3, .inl (w + 1))]) 2 (zdec DX10_doors 58 rfl) rfl (by unfold z32; omega) rfl (by decide) ?_
            refine z_goto 37 (zdec DX10_doors 59 rfl) rfl ?_
            exact ih (a + 1) (w + 1) (by omega) ⟨by omega, by omega, by omega, by rw [zsum_s _ hI.1, ← hI.2.2.2]; first | (rw [if_pos ⟨by omega, by omega, by omega⟩]; done) | (rw [if_neg (by omega)]; done)⟩
set_option maxHeartbeats 4000000 in
theorem cX10_doors {M : zMm} (hP : zP M) (hg : zGr M) (hR : zRr M) (v : Int) : zW mX10_doors 4 (fun rv S' M' => S' = zS0 ∧ M = M' ∧ ((v = 0 ∧ ∃ r, zst r (fun h => M 64 h = 1 ∧ ¬ zOut (zopD M 0) h) 16 ∧ rv = some (.inl (zpn 62 r.toNat))) ∨ (v = 1 ∧ rv = some (.inl (zsum (fun w => if M 57 (65 + w) = 1 ∧ M 64 (zlow w) = 1 ∧ M 64 (zhigh w) = 1 then 1 else 0) 33))) ∨ (¬ (0 ≤ v ∧ v ≤ 1) ∧ rv = some (.inl (-1))))) (0, 0) zS0 0 (zargs 0 [.inr (.inr 56), .inl v]) [] M := by
  change zW _ _ _ _ _ 0 [(0, .inr (.inr 56)), (1, .inl v)] [] M
  refine z_iload_n 1 (zdec DX10_doors 0 rfl) rfl rfl ?_
  refine z_i2l (zdec DX10_doors 1 rfl) ?_
  refine z_lconst 0 (zdec DX10_doors 2 rfl) rfl ?_
  refine z_lconst 1 (zdec DX10_doors 3 rfl) rfl ?_
  refine z_invs mX10_within [.inr (.inl v), .inr (.inl 0), .inr (.inl 1)] (zdec DX10_doors 4 rfl) (Or.inl ml_SixWallsModel_112) okX10_within rfl rfl (Nat.le_of_ble_eq_true rfl) (Nat.le_of_ble_eq_true rfl) (b' := (0, 0)) ⟨Nat.le_refl 0, Nat.le_refl 0⟩ (Nat.le_of_ble_eq_true rfl) (cX10_within v 0 1) (fun rv9 S9 M4 h9 => ?_)
  obtain ⟨rfl, rfl, rfl⟩ := h9
  change zW _ _ _ _ _ 7 [(0, .inr (.inr 56)), (1, .inl v)] [.inl (zb (0 ≤ v ∧ v ≤ 1))] M
  refine z_if_ne 12 (zdec DX10_doors 5 rfl) rfl (fun h7 => ?_) (fun h7 => ?_)
  ·
    have q7 := zb_ne0.mp h7
    refine z_iload_n 1 (zdec DX10_doors 8 rfl) rfl rfl ?_
    refine z_if_ne 33 (zdec DX10_doors 9 rfl) rfl (fun h13 => ?_) (fun h13 => ?_)
    ·
      refine z_iconst 0 (zdec DX10_doors 21 rfl) (by decide) ?_
      refine z_istore_n (L' := [(0, .inr (.inr 56)), (1, .inl v), (2, .inl 0)]) (zdec DX10_doors 22 rfl) rfl rfl (by decide) ?_
      refine z_iconst 0 (zdec DX10_doors 23 rfl) (by decide) ?_
      refine z_istore_n (L' := [(0, .inr (.inr 56)), (1, .inl v), (2, .inl 0), (3, .inl 0)]) (zdec DX10_doors 24 rfl) rfl rfl (by decide) ?_
      refine z_weak (L' := [(0, .inr (.inr 56)), (2, .inl 0), (3, .inl 0)]) (by simp) ?_
      refine lp_X10_doors_37 hP hg hR v (hx98 := fun a hx => ?_) _ 0 0 (Nat.lt_succ_self _) ⟨by omega, by omega, by omega, rfl⟩
      refine z_iload_n 0 (zdec DX10_doors 60 rfl) rfl rfl ?_
      exact z_iret (zdec DX10_doors 61 rfl) rfl (⟨rfl, rfl, Or.inr (Or.inl ⟨by omega, zri hx⟩)⟩)
    ·
      refine z_aload_n 0 (zdec DX10_doors 10 rfl) rfl rfl (by decide) ?_
      refine z_inv mX10_livedIn 56 10 [] (zdec DX10_doors 11 rfl) ml_SixWallsModel_270 okX10_livedIn rfl shp56 rfl rfl rfl rfl (Nat.le_of_ble_eq_true rfl) (Nat.le_of_ble_eq_true rfl) (b' := (0, 0)) ⟨Nat.le_refl 0, Nat.le_refl 0⟩ (Nat.le_of_ble_eq_true rfl) (cX10_livedIn hP hg hR) (fun rv9 S9 M17 h9 => ?_)
      obtain ⟨rfl, rfl, r1, rfl, k1⟩ := h9
      change zW _ _ _ _ _ 20 [(0, .inr (.inr 56)), (1, .inl v)] [.inl r1] M
      refine z_aload_n 0 (zdec DX10_doors 12 rfl) rfl rfl (by decide) ?_
      refine z_lconst 0 (zdec DX10_doors 13 rfl) rfl ?_
      refine z_inv mX10_outWith 56 10 [.inr (.inl 0)] (zdec DX10_doors 14 rfl) ml_SixWallsModel_273 okX10_outWith rfl shp56 rfl rfl rfl rfl (Nat.le_of_ble_eq_true rfl) (Nat.le_of_ble_eq_true rfl) (b' := (0, 0)) ⟨Nat.le_refl 0, Nat.le_refl 0⟩ (Nat.le_of_ble_eq_true rfl) (cX10_outWith hP hg hR 0) (fun rv9 S9 M22 h9 => ?_)
      obtain ⟨rfl, rfl, r2, rfl, k2⟩ := h9
      change zW _ _ _ _ _ 25 [(0, .inr (.inr 56)), (1, .inl v)] [.inl r2, .inl r1] M
      refine z_iconst (-1) (zdec DX10_doors 15 rfl) (by decide) ?_
      refine z_ixor (zdec DX10_doors 16 rfl) ?_
      refine z_iand (zdec DX10_doors 17 rfl) ?_
      have k3 := zst_andn k1 k2
      have b3 := k3.1
      refine z_i2l (zdec DX10_doors 18 rfl) ?_
      refine z_invs mX10_bitsOf [.inr (.inl (zand r1 (zxor r2 (-1))))] (zdec DX10_doors 19 rfl) (Or.inl ml_SixWallsModel_277) okX10_bitsOf rfl rfl (Nat.le_of_ble_eq_true rfl) (Nat.le_of_ble_eq_true rfl) (b' := (0, 0)) ⟨Nat.le_refl 0, Nat.le_refl 0⟩ (Nat.le_of_ble_eq_true rfl) (cX10_bitsOf (zand r1 (zxor r2 (-1))) ⟨by omega, by omega⟩) (fun rv9 S9 M29 h9 => ?_)
      obtain ⟨rfl, rfl, rfl⟩ := h9
      change zW _ _ _ _ _ 32 [(0, .inr (.inr 56)), (1, .inl v)] [.inl (zpn 62 ((zand r1 (zxor r2 (-1)))).toNat)] M
      exact z_iret (zdec DX10_doors 20 rfl) rfl (⟨rfl, rfl, Or.inl ⟨by omega, _, k3, rfl⟩⟩)
  ·
    have q7 : ¬ (0 ≤ v ∧ v ≤ 1) := fun e => h7 (zb_ne0.mpr e)
    refine z_iconst (-1) (zdec DX10_doors 6 rfl) (by decide) ?_
    exact z_iret (zdec DX10_doors 7 rfl) rfl (⟨rfl, rfl, Or.inr (Or.inr ⟨q7, rfl⟩)⟩)
