/-! opened: sets of walls as numbers -/
def zxb (x : Int) (w : Int) : Prop := zbl x w.toNat = true
theorem zxb_tb {x : Int} (hx : 0 ≤ x ∧ x < 8589934592) (i : Nat) : zxb x i ↔ x.toNat.testBit i = true := by
  unfold zxb
  rw [Int.toNat_natCast, zbl_tn i (by omega)]
theorem zxb_hi {x : Int} (hx : 0 ≤ x ∧ x < 8589934592) {i : Nat} (hi : 33 ≤ i) : ¬ zxb x i := by
  rw [zxb_tb hx, Nat.testBit_lt_two_pow (Nat.lt_of_lt_of_le (show x.toNat < 2 ^ 33 by omega) (Nat.pow_le_pow_right (n := 2) (by decide) hi))]
  decide
theorem zxb_ext {x y : Int} (hx : 0 ≤ x ∧ x < 8589934592) (hy : 0 ≤ y ∧ y < 8589934592) (h : ∀ i : Nat, i < 33 → (zxb x i ↔ zxb y i)) : x = y := by
  have e : x.toNat = y.toNat := Nat.eq_of_testBit_eq fun i => by
    by_cases q : i < 33
    · have t := h i q
      rw [zxb_tb hx, zxb_tb hy] at t
      cases a : x.toNat.testBit i <;> cases b : y.toNat.testBit i <;> simp_all
    · have a := zxb_hi hx (i := i) (by omega)
      have b := zxb_hi hy (i := i) (by omega)
      rw [zxb_tb hx] at a
      rw [zxb_tb hy] at b
      rw [Bool.not_eq_true] at a b
      rw [a, b]
  omega
theorem zdiv_s (m n : Nat) : m / 2 ^ n = 2 * (m / 2 ^ (n + 1)) + (if m.testBit n = true then 1 else 0) := by
  have e : m / 2 ^ (n + 1) = m / 2 ^ n / 2 := by rw [Nat.pow_succ, Nat.div_div_eq_div_mul]
  rw [e]
  have t : m.testBit n = decide (m / 2 ^ n % 2 = 1) := Nat.testBit_eq_decide_div_mod_eq
  rw [t]
  by_cases q : m / 2 ^ n % 2 = 1
  · rw [if_pos (decide_eq_true q)]; omega
  · rw [if_neg (by rw [decide_eq_true_eq]; exact q)]; omega
/-- no fewer in each suffix: no less as a number -/
theorem znum {x y : Int} (hx : 0 ≤ x ∧ x < 8589934592) (hy : 0 ≤ y ∧ y < 8589934592) (h : ∀ n : Nat, n ≤ 33 → zsuf (zxb x) n ≤ zsuf (zxb y) n) : x ≤ y := by
  have key : ∀ k n : Nat, n + k = 33 → x.toNat / 2 ^ n < y.toNat / 2 ^ n ∨ (x.toNat / 2 ^ n = y.toNat / 2 ^ n ∧ zsuf (zxb x) n = zsuf (zxb y) n) := by
    intro k
    induction k with
    | zero =>
      intro n e
      have e : n = 33 := by omega
      subst e
      right
      refine ⟨?_, ?_⟩
      · rw [Nat.div_eq_of_lt (by omega), Nat.div_eq_of_lt (by omega)]
      · have a := zsuf_e (zxb x)
        have b := zsuf_e (zxb y)
        exact a.trans b.symm
    | succ k ih =>
      intro n e
      have i := ih (n + 1) (by omega)
      have sx := zdiv_s x.toNat n
      have sy := zdiv_s y.toNat n
      have fx := zsuf_s (T := zxb x) (n := (n : Int)) ⟨by omega, by omega⟩
      have fy := zsuf_s (T := zxb y) (n := (n : Int)) ⟨by omega, by omega⟩
      have l := h n (by omega)
      have tx := zxb_tb hx n
      have ty := zxb_tb hy n
      rw [show ((n + 1 : Nat) : Int) = (n : Int) + 1 by omega] at i
      by_cases a : x.toNat.testBit n = true
      · rw [if_pos a] at sx
        rw [zic1 (tx.mpr a)] at fx
        by_cases b : y.toNat.testBit n = true
        · rw [if_pos b] at sy
          rw [zic1 (ty.mpr b)] at fy
          omega
        · rw [if_neg b] at sy
          rw [zic0 (fun z => b (ty.mp z))] at fy
          omega
      · rw [if_neg a] at sx
        rw [zic0 (fun z => a (tx.mp z))] at fx
        by_cases b : y.toNat.testBit n = true
        · rw [if_pos b] at sy
          rw [zic1 (ty.mpr b)] at fy
          omega
        · rw [if_neg b] at sy
          rw [zic0 (fun z => b (ty.mp z))] at fy
          omega
  have t := key 33 0 rfl
  simp only [Nat.pow_zero, Nat.div_one] at t
  omega
theorem zsum_ext {f : Int → Int} {a : Nat} : ∀ b : Nat, a ≤ b → (∀ i : Int, (a : Int) ≤ i → i < b → f i = 0) → zsum f b = zsum f a := by
  intro b
  induction b with
  | zero => intro h _; rw [show a = 0 by omega]
  | succ b ih =>
    intro h z
    by_cases e : a = b + 1
    · rw [e]
    · rw [show ((b + 1 : Nat) : Int) = (b : Int) + 1 by omega, zsum_s f (by omega), ih (by omega) (fun i p q => z i p (by omega)), z b (by omega) (by omega)]
      omega
theorem zxb_lor {x w : Int} (hx : 0 ≤ x ∧ x < 8589934592) (hw : 0 ≤ w ∧ w < 33) (i : Nat) : zxb (zlor x (zlshl 1 w)) i ↔ zxb x i ∨ w = i := by
  unfold zxb
  rw [Int.toNat_natCast, zbl_lor hx hw, Bool.or_eq_true, decide_eq_true_eq]
theorem zCd_to {N : zMm} : ∀ (n last : Nat) (set x : Int), last ≤ 33 → (0 ≤ set ∧ set < 8589934592) → (∀ i : Nat, i < last → ¬ zxb set i) → zCd N n last set x → (0 ≤ x ∧ x < 8589934592) ∧ (∀ i : Nat, last ≤ i → (zxb x i ↔ zxb set i)) ∧ zsum (fun w => zic (zxb x w)) last = n ∧ (∀ i : Nat, i < last → zxb x i → N 57 (65 + (i : Int)) = 0) ∧ zdo N x := by
  intro n
  induction n with
  | zero =>
    intro last set x hl hs hb h
    obtain ⟨rfl, h⟩ := h
    refine ⟨hs, fun _ _ => Iff.rfl, zsum_z last fun i a b => zic0 ?_, fun i a b => absurd b (hb i a), h⟩
    have := hb i.toNat (by omega)
    rwa [show ((i.toNat : Nat) : Int) = i by omega] at this
  | succ n ih =>
    intro last set x hl hs hb h
    obtain ⟨w, w0, w1, d, h⟩ := h
    have hw : ((w.toNat : Nat) : Int) = w := by omega
    have b2 := zxb_lor hs (w := w) ⟨w0, by omega⟩
    have r := ih w.toNat (zlor set (zlshl 1 w)) x (by omega) (zlor_b hs ⟨w0, by omega⟩) (fun i hi z => by
      rcases (b2 i).mp z with z | z
      · exact hb i (by omega) z
      · omega) (by rw [hw]; exact h)
    obtain ⟨r1, r2, r3, r4, r5⟩ := r
    have xw : zxb x w := by
      have t := (r2 w.toNat (Nat.le_refl _)).mpr ((b2 w.toNat).mpr (Or.inr hw.symm))
      rwa [hw] at t
    refine ⟨r1, fun i hi => ?_, ?_, fun i hi z => ?_, r5⟩
    · rw [r2 i (by omega), b2]
      exact ⟨fun z => z.elim id fun z => by omega, Or.inl⟩
    · have e := zsum_ext (f := fun w => zic (zxb x w)) (a := w.toNat + 1) last (by omega) (fun i p q => zic0 fun z => by
        have hi : ((i.toNat : Nat) : Int) = i := by omega
        have z2 : zxb x ((i.toNat : Nat) : Int) := by rw [hi]; exact z
        rcases (b2 i.toNat).mp ((r2 i.toNat (by omega)).mp z2) with z | z
        · exact hb i.toNat (by omega) z
        · omega)
      rw [e, show ((w.toNat + 1 : Nat) : Int) = ((w.toNat : Nat) : Int) + 1 by omega, zsum_s _ (by omega), r3, hw, zic1 xw]
      omega
    · by_cases q : i < w.toNat
      · exact r4 i q z
      · by_cases e : (i : Int) = w
        · rw [e]; exact d
        · rcases (b2 i).mp ((r2 i (by omega)).mp z) with z | z
          · exact absurd z (hb i hi)
          · omega
theorem zCd_mono {N : zMm} : ∀ (n : Nat) (l l' set x : Int), l ≤ l' → zCd N n l set x → zCd N n l' set x := by
  intro n l l' set x hl h
  cases n with
  | zero => exact h
  | succ n =>
    obtain ⟨w, w0, w1, r⟩ := h
    exact ⟨w, w0, by omega, r⟩
theorem zCd_from {N : zMm} {x : Int} (hx : 0 ≤ x ∧ x < 8589934592) (hd : zdo N x) (hn : ∀ i : Nat, i < 33 → zxb x i → N 57 (65 + (i : Int)) = 0) : ∀ (last n : Nat) (set : Int), last ≤ 33 → (0 ≤ set ∧ set < 8589934592) → (∀ i : Nat, last ≤ i → (zxb x i ↔ zxb set i)) → (∀ i : Nat, i < last → ¬ zxb set i) → zsum (fun w => zic (zxb x w)) last = n → zCd N n last set x := by
  intro last
  induction last with
  | zero =>
    intro n set _ hs h1 h2 hc
    have e : n = 0 := by
      have t : zsum (fun w => zic (zxb x w)) ((0 : Nat) : Int) = 0 := zfo_0 _ _
      omega
    subst e
    have e2 := zxb_ext hx hs fun i _ => h1 i (by omega)
    exact ⟨e2, by rw [← e2]; exact hd⟩
  | succ last ih =>
    intro n set hl hs h1 h2 hc
    rw [show ((last + 1 : Nat) : Int) = (last : Int) + 1 by omega, zsum_s _ (by omega)] at hc
    by_cases q : zxb x last
    · have p : 0 ≤ zsum (fun w => zic (zxb x w)) last := zsum_nn fun i _ _ => (zic_b _).1
      rw [zic1 q] at hc
      obtain ⟨n, rfl⟩ : ∃ m, n = m + 1 := ⟨n - 1, by omega⟩
      have b2 := zxb_lor hs (w := (last : Int)) ⟨by omega, by omega⟩
      refine ⟨last, by omega, by omega, hn last (by omega) q, ih n _ (by omega) (zlor_b hs ⟨by omega, by omega⟩) (fun i hi => ?_) (fun i hi z => ?_) (by omega)⟩
      · rw [b2]
        by_cases e : i = last
        · subst e; exact ⟨fun _ => Or.inr rfl, fun _ => q⟩
        · rw [h1 i (by omega)]
          exact ⟨Or.inl, fun z => z.elim id fun z => by omega⟩
      · rcases (b2 i).mp z with z | z
        · exact h2 i (by omega) z
        · omega
    · rw [zic0 q] at hc
      refine zCd_mono n last _ set x (by omega) (ih n set (by omega) hs (fun i hi => ?_) (fun i hi => h2 i (by omega)) (by omega))
      by_cases e : i = last
      · subst e; exact ⟨fun z => absurd z q, fun z => absurd z (h2 i (by omega))⟩
      · exact h1 i (by omega)
/-! how many bits: the walls that the class may add, at most four of them -/
def zinn : List Nat := [27, 26, 25, 24, 23, 22, 20, 18, 17, 16, 15, 14, 13, 12, 10, 8, 7, 6, 4]
def zgen : Nat → Nat → List Nat
  | 0, _ => [0]
  | n + 1, k => zgen n k ++ (if zinn.contains n then (match k with
    | 0 => []
    | k + 1 => (zgen n k).map (fun m => m + 2 ^ n)) else [])
theorem zgen_mem : ∀ (n k m : Nat), m < 2 ^ n → (∀ i : Nat, i < n → m.testBit i = true → zinn.contains i = true) → zsum (fun w => if m.testBit w.toNat = true then 1 else 0) n ≤ k → m ∈ zgen n k := by
  intro n
  induction n with
  | zero =>
    intro k m h _ _
    rw [Nat.pow_zero] at h
    rw [show m = 0 by omega]
    unfold zgen
    exact List.mem_singleton.mpr rfl
  | succ n ih =>
    intro k m h hb hc
    unfold zgen
    rw [List.mem_append]
    have hd : m / 2 ^ n < 2 := by
      rw [Nat.div_lt_iff_lt_mul (Nat.two_pow_pos n)]
      rw [Nat.pow_succ] at h
      omega
    have t : m.testBit n = decide (m / 2 ^ n % 2 = 1) := Nat.testBit_eq_decide_div_mod_eq
    have dm := Nat.div_add_mod m (2 ^ n)
    have ml := Nat.mod_lt m (Nat.two_pow_pos n)
    rw [show ((n + 1 : Nat) : Int) = (n : Int) + 1 by omega, zsum_s _ (by omega), Int.toNat_natCast] at hc
    by_cases q : m.testBit n = true
    · right
      rw [if_pos (hb n (by omega) q)]
      rw [if_pos q] at hc
      rw [t, decide_eq_true_eq] at q
      have d1 : m / 2 ^ n = 1 := (fun a (h1 : a < 2) (h2 : a % 2 = 1) => by omega : ∀ a : Nat, a < 2 → a % 2 = 1 → a = 1) _ hd q
      rw [d1, Nat.mul_one] at dm
      have e : zsum (fun w => if (m % 2 ^ n).testBit w.toNat = true then 1 else 0) n = zsum (fun w => if m.testBit w.toNat = true then 1 else 0) n := zsum_c fun w w0 w1 => by
        rw [Nat.testBit_mod_two_pow, decide_eq_true (show w.toNat < n by omega), Bool.true_and]
      have p : 0 ≤ zsum (fun w => if m.testBit w.toNat = true then 1 else 0) n := zsum_nn fun i _ _ => by split <;> omega
      cases k with
      | zero => omega
      | succ k =>
        refine List.mem_map.mpr ⟨m % 2 ^ n, ih k _ ml (fun i hi z => ?_) (by omega), by omega⟩
        rw [Nat.testBit_mod_two_pow, decide_eq_true hi, Bool.true_and] at z
        exact hb i (by omega) z
    · left
      rw [if_neg q] at hc
      rw [t, decide_eq_true_eq] at q
      have d0 : m / 2 ^ n = 0 := (fun a (h1 : a < 2) (h2 : ¬ a % 2 = 1) => by omega : ∀ a : Nat, a < 2 → ¬ a % 2 = 1 → a = 0) _ hd q
      rw [d0, Nat.mul_zero] at dm
      exact ih k m (by omega) (fun i hi z => hb i (by omega) z) (by omega)
set_option maxRecDepth 100000 in
theorem zgen_ok : (zgen 33 4).all (fun m => decide (zlbc (m : Int) = zpn 33 m)) = true := by decide +kernel
theorem zlbc_n {x : Int} (hx : 0 ≤ x ∧ x < 8589934592) (hb : ∀ i : Nat, i < 33 → zxb x i → zinn.contains i = true) (hc : zsum (fun w => zic (zxb x w)) 33 ≤ 4) : zlbc x = zsum (fun w => zic (zxb x w)) 33 := by
  have e : zsum (fun w => if x.toNat.testBit w.toNat = true then 1 else 0) 33 = zsum (fun w => zic (zxb x w)) 33 := zsum_c fun w w0 w1 => by
    have t := zxb_tb hx w.toNat
    rw [show ((w.toNat : Nat) : Int) = w by omega] at t
    by_cases q : x.toNat.testBit w.toNat = true
    · rw [if_pos q, zic1 (t.mpr q)]
    · rw [if_neg q, zic0 fun z => q (t.mp z)]
  have m := zgen_mem 33 4 x.toNat (by omega) (fun i hi z => hb i hi ((zxb_tb hx i).mpr z)) (by
    show zsum _ 33 ≤ 4
    omega)
  have a := List.all_eq_true.mp zgen_ok _ m
  rw [decide_eq_true_eq, zpn_sum, show ((x.toNat : Nat) : Int) = x by omega] at a
  exact a.trans e
theorem zg0_l : ∀ h : Fin 16, zsid (h.val : Int) < 6 ∨ (h.val : Int) = 5 ∨ (h.val : Int) = 6 ∨ (h.val : Int) = 9 ∨ (h.val : Int) = 10 := by decide +kernel
def zlab (l : Int) : Prop := l = 16 ∨ l = 5 ∨ l = 6 ∨ l = 9 ∨ l = 10
theorem zgat_l (s : zMm) : ∀ (n : Nat) (h : Int), zhh h → zlab (zgat s n h) := by
  intro n
  induction n with
  | zero =>
    intro h hh
    have e : zgat s ((0 : Nat) : Int) = zg0 := zfo_0 _ _
    rw [e]
    have t := zg0_l ⟨h.toNat, by omega⟩
    simp only [show ((h.toNat : Nat) : Int) = h by omega] at t
    unfold zg0 zlab
    by_cases q : zsid h < 6
    · rw [if_pos q]; exact Or.inl rfl
    · rw [if_neg q]; exact Or.inr (t.resolve_left q)
  | succ n ih =>
    intro h hh
    rw [show ((n + 1 : Nat) : Int) = (n : Int) + 1 by omega, zgat_s s (by omega)]
    split
    · obtain ⟨m, X, j1, j2, j3⟩ := zjn (zgat s n) (zgat s n (zlow n)) (zgat s n (zhigh n))
      by_cases u : zgat s n h = zgat s n (zlow n) ∨ zgat s n h = zgat s n (zhigh n)
      · rw [(j3 h).1 u]
        rcases j1 with ⟨_, e⟩ | ⟨_, e⟩
        · rw [e]; exact ih _ (zhigh_b _)
        · rw [e]; exact ih _ (zlow_b _)
      · rw [(j3 h).2 u]; exact ih h hh
    · exact ih h hh
theorem zWc_4 (s : zMm) : zWc (s 7) (zgat s 33) ≤ 4 := by
  have t := zsum_ge16 (f := fun l => zic (zpr (s 7) (zgat s 33) l)) (g := fun l => if l = 5 ∨ l = 6 ∨ l = 9 ∨ l = 10 then 1 else 0) (fun l a b => by
    by_cases q : l = 5 ∨ l = 6 ∨ l = 9 ∨ l = 10
    · rw [if_pos q]; exact (zic_b _).2
    · rw [if_neg q, zic0]
      · exact Int.le_refl _
      · rintro ⟨h, h1, h2, h3⟩
        have z := zgat_l s 33 h h1
        rw [show ((33 : Nat) : Int) = 33 from rfl, h3] at z
        rcases z with z | z
        · omega
        · exact q z)
  have e : zsum (fun l => if l = 5 ∨ l = 6 ∨ l = 9 ∨ l = 10 then 1 else 0) 16 = 4 := by decide +kernel
  unfold zWc
  omega
theorem zinn_w : ∀ w : Fin 33, (zsid (zlow (w.val : Int)) < 6 ∧ zsid (zhigh (w.val : Int)) < 6) ∨ zinn.contains w.val = true := by decide +kernel
theorem zopen {M N : zMm} (h : zYc M) (e57 : N 57 = M 57) (e64 : N 64 = M 64) : ∃ k : Nat, zlbc (zfewN M 33).2 = k ∧ zCd N k 33 0 (zfewN M 33).2 ∧ (∀ (j : Nat) (y : Int), zCd N j 33 0 y → k ≤ j) ∧ ∀ y : Int, zCd N k 33 0 y → (zfewN M 33).2 ≤ y := by
  obtain ⟨i1, i2, i3, i4, i5, i6, i7, i8, i9⟩ := zGI33 M
  have g0 := zgc33 M
  have bt : ∀ i : Nat, zxb (zfewN M 33).2 i ↔ (i : Int) < 33 ∧ zjd M i := fun i => by
    unfold zxb
    rw [Int.toNat_natCast]
    exact i8 i
  have btI : ∀ w : Int, 0 ≤ w → w < 33 → (zxb (zfewN M 33).2 w ↔ zjd M w) := fun w w0 w1 => by
    have t := bt w.toNat
    rw [show ((w.toNat : Nat) : Int) = w by omega] at t
    exact t.trans ⟨fun z => z.2, fun z => ⟨w1, z⟩⟩
  have sf : ∀ n : Int, zsuf (zxb (zfewN M 33).2) n = zsuf (zjd M) n := fun n => zsum_c fun w a b => zic_c ⟨fun z => ⟨z.1, (btI w a b).mp z.2⟩, fun z => ⟨z.1, (btI w a b).mpr z.2⟩⟩
  have w0 : zsuf (zjd M) 0 = zWc (M 7) (zgat M 33) := by
    have e := zjd_sf M 0 (by decide)
    have e0 : zfewN M ((0 : Nat) : Int) = (zgat M 33, 0) := zfo_0 _ _
    rw [e0] at e
    exact e
  have nn : 0 ≤ zWc (M 7) (zgat M 33) := zsum_nn fun i _ _ => (zic_b _).1
  have cK : zsum (fun w => zic (zxb (zfewN M 33).2 w)) 33 = zWc (M 7) (zgat M 33) := by rw [← zsuf_0, sf, w0]
  have nd : ∀ i : Nat, i < 33 → zxb (zfewN M 33).2 i → M 12 i ≠ 1 := fun i hi z d => by
    have j := ((bt i).mp z).2
    have t := zGI_all M i (by omega)
    exact j.1 (t.2.2.1 _ _ (zlow_b _) (zhigh_b _) (g0.1.1 i (by omega) (by omega) d))
  have oy : ∀ (j : Nat) (y : Int), zCd N j 33 0 y → (0 ≤ y ∧ y < 8589934592) ∧ zsuf (zxb y) 0 = j ∧ ∀ x : Int, zhh x → M 7 x = 1 → zOut (fun w => M 12 w = 1 ∨ zxb y w) x := fun j y z => by
    have z' : zCd N j ((33 : Nat) : Int) 0 y := z
    obtain ⟨r1, r2, r3, r4, r5⟩ := zCd_to j 33 0 y (Nat.le_refl _) (by decide) (fun i _ q => by
      unfold zxb at q
      rw [zbl_00] at q
      exact absurd q (by decide)) z'
    refine ⟨r1, by rw [zsuf_0]; exact r3, fun x hx hl => zOut_mono (fun w a b d => ?_) (r5 x hx.1 hx.2 (by rw [e64, (h.2.1 x hx.1 hx.2).1]; exact hl))⟩
    have t := (h.2.2.1 w a b).2.1
    unfold zopD at d
    rw [e57, t] at d
    exact d
  refine ⟨(zWc (M 7) (zgat M 33)).toNat, ?_, ?_, fun j y z => ?_, fun y z => ?_⟩
  · rw [zlbc_n i7 (fun i hi z => ?_) (by rw [cK]; exact zWc_4 M), cK]
    · omega
    · rcases zinn_w ⟨i, hi⟩ with t | t
      · have j := ((bt i).mp z).2
        have u := zGI_all M i (by omega)
        exact absurd ((u.2.1 _ (zlow_b _) t.1).trans (u.2.1 _ (zhigh_b _) t.2).symm) j.1
      · exact t
  · refine zCd_from i7 (fun x x0 x1 hl => ?_) (fun i hi z => ?_) 33 _ 0 (Nat.le_refl _) (by decide) (fun i hi => ?_) (fun i _ q => ?_) ?_
    · have hl2 : M 7 x = 1 := by rw [← (h.2.1 x x0 x1).1, ← e64]; exact hl
      refine zOut_mono (fun w a b d => ?_) ((i9.out x0 x1).mp (zfew_out ⟨x0, x1⟩ hl2))
      unfold zopD
      rw [e57, (h.2.2.1 w a b).2.1]
      exact d.imp_right fun d => (btI w a b).mpr d
    · have t := (h.2.2.1 i (by omega) (by omega)).2.1
      have r := (h.1.2.1 i (by omega) (by omega)).2.1
      have := nd i hi z
      rw [e57, t]
      omega
    · exact ⟨fun z => by have := ((bt i).mp z).1; omega, fun z => by
        unfold zxb at z
        rw [zbl_00] at z
        exact absurd z (by decide)⟩
    · unfold zxb at q
      rw [zbl_00] at q
      exact absurd q (by decide)
    · show zsum _ 33 = _
      rw [cK]; omega
  · obtain ⟨y1, y2, y3⟩ := oy j y z
    have := zy_low (s := M) y3
    omega
  · obtain ⟨y1, y2, y3⟩ := oy _ y z
    refine znum i7 y1 fun n hn => ?_
    rw [sf]
    exact zy_suf y3 (by omega) n hn
set_option maxHeartbeats 4000000 in
theorem zK_opened {M : zMm} (hI : zI M) (v : Int) : zW mX9_opened 5 (fun rv S' M1 => S' = zS0 ∧ ∃ r : Int, rv = some (.inr (.inl r)) ∧ zW mX10_opened 46 (fun rv2 S2 M2 => S2 = zS0 ∧ rv2 = some (.inr (.inl r)) ∧ zI M2) (0, 0) zS0 0 (zargs 0 [.inr (.inr 56), .inl v]) [] M1) (0, 0) zS0 0 (zargs 0 [.inr (.inr 0), .inl v]) [] M := by
  have ix := hI.1
  have ic := hI.2.1
  refine zW_mono (cX9_opened ix.1 ix.2.2.1 v) fun rv S M1 h => ?_
  obtain ⟨rfl, rfl, e1⟩ := h
  have kc : zKc M M1 := zKc.of fun c hc => e1 c (by omega)
  have e57 : M1 57 = M 57 := kc.1 57 (by decide)
  have e64 : M1 64 = M 64 := kc.1 64 (by decide)
  refine ⟨rfl, _, rfl, zW_mono (cX10_opened (kc.P ix.1) (kc.gr ix.2.2.2) (kc.rr ic.r) v) fun rv S M2 h => ?_⟩
  obtain ⟨rfl, e2, h⟩ := h
  refine ⟨rfl, ?_, hI.go (L := [32]) (J := [29]) (fun c hc => by simp only [List.mem_cons, List.not_mem_nil, not_or, or_false, not_false_eq_true, and_true, true_and] at hc; rw [e2.1 c (by omega), e1 c (by omega)]) (fun j hj => by simp only [List.mem_cons, List.not_mem_nil, not_or, or_false, not_false_eq_true, and_true, true_and] at hj; rw [e2.2 j (by omega), e1 56 (by decide)])⟩
  obtain ⟨k, k1, k2, k3, k4⟩ := zopen ic e57 e64
  rcases h with ⟨c, rfl⟩ | ⟨c, n, b, n1, n2, n3, n4, rfl⟩
  · rw [if_neg (by omega), if_neg (by omega)]
  · have q1 := k3 n b n3
    have e : n = k := by
      by_cases q : k < n
      · exact absurd k2 (n2 k q _)
      · omega
    subst e
    have q2 := n4 _ k2
    have q3 := k4 b n3
    refine zrj ?_
    by_cases v0 : v = 0
    · rw [if_pos v0, if_pos v0, k1]
    · rw [if_neg v0, if_neg v0, if_pos (by omega)]; omega
