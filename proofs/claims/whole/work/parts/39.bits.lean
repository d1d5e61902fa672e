/-! bits of whole numbers -/
def zbi (x : Int) (i : Nat) : Bool := (Int32.ofInt x).toBitVec.getLsbD i
def zbl (x : Int) (i : Nat) : Bool := (Int64.ofInt x).toBitVec.getLsbD i
theorem zbi_or (x y : Int) (i : Nat) : zbi (zor x y) i = (zbi x i || zbi y i) := by
  unfold zbi zor
  rw [Int32.ofInt_toInt, Int32.toBitVec_or, BitVec.getLsbD_or]
theorem zbi_and (x y : Int) (i : Nat) : zbi (zand x y) i = (zbi x i && zbi y i) := by
  unfold zbi zand
  rw [Int32.ofInt_toInt, Int32.toBitVec_and, BitVec.getLsbD_and]
theorem zbi_m1 : ∀ i : Fin 32, zbi (-1) i.val = true := by decide +kernel
theorem zbi_not (x : Int) {i : Nat} (hi : i < 32) : zbi (zxor x (-1)) i = !zbi x i := by
  have h := zbi_m1 ⟨i, hi⟩
  unfold zbi at h
  unfold zbi zxor
  rw [Int32.ofInt_toInt, Int32.toBitVec_xor, BitVec.getLsbD_xor, h]
  cases (Int32.ofInt x).toBitVec.getLsbD i <;> rfl
theorem zshl_pw : ∀ h : Fin 32, (Int32.ofInt (zshl 1 (h.val : Int))).toBitVec = BitVec.twoPow 32 h.val := by decide +kernel
theorem zbi_sh {h i : Nat} (hh : h < 32) : zbi (zshl 1 (h : Int)) i = decide (h = i) := by
  unfold zbi
  rw [zshl_pw ⟨h, hh⟩, BitVec.getLsbD_twoPow]
  simp [hh]
theorem zbi_ext {x y : Int} (hx : z32 x) (hy : z32 y) (h : ∀ i : Nat, i < 32 → zbi x i = zbi y i) : x = y := by
  have e : Int32.ofInt x = Int32.ofInt y := Int32.toBitVec_inj.mp (BitVec.eq_of_getLsbD_eq fun i hi => h i hi)
  exact (zi_inj hx hy).mp e
theorem zbi_nat {m : Nat} (i : Nat) (hm : m < 4294967296) : zbi (m : Int) i = m.testBit i := by
  unfold zbi
  have e : (Int32.ofInt (m : Int)).toBitVec = BitVec.ofNat 32 m := by
    show BitVec.ofInt 32 (m : Int) = _
    exact BitVec.ofInt_natCast ..
  rw [e, BitVec.getLsbD_ofNat]
  by_cases hi : i < 32
  · simp [hi]
  · rw [Nat.testBit_lt_two_pow (Nat.lt_of_lt_of_le hm (Nat.pow_le_pow_right (n := 2) (by decide) (by omega : 32 ≤ i)))]
    simp
theorem zbi_tn {x : Int} (i : Nat) (h : 0 ≤ x ∧ x < 4294967296) : zbi x i = x.toNat.testBit i := by
  have e := zbi_nat (m := x.toNat) i (by omega)
  rwa [show ((x.toNat : Nat) : Int) = x by omega] at e
theorem zi_nn (n : Nat) : Int32.ofInt (n : Int) = Int32.ofNat n := Int32.toBitVec_inj.mp (BitVec.ofInt_natCast ..)
theorem zor_n {a b : Nat} (ha : a < 2147483648) (hb : b < 2147483648) : zor (a : Int) (b : Int) = ((a ||| b : Nat) : Int) := by
  have h1 : a ||| b < 2 ^ 31 := Nat.or_lt_two_pow ha hb
  have e : Int32.ofInt (a : Int) ||| Int32.ofInt (b : Int) = Int32.ofInt ((a ||| b : Nat) : Int) := by
    rw [zi_nn, zi_nn, zi_nn]
    exact Int32.toBitVec_inj.mp (BitVec.ofNat_or ..).symm
  unfold zor
  rw [e, zi_to (by unfold z32; omega)]
theorem zor_b {x y : Int} {k : Nat} (hk : k ≤ 31) (hx : 0 ≤ x ∧ x < 2 ^ k) (hy : 0 ≤ y ∧ y < 2 ^ k) : x ≤ zor x y ∧ y ≤ zor x y ∧ zor x y < 2 ^ k := by
  have hp : (2 : Nat) ^ k ≤ 2 ^ 31 := Nat.pow_le_pow_right (by decide) hk
  have hpi : (((2 : Nat) ^ k : Nat) : Int) = 2 ^ k := by simp
  have e := zor_n (a := x.toNat) (b := y.toNat) (by omega) (by omega)
  rw [show ((x.toNat : Nat) : Int) = x by omega, show ((y.toNat : Nat) : Int) = y by omega] at e
  have h1 : x.toNat ||| y.toNat < 2 ^ k := Nat.or_lt_two_pow (by omega) (by omega)
  have h2 : x.toNat ≤ x.toNat ||| y.toNat := Nat.left_le_or
  have h3 : y.toNat ≤ x.toNat ||| y.toNat := Nat.right_le_or
  rw [e]
  omega
theorem zor_0 {x : Int} (h : z32 x) : zor x 0 = x := zbi_ext (by unfold zor; exact z32_of _) h fun i hi => by
  rw [zbi_or]
  have e : zbi 0 i = false := by
    have := zbi_nat (m := 0) i (by decide)
    rw [show ((0 : Nat) : Int) = 0 from rfl] at this
    rw [this]; exact Nat.zero_testBit i
  rw [e, Bool.or_false]
theorem zshl_b : ∀ h : Fin 16, 0 ≤ zshl 1 (h.val : Int) ∧ zshl 1 (h.val : Int) < 65536 := by decide +kernel
theorem zshl_bI {h : Int} (h0 : 0 ≤ h) (h1 : h < 16) : 0 ≤ zshl 1 h ∧ zshl 1 h < 65536 := by
  have e := zshl_b ⟨h.toNat, by omega⟩
  rwa [show ((h.toNat : Nat) : Int) = h by omega] at e
theorem zbi_shI {h : Int} {i : Nat} (h0 : 0 ≤ h) (h1 : h < 32) : zbi (zshl 1 h) i = decide (h = (i : Int)) := by
  have e := zbi_sh (h := h.toNat) (i := i) (by omega)
  rw [show ((h.toNat : Nat) : Int) = h by omega] at e
  rw [e]
  by_cases q : h.toNat = i
  · rw [decide_eq_true q, decide_eq_true (by omega)]
  · rw [decide_eq_false q, decide_eq_false (by omega)]
/-- one bit more, or none, in sixteen -/
theorem zbi_add {f h : Int} {p : Prop} [Decidable p] (hf : 0 ≤ f ∧ f < 65536) (h0 : 0 ≤ h) (h1 : h < 16) : (0 ≤ (if p then zor f (zshl 1 h) else zor f 0) ∧ (if p then zor f (zshl 1 h) else zor f 0) < 65536) ∧ ∀ i : Nat, i < 32 → zbi (if p then zor f (zshl 1 h) else zor f 0) i = (zbi f i || (decide p && decide (h = (i : Int)))) := by
  by_cases hp : p
  · rw [if_pos hp]
    have b := zshl_bI h0 h1
    have b2 := zor_b (k := 16) (by decide) (x := f) (y := zshl 1 h) (by omega) (by omega)
    refine ⟨⟨by omega, by omega⟩, fun i hi => ?_⟩
    rw [zbi_or, zbi_shI h0 (by omega), decide_eq_true hp, Bool.true_and]
  · rw [if_neg hp, zor_0 (by unfold z32; omega)]
    refine ⟨hf, fun i hi => ?_⟩
    rw [decide_eq_false hp, Bool.false_and, Bool.or_false]
/-- a set of houses as bits -/
def zst (x : Int) (p : Int → Prop) (n : Int) : Prop := (0 ≤ x ∧ x < 65536) ∧ ∀ i : Nat, i < 32 → (zbi x i = true ↔ (i : Int) < n ∧ p i)
theorem zst_0 (p : Int → Prop) : zst 0 p 0 := ⟨⟨by decide, by decide⟩, fun i hi => by
  have e : zbi 0 i = false := by
    have := zbi_nat (m := 0) i (by decide)
    rw [show ((0 : Nat) : Int) = 0 from rfl] at this
    rw [this]; exact Nat.zero_testBit i
  rw [e]
  constructor
  · intro h; cases h
  · intro h; omega⟩
theorem zst_s {f h : Int} {p : Int → Prop} {d : Prop} [Decidable d] (hf : zst f p h) (h0 : 0 ≤ h) (h1 : h < 16) (hd : d ↔ p h) : zst (if d then zor f (zshl 1 h) else zor f 0) p (h + 1) := by
  have e := zbi_add (p := d) hf.1 h0 h1
  refine ⟨e.1, fun i hi => ?_⟩
  rw [e.2 i hi, Bool.or_eq_true, hf.2 i hi, Bool.and_eq_true, decide_eq_true_eq, decide_eq_true_eq]
  constructor
  · rintro (⟨a, b⟩ | ⟨a, b⟩)
    · exact ⟨by omega, b⟩
    · exact ⟨by omega, b ▸ hd.mp a⟩
  · rintro ⟨a, b⟩
    by_cases q : (i : Int) < h
    · exact Or.inl ⟨q, b⟩
    · have e2 : h = (i : Int) := by omega
      exact Or.inr ⟨hd.mpr (e2 ▸ b), e2⟩
theorem zst_one {x y : Int} {p : Int → Prop} {n : Int} (hx : zst x p n) (hy : zst y p n) : x = y := zbi_ext (by have := hx.1; unfold z32; omega) (by have := hy.1; unfold z32; omega) fun i hi => by
  have h1 := hx.2 i hi
  have h2 := hy.2 i hi
  rw [Bool.eq_iff_iff, h1, h2]
theorem zst_c {x : Int} {p q : Int → Prop} {n : Int} (hx : zst x p n) (h : ∀ i : Int, 0 ≤ i → i < n → (p i ↔ q i)) : zst x q n := ⟨hx.1, fun i hi => by
  rw [hx.2 i hi]
  constructor
  · rintro ⟨a, b⟩; exact ⟨a, (h i (by omega) a).mp b⟩
  · rintro ⟨a, b⟩; exact ⟨a, (h i (by omega) a).mpr b⟩⟩
/-- how many bits there are -/
def zpn : Nat → Nat → Int
  | 0, _ => 0
  | n + 1, m => (m % 2 : Nat) + zpn n (m / 2)
theorem zsum_hd (f : Int → Int) : ∀ n : Nat, zsum f ((n + 1 : Nat) : Int) = f 0 + zsum (fun i => f (i + 1)) n := by
  intro n
  induction n with
  | zero => show zsum f 1 = _; show (0 : Int) + f 0 = f 0 + 0; omega
  | succ n ih =>
    have e1 : zsum f ((n + 1 + 1 : Nat) : Int) = zsum f ((n + 1 : Nat) : Int) + f ((n + 1 : Nat) : Int) := rfl
    have e2 : zsum (fun i => f (i + 1)) ((n + 1 : Nat) : Int) = zsum (fun i => f (i + 1)) n + f ((n : Int) + 1) := rfl
    rw [e1, ih, e2, show ((n + 1 : Nat) : Int) = (n : Int) + 1 from rfl]
    omega
theorem zpn_sum : ∀ (n m : Nat), zpn n m = zsum (fun i => if m.testBit i.toNat = true then 1 else 0) n := by
  intro n
  induction n with
  | zero => intro m; rfl
  | succ n ih =>
    intro m
    rw [zsum_hd, zpn, ih]
    congr 1
    · show ((m % 2 : Nat) : Int) = if m.testBit 0 = true then 1 else 0
      rw [Nat.testBit_zero]
      by_cases h : m % 2 = 1
      · rw [if_pos (decide_eq_true h), h]; rfl
      · rw [if_neg (by simp [h])]; omega
    · refine zsum_c fun i h0 h1 => ?_
      rw [show (i + 1).toNat = i.toNat + 1 by omega, Nat.testBit_add_one]
theorem zpn_big : ∀ (n m k : Nat), m < 2 ^ n → zpn (n + k) m = zpn n m := by
  intro n
  induction n with
  | zero =>
    intro m k h
    have hm : m = 0 := by rw [Nat.pow_zero] at h; omega
    subst hm
    rw [Nat.zero_add]
    induction k with
    | zero => rfl
    | succ k ih =>
      show ((0 % 2 : Nat) : Int) + zpn k (0 / 2) = 0
      have e : zpn 0 0 = 0 := rfl
      rw [show 0 / 2 = 0 from rfl, ih, e]
      rfl
  | succ n ih =>
    intro m k h
    rw [show n + 1 + k = (n + k) + 1 by omega]
    show ((m % 2 : Nat) : Int) + zpn (n + k) (m / 2) = (m % 2 : Nat) + zpn n (m / 2)
    rw [ih (m / 2) k (by rw [Nat.pow_succ] at h; omega)]
theorem zand_low : ∀ (n m : Nat), 0 < m → m < 2 ^ n → zpn n (m &&& (m - 1)) + 1 = zpn n m ∧ m &&& (m - 1) < m := by
  intro n
  induction n with
  | zero => intro m h0 h1; rw [Nat.pow_zero] at h1; omega
  | succ n ih =>
    intro m h0 h1
    rw [Nat.pow_succ] at h1
    have ed : (m &&& (m - 1)) / 2 = m / 2 &&& (m - 1) / 2 := by have := Nat.and_div_two_pow (a := m) (b := m - 1) (n := 1); simpa using this
    have em : (m &&& (m - 1)) % 2 = (m % 2) &&& ((m - 1) % 2) := by have := Nat.and_mod_two_pow (a := m) (b := m - 1) (n := 1); simpa using this
    have key : zpn (n + 1) (m &&& (m - 1)) = (((m &&& (m - 1)) % 2 : Nat) : Int) + zpn n ((m &&& (m - 1)) / 2) := rfl
    have key2 : zpn (n + 1) m = ((m % 2 : Nat) : Int) + zpn n (m / 2) := rfl
    rw [key, key2, ed, em]
    by_cases ho : m % 2 = 1
    · have e1 : (m - 1) % 2 = 0 := by omega
      have e2 : (m - 1) / 2 = m / 2 := by omega
      rw [ho, e1, e2, Nat.and_self]
      refine ⟨by show ((1 &&& 0 : Nat) : Int) + _ + 1 = ((1 : Nat) : Int) + _; rw [show (1 &&& 0 : Nat) = 0 from rfl]; omega, ?_⟩
      rw [e1, ho] at em
      rw [e2, Nat.and_self] at ed
      have : (1 &&& 0 : Nat) = 0 := rfl
      omega
    · have e0 : m % 2 = 0 := by omega
      have e1 : (m - 1) % 2 = 1 := by omega
      have e2 : (m - 1) / 2 = m / 2 - 1 := by omega
      have := ih (m / 2) (by omega) (by omega)
      rw [e0, e1, e2]
      rw [e0, e1] at em
      rw [e2] at ed
      have e3 : (0 &&& 1 : Nat) = 0 := rfl
      rw [e3] at em
      rw [e3]
      exact ⟨by omega, by omega⟩
theorem zst_cnt {x : Int} {p : Int → Prop} [DecidablePred p] (hx : zst x p 16) : zpn 62 x.toNat = zsum (fun i => if p i then 1 else 0) 16 := by
  rw [show 62 = 16 + 46 from rfl, zpn_big 16 _ 46 (by have := hx.1; omega), zpn_sum]
  refine zsum_c fun i h0 h1 => ?_
  have e := hx.2 i.toNat (by omega)
  rw [zbi_tn _ (by have := hx.1; omega), show ((i.toNat : Nat) : Int) = i by omega] at e
  by_cases hp : p i
  · rw [if_pos hp, if_pos (e.mpr ⟨h1, hp⟩)]
  · rw [if_neg hp, if_neg (fun q => hp (e.mp q).2)]
/-! longs -/
theorem zl_nn (n : Nat) : Int64.ofInt (n : Int) = Int64.ofNat n := Int64.toBitVec_inj.mp (BitVec.ofInt_natCast ..)
theorem zbl_nat {m : Nat} (i : Nat) (hm : m < 18446744073709551616) : zbl (m : Int) i = m.testBit i := by
  unfold zbl
  have e : (Int64.ofInt (m : Int)).toBitVec = BitVec.ofNat 64 m := by
    show BitVec.ofInt 64 (m : Int) = _
    exact BitVec.ofInt_natCast ..
  rw [e, BitVec.getLsbD_ofNat]
  by_cases hi : i < 64
  · simp [hi]
  · rw [Nat.testBit_lt_two_pow (Nat.lt_of_lt_of_le hm (Nat.pow_le_pow_right (n := 2) (by decide) (by omega : 64 ≤ i)))]
    simp
theorem zbl_tn {x : Int} (i : Nat) (h : 0 ≤ x ∧ x < 18446744073709551616) : zbl x i = x.toNat.testBit i := by
  have e := zbl_nat (m := x.toNat) i (by omega)
  rwa [show ((x.toNat : Nat) : Int) = x by omega] at e
theorem zland_n {a b : Nat} (ha : a < 9223372036854775808) : zland (a : Int) (b : Int) = ((a &&& b : Nat) : Int) := by
  have h1 : a &&& b ≤ a := Nat.and_le_left
  have e : Int64.ofInt (a : Int) &&& Int64.ofInt (b : Int) = Int64.ofInt ((a &&& b : Nat) : Int) := by
    rw [zl_nn, zl_nn, zl_nn]
    exact Int64.toBitVec_inj.mp (BitVec.ofNat_and ..).symm
  unfold zland
  rw [e, zl_to (by unfold z64; omega)]
theorem zlor_n {a b : Nat} (ha : a < 9223372036854775808) (hb : b < 9223372036854775808) : zlor (a : Int) (b : Int) = ((a ||| b : Nat) : Int) := by
  have h1 : a ||| b < 2 ^ 63 := Nat.or_lt_two_pow ha hb
  have e : Int64.ofInt (a : Int) ||| Int64.ofInt (b : Int) = Int64.ofInt ((a ||| b : Nat) : Int) := by
    rw [zl_nn, zl_nn, zl_nn]
    exact Int64.toBitVec_inj.mp (BitVec.ofNat_or ..).symm
  unfold zlor
  rw [e, zl_to (by unfold z64; omega)]
theorem zlshl_pw : ∀ h : Fin 63, zlshl 1 (h.val : Int) = 2 ^ h.val := by decide +kernel
theorem zls_k : ∀ k : Fin 63, (((Int32.ofInt (k.val : Int)).toInt64 &&& 63).toBitVec.smod 64).toNat = k.val := by decide +kernel
theorem zlshr_bit {x : Int} {k : Nat} (hk : k < 63) : zland (zlshr x (k : Int)) 1 = if zbl x k = true then 1 else 0 := by
  have e1 : Int64.ofInt (zlshr x (k : Int)) = Int64.ofInt x >>> ((Int32.ofInt (k : Int)).toInt64 &&& 63) := by unfold zlshr; rw [Int64.ofInt_toInt]
  have e2 : (Int64.ofInt x >>> ((Int32.ofInt (k : Int)).toInt64 &&& 63)).toBitVec.getLsbD 0 = zbl x k := by
    rw [Int64.toBitVec_shiftRight]
    show ((Int64.ofInt x).toBitVec.sshiftRight (((Int32.ofInt (k : Int)).toInt64 &&& 63).toBitVec.smod 64).toNat).getLsbD 0 = _
    rw [zls_k ⟨k, hk⟩, BitVec.getLsbD_sshiftRight]
    unfold zbl
    simp
    omega
  unfold zland
  rw [e1]
  generalize Int64.ofInt x >>> ((Int32.ofInt (k : Int)).toInt64 &&& 63) = y at e2 ⊢
  have e3 : y &&& Int64.ofInt 1 = if zbl x k = true then 1 else 0 := by
    apply Int64.toBitVec_inj.mp
    apply BitVec.eq_of_getLsbD_eq
    intro i hi
    rw [Int64.toBitVec_and, BitVec.getLsbD_and]
    have h1 : (Int64.ofInt 1).toBitVec.getLsbD i = decide (i = 0) := by
      show (1#64).getLsbD i = _
      rw [BitVec.getLsbD_one]
      simp
    rw [h1]
    by_cases h0 : i = 0
    · subst h0
      rw [e2]
      cases zbl x k <;> rfl
    · rw [decide_eq_false h0, Bool.and_false]
      split
      · show _ = (1#64).getLsbD i; rw [BitVec.getLsbD_one]; simp [h0]
      · show _ = (0#64).getLsbD i; simp
  rw [e3]
  split <;> rfl
