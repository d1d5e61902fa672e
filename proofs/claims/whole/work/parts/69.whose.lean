/-! whose -/
theorem zbv {X T B : BitVec 32} : X ||| B = T ||| B ↔ X &&& (B ^^^ BitVec.allOnes 32) = T &&& (B ^^^ BitVec.allOnes 32) := by
  constructor
  · intro h
    apply BitVec.eq_of_getLsbD_eq
    intro i hi
    have t := congrArg (fun v => v.getLsbD i) h
    simp only [BitVec.getLsbD_or, BitVec.getLsbD_and, BitVec.getLsbD_xor, BitVec.getLsbD_allOnes] at t ⊢
    revert t
    rw [decide_eq_true hi]
    cases X.getLsbD i <;> cases T.getLsbD i <;> cases B.getLsbD i <;> simp
  · intro h
    apply BitVec.eq_of_getLsbD_eq
    intro i hi
    have t := congrArg (fun v => v.getLsbD i) h
    simp only [BitVec.getLsbD_or, BitVec.getLsbD_and, BitVec.getLsbD_xor, BitVec.getLsbD_allOnes] at t ⊢
    revert t
    rw [decide_eq_true hi]
    cases X.getLsbD i <;> cases T.getLsbD i <;> cases B.getLsbD i <;> simp
theorem zob (x t b : Int) : zor x b = zor t b ↔ zand x (zxor b (-1)) = zand t (zxor b (-1)) := by
  unfold zor zand zxor
  rw [Int32.ofInt_toInt, Int32.toInt_inj, Int32.toInt_inj, ← Int32.toBitVec_inj, ← Int32.toBitVec_inj]
  rw [Int32.toBitVec_or, Int32.toBitVec_or, Int32.toBitVec_and, Int32.toBitVec_and, Int32.toBitVec_xor]
  rw [show (Int32.ofInt (-1)).toBitVec = BitVec.allOnes 32 by decide]
  exact zbv
theorem zhear_eq {M N : zMm} (h : zYc M) (e : N 57 = M 57) {a : Int} (ha : zhh a) (l : Int) : ∀ n : Nat, n ≤ 16 → (0 ≤ zhear M a l n ∧ zhear M a l n < 65536) ∧ zheR N a l n = zhear M a l n := by
  intro n
  induction n with
  | zero =>
    intro _
    have z : zhear M a l ((0 : Nat) : Int) = 0 := by unfold zhear; exact zfo_0 _ _
    have z2 : zheR N a l ((0 : Nat) : Int) = 0 := by unfold zheR; exact zfo_0 _ _
    rw [z, z2]; exact ⟨⟨by decide, by decide⟩, rfl⟩
  | succ n ih =>
    intro hn
    have i := ih (by omega)
    have t := h.ds e ha n (by omega) (by omega)
    have s1 := zshl_bI (h := (n : Int)) (by omega) (by omega)
    have b := zor_b (k := 16) (by decide) (x := zhear M a l n) (y := zshl 1 (n : Int)) (by omega) (by omega)
    have e1 : zhear M a l ((n : Int) + 1) = if zlis M a n < l then zor (zhear M a l n) (zshl 1 n) else zhear M a l n := zfo_s _ _ (by omega)
    have e2 : zheR N a l ((n : Int) + 1) = if 0 < l - zds N 1 a n then zor (zheR N a l n) (zshl 1 n) else zor (zheR N a l n) 0 := zfo_s _ _ (by omega)
    rw [show ((n + 1 : Nat) : Int) = (n : Int) + 1 by omega, e1, e2, i.2, ← t]
    by_cases q : zlis M a n < l
    · rw [if_pos q, if_pos (by omega)]; exact ⟨⟨by omega, by omega⟩, rfl⟩
    · rw [if_neg q, if_neg (by omega)]; exact ⟨i.1, zor_0 (by unfold z32; omega)⟩
theorem zsrc_eq {M N : zMm} (h : zYc M) (e : N 57 = M 57) (e64 : N 64 = M 64) (l t : Int) : ∀ n : Nat, n ≤ 16 → (0 ≤ zsrc M l t n ∧ zsrc M l t n < 65536) ∧ zwhR N l t n = zsrc M l t n := by
  intro n
  induction n with
  | zero =>
    intro _
    have z : zsrc M l t ((0 : Nat) : Int) = 0 := by unfold zsrc; exact zfo_0 _ _
    have z2 : zwhR N l t ((0 : Nat) : Int) = 0 := by unfold zwhR; exact zfo_0 _ _
    rw [z, z2]; exact ⟨⟨by decide, by decide⟩, rfl⟩
  | succ n ih =>
    intro hn
    have i := ih (by omega)
    have w := (zhear_eq h e (a := (n : Int)) ⟨by omega, by omega⟩ l 16 (Nat.le_refl _)).2
    have w' : zheR N n l 16 = zhear M n l 16 := w
    have s1 := zshl_bI (h := (n : Int)) (by omega) (by omega)
    have b := zor_b (k := 16) (by decide) (x := zsrc M l t n) (y := zshl 1 (n : Int)) (by omega) (by omega)
    have e1 : zsrc M l t ((n : Int) + 1) = if M 7 n = 1 ∧ zor (zhear M n l 16) (zshl 1 n) = zor t (zshl 1 n) then zor (zsrc M l t n) (zshl 1 n) else zsrc M l t n := zfo_s _ _ (by omega)
    have e2 : zwhR N l t ((n : Int) + 1) = if N 64 n ≠ 0 ∧ zand (zheR N n l 16) (zxor (zshl 1 n) (-1)) = zand t (zxor (zshl 1 n) (-1)) then zor (zwhR N l t n) (zshl 1 n) else zor (zwhR N l t n) 0 := zfo_s _ _ (by omega)
    have l7 := (h.2.1 n (by omega) (by omega)).1
    have b7 := (h.1.1 n (by omega) (by omega)).1
    rw [show ((n + 1 : Nat) : Int) = (n : Int) + 1 by omega, e1, e2, i.2, w', e64, l7]
    by_cases q : M 7 n = 1 ∧ zor (zhear M n l 16) (zshl 1 n) = zor t (zshl 1 n)
    · rw [if_pos q, if_pos ⟨by omega, (zob _ _ _).mp q.2⟩]; exact ⟨⟨by omega, by omega⟩, rfl⟩
    · rw [if_neg q, if_neg (fun z => q ⟨by omega, (zob _ _ _).mpr z.2⟩)]; exact ⟨i.1, zor_0 (by unfold z32; omega)⟩
set_option maxHeartbeats 4000000 in
theorem zK_whose {M : zMm} (hI : zI M) (l : Int) (t : Int) : zW mX9_whose 5 (fun rv S' M1 => S' = zS0 ∧ ∃ r : Int, rv = some (.inl r) ∧ zW mX10_whose 4 (fun rv2 S2 M2 => S2 = zS0 ∧ rv2 = some (.inl r) ∧ zI M2) (0, 0) zS0 0 (zargs 0 [.inr (.inr 56), .inl l, .inl t]) [] M1) (0, 0) zS0 0 (zargs 0 [.inr (.inr 0), .inl l, .inl t]) [] M := by
  have ix := hI.1
  have ic := hI.2.1
  have ih := hI.2.2.1
  have it := hI.2.2.2.1
  have il := hI.2.2.2.2.1
  have iw := hI.2.2.2.2.2.1
  have ii := hI.2.2.2.2.2.2.1
  have ib := hI.2.2.2.2.2.2.2.1
  have is := hI.2.2.2.2.2.2.2.2.1
  have ik := hI.2.2.2.2.2.2.2.2.2
  refine zW_mono (cX9_whose ix.1 ix.2.2.1 ic.1 l t) fun rv S M1 h => ?_
  obtain ⟨rfl, rfl, e1⟩ := h
  have kc : zKc M M1 := zKc.of fun c hc => e1 c (by omega)
  have e57 : M1 57 = M 57 := kc.1 57 (by decide)
  have e64 : M1 64 = M 64 := kc.1 64 (by decide)
  refine ⟨rfl, _, rfl, zW_mono (cX10_whose (kc.P ix.1) (kc.gr ix.2.2.2) (kc.rr ic.r) l t) fun rv S M2 h => ?_⟩
  obtain ⟨rfl, e2, rfl⟩ := h
  refine ⟨rfl, zri ?_, hI.go (L := [33, 74]) (J := []) (fun c hc => by simp only [List.mem_cons, List.not_mem_nil, not_or, or_false, not_false_eq_true, and_true, true_and] at hc; rw [e2 c (by omega), e1 c (by omega)]) (fun j _ => by rw [e2 56 (by decide), e1 56 (by decide)])⟩
  have w := (zsrc_eq ic e57 e64 l t 16 (Nat.le_refl _)).2
  have w' : zwhR M1 l t 16 = zsrc M l t 16 := w
  rw [w']
