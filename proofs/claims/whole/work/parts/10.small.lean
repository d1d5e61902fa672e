/-! the comb in numbers; contracts of the small tests of SixWalls and of Comb -/
theorem zri {x y : Int} (h : x = y) : some (Sum.inl x : zV) = some (.inl y) := by rw [h]
def zb (p : Prop) [Decidable p] : Int := if p then 1 else 0
theorem zb1 {p : Prop} [Decidable p] (h : p) : zb p = 1 := if_pos h
theorem zb0 {p : Prop} [Decidable p] (h : ¬ p) : zb p = 0 := if_neg h
theorem zb_eq0 {p : Prop} [Decidable p] : zb p = 0 ↔ ¬ p := by unfold zb; split <;> simp_all
theorem zb_ne0 {p : Prop} [Decidable p] : zb p ≠ 0 ↔ p := by unfold zb; split <;> simp_all
def zlowL : List Int := [0, 0, 1, 1, 1, 2, 2, 2, 3, 3, 4, 4, 4, 5, 5, 5, 6, 6, 6, 7, 8, 8, 9, 9, 9, 10, 10, 10, 11, 11, 12, 13, 14]
def zhighL : List Int := [1, 4, 2, 4, 5, 3, 5, 6, 6, 7, 5, 8, 9, 6, 9, 10, 7, 10, 11, 11, 9, 12, 10, 12, 13, 11, 13, 14, 14, 15, 13, 14, 15]
def zsidL : List Int := [2, 4, 4, 3, 5, 6, 6, 3, 3, 6, 6, 5, 3, 4, 4, 2]
def zwatL : List Int := [0, 1, 0, 0, 0, 0, 0, 2, 3, 4, 0, 0, 2, 5, 6, 7, 0, 0, 5, 8, 9, 0, 0, 0, 1, 3, 10, 11, 12, 0, 4, 6, 10, 13, 14, 15, 7, 8, 13, 16, 17, 18, 9, 16, 19, 0, 0, 0, 11, 20, 21, 0, 0, 0, 12, 14, 20, 22, 23, 24, 15, 17, 22, 25, 26, 27, 18, 19, 25, 28, 29, 0, 21, 23, 30, 0, 0, 0, 24, 26, 30, 31, 0, 0, 27, 28, 31, 32, 0, 0, 29, 32, 0, 0, 0, 0]
def znatL : List Int := [1, 4, 0, 0, 0, 0, 0, 2, 4, 5, 0, 0, 1, 3, 5, 6, 0, 0, 2, 6, 7, 0, 0, 0, 0, 1, 5, 8, 9, 0, 1, 2, 4, 6, 9, 10, 2, 3, 5, 7, 10, 11, 3, 6, 11, 0, 0, 0, 4, 9, 12, 0, 0, 0, 4, 5, 8, 10, 12, 13, 5, 6, 9, 11, 13, 14, 6, 7, 10, 14, 15, 0, 8, 9, 13, 0, 0, 0, 9, 10, 12, 14, 0, 0, 10, 11, 13, 15, 0, 0, 11, 14, 0, 0, 0, 0]
def zlow (w : Int) : Int := zlowL.getD w.toNat 0
def zhigh (w : Int) : Int := zhighL.getD w.toNat 0
def zsid (h : Int) : Int := zsidL.getD h.toNat 0
def zwat (k : Int) : Int := zwatL.getD k.toNat 0
def znat (k : Int) : Int := znatL.getD k.toNat 0
theorem zgetD {l : List Int} {P : Int → Prop} (h : ∀ x ∈ l, P x) (h0 : P 0) (n : Nat) : P (l.getD n 0) := by
  rw [List.getD_eq_getElem?_getD]
  cases e : l[n]? with
  | none => exact h0
  | some x => exact h x (List.mem_of_getElem? e)
theorem zlow_b (w : Int) : 0 ≤ zlow w ∧ zlow w < 16 := zgetD (P := fun x => 0 ≤ x ∧ x < 16) (by decide) (by decide) _
theorem zhigh_b (w : Int) : 0 ≤ zhigh w ∧ zhigh w < 16 := zgetD (P := fun x => 0 ≤ x ∧ x < 16) (by decide) (by decide) _
theorem zsid_b (h : Int) : 0 ≤ zsid h ∧ zsid h ≤ 6 := zgetD (P := fun x => 0 ≤ x ∧ x ≤ 6) (by decide) (by decide) _
theorem zwat_b (k : Int) : 0 ≤ zwat k ∧ zwat k < 33 := zgetD (P := fun x => 0 ≤ x ∧ x < 33) (by decide) (by decide) _
theorem znat_b (k : Int) : 0 ≤ znat k ∧ znat k < 16 := zgetD (P := fun x => 0 ≤ x ∧ x < 16) (by decide) (by decide) _
/-- the comb of the class, as its constructor laid it -/
def zG (M : zMm) : Prop := (∀ w : Int, 0 ≤ w → w < 33 → M 2 w = zlow w ∧ M 3 w = zhigh w) ∧ (∀ h : Int, 0 ≤ h → h < 16 → M 4 h = zsid h) ∧ ∀ k : Int, 0 ≤ k → k < 96 → M 5 k = zwat k ∧ M 6 k = znat k
theorem zG.low {M : zMm} (h : zG M) {w : Int} (h0 : 0 ≤ w) (h1 : w < 33) : M 2 w = zlow w := (h.1 w h0 h1).1
theorem zG.high {M : zMm} (h : zG M) {w : Int} (h0 : 0 ≤ w) (h1 : w < 33) : M 3 w = zhigh w := (h.1 w h0 h1).2
theorem zG.sid {M : zMm} (h : zG M) {w : Int} (h0 : 0 ≤ w) (h1 : w < 16) : M 4 w = zsid w := h.2.1 w h0 h1
theorem zG.wat {M : zMm} (h : zG M) {w : Int} (h0 : 0 ≤ w) (h1 : w < 96) : M 5 w = zwat w := (h.2.2 w h0 h1).1
theorem zG.nat {M : zMm} (h : zG M) {w : Int} (h0 : 0 ≤ w) (h1 : w < 96) : M 6 w = znat w := (h.2.2 w h0 h1).2
/-- what is told of houses and walls, in its bounds -/
def zRg (M : zMm) : Prop := (∀ h : Int, 0 ≤ h → h < 16 → (0 ≤ M 7 h ∧ M 7 h ≤ 1) ∧ (0 ≤ M 8 h ∧ M 8 h ≤ 9) ∧ (0 ≤ M 9 h ∧ M 9 h ≤ 99) ∧ (0 ≤ M 10 h ∧ M 10 h ≤ 9)) ∧ (∀ w : Int, 0 ≤ w → w < 33 → (0 ≤ M 11 w ∧ M 11 w ≤ 9) ∧ (0 ≤ M 12 w ∧ M 12 w ≤ 1) ∧ (0 ≤ M 13 w ∧ M 13 w ≤ 5)) ∧ (0 ≤ M 1 12 ∧ M 1 12 ≤ 9) ∧ (6 ≤ M 1 13 ∧ M 1 13 ≤ 54)
/-- a number built up over 0 .. i -/
def zfold {α : Type} (g : α → Int → α) (a : α) : Nat → α
  | 0 => a
  | n + 1 => g (zfold g a n) n
def zfo {α : Type} (g : α → Int → α) (a : α) (i : Int) : α := zfold g a i.toNat
theorem zfo_0 {α : Type} (g : α → Int → α) (a : α) : zfo g a 0 = a := rfl
theorem zfo_s {α : Type} (g : α → Int → α) (a : α) {i : Int} (h : 0 ≤ i) : zfo g a (i + 1) = g (zfo g a i) i := by
  unfold zfo
  rw [show (i + 1).toNat = i.toNat + 1 by omega]
  show g (zfold g a i.toNat) (i.toNat : Nat) = _
  rw [Int.toNat_of_nonneg h]
theorem zfo_c {α : Type} {g g' : α → Int → α} {a : α} {n : Int} (h : ∀ x i, 0 ≤ i → i < n → g x i = g' x i) : zfo g a n = zfo g' a n := by
  have : ∀ k : Nat, (k : Int) ≤ n → zfold g a k = zfold g' a k := by
    intro k
    induction k with
    | zero => intro _; rfl
    | succ k ih =>
      intro hk
      show g (zfold g a k) k = g' (zfold g' a k) k
      rw [ih (by omega), h _ _ (by omega) (by omega)]
  by_cases hn : 0 ≤ n
  · exact this n.toNat (by omega)
  · unfold zfo
    rw [show n.toNat = 0 by omega]
    rfl
def zsum (f : Int → Int) (n : Int) : Int := zfo (fun a i => a + f i) 0 n
theorem zsum_s (f : Int → Int) {i : Int} (h : 0 ≤ i) : zsum f (i + 1) = zsum f i + f i := zfo_s _ _ h
set_option maxHeartbeats 4000000 in
theorem cX9_within {M : zMm} (v a b : Int) : zW mX9_within 1 (fun rv S' M' => S' = zS0 ∧ M = M' ∧ rv = some (.inl (zb (a ≤ v ∧ v ≤ b)))) (0, 0) zS0 0 (zargs 0 [.inl v, .inl a, .inl b]) [] M := by
  change zW _ _ _ _ _ 0 [(0, .inl v), (1, .inl a), (2, .inl b)] [] M
  refine z_iload_n 0 (zdec DX9_within 0 rfl) rfl rfl ?_
  refine z_iload_n 1 (zdec DX9_within 1 rfl) rfl rfl ?_
  refine z_icmp_lt 14 (zdec DX9_within 2 rfl) rfl (fun h2 => ?_) (fun h2 => ?_)
  ·
    refine z_iconst 0 (zdec DX9_within 8 rfl) (by decide) ?_
    exact z_zret (zdec DX9_within 9 rfl) rfl (by omega) (⟨rfl, rfl, zri (by unfold zb; split <;> omega)⟩)
  ·
    refine z_iload_n 0 (zdec DX9_within 3 rfl) rfl rfl ?_
    refine z_iload_n 2 (zdec DX9_within 4 rfl) rfl rfl ?_
    refine z_icmp_gt 14 (zdec DX9_within 5 rfl) rfl (fun h7 => ?_) (fun h7 => ?_)
    ·
      refine z_iconst 0 (zdec DX9_within 8 rfl) (by decide) ?_
      exact z_zret (zdec DX9_within 9 rfl) rfl (by omega) (⟨rfl, rfl, zri (by unfold zb; split <;> omega)⟩)
    ·
      refine z_iconst 1 (zdec DX9_within 6 rfl) (by decide) ?_
      refine z_goto 15 (zdec DX9_within 7 rfl) rfl ?_
      exact z_zret (zdec DX9_within 9 rfl) rfl (by omega) (⟨rfl, rfl, zri (by unfold zb; split <;> omega)⟩)
set_option maxHeartbeats 4000000 in
theorem cX9_isHouse {M : zMm} (v : Int) : zW mX9_isHouse 2 (fun rv S' M' => S' = zS0 ∧ M = M' ∧ rv = some (.inl (zb (0 ≤ v ∧ v < 16)))) (0, 0) zS0 0 (zargs 0 [.inl v]) [] M := by
  change zW _ _ _ _ _ 0 [(0, .inl v)] [] M
  refine z_iload_n 0 (zdec DX9_isHouse 0 rfl) rfl rfl ?_
  refine z_iconst 0 (zdec DX9_isHouse 1 rfl) (by decide) ?_
  refine z_bipush 15 (zdec DX9_isHouse 2 rfl) (by decide) ?_
  refine z_invs mX9_within [.inl v, .inl 0, .inl 15] (zdec DX9_isHouse 3 rfl) (Or.inl ml_SixWalls_76) okX9_within rfl rfl (Nat.le_of_ble_eq_true rfl) (Nat.le_of_ble_eq_true rfl) (b' := (0, 0)) ⟨Nat.le_refl 0, Nat.le_refl 0⟩ (Nat.le_of_ble_eq_true rfl) (cX9_within v 0 15) (fun rv9 S9 M4 h9 => ?_)
  obtain ⟨rfl, rfl, rfl⟩ := h9
  change zW _ _ _ _ _ 7 [(0, .inl v)] [.inl (zb (0 ≤ v ∧ v ≤ 15))] M
  exact z_zret (zdec DX9_isHouse 4 rfl) rfl (by unfold zb; split <;> omega) (⟨rfl, rfl, zri (by unfold zb; split <;> split <;> omega)⟩)
set_option maxHeartbeats 4000000 in
theorem cX9_isWall {M : zMm} (v : Int) : zW mX9_isWall 2 (fun rv S' M' => S' = zS0 ∧ M = M' ∧ rv = some (.inl (zb (0 ≤ v ∧ v < 33)))) (0, 0) zS0 0 (zargs 0 [.inl v]) [] M := by
  change zW _ _ _ _ _ 0 [(0, .inl v)] [] M
  refine z_iload_n 0 (zdec DX9_isWall 0 rfl) rfl rfl ?_
  refine z_iconst 0 (zdec DX9_isWall 1 rfl) (by decide) ?_
  refine z_bipush 32 (zdec DX9_isWall 2 rfl) (by decide) ?_
  refine z_invs mX9_within [.inl v, .inl 0, .inl 32] (zdec DX9_isWall 3 rfl) (Or.inl ml_SixWalls_76) okX9_within rfl rfl (Nat.le_of_ble_eq_true rfl) (Nat.le_of_ble_eq_true rfl) (b' := (0, 0)) ⟨Nat.le_refl 0, Nat.le_refl 0⟩ (Nat.le_of_ble_eq_true rfl) (cX9_within v 0 32) (fun rv9 S9 M4 h9 => ?_)
  obtain ⟨rfl, rfl, rfl⟩ := h9
  change zW _ _ _ _ _ 7 [(0, .inl v)] [.inl (zb (0 ≤ v ∧ v ≤ 32))] M
  exact z_zret (zdec DX9_isWall 4 rfl) rfl (by unfold zb; split <;> omega) (⟨rfl, rfl, zri (by unfold zb; split <;> split <;> omega)⟩)
set_option maxHeartbeats 4000000 in
theorem cX9_isThought {M : zMm} (v : Int) : zW mX9_isThought 2 (fun rv S' M' => S' = zS0 ∧ M = M' ∧ rv = some (.inl (zb (0 ≤ v ∧ v < 31)))) (0, 0) zS0 0 (zargs 0 [.inl v]) [] M := by
  change zW _ _ _ _ _ 0 [(0, .inl v)] [] M
  refine z_iload_n 0 (zdec DX9_isThought 0 rfl) rfl rfl ?_
  refine z_iconst 0 (zdec DX9_isThought 1 rfl) (by decide) ?_
  refine z_bipush 30 (zdec DX9_isThought 2 rfl) (by decide) ?_
  refine z_invs mX9_within [.inl v, .inl 0, .inl 30] (zdec DX9_isThought 3 rfl) (Or.inl ml_SixWalls_76) okX9_within rfl rfl (Nat.le_of_ble_eq_true rfl) (Nat.le_of_ble_eq_true rfl) (b' := (0, 0)) ⟨Nat.le_refl 0, Nat.le_refl 0⟩ (Nat.le_of_ble_eq_true rfl) (cX9_within v 0 30) (fun rv9 S9 M4 h9 => ?_)
  obtain ⟨rfl, rfl, rfl⟩ := h9
  change zW _ _ _ _ _ 7 [(0, .inl v)] [.inl (zb (0 ≤ v ∧ v ≤ 30))] M
  exact z_zret (zdec DX9_isThought 4 rfl) rfl (by unfold zb; split <;> omega) (⟨rfl, rfl, zri (by unfold zb; split <;> split <;> omega)⟩)
set_option maxHeartbeats 4000000 in
theorem cX9_isPair {M : zMm} (v : Int) : zW mX9_isPair 3 (fun rv S' M' => S' = zS0 ∧ M = M' ∧ rv = some (.inl (zb (0 ≤ v ∧ v / 100 < 16 ∧ v % 100 < 16)))) (0, 0) zS0 0 (zargs 0 [.inl v]) [] M := by
  change zW _ _ _ _ _ 0 [(0, .inl v)] [] M
  refine z_iload_n 0 (zdec DX9_isPair 0 rfl) rfl rfl ?_
  refine z_if_lt 28 (zdec DX9_isPair 1 rfl) rfl (fun h1 => ?_) (fun h1 => ?_)
  ·
    refine z_iconst 0 (zdec DX9_isPair 14 rfl) (by decide) ?_
    exact z_zret (zdec DX9_isPair 15 rfl) rfl (by omega) (⟨rfl, rfl, zri (by (try simp only [zb_ne0, zb_eq0] at *); unfold zb; split <;> omega)⟩)
  ·
    refine z_iload_n 0 (zdec DX9_isPair 2 rfl) rfl rfl ?_
    refine z_bipush 100 (zdec DX9_isPair 3 rfl) (by decide) ?_
    refine z_idivp (zdec DX9_isPair 4 rfl) (by omega) (by omega) ?_
    refine z_invs mX9_isHouse [.inl (v / 100)] (zdec DX9_isPair 5 rfl) (Or.inl ml_SixWalls_80) okX9_isHouse rfl rfl (Nat.le_of_ble_eq_true rfl) (Nat.le_of_ble_eq_true rfl) (b' := (0, 0)) ⟨Nat.le_refl 0, Nat.le_refl 0⟩ (Nat.le_of_ble_eq_true rfl) (cX9_isHouse (v / 100)) (fun rv9 S9 M8 h9 => ?_)
    obtain ⟨rfl, rfl, rfl⟩ := h9
    change zW _ _ _ _ _ 11 [(0, .inl v)] [.inl (zb (0 ≤ (v / 100) ∧ (v / 100) < 16))] M
    refine z_if_eq 28 (zdec DX9_isPair 6 rfl) rfl (fun h11 => ?_) (fun h11 => ?_)
    ·
      refine z_iconst 0 (zdec DX9_isPair 14 rfl) (by decide) ?_
      exact z_zret (zdec DX9_isPair 15 rfl) rfl (by omega) (⟨rfl, rfl, zri (by (try simp only [zb_ne0, zb_eq0] at *); unfold zb; split <;> omega)⟩)
    ·
      refine z_iload_n 0 (zdec DX9_isPair 7 rfl) rfl rfl ?_
      refine z_bipush 100 (zdec DX9_isPair 8 rfl) (by decide) ?_
      refine z_iremp (zdec DX9_isPair 9 rfl) (by omega) (by omega) ?_
      refine z_invs mX9_isHouse [.inl (v % 100)] (zdec DX9_isPair 10 rfl) (Or.inl ml_SixWalls_80) okX9_isHouse rfl rfl (Nat.le_of_ble_eq_true rfl) (Nat.le_of_ble_eq_true rfl) (b' := (0, 0)) ⟨Nat.le_refl 0, Nat.le_refl 0⟩ (Nat.le_of_ble_eq_true rfl) (cX9_isHouse (v % 100)) (fun rv9 S9 M18 h9 => ?_)
      obtain ⟨rfl, rfl, rfl⟩ := h9
      change zW _ _ _ _ _ 21 [(0, .inl v)] [.inl (zb (0 ≤ (v % 100) ∧ (v % 100) < 16))] M
      refine z_if_eq 28 (zdec DX9_isPair 11 rfl) rfl (fun h21 => ?_) (fun h21 => ?_)
      ·
        refine z_iconst 0 (zdec DX9_isPair 14 rfl) (by decide) ?_
        exact z_zret (zdec DX9_isPair 15 rfl) rfl (by omega) (⟨rfl, rfl, zri (by (try simp only [zb_ne0, zb_eq0] at *); unfold zb; split <;> omega)⟩)
      ·
        refine z_iconst 1 (zdec DX9_isPair 12 rfl) (by decide) ?_
        refine z_goto 29 (zdec DX9_isPair 13 rfl) rfl ?_
        exact z_zret (zdec DX9_isPair 15 rfl) rfl (by omega) (⟨rfl, rfl, zri (by (try simp only [zb_ne0, zb_eq0] at *); unfold zb; split <;> omega)⟩)
set_option maxHeartbeats 4000000 in
theorem lp_X9_sum_9_10 {Q : zPost} {M : zMm} (hb : ∀ i : Int, 0 ≤ i → i < 16 → 0 ≤ M 9 i ∧ M 9 i ≤ 99) (hx33 : ∀ (a : Int), (a = zsum (M 9) 16) → zW mX9_sum 1 Q (0, 0) zS0 33 [(1, .inl a)] [] M) : ∀ (n : Nat) (a : Int) (i : Int), (16 - i).toNat < n → (0 ≤ i ∧ i ≤ 16 ∧ 0 ≤ a ∧ a ≤ 99 * i ∧ a = zsum (M 9) i) → zW mX9_sum 1 Q (0, 0) zS0 10 [(0, .inr (.inr 9)), (1, .inl a), (2, .inr (.inr 9)), (3, .inl 16), (4, .inl i)] [] M := by
  intro n
  induction n with
  | zero => intro a i hn; exact absurd hn (Nat.not_lt_zero _)
  | succ n ih =>
    intro a i hn hI
    have hb1 := hb i
    refine z_iload 4 (zdec DX9_sum 9 rfl) rfl ?_
    refine z_iload_n 3 (zdec DX9_sum 10 rfl) rfl rfl ?_
    refine z_icmp_ge 33 (zdec DX9_sum 11 rfl) rfl (fun h13 => ?_) (fun h13 => ?_)
    ·
      refine z_weak (L' := [(1, .inl a)]) (by simp) ?_
      exact hx33 a (by rw [hI.2.2.2.2, show i = 16 by omega])
    ·
      refine z_aload_n 2 (zdec DX9_sum 12 rfl) rfl rfl (by decide) ?_
      refine z_iload 4 (zdec DX9_sum 13 rfl) rfl ?_
      refine z_iald 9 (zdec DX9_sum 14 rfl) rfl shp9 ⟨by omega, by omega⟩ ?_
      refine z_istore (L' := [(0, .inr (.inr 9)), (1, .inl a), (2, .inr (.inr 9)), (3, .inl 16), (4, .inl i), (5, .inl (M 9 i))]) (zdec DX9_sum 15 rfl) rfl (by decide) ?_
      refine z_iload_n 1 (zdec DX9_sum 16 rfl) rfl rfl ?_
      refine z_iload 5 (zdec DX9_sum 17 rfl) rfl ?_
      refine z_iadd (zdec DX9_sum 18 rfl) (by unfold z32; omega) ?_
      refine z_istore_n (L' := [(0, .inr (.inr 9)), (1, .inl (a + (M 9 i))), (2, .inr (.inr 9)), (3, .inl 16), (4, .inl i), (5, .inl (M 9 i))]) (zdec DX9_sum 19 rfl) rfl rfl (by decide) ?_
      refine z_iinc (L' := [(0, .inr (.inr 9)), (1, .inl (a + (M 9 i))), (2, .inr (.inr 9)), (3, .inl 16), (4, .inl (i + 1)), (5, .inl (M 9 i))]) 4 (zdec DX9_sum 20 rfl) rfl (by unfold z32; omega) rfl (by decide) ?_
      refine z_goto 10 (zdec DX9_sum 21 rfl) rfl ?_
      refine z_weak (L' := [(0, .inr (.inr 9)), (1, .inl (a + (M 9 i))), (2, .inr (.inr 9)), (3, .inl 16), (4, .inl (i + 1))]) (by simp) ?_
      exact ih (a + (M 9 i)) (i + 1) (by omega) ⟨by omega, by omega, by omega, by omega, by rw [zsum_s _ (by omega), ← hI.2.2.2.2]⟩
set_option maxHeartbeats 4000000 in
theorem cX9_sum_9 {M : zMm} (hb : ∀ i : Int, 0 ≤ i → i < 16 → 0 ≤ M 9 i ∧ M 9 i ≤ 99) : zW mX9_sum 1 (fun rv S' M' => S' = zS0 ∧ M = M' ∧ rv = some (.inl (zsum (M 9) 16))) (0, 0) zS0 0 (zargs 0 [.inr (.inr 9)]) [] M := by
  change zW _ _ _ _ _ 0 [(0, .inr (.inr 9))] [] M
  refine z_iconst 0 (zdec DX9_sum 0 rfl) (by decide) ?_
  refine z_istore_n (L' := [(0, .inr (.inr 9)), (1, .inl 0)]) (zdec DX9_sum 1 rfl) rfl rfl (by decide) ?_
  refine z_aload_n 0 (zdec DX9_sum 2 rfl) rfl rfl (by decide) ?_
  refine z_astore_n (L' := [(0, .inr (.inr 9)), (1, .inl 0), (2, .inr (.inr 9))]) (zdec DX9_sum 3 rfl) rfl (by decide) rfl (by decide) ?_
  refine z_aload_n 2 (zdec DX9_sum 4 rfl) rfl rfl (by decide) ?_
  refine z_alen 9 (zdec DX9_sum 5 rfl) rfl shp9 (by decide) (by decide) ?_
  refine z_istore_n (L' := [(0, .inr (.inr 9)), (1, .inl 0), (2, .inr (.inr 9)), (3, .inl 16)]) (zdec DX9_sum 6 rfl) rfl rfl (by decide) ?_
  refine z_iconst 0 (zdec DX9_sum 7 rfl) (by decide) ?_
  refine z_istore (L' := [(0, .inr (.inr 9)), (1, .inl 0), (2, .inr (.inr 9)), (3, .inl 16), (4, .inl 0)]) (zdec DX9_sum 8 rfl) rfl (by decide) ?_
  refine lp_X9_sum_9_10 hb (hx33 := fun a hx => ?_) _ 0 0 (Nat.lt_succ_self _) ⟨by omega, by omega, by omega, by omega, rfl⟩
  refine z_iload_n 0 (zdec DX9_sum 22 rfl) rfl rfl ?_
  exact z_iret (zdec DX9_sum 23 rfl) rfl (⟨rfl, rfl, zri hx⟩)
set_option maxHeartbeats 4000000 in
theorem lp_X9_sum_7_10 {Q : zPost} {M : zMm} (hb : ∀ i : Int, 0 ≤ i → i < 16 → 0 ≤ M 7 i ∧ M 7 i ≤ 1) (hx33 : ∀ (a : Int), (a = zsum (M 7) 16) → zW mX9_sum 1 Q (0, 0) zS0 33 [(1, .inl a)] [] M) : ∀ (n : Nat) (a : Int) (i : Int), (16 - i).toNat < n → (0 ≤ i ∧ i ≤ 16 ∧ 0 ≤ a ∧ a ≤ 1 * i ∧ a = zsum (M 7) i) → zW mX9_sum 1 Q (0, 0) zS0 10 [(0, .inr (.inr 7)), (1, .inl a), (2, .inr (.inr 7)), (3, .inl 16), (4, .inl i)] [] M := by
  intro n
  induction n with
  | zero => intro a i hn; exact absurd hn (Nat.not_lt_zero _)
  | succ n ih =>
    intro a i hn hI
    have hb1 := hb i
    refine z_iload 4 (zdec DX9_sum 9 rfl) rfl ?_
    refine z_iload_n 3 (zdec DX9_sum 10 rfl) rfl rfl ?_
    refine z_icmp_ge 33 (zdec DX9_sum 11 rfl) rfl (fun h13 => ?_) (fun h13 => ?_)
    ·
      refine z_weak (L' := [(1, .inl a)]) (by simp) ?_
      exact hx33 a (by rw [hI.2.2.2.2, show i = 16 by omega])
    ·
      refine z_aload_n 2 (zdec DX9_sum 12 rfl) rfl rfl (by decide) ?_
      refine z_iload 4 (zdec DX9_sum 13 rfl) rfl ?_
      refine z_iald 7 (zdec DX9_sum 14 rfl) rfl shp7 ⟨by omega, by omega⟩ ?_
      refine z_istore (L' := [(0, .inr (.inr 7)), (1, .inl a), (2, .inr (.inr 7)), (3, .inl 16), (4, .inl i), (5, .inl (M 7 i))]) (zdec DX9_sum 15 rfl) rfl (by decide) ?_
      refine z_iload_n 1 (zdec DX9_sum 16 rfl) rfl rfl ?_
      refine z_iload 5 (zdec DX9_sum 17 rfl) rfl ?_
      refine z_iadd (zdec DX9_sum 18 rfl) (by unfold z32; omega) ?_
      refine z_istore_n (L' := [(0, .inr (.inr 7)), (1, .inl (a + (M 7 i))), (2, .inr (.inr 7)), (3, .inl 16), (4, .inl i), (5, .inl (M 7 i))]) (zdec DX9_sum 19 rfl) rfl rfl (by decide) ?_
      refine z_iinc (L' := [(0, .inr (.inr 7)), (1, .inl (a + (M 7 i))), (2, .inr (.inr 7)), (3, .inl 16), (4, .inl (i + 1)), (5, .inl (M 7 i))]) 4 (zdec DX9_sum 20 rfl) rfl (by unfold z32; omega) rfl (by decide) ?_
      refine z_goto 10 (zdec DX9_sum 21 rfl) rfl ?_
      refine z_weak (L' := [(0, .inr (.inr 7)), (1, .inl (a + (M 7 i))), (2, .inr (.inr 7)), (3, .inl 16), (4, .inl (i + 1))]) (by simp) ?_
      exact ih (a + (M 7 i)) (i + 1) (by omega) ⟨by omega, by omega, by omega, by omega, by rw [zsum_s _ (by omega), ← hI.2.2.2.2]⟩
set_option maxHeartbeats 4000000 in
theorem cX9_sum_7 {M : zMm} (hb : ∀ i : Int, 0 ≤ i → i < 16 → 0 ≤ M 7 i ∧ M 7 i ≤ 1) : zW mX9_sum 1 (fun rv S' M' => S' = zS0 ∧ M = M' ∧ rv = some (.inl (zsum (M 7) 16))) (0, 0) zS0 0 (zargs 0 [.inr (.inr 7)]) [] M := by
  change zW _ _ _ _ _ 0 [(0, .inr (.inr 7))] [] M
  refine z_iconst 0 (zdec DX9_sum 0 rfl) (by decide) ?_
  refine z_istore_n (L' := [(0, .inr (.inr 7)), (1, .inl 0)]) (zdec DX9_sum 1 rfl) rfl rfl (by decide) ?_
  refine z_aload_n 0 (zdec DX9_sum 2 rfl) rfl rfl (by decide) ?_
  refine z_astore_n (L' := [(0, .inr (.inr 7)), (1, .inl 0), (2, .inr (.inr 7))]) (zdec DX9_sum 3 rfl) rfl (by decide) rfl (by decide) ?_
  refine z_aload_n 2 (zdec DX9_sum 4 rfl) rfl rfl (by decide) ?_
  refine z_alen 7 (zdec DX9_sum 5 rfl) rfl shp7 (by decide) (by decide) ?_
  refine z_istore_n (L' := [(0, .inr (.inr 7)), (1, .inl 0), (2, .inr (.inr 7)), (3, .inl 16)]) (zdec DX9_sum 6 rfl) rfl rfl (by decide) ?_
  refine z_iconst 0 (zdec DX9_sum 7 rfl) (by decide) ?_
  refine z_istore (L' := [(0, .inr (.inr 7)), (1, .inl 0), (2, .inr (.inr 7)), (3, .inl 16), (4, .inl 0)]) (zdec DX9_sum 8 rfl) rfl (by decide) ?_
  refine lp_X9_sum_7_10 hb (hx33 := fun a hx => ?_) _ 0 0 (Nat.lt_succ_self _) ⟨by omega, by omega, by omega, by omega, rfl⟩
  refine z_iload_n 0 (zdec DX9_sum 22 rfl) rfl rfl ?_
  exact z_iret (zdec DX9_sum 23 rfl) rfl (⟨rfl, rfl, zri hx⟩)
set_option maxHeartbeats 4000000 in
theorem lp_X9_sum_12_10 {Q : zPost} {M : zMm} (hb : ∀ i : Int, 0 ≤ i → i < 33 → 0 ≤ M 12 i ∧ M 12 i ≤ 1) (hx33 : ∀ (a : Int), (a = zsum (M 12) 33) → zW mX9_sum 1 Q (0, 0) zS0 33 [(1, .inl a)] [] M) : ∀ (n : Nat) (a : Int) (i : Int), (33 - i).toNat < n → (0 ≤ i ∧ i ≤ 33 ∧ 0 ≤ a ∧ a ≤ 1 * i ∧ a = zsum (M 12) i) → zW mX9_sum 1 Q (0, 0) zS0 10 [(0, .inr (.inr 12)), (1, .inl a), (2, .inr (.inr 12)), (3, .inl 33), (4, .inl i)] [] M := by
  intro n
  induction n with
  | zero => intro a i hn; exact absurd hn (Nat.not_lt_zero _)
  | succ n ih =>
    intro a i hn hI
    have hb1 := hb i
    refine z_iload 4 (zdec DX9_sum 9 rfl) rfl ?_
    refine z_iload_n 3 (zdec DX9_sum 10 rfl) rfl rfl ?_
    refine z_icmp_ge 33 (zdec DX9_sum 11 rfl) rfl (fun h13 => ?_) (fun h13 => ?_)
    ·
      refine z_weak (L' := [(1, .inl a)]) (by simp) ?_
      exact hx33 a (by rw [hI.2.2.2.2, show i = 33 by omega])
    ·
      refine z_aload_n 2 (zdec DX9_sum 12 rfl) rfl rfl (by decide) ?_
      refine z_iload 4 (zdec DX9_sum 13 rfl) rfl ?_
      refine z_iald 12 (zdec DX9_sum 14 rfl) rfl shp12 ⟨by omega, by omega⟩ ?_
      refine z_istore (L' := [(0, .inr (.inr 12)), (1, .inl a), (2, .inr (.inr 12)), (3, .inl 33), (4, .inl i), (5, .inl (M 12 i))]) (zdec DX9_sum 15 rfl) rfl (by decide) ?_
      refine z_iload_n 1 (zdec DX9_sum 16 rfl) rfl rfl ?_
      refine z_iload 5 (zdec DX9_sum 17 rfl) rfl ?_
      refine z_iadd (zdec DX9_sum 18 rfl) (by unfold z32; omega) ?_
      refine z_istore_n (L' := [(0, .inr (.inr 12)), (1, .inl (a + (M 12 i))), (2, .inr (.inr 12)), (3, .inl 33), (4, .inl i), (5, .inl (M 12 i))]) (zdec DX9_sum 19 rfl) rfl rfl (by decide) ?_
      refine z_iinc (L' := [(0, .inr (.inr 12)), (1, .inl (a + (M 12 i))), (2, .inr (.inr 12)), (3, .inl 33), (4, .inl (i + 1)), (5, .inl (M 12 i))]) 4 (zdec DX9_sum 20 rfl) rfl (by unfold z32; omega) rfl (by decide) ?_
      refine z_goto 10 (zdec DX9_sum 21 rfl) rfl ?_
      refine z_weak (L' := [(0, .inr (.inr 12)), (1, .inl (a + (M 12 i))), (2, .inr (.inr 12)), (3, .inl 33), (4, .inl (i + 1))]) (by simp) ?_
      exact ih (a + (M 12 i)) (i + 1) (by omega) ⟨by omega, by omega, by omega, by omega, by rw [zsum_s _ (by omega), ← hI.2.2.2.2]⟩
set_option maxHeartbeats 4000000 in
theorem cX9_sum_12 {M : zMm} (hb : ∀ i : Int, 0 ≤ i → i < 33 → 0 ≤ M 12 i ∧ M 12 i ≤ 1) : zW mX9_sum 1 (fun rv S' M' => S' = zS0 ∧ M = M' ∧ rv = some (.inl (zsum (M 12) 33))) (0, 0) zS0 0 (zargs 0 [.inr (.inr 12)]) [] M := by
  change zW _ _ _ _ _ 0 [(0, .inr (.inr 12))] [] M
  refine z_iconst 0 (zdec DX9_sum 0 rfl) (by decide) ?_
  refine z_istore_n (L' := [(0, .inr (.inr 12)), (1, .inl 0)]) (zdec DX9_sum 1 rfl) rfl rfl (by decide) ?_
  refine z_aload_n 0 (zdec DX9_sum 2 rfl) rfl rfl (by decide) ?_
  refine z_astore_n (L' := [(0, .inr (.inr 12)), (1, .inl 0), (2, .inr (.inr 12))]) (zdec DX9_sum 3 rfl) rfl (by decide) rfl (by decide) ?_
  refine z_aload_n 2 (zdec DX9_sum 4 rfl) rfl rfl (by decide) ?_
  refine z_alen 12 (zdec DX9_sum 5 rfl) rfl shp12 (by decide) (by decide) ?_
  refine z_istore_n (L' := [(0, .inr (.inr 12)), (1, .inl 0), (2, .inr (.inr 12)), (3, .inl 33)]) (zdec DX9_sum 6 rfl) rfl rfl (by decide) ?_
  refine z_iconst 0 (zdec DX9_sum 7 rfl) (by decide) ?_
  refine z_istore (L' := [(0, .inr (.inr 12)), (1, .inl 0), (2, .inr (.inr 12)), (3, .inl 33), (4, .inl 0)]) (zdec DX9_sum 8 rfl) rfl (by decide) ?_
  refine lp_X9_sum_12_10 hb (hx33 := fun a hx => ?_) _ 0 0 (Nat.lt_succ_self _) ⟨by omega, by omega, by omega, by omega, rfl⟩
  refine z_iload_n 0 (zdec DX9_sum 22 rfl) rfl rfl ?_
  exact z_iret (zdec DX9_sum 23 rfl) rfl (⟨rfl, rfl, zri hx⟩)
set_option maxHeartbeats 4000000 in
theorem lp_X9_sum_22_10 {Q : zPost} {M : zMm} (hb : ∀ i : Int, 0 ≤ i → i < 16 → 0 ≤ M 22 i ∧ M 22 i ≤ 99) (hx33 : ∀ (a : Int), (a = zsum (M 22) 16) → zW mX9_sum 1 Q (0, 0) zS0 33 [(1, .inl a)] [] M) : ∀ (n : Nat) (a : Int) (i : Int), (16 - i).toNat < n → (0 ≤ i ∧ i ≤ 16 ∧ 0 ≤ a ∧ a ≤ 99 * i ∧ a = zsum (M 22) i) → zW mX9_sum 1 Q (0, 0) zS0 10 [(0, .inr (.inr 22)), (1, .inl a), (2, .inr (.inr 22)), (3, .inl 16), (4, .inl i)] [] M := by
  intro n
  induction n with
  | zero => intro a i hn; exact absurd hn (Nat.not_lt_zero _)
  | succ n ih =>
    intro a i hn hI
    have hb1 := hb i
    refine z_iload 4 (zdec DX9_sum 9 rfl) rfl ?_
    refine z_iload_n 3 (zdec DX9_sum 10 rfl) rfl rfl ?_
    refine z_icmp_ge 33 (zdec DX9_sum 11 rfl) rfl (fun h13 => ?_) (fun h13 => ?_)
    ·
      refine z_weak (L' := [(1, .inl a)]) (by simp) ?_
      exact hx33 a (by rw [hI.2.2.2.2, show i = 16 by omega])
    ·
      refine z_aload_n 2 (zdec DX9_sum 12 rfl) rfl rfl (by decide) ?_
      refine z_iload 4 (zdec DX9_sum 13 rfl) rfl ?_
      refine z_iald 22 (zdec DX9_sum 14 rfl) rfl shp22 ⟨by omega, by omega⟩ ?_
      refine z_istore (L' := [(0, .inr (.inr 22)), (1, .inl a), (2, .inr (.inr 22)), (3, .inl 16), (4, .inl i), (5, .inl (M 22 i))]) (zdec DX9_sum 15 rfl) rfl (by decide) ?_
      refine z_iload_n 1 (zdec DX9_sum 16 rfl) rfl rfl ?_
      refine z_iload 5 (zdec DX9_sum 17 rfl) rfl ?_
      refine z_iadd (zdec DX9_sum 18 rfl) (by unfold z32; omega) ?_
      refine z_istore_n (L' := [(0, .inr (.inr 22)), (1, .inl (a + (M 22 i))), (2, .inr (.inr 22)), (3, .inl 16), (4, .inl i), (5, .inl (M 22 i))]) (zdec DX9_sum 19 rfl) rfl rfl (by decide) ?_
      refine z_iinc (L' := [(0, .inr (.inr 22)), (1, .inl (a + (M 22 i))), (2, .inr (.inr 22)), (3, .inl 16), (4, .inl (i + 1)), (5, .inl (M 22 i))]) 4 (zdec DX9_sum 20 rfl) rfl (by unfold z32; omega) rfl (by decide) ?_
      refine z_goto 10 (zdec DX9_sum 21 rfl) rfl ?_
      refine z_weak (L' := [(0, .inr (.inr 22)), (1, .inl (a + (M 22 i))), (2, .inr (.inr 22)), (3, .inl 16), (4, .inl (i + 1))]) (by simp) ?_
      exact ih (a + (M 22 i)) (i + 1) (by omega) ⟨by omega, by omega, by omega, by omega, by rw [zsum_s _ (by omega), ← hI.2.2.2.2]⟩
set_option maxHeartbeats 4000000 in
theorem cX9_sum_22 {M : zMm} (hb : ∀ i : Int, 0 ≤ i → i < 16 → 0 ≤ M 22 i ∧ M 22 i ≤ 99) : zW mX9_sum 1 (fun rv S' M' => S' = zS0 ∧ M = M' ∧ rv = some (.inl (zsum (M 22) 16))) (0, 0) zS0 0 (zargs 0 [.inr (.inr 22)]) [] M := by
  change zW _ _ _ _ _ 0 [(0, .inr (.inr 22))] [] M
  refine z_iconst 0 (zdec DX9_sum 0 rfl) (by decide) ?_
  refine z_istore_n (L' := [(0, .inr (.inr 22)), (1, .inl 0)]) (zdec DX9_sum 1 rfl) rfl rfl (by decide) ?_
  refine z_aload_n 0 (zdec DX9_sum 2 rfl) rfl rfl (by decide) ?_
  refine z_astore_n (L' := [(0, .inr (.inr 22)), (1, .inl 0), (2, .inr (.inr 22))]) (zdec DX9_sum 3 rfl) rfl (by decide) rfl (by decide) ?_
  refine z_aload_n 2 (zdec DX9_sum 4 rfl) rfl rfl (by decide) ?_
  refine z_alen 22 (zdec DX9_sum 5 rfl) rfl shp22 (by decide) (by decide) ?_
  refine z_istore_n (L' := [(0, .inr (.inr 22)), (1, .inl 0), (2, .inr (.inr 22)), (3, .inl 16)]) (zdec DX9_sum 6 rfl) rfl rfl (by decide) ?_
  refine z_iconst 0 (zdec DX9_sum 7 rfl) (by decide) ?_
  refine z_istore (L' := [(0, .inr (.inr 22)), (1, .inl 0), (2, .inr (.inr 22)), (3, .inl 16), (4, .inl 0)]) (zdec DX9_sum 8 rfl) rfl (by decide) ?_
  refine lp_X9_sum_22_10 hb (hx33 := fun a hx => ?_) _ 0 0 (Nat.lt_succ_self _) ⟨by omega, by omega, by omega, by omega, rfl⟩
  refine z_iload_n 0 (zdec DX9_sum 22 rfl) rfl rfl ?_
  exact z_iret (zdec DX9_sum 23 rfl) rfl (⟨rfl, rfl, zri hx⟩)
