/-! the constructors of Shelves and Comb -/
def zd6 : List (Int × Int × Int) := [(-55, 0, 46), (-55, 1, 47), (-55, 2, 48), (-55, 3, 49)]
def zD6 (M : zMm) : Prop := zPt zd6 M
theorem zD6_of {M M' : zMm} (h : zD6 M) (e : ∀ c : Int, c < 0 → M' c = M c) : zD6 M' := fun q hq => by
  have hn : ∀ q ∈ zd6, q.1 < 0 := by decide
  rw [e q.1 (hn q hq)]
  exact h q hq
theorem zD6_up {M : zMm} {c k v : Int} (h : zD6 M) (hc : 0 ≤ c) : zD6 (zup M c k v) := zD6_of h fun x hx => zup_row (by omega)
set_option maxHeartbeats 4000000 in
theorem lp_X6_init_42 {Q : zPost} {MA : zMm} (hPMA : zD6 MA) (hx61 : ∀ (M2 : zMm), ((∀ c : Int, c ≠ 46 → M2 c = MA c) ∧ ∀ k : Int, 0 ≤ k → k < 6 → M2 46 k = -1) → zW mX6_init 2 Q (0, 0) (zS0.take 56) 61 [] [] M2) : ∀ (n : Nat) (i : Int) (M2 : zMm), (6 - i).toNat < n → (0 ≤ i ∧ i ≤ 6 ∧ (∀ c : Int, c ≠ 46 → M2 c = MA c) ∧ ∀ k : Int, 0 ≤ k → k < i → M2 46 k = -1) → zW mX6_init 2 Q (0, 0) (zS0.take 56) 42 [(0, .inr (.inr 45)), (1, .inl i)] [] M2 := by
  intro n
  induction n with
  | zero => intro i M2 hn; exact absurd hn (Nat.not_lt_zero _)
  | succ n ih =>
    intro i M2 hn hI
    refine z_iload_n 1 (zdec DX6_init 21 rfl) rfl rfl ?_
    refine z_bipush 6 (zdec DX6_init 22 rfl) (by decide) ?_
    refine z_icmp_ge 61 (zdec DX6_init 23 rfl) rfl (fun h45 => ?_) (fun h45 => ?_)
    ·
      refine z_weak (L' := []) (by simp) ?_
      exact hx61 M2 ⟨hI.2.2.1, fun k a b => hI.2.2.2 k a (by omega)⟩
    ·
      refine z_aload_n 0 (zdec DX6_init 24 rfl) rfl rfl (by decide) ?_
      refine z_getr (rw1 := -55) (ki := 0) (r' := 46) 45 6 (zdec DX6_init 25 rfl) rfl rfl rfl rfl (by decide) rfl rfl fl_SixWalls_Shelves_11 ((zD6_of hPMA fun c hc => hI.2.2.1 c (by omega)).a 0 rfl) ?_
      refine z_iload_n 1 (zdec DX6_init 26 rfl) rfl rfl ?_
      refine z_iconst (-1) (zdec DX6_init 27 rfl) (by decide) ?_
      refine z_iast 46 (zdec DX6_init 28 rfl) rfl rfl ⟨by omega, by omega⟩ ?_
      refine z_iinc (L' := [(0, .inr (.inr 45)), (1, .inl (i + 1))]) 1 (zdec DX6_init 29 rfl) rfl (by unfold z32; omega) rfl (by decide) ?_
      refine z_goto 42 (zdec DX6_init 30 rfl) rfl ?_
      exact ih (i + 1) (zup M2 46 i (-1)) (by omega) ⟨by omega, by omega, (fun c a => by rw [zup_row a]; exact hI.2.2.1 c a), fun k a b => (by by_cases e : k = i; (subst e; rw [zup_self]); (rw [zup_ne e]; exact hI.2.2.2 k a (by omega)))⟩
set_option maxHeartbeats 4000000 in
theorem cX6_init {M : zMm} : zW mX6_init 2 (fun rv S' M' => S' = zS0.take 56 ∧ rv = none ∧ zFk 45 M M' ∧ zPt [((-55), 0, 46), ((-55), 1, 47), ((-55), 2, 48), ((-55), 3, 49), ((-59), 0, 50), ((-59), 1, 51), ((-59), 2, 52), ((-59), 3, 53), ((-59), 4, 54), ((-59), 5, 55)] M' ∧ zZr [47, 48, 50, 51, 52, 53, 54, 55] M' ∧ ∀ k : Int, 0 ≤ k → k < 6 → M' 46 k = -1) (10, 384) (zS0.take 46) 0 (zargs 0 [.inr (.inr 45)]) [] M := by
  change zW _ _ _ _ _ 0 [(0, .inr (.inr 45))] [] M
  refine z_aload_n 0 (zdec DX6_init 0 rfl) rfl rfl (by decide) ?_
  refine z_objInit (zdec DX6_init 1 rfl) ml_SixWalls_Shelves_3 zoi1 zoi2 (by decide) (by decide) rfl ?_
  refine z_aload_n 0 (zdec DX6_init 2 rfl) rfl rfl (by decide) ?_
  refine z_bipush 6 (zdec DX6_init 3 rfl) (by decide) ?_
  refine z_newa (b := (9, 378)) 0 (n := 6) (zdec DX6_init 4 rfl) (Or.inl ⟨rfl, rfl⟩) zac_0 rfl (by decide) ?_
  change zW _ _ _ _ (zS0.take 47) 9 [(0, .inr (.inr 45))] [.inr (.inr 46), .inr (.inr 45)] (znew M 46)
  refine z_putr (rw1 := -55) (ki := 0) 45 6 (zdec DX6_init 5 rfl) rfl rfl rfl rfl (by decide) rfl rfl fl_SixWalls_Shelves_11 (Or.inr ⟨rfl, rfl⟩) ?_
  refine z_aload_n 0 (zdec DX6_init 6 rfl) rfl rfl (by decide) ?_
  refine z_bipush 6 (zdec DX6_init 7 rfl) (by decide) ?_
  refine z_newa (b := (8, 372)) 0 (n := 6) (zdec DX6_init 8 rfl) (Or.inl ⟨rfl, rfl⟩) zac_0 rfl (by decide) ?_
  change zW _ _ _ _ (zS0.take 48) 17 [(0, .inr (.inr 45))] [.inr (.inr 47), .inr (.inr 45)] (znew (zup (znew M 46) (-55) 0 46) 47)
  refine z_putr (rw1 := -55) (ki := 1) 45 6 (zdec DX6_init 9 rfl) rfl rfl rfl rfl (by decide) rfl rfl fl_SixWalls_Shelves_15 (Or.inr ⟨rfl, rfl⟩) ?_
  refine z_aload_n 0 (zdec DX6_init 10 rfl) rfl rfl (by decide) ?_
  refine z_bipush 6 (zdec DX6_init 11 rfl) (by decide) ?_
  refine z_newa (b := (7, 366)) 0 (n := 6) (zdec DX6_init 12 rfl) (Or.inl ⟨rfl, rfl⟩) zac_0 rfl (by decide) ?_
  change zW _ _ _ _ (zS0.take 49) 25 [(0, .inr (.inr 45))] [.inr (.inr 48), .inr (.inr 45)] (znew (zup (znew (zup (znew M 46) (-55) 0 46) 47) (-55) 1 47) 48)
  refine z_putr (rw1 := -55) (ki := 2) 45 6 (zdec DX6_init 13 rfl) rfl rfl rfl rfl (by decide) rfl rfl fl_SixWalls_Shelves_18 (Or.inr ⟨rfl, rfl⟩) ?_
  refine z_aload_n 0 (zdec DX6_init 14 rfl) rfl rfl (by decide) ?_
  refine z_bipush 6 (zdec DX6_init 15 rfl) (by decide) ?_
  refine z_bipush 60 (zdec DX6_init 16 rfl) (by decide) ?_
  refine z_mna (b := (0, 0)) 6 60 (zdec DX6_init 17 rfl) cl_SixWalls_Shelves_21 zac_2 rfl rfl (by decide) (by decide) ?_
  change zW _ _ _ _ (zS0.take 56) 37 [(0, .inr (.inr 45))] [.inr (.inr 49), .inr (.inr 45)] (zmn (zup (znew (zup (znew (zup (znew M 46) (-55) 0 46) 47) (-55) 1 47) 48) (-55) 2 48) 49 6)
  refine z_putr (rw1 := -55) (ki := 3) 45 6 (zdec DX6_init 18 rfl) rfl rfl rfl rfl (by decide) rfl rfl fl_SixWalls_Shelves_23 (Or.inr ⟨rfl, rfl⟩) ?_
  obtain ⟨MA, eMA⟩ : ∃ x, x = zup (zmn (zup (znew (zup (znew (zup (znew M 46) (-55) 0 46) 47) (-55) 1 47) 48) (-55) 2 48) 49 6) (-55) 3 49 := ⟨_, rfl⟩
  have hPMA : zD6 MA := by rw [eMA]; intro q hq; revert q; exact List.forall_mem_cons.mpr ⟨by simp [zup, znew, zmn], List.forall_mem_cons.mpr ⟨by simp [zup, znew, zmn], List.forall_mem_cons.mpr ⟨by simp [zup, znew, zmn], List.forall_mem_cons.mpr ⟨by simp [zup, znew, zmn], by simp⟩⟩⟩⟩
  rw [← eMA]
  have fA : zFk 45 M MA := fun c h1 h2 => by rw [eMA]; repeat (first | rw [zup_row (by omega)] | rw [znew_row (by omega) (by omega)] | rw [zmn_row (by omega) (by omega) (by omega)])
  have tA : zPt [((-55), 0, 46), ((-55), 1, 47), ((-55), 2, 48), ((-55), 3, 49), ((-59), 0, 50), ((-59), 1, 51), ((-59), 2, 52), ((-59), 3, 53), ((-59), 4, 54), ((-59), 5, 55)] MA := by
    rw [eMA]
    exact List.forall_mem_cons.mpr ⟨by simp [zup, znew, zmn], List.forall_mem_cons.mpr ⟨by simp [zup, znew, zmn], List.forall_mem_cons.mpr ⟨by simp [zup, znew, zmn], List.forall_mem_cons.mpr ⟨by simp [zup, znew, zmn], List.forall_mem_cons.mpr ⟨by simp [zup, znew, zmn], List.forall_mem_cons.mpr ⟨by simp [zup, znew, zmn], List.forall_mem_cons.mpr ⟨by simp [zup, znew, zmn], List.forall_mem_cons.mpr ⟨by simp [zup, znew, zmn], List.forall_mem_cons.mpr ⟨by simp [zup, znew, zmn], List.forall_mem_cons.mpr ⟨by simp [zup, znew, zmn], by simp⟩⟩⟩⟩⟩⟩⟩⟩⟩⟩
  have zA : zZr [47, 48, 50, 51, 52, 53, 54, 55] MA := by
    rw [eMA]
    exact List.forall_mem_cons.mpr ⟨fun k => by simp [zup, znew, zmn], List.forall_mem_cons.mpr ⟨fun k => by simp [zup, znew, zmn], List.forall_mem_cons.mpr ⟨fun k => by simp [zup, znew, zmn], List.forall_mem_cons.mpr ⟨fun k => by simp [zup, znew, zmn], List.forall_mem_cons.mpr ⟨fun k => by simp [zup, znew, zmn], List.forall_mem_cons.mpr ⟨fun k => by simp [zup, znew, zmn], List.forall_mem_cons.mpr ⟨fun k => by simp [zup, znew, zmn], List.forall_mem_cons.mpr ⟨fun k => by simp [zup, znew, zmn], by simp⟩⟩⟩⟩⟩⟩⟩⟩
  refine z_iconst 0 (zdec DX6_init 19 rfl) (by decide) ?_
  refine z_istore_n (L' := [(0, .inr (.inr 45)), (1, .inl 0)]) (zdec DX6_init 20 rfl) rfl rfl (by decide) ?_
  refine lp_X6_init_42 hPMA (hx61 := fun M2 hx => ?_) _ 0 MA (Nat.lt_succ_self _) ⟨by omega, by omega, fun _ _ => rfl, fun k a b => by omega⟩
  exact z_vret (zdec DX6_init 31 rfl) rfl (⟨rfl, rfl, (fun c a b => by rw [hx.1 c (by omega)]; exact fA c a b), (fun q hq => by rw [hx.1 q.1 (by revert q; decide)]; exact tA q hq), (fun c hc k => by rw [hx.1 c (by revert c; decide)]; exact zA c hc k), hx.2⟩)
def zd1 : List (Int × Int × Int) := [((-11), 0, 2), ((-11), 1, 3), ((-11), 2, 4), ((-11), 3, 5), ((-11), 4, 6), ((-11), 5, 7), ((-11), 6, 8), ((-11), 7, 9), ((-11), 8, 10), ((-11), 9, 11), ((-11), 10, 12), ((-11), 11, 13)]
def zD1 (M : zMm) : Prop := zPt zd1 M
theorem zD1_of {M M' : zMm} (h : zD1 M) (e : ∀ c : Int, c < 0 → M' c = M c) : zD1 M' := fun q hq => by
  have hn : ∀ q ∈ zd1, q.1 < 0 := by decide
  rw [e q.1 (hn q hq)]
  exact h q hq
theorem zD1_up {M : zMm} {c k v : Int} (h : zD1 M) (hc : 0 ≤ c) : zD1 (zup M c k v) := zD1_of h fun x hx => zup_row (by omega)
/-- which houses are beside each other, by their numbers; how many walls come ahead of a pair -/
def zbsd (a b : Int) : Int := if a / 4 = b / 4 then (if (if 0 ≤ a % 4 - b % 4 then a % 4 - b % 4 else -(a % 4 - b % 4)) = 1 then 1 else 0) else if (if 0 ≤ a / 4 - b / 4 then a / 4 - b / 4 else -(a / 4 - b / 4)) ≠ 1 then 0 else if b % 4 = a % 4 ∨ b % 4 = (if a / 4 % 2 = 0 then a % 4 - 1 else a % 4 + 1) then 1 else 0
def zcw (a b : Int) : Int := zsum (fun w => if zlow w < a ∨ (zlow w = a ∧ zhigh w < b) then 1 else 0) 33
theorem zcw_t : ∀ a : Fin 16, ∀ b : Fin 16, a.val < b.val → ((zbsd (a.val : Int) (b.val : Int) = 1 → zcw (a.val : Int) (b.val : Int) < 33 ∧ zlow (zcw (a.val : Int) (b.val : Int)) = (a.val : Int) ∧ zhigh (zcw (a.val : Int) (b.val : Int)) = (b.val : Int) ∧ zcw (a.val : Int) ((b.val : Int) + 1) = zcw (a.val : Int) (b.val : Int) + 1) ∧ (zbsd (a.val : Int) (b.val : Int) ≠ 1 → zcw (a.val : Int) ((b.val : Int) + 1) = zcw (a.val : Int) (b.val : Int))) := by decide +kernel
theorem zcw_tI {a b : Int} (ha : 0 ≤ a) (hab : a < b) (hb : b < 16) : (zbsd a b = 1 → zcw a b < 33 ∧ zlow (zcw a b) = a ∧ zhigh (zcw a b) = b ∧ zcw a (b + 1) = zcw a b + 1) ∧ (zbsd a b ≠ 1 → zcw a (b + 1) = zcw a b) := by
  have e := zcw_t ⟨a.toNat, by omega⟩ ⟨b.toNat, by omega⟩ (by show a.toNat < b.toNat; omega)
  simpa only [show ((a.toNat : Nat) : Int) = a by omega, show ((b.toNat : Nat) : Int) = b by omega] using e
theorem zcw_e : ∀ a : Fin 16, zcw (a.val : Int) 16 = zcw ((a.val : Int) + 1) ((a.val : Int) + 1 + 1) := by decide +kernel
theorem zcw_eI {a : Int} (h0 : 0 ≤ a) (h1 : a < 16) : zcw a 16 = zcw (a + 1) (a + 1 + 1) := by
  have e := zcw_e ⟨a.toNat, by omega⟩
  simpa only [show ((a.toNat : Nat) : Int) = a by omega] using e
theorem zcw_0 : zcw 0 1 = 0 := by decide +kernel
theorem zcw_16 : zcw 16 (16 + 1) = 33 := by decide +kernel
theorem zcw_b (a b : Int) : 0 ≤ zcw a b := zsum_nn fun i _ _ => by split <;> omega
/-- sides, as they are laid -/
def zSd (R4 R5 R6 n : Int → Int) : Prop := (∀ h : Int, 0 ≤ h → h < 16 → R4 h = n h ∧ 0 ≤ n h) ∧ ∀ h s : Int, 0 ≤ h → h < 16 → 0 ≤ s → s < 6 → R5 (h * 6 + s) = (if s < n h then zwat (h * 6 + s) else 0) ∧ R6 (h * 6 + s) = (if s < n h then znat (h * 6 + s) else 0)
theorem zSd.st {R4 R5 R6 n : Int → Int} (hS : zSd R4 R5 R6 n) {h0 w x : Int} (hh : 0 ≤ h0 ∧ h0 < 16) (hn : n h0 < 6) (hw : zwat (h0 * 6 + n h0) = w) (hx : znat (h0 * 6 + n h0) = x) : zSd (zpu R4 h0 (R4 h0 + 1)) (zpu R5 (h0 * 6 + R4 h0) w) (zpu R6 (h0 * 6 + R4 h0) x) (fun h => if h = h0 then n h + 1 else n h) := by
  have e0 := hS.1 h0 hh.1 hh.2
  refine ⟨fun h a b => ?_, fun h s a b c d => ?_⟩
  · have e := hS.1 h a b
    dsimp only
    by_cases q : h = h0
    · subst q; rw [zpu_s, if_pos rfl]; omega
    · rw [zpu_n q, if_neg q]; exact e
  · have e := hS.2 h s a b c d
    dsimp only
    by_cases q : h = h0
    · subst q
      simp only [reduceIte]
      by_cases q2 : s = n h
      · subst q2
        rw [← e0.1, zpu_s, zpu_s, if_pos (by omega), if_pos (by omega), e0.1]
        exact ⟨hw.symm, hx.symm⟩
      · rw [zpu_n (by omega), zpu_n (by omega), e.1, e.2]
        by_cases l : s < n h
        · rw [if_pos l, if_pos l, if_pos (by omega), if_pos (by omega)]; exact ⟨rfl, rfl⟩
        · rw [if_neg l, if_neg l, if_neg (by omega), if_neg (by omega)]; exact ⟨rfl, rfl⟩
    · have g : (if h = h0 then n h + 1 else n h) = n h := if_neg q
      simp only [g]
      rw [zpu_n (by omega), zpu_n (by omega)]
      exact e
theorem zsd_t : ∀ v : Fin 33, (znb (zlow (v.val : Int)) (v.val : Int) < 6 ∧ zwat (zlow (v.val : Int) * 6 + znb (zlow (v.val : Int)) (v.val : Int)) = (v.val : Int) ∧ znat (zlow (v.val : Int) * 6 + znb (zlow (v.val : Int)) (v.val : Int)) = zhigh (v.val : Int)) ∧ znb (zhigh (v.val : Int)) (v.val : Int) < 6 ∧ zwat (zhigh (v.val : Int) * 6 + znb (zhigh (v.val : Int)) (v.val : Int)) = (v.val : Int) ∧ znat (zhigh (v.val : Int) * 6 + znb (zhigh (v.val : Int)) (v.val : Int)) = zlow (v.val : Int) := by decide +kernel
theorem zsd_tI {v : Int} (h0 : 0 ≤ v) (h1 : v < 33) : (znb (zlow v) v < 6 ∧ zwat (zlow v * 6 + znb (zlow v) v) = v ∧ znat (zlow v * 6 + znb (zlow v) v) = zhigh v) ∧ znb (zhigh v) v < 6 ∧ zwat (zhigh v * 6 + znb (zhigh v) v) = v ∧ znat (zhigh v * 6 + znb (zhigh v) v) = zlow v := by
  have e := zsd_t ⟨v.toNat, by omega⟩
  simpa only [show ((v.toNat : Nat) : Int) = v by omega] using e
theorem znb_s (h : Int) {v : Int} (hv : 0 ≤ v) : znb h (v + 1) = znb h v + if zlow v = h ∨ zhigh v = h then 1 else 0 := zsum_s _ hv
theorem zSd.go {R4 R5 R6 : Int → Int} {v : Int} (hS : zSd R4 R5 R6 (fun h => znb h v)) (h0 : 0 ≤ v) (h1 : v < 33) {R4' R5' R6' R4'' R5'' R6'' : Int → Int} (e4 : R4' = zpu R4 (zlow v) (R4 (zlow v) + 1)) (e5 : R5' = zpu R5 (zlow v * 6 + R4 (zlow v)) v) (e6 : R6' = zpu R6 (zlow v * 6 + R4 (zlow v)) (zhigh v)) (f4 : R4'' = zpu R4' (zhigh v) (R4' (zhigh v) + 1)) (f5 : R5'' = zpu R5' (zhigh v * 6 + R4' (zhigh v)) v) (f6 : R6'' = zpu R6' (zhigh v * 6 + R4' (zhigh v)) (zlow v)) : zSd R4'' R5'' R6'' (fun h => znb h (v + 1)) := by
  have t := zsd_tI h0 h1
  have ne := zlow_neI ⟨h0, h1⟩
  have s1 := hS.st (zlow_b v) t.1.1 t.1.2.1 t.1.2.2
  rw [← e4, ← e5, ← e6] at s1
  have s2 := s1.st (h0 := zhigh v) (w := v) (x := zlow v) (zhigh_b v) (by rw [if_neg (fun q => ne q.symm)]; exact t.2.1) (by rw [if_neg (fun q => ne q.symm)]; exact t.2.2.1) (by rw [if_neg (fun q => ne q.symm)]; exact t.2.2.2)
  rw [← f4, ← f5, ← f6] at s2
  have en : (fun h => if h = zhigh v then (if h = zlow v then znb h v + 1 else znb h v) + 1 else (if h = zlow v then znb h v + 1 else znb h v)) = fun h => znb h (v + 1) := by
    funext h
    rw [znb_s h h0]
    by_cases a : h = zhigh v
    · subst a
      rw [if_pos rfl, if_neg (fun q => ne q.symm), if_pos (Or.inr rfl)]
    · rw [if_neg a]
      by_cases b : h = zlow v
      · subst b; rw [if_pos rfl, if_pos (Or.inl rfl)]
      · rw [if_neg b, if_neg (by omega)]; omega
  rw [← en]
  exact s2
theorem zwat_z : ∀ k : Fin 96, ¬ ((k.val : Int) % 6 < zsid ((k.val : Int) / 6)) → zwat (k.val : Int) = 0 ∧ znat (k.val : Int) = 0 := by decide +kernel
theorem zSd.G {M : zMm} (hS : zSd (M 4) (M 5) (M 6) (fun h => znb h 33)) (hw : ∀ v : Int, 0 ≤ v → v < 33 → M 2 v = zlow v ∧ M 3 v = zhigh v) : zG M := by
  refine ⟨hw, fun h a b => by rw [(hS.1 h a b).1]; exact znb_sidI a b, fun k a b => ?_⟩
  have e := hS.2 (k / 6) (k % 6) (by omega) (by omega) (by omega) (by omega)
  rw [show k / 6 * 6 + k % 6 = k by omega] at e
  have g := znb_sidI (h := k / 6) (by omega) (by omega)
  simp only [g] at e
  by_cases l : k % 6 < zsid (k / 6)
  · rw [if_pos l, if_pos l] at e; exact e
  · rw [if_neg l, if_neg l] at e
    have z := zwat_z ⟨k.toNat, by omega⟩
    simp only [show ((k.toNat : Nat) : Int) = k by omega] at z
    have z2 := z l
    rw [e.1, e.2, z2.1, z2.2]
    exact ⟨rfl, rfl⟩
set_option maxHeartbeats 4000000 in
theorem cX1_beside {M : zMm} (a b : Int) (ha : 0 ≤ a ∧ a < 16) (hb : 0 ≤ b ∧ b < 16) : zW mX1_beside 2 (fun rv S' M' => S' = zS0.take 14 ∧ M = M' ∧ rv = some (.inl (zbsd a b))) (0, 0) (zS0.take 14) 0 (zargs 0 [.inl a, .inl b]) [] M := by
  change zW _ _ _ _ _ 0 [(0, .inl a), (1, .inl b)] [] M
  refine z_iload_n 0 (zdec DX1_beside 0 rfl) rfl rfl ?_
  refine z_iconst 4 (zdec DX1_beside 1 rfl) (by decide) ?_
  refine z_idivp (zdec DX1_beside 2 rfl) (by omega) (by omega) ?_
  refine z_istore_n (L' := [(0, .inl a), (1, .inl b), (2, .inl (a / 4))]) (zdec DX1_beside 3 rfl) rfl rfl (by decide) ?_
  refine z_iload_n 0 (zdec DX1_beside 4 rfl) rfl rfl ?_
  refine z_iconst 4 (zdec DX1_beside 5 rfl) (by decide) ?_
  refine z_iremp (zdec DX1_beside 6 rfl) (by omega) (by omega) ?_
  refine z_istore_n (L' := [(0, .inl a), (1, .inl b), (2, .inl (a / 4)), (3, .inl (a % 4))]) (zdec DX1_beside 7 rfl) rfl rfl (by decide) ?_
  refine z_iload_n 1 (zdec DX1_beside 8 rfl) rfl rfl ?_
  refine z_iconst 4 (zdec DX1_beside 9 rfl) (by decide) ?_
  refine z_iremp (zdec DX1_beside 10 rfl) (by omega) (by omega) ?_
  refine z_istore (L' := [(0, .inl a), (1, .inl b), (2, .inl (a / 4)), (3, .inl (a % 4)), (4, .inl (b % 4))]) (zdec DX1_beside 11 rfl) rfl (by decide) ?_
  refine z_iload_n 2 (zdec DX1_beside 12 rfl) rfl rfl ?_
  refine z_iload_n 1 (zdec DX1_beside 13 rfl) rfl rfl ?_
  refine z_iconst 4 (zdec DX1_beside 14 rfl) (by decide) ?_
  refine z_idivp (zdec DX1_beside 15 rfl) (by omega) (by omega) ?_
  refine z_icmp_ne 37 (zdec DX1_beside 16 rfl) rfl (fun h17 => ?_) (fun h17 => ?_)
  ·
    refine z_iload_n 2 (zdec DX1_beside 27 rfl) rfl rfl ?_
    refine z_iload_n 1 (zdec DX1_beside 28 rfl) rfl rfl ?_
    refine z_iconst 4 (zdec DX1_beside 29 rfl) (by decide) ?_
    refine z_idivp (zdec DX1_beside 30 rfl) (by omega) (by omega) ?_
    refine z_isub (zdec DX1_beside 31 rfl) (by unfold z32; omega) ?_
    refine z_mabs (zdec DX1_beside 32 rfl) ml_SixWalls_Comb_66 (by decide) (Nat.le_of_ble_eq_true rfl) (by omega) ?_
    refine z_iconst 1 (zdec DX1_beside 33 rfl) (by decide) ?_
    refine z_icmp_eq 51 (zdec DX1_beside 34 rfl) rfl (fun h46 => ?_) (fun h46 => ?_)
    ·
      refine z_iload 4 (zdec DX1_beside 37 rfl) rfl ?_
      refine z_iload_n 3 (zdec DX1_beside 38 rfl) rfl rfl ?_
      refine z_icmp_eq 77 (zdec DX1_beside 39 rfl) rfl (fun h54 => ?_) (fun h54 => ?_)
      ·
        refine z_iconst 1 (zdec DX1_beside 53 rfl) (by decide) ?_
        refine z_goto 82 (zdec DX1_beside 54 rfl) rfl ?_
        exact z_zret (zdec DX1_beside 56 rfl) rfl (by omega) (⟨rfl, rfl, zri (by unfold zbsd; first | (rw [if_pos (by omega), if_pos (by omega)]; done) | (rw [if_pos (by omega), if_neg (by omega)]; done) | (rw [if_neg (by omega), if_pos (by omega)]; done) | (rw [if_neg (by omega), if_neg (by omega), if_pos (Or.inl (by omega))]; done) | (rw [if_neg (by omega), if_neg (by omega), if_pos (Or.inr (by first | (rw [if_pos (by omega)]; omega) | (rw [if_neg (by omega)]; omega)))]; done) | (rw [if_neg (by omega), if_neg (by omega), if_neg (by first | (rw [if_pos (by omega)]; omega) | (rw [if_neg (by omega)]; omega))]; done))⟩)
      ·
        refine z_iload 4 (zdec DX1_beside 40 rfl) rfl ?_
        refine z_iload_n 2 (zdec DX1_beside 41 rfl) rfl rfl ?_
        refine z_iconst 2 (zdec DX1_beside 42 rfl) (by decide) ?_
        refine z_iremp (zdec DX1_beside 43 rfl) (by omega) (by omega) ?_
        refine z_if_ne 71 (zdec DX1_beside 44 rfl) rfl (fun h62 => ?_) (fun h62 => ?_)
        ·
          refine z_iload_n 3 (zdec DX1_beside 49 rfl) rfl rfl ?_
          refine z_iconst 1 (zdec DX1_beside 50 rfl) (by decide) ?_
          refine z_iadd (zdec DX1_beside 51 rfl) (by unfold z32; omega) ?_
          refine z_icmp_ne 81 (zdec DX1_beside 52 rfl) rfl (fun h74 => ?_) (fun h74 => ?_)
          ·
            refine z_iconst 0 (zdec DX1_beside 55 rfl) (by decide) ?_
            exact z_zret (zdec DX1_beside 56 rfl) rfl (by omega) (⟨rfl, rfl, zri (by unfold zbsd; first | (rw [if_pos (by omega), if_pos (by omega)]; done) | (rw [if_pos (by omega), if_neg (by omega)]; done) | (rw [if_neg (by omega), if_pos (by omega)]; done) | (rw [if_neg (by omega), if_neg (by omega), if_pos (Or.inl (by omega))]; done) | (rw [if_neg (by omega), if_neg (by omega), if_pos (Or.inr (by first | (rw [if_pos (by omega)]; omega) | (rw [if_neg (by omega)]; omega)))]; done) | (rw [if_neg (by omega), if_neg (by omega), if_neg (by first | (rw [if_pos (by omega)]; omega) | (rw [if_neg (by omega)]; omega))]; done))⟩)
          ·
            refine z_iconst 1 (zdec DX1_beside 53 rfl) (by decide) ?_
            refine z_goto 82 (zdec DX1_beside 54 rfl) rfl ?_
            exact z_zret (zdec DX1_beside 56 rfl) rfl (by omega) (⟨rfl, rfl, zri (by unfold zbsd; first | (rw [if_pos (by omega), if_pos (by omega)]; done) | (rw [if_pos (by omega), if_neg (by omega)]; done) | (rw [if_neg (by omega), if_pos (by omega)]; done) | (rw [if_neg (by omega), if_neg (by omega), if_pos (Or.inl (by omega))]; done) | (rw [if_neg (by omega), if_neg (by omega), if_pos (Or.inr (by first | (rw [if_pos (by omega)]; omega) | (rw [if_neg (by omega)]; omega)))]; done) | (rw [if_neg (by omega), if_neg (by omega), if_neg (by first | (rw [if_pos (by omega)]; omega) | (rw [if_neg (by omega)]; omega))]; done))⟩)
        ·
          refine z_iload_n 3 (zdec DX1_beside 45 rfl) rfl rfl ?_
          refine z_iconst 1 (zdec DX1_beside 46 rfl) (by decide) ?_
          refine z_isub (zdec DX1_beside 47 rfl) (by unfold z32; omega) ?_
          refine z_goto 74 (zdec DX1_beside 48 rfl) rfl ?_
          refine z_icmp_ne 81 (zdec DX1_beside 52 rfl) rfl (fun h74 => ?_) (fun h74 => ?_)
          ·
            refine z_iconst 0 (zdec DX1_beside 55 rfl) (by decide) ?_
            exact z_zret (zdec DX1_beside 56 rfl) rfl (by omega) (⟨rfl, rfl, zri (by unfold zbsd; first | (rw [if_pos (by omega), if_pos (by omega)]; done) | (rw [if_pos (by omega), if_neg (by omega)]; done) | (rw [if_neg (by omega), if_pos (by omega)]; done) | (rw [if_neg (by omega), if_neg (by omega), if_pos (Or.inl (by omega))]; done) | (rw [if_neg (by omega), if_neg (by omega), if_pos (Or.inr (by first | (rw [if_pos (by omega)]; omega) | (rw [if_neg (by omega)]; omega)))]; done) | (rw [if_neg (by omega), if_neg (by omega), if_neg (by first | (rw [if_pos (by omega)]; omega) | (rw [if_neg (by omega)]; omega))]; done))⟩)
          ·
            refine z_iconst 1 (zdec DX1_beside 53 rfl) (by decide) ?_
            refine z_goto 82 (zdec DX1_beside 54 rfl) rfl ?_
            exact z_zret (zdec DX1_beside 56 rfl) rfl (by omega) (⟨rfl, rfl, zri (by unfold zbsd; first | (rw [if_pos (by omega), if_pos (by omega)]; done) | (rw [if_pos (by omega), if_neg (by omega)]; done) | (rw [if_neg (by omega), if_pos (by omega)]; done) | (rw [if_neg (by omega), if_neg (by omega), if_pos (Or.inl (by omega))]; done) | (rw [if_neg (by omega), if_neg (by omega), if_pos (Or.inr (by first | (rw [if_pos (by omega)]; omega) | (rw [if_neg (by omega)]; omega)))]; done) | (rw [if_neg (by omega), if_neg (by omega), if_neg (by first | (rw [if_pos (by omega)]; omega) | (rw [if_neg (by omega)]; omega))]; done))⟩)
    ·
      refine z_iconst 0 (zdec DX1_beside 35 rfl) (by decide) ?_
      exact z_zret (zdec DX1_beside 36 rfl) rfl (by omega) (⟨rfl, rfl, zri (by unfold zbsd; first | (rw [if_pos (by omega), if_pos (by omega)]; done) | (rw [if_pos (by omega), if_neg (by omega)]; done) | (rw [if_neg (by omega), if_pos (by omega)]; done) | (rw [if_neg (by omega), if_neg (by omega), if_pos (Or.inl (by omega))]; done) | (rw [if_neg (by omega), if_neg (by omega), if_pos (Or.inr (by first | (rw [if_pos (by omega)]; omega) | (rw [if_neg (by omega)]; omega)))]; done) | (rw [if_neg (by omega), if_neg (by omega), if_neg (by first | (rw [if_pos (by omega)]; omega) | (rw [if_neg (by omega)]; omega))]; done))⟩)
  ·
    refine z_iload_n 3 (zdec DX1_beside 17 rfl) rfl rfl ?_
    refine z_iload 4 (zdec DX1_beside 18 rfl) rfl ?_
    refine z_isub (zdec DX1_beside 19 rfl) (by unfold z32; omega) ?_
    refine z_mabs (zdec DX1_beside 20 rfl) ml_SixWalls_Comb_66 (by decide) (Nat.le_of_ble_eq_true rfl) (by omega) ?_
    refine z_iconst 1 (zdec DX1_beside 21 rfl) (by decide) ?_
    refine z_icmp_ne 35 (zdec DX1_beside 22 rfl) rfl (fun h28 => ?_) (fun h28 => ?_)
    ·
      refine z_iconst 0 (zdec DX1_beside 25 rfl) (by decide) ?_
      exact z_zret (zdec DX1_beside 26 rfl) rfl (by omega) (⟨rfl, rfl, zri (by unfold zbsd; first | (rw [if_pos (by omega), if_pos (by omega)]; done) | (rw [if_pos (by omega), if_neg (by omega)]; done) | (rw [if_neg (by omega), if_pos (by omega)]; done) | (rw [if_neg (by omega), if_neg (by omega), if_pos (Or.inl (by omega))]; done) | (rw [if_neg (by omega), if_neg (by omega), if_pos (Or.inr (by first | (rw [if_pos (by omega)]; omega) | (rw [if_neg (by omega)]; omega)))]; done) | (rw [if_neg (by omega), if_neg (by omega), if_neg (by first | (rw [if_pos (by omega)]; omega) | (rw [if_neg (by omega)]; omega))]; done))⟩)
    ·
      refine z_iconst 1 (zdec DX1_beside 23 rfl) (by decide) ?_
      refine z_goto 36 (zdec DX1_beside 24 rfl) rfl ?_
      exact z_zret (zdec DX1_beside 26 rfl) rfl (by omega) (⟨rfl, rfl, zri (by unfold zbsd; first | (rw [if_pos (by omega), if_pos (by omega)]; done) | (rw [if_pos (by omega), if_neg (by omega)]; done) | (rw [if_neg (by omega), if_pos (by omega)]; done) | (rw [if_neg (by omega), if_neg (by omega), if_pos (Or.inl (by omega))]; done) | (rw [if_neg (by omega), if_neg (by omega), if_pos (Or.inr (by first | (rw [if_pos (by omega)]; omega) | (rw [if_neg (by omega)]; omega)))]; done) | (rw [if_neg (by omega), if_neg (by omega), if_neg (by first | (rw [if_pos (by omega)]; omega) | (rw [if_neg (by omega)]; omega))]; done))⟩)
set_option maxHeartbeats 4000000 in
theorem cX1_addSide {M : zMm} (hP : zD1 M) (h w x : Int) (hh : 0 ≤ h ∧ h < 16) (hs : 0 ≤ M 4 h ∧ M 4 h < 6) : zW mX1_addSide 1 (fun rv S' M' => S' = zS0.take 14 ∧ rv = none ∧ M' = zup (zup (zup M 5 (h * 6 + M 4 h) w) 6 (h * 6 + M 4 h) x) 4 h (M 4 h + 1)) (0, 0) (zS0.take 14) 0 (zargs 0 [.inr (.inr 1), .inl h, .inl w, .inl x]) [] M := by
  change zW _ _ _ _ _ 0 [(0, .inr (.inr 1)), (1, .inl h), (2, .inl w), (3, .inl x)] [] M
  refine z_aload_n 0 (zdec DX1_addSide 0 rfl) rfl rfl (by decide) ?_
  refine z_getr (rw1 := -11) (ki := 2) (r' := 4) 1 1 (zdec DX1_addSide 1 rfl) rfl rfl rfl rfl (by decide) rfl rfl fl_SixWalls_Comb_18 (hP.a 2 rfl) ?_
  refine z_iload_n 1 (zdec DX1_addSide 2 rfl) rfl rfl ?_
  refine z_iald 4 (zdec DX1_addSide 3 rfl) rfl rfl ⟨by omega, by omega⟩ ?_
  refine z_bipush 6 (zdec DX1_addSide 4 rfl) (by decide) ?_
  refine z_icmp_lt 12 (zdec DX1_addSide 5 rfl) rfl (fun h8 => ?_) (fun h => absurd (by omega) h)
  refine z_iload_n 1 (zdec DX1_addSide 7 rfl) rfl rfl ?_
  refine z_bipush 6 (zdec DX1_addSide 8 rfl) (by decide) ?_
  refine z_imul (zdec DX1_addSide 9 rfl) (by unfold z32; omega) ?_
  refine z_aload_n 0 (zdec DX1_addSide 10 rfl) rfl rfl (by decide) ?_
  refine z_getr (rw1 := -11) (ki := 2) (r' := 4) 1 1 (zdec DX1_addSide 11 rfl) rfl rfl rfl rfl (by decide) rfl rfl fl_SixWalls_Comb_18 (hP.a 2 rfl) ?_
  refine z_iload_n 1 (zdec DX1_addSide 12 rfl) rfl rfl ?_
  refine z_iald 4 (zdec DX1_addSide 13 rfl) rfl rfl ⟨by omega, by omega⟩ ?_
  refine z_iadd (zdec DX1_addSide 14 rfl) (by unfold z32; omega) ?_
  refine z_istore (L' := [(0, .inr (.inr 1)), (1, .inl h), (2, .inl w), (3, .inl x), (4, .inl ((h * 6) + (M 4 h)))]) (zdec DX1_addSide 15 rfl) rfl (by decide) ?_
  refine z_aload_n 0 (zdec DX1_addSide 16 rfl) rfl rfl (by decide) ?_
  refine z_getr (rw1 := -11) (ki := 3) (r' := 5) 1 1 (zdec DX1_addSide 17 rfl) rfl rfl rfl rfl (by decide) rfl rfl fl_SixWalls_Comb_21 (hP.a 3 rfl) ?_
  refine z_iload 4 (zdec DX1_addSide 18 rfl) rfl ?_
  refine z_iload_n 2 (zdec DX1_addSide 19 rfl) rfl rfl ?_
  refine z_iast 5 (zdec DX1_addSide 20 rfl) rfl rfl ⟨by omega, by omega⟩ ?_
  refine z_aload_n 0 (zdec DX1_addSide 21 rfl) rfl rfl (by decide) ?_
  refine z_getr (rw1 := -11) (ki := 4) (r' := 6) 1 1 (zdec DX1_addSide 22 rfl) rfl rfl rfl rfl (by decide) rfl rfl fl_SixWalls_Comb_24 ((zD1_up hP (by decide)).a 4 rfl) ?_
  refine z_iload 4 (zdec DX1_addSide 23 rfl) rfl ?_
  refine z_iload_n 3 (zdec DX1_addSide 24 rfl) rfl rfl ?_
  refine z_iast 6 (zdec DX1_addSide 25 rfl) rfl rfl ⟨by omega, by omega⟩ ?_
  refine z_aload_n 0 (zdec DX1_addSide 26 rfl) rfl rfl (by decide) ?_
  refine z_getr (rw1 := -11) (ki := 2) (r' := 4) 1 1 (zdec DX1_addSide 27 rfl) rfl rfl rfl rfl (by decide) rfl rfl fl_SixWalls_Comb_18 ((zD1_up (zD1_up hP (by decide)) (by decide)).a 2 rfl) ?_
  refine z_iload_n 1 (zdec DX1_addSide 28 rfl) rfl rfl ?_
  refine z_dup2 (zdec DX1_addSide 29 rfl) rfl rfl ?_
  refine z_iald 4 (zdec DX1_addSide 30 rfl) rfl rfl ⟨by omega, by omega⟩ ?_
  rw [show (zup (zup M 5 ((h * 6) + (M 4 h)) w) 6 ((h * 6) + (M 4 h)) x) 4 h = M 4 h from by simp [zup, zcpy]]
  refine z_iconst 1 (zdec DX1_addSide 31 rfl) (by decide) ?_
  refine z_iadd (zdec DX1_addSide 32 rfl) (by unfold z32; omega) ?_
  refine z_iast 4 (zdec DX1_addSide 33 rfl) rfl rfl ⟨by omega, by omega⟩ ?_
  exact z_vret (zdec DX1_addSide 34 rfl) rfl (⟨rfl, rfl, rfl⟩)
set_option maxHeartbeats 4000000 in
theorem lp_X1_layWalls_68 {Q : zPost} {M : zMm} (hP : zD1 M)  (hx114 : ∀ (M2 : zMm), ((∀ c : Int, c < 2 ∨ 6 < c → M2 c = M c) ∧ zG M2) → zW mX1_layWalls 3 Q (0, 0) (zS0.take 14) 114 [] [] M2) : ∀ (n : Nat) (v : Int) (M2 : zMm), (33 - v).toNat < n → (0 ≤ v ∧ v ≤ 33 ∧ (∀ c : Int, c < 2 ∨ 6 < c → M2 c = M c) ∧ (∀ v : Int, 0 ≤ v → v < 33 → M2 2 v = zlow v ∧ M2 3 v = zhigh v) ∧ zSd (M2 4) (M2 5) (M2 6) (fun h => znb h v)) → zW mX1_layWalls 3 Q (0, 0) (zS0.take 14) 68 [(0, .inr (.inr 1)), (2, .inl v)] [] M2 := by
  intro n
  induction n with
  | zero => intro v M2 hn; exact absurd hn (Nat.not_lt_zero _)
  | succ n ih =>
    intro v M2 hn hI
    have lb := zlow_b v
    have lh := zhigh_b v
    have t := fun h => zsd_tI hI.1 h
    have ne := fun h => zlow_neI ⟨hI.1, h⟩
    have s4l := hI.2.2.2.2.1 _ lb.1 lb.2
    have s4h := hI.2.2.2.2.1 _ lh.1 lh.2
    dsimp only at s4l s4h
    refine z_iload_n 1 (zdec DX1_layWalls 39 rfl) rfl rfl ?_
    refine z_bipush 33 (zdec DX1_layWalls 40 rfl) (by decide) ?_
    refine z_icmp_ge 114 (zdec DX1_layWalls 41 rfl) rfl (fun h71 => ?_) (fun h71 => ?_)
    ·
      refine z_weak (L' := []) (by simp) ?_
      exact hx114 M2 (by have e : v = 33 := (by omega); subst e; exact ⟨hI.2.2.1, hI.2.2.2.2.G hI.2.2.2.1⟩)
    ·
      refine z_aload_n 0 (zdec DX1_layWalls 42 rfl) rfl rfl (by decide) ?_
      refine z_aload_n 0 (zdec DX1_layWalls 43 rfl) rfl rfl (by decide) ?_
      refine z_getr (rw1 := -11) (ki := 0) (r' := 2) 1 1 (zdec DX1_layWalls 44 rfl) rfl rfl rfl rfl (by decide) rfl rfl fl_SixWalls_Comb_9 ((zD1_of hP fun c hc => hI.2.2.1 c (by omega)).a 0 rfl) ?_
      refine z_iload_n 1 (zdec DX1_layWalls 45 rfl) rfl rfl ?_
      refine z_iald 2 (zdec DX1_layWalls 46 rfl) rfl rfl ⟨by omega, by omega⟩ ?_
      rw [(hI.2.2.2.1 v (by omega) (by omega)).1]
      refine z_iload_n 1 (zdec DX1_layWalls 47 rfl) rfl rfl ?_
      refine z_aload_n 0 (zdec DX1_layWalls 48 rfl) rfl rfl (by decide) ?_
      refine z_getr (rw1 := -11) (ki := 1) (r' := 3) 1 1 (zdec DX1_layWalls 49 rfl) rfl rfl rfl rfl (by decide) rfl rfl fl_SixWalls_Comb_15 ((zD1_of hP fun c hc => hI.2.2.1 c (by omega)).a 1 rfl) ?_
      refine z_iload_n 1 (zdec DX1_layWalls 50 rfl) rfl rfl ?_
      refine z_iald 3 (zdec DX1_layWalls 51 rfl) rfl rfl ⟨by omega, by omega⟩ ?_
      rw [(hI.2.2.2.1 v (by omega) (by omega)).2]
      refine z_inv mX1_addSide 1 1 [.inl (zlow v), .inl v, .inl (zhigh v)] (zdec DX1_layWalls 52 rfl) ml_SixWalls_Comb_62 okX1_addSide rfl rfl rfl rfl rfl rfl (Nat.le_of_ble_eq_true rfl) (Nat.le_of_ble_eq_true rfl) (b' := (0, 0)) ⟨Nat.le_refl 0, Nat.le_refl 0⟩ (Nat.le_of_ble_eq_true rfl) (cX1_addSide (zD1_of hP fun c hc => hI.2.2.1 c (by omega)) (zlow v) v (zhigh v) lb ⟨by omega, by have := (t (by omega)).1.1; omega⟩) (fun rv9 S9 M88 h9 => ?_)
      obtain ⟨rfl, rfl, e88⟩ := h9
      have r2 : M88 2 = M2 2 := by rw [e88, zup_row (by decide), zup_row (by decide), zup_row (by decide)]
      have r3 : M88 3 = M2 3 := by rw [e88, zup_row (by decide), zup_row (by decide), zup_row (by decide)]
      have r4 : M88 4 (zhigh v) = M2 4 (zhigh v) := by rw [e88, zup_ne (fun q => (ne (by omega)) q.symm), zup_row (by decide), zup_row (by decide)]
      change zW _ _ _ _ _ 91 [(0, .inr (.inr 1)), (2, .inl v)] [] M88
      refine z_aload_n 0 (zdec DX1_layWalls 53 rfl) rfl rfl (by decide) ?_
      refine z_aload_n 0 (zdec DX1_layWalls 54 rfl) rfl rfl (by decide) ?_
      refine z_getr (rw1 := -11) (ki := 1) (r' := 3) 1 1 (zdec DX1_layWalls 55 rfl) rfl rfl rfl rfl (by decide) rfl rfl fl_SixWalls_Comb_15 ((show zD1 M88 by rw [e88]; exact zD1_up (zD1_up (zD1_up (zD1_of hP fun c hc => hI.2.2.1 c (by omega)) (by decide)) (by decide)) (by decide)).a 1 rfl) ?_
      refine z_iload_n 1 (zdec DX1_layWalls 56 rfl) rfl rfl ?_
      refine z_iald 3 (zdec DX1_layWalls 57 rfl) rfl rfl ⟨by omega, by omega⟩ ?_
      rw [r3, (hI.2.2.2.1 v (by omega) (by omega)).2]
      refine z_iload_n 1 (zdec DX1_layWalls 58 rfl) rfl rfl ?_
      refine z_aload_n 0 (zdec DX1_layWalls 59 rfl) rfl rfl (by decide) ?_
      refine z_getr (rw1 := -11) (ki := 0) (r' := 2) 1 1 (zdec DX1_layWalls 60 rfl) rfl rfl rfl rfl (by decide) rfl rfl fl_SixWalls_Comb_9 ((show zD1 M88 by rw [e88]; exact zD1_up (zD1_up (zD1_up (zD1_of hP fun c hc => hI.2.2.1 c (by omega)) (by decide)) (by decide)) (by decide)).a 0 rfl) ?_
      refine z_iload_n 1 (zdec DX1_layWalls 61 rfl) rfl rfl ?_
      refine z_iald 2 (zdec DX1_layWalls 62 rfl) rfl rfl ⟨by omega, by omega⟩ ?_
      rw [r2, (hI.2.2.2.1 v (by omega) (by omega)).1]
      refine z_inv mX1_addSide 1 1 [.inl (zhigh v), .inl v, .inl (zlow v)] (zdec DX1_layWalls 63 rfl) ml_SixWalls_Comb_62 okX1_addSide rfl rfl rfl rfl rfl rfl (Nat.le_of_ble_eq_true rfl) (Nat.le_of_ble_eq_true rfl) (b' := (0, 0)) ⟨Nat.le_refl 0, Nat.le_refl 0⟩ (Nat.le_of_ble_eq_true rfl) (cX1_addSide (show zD1 M88 by rw [e88]; exact zD1_up (zD1_up (zD1_up (zD1_of hP fun c hc => hI.2.2.1 c (by omega)) (by decide)) (by decide)) (by decide)) (zhigh v) v (zlow v) lh ⟨by omega, by have := (t (by omega)).2.1; omega⟩) (fun rv9 S9 M105 h9 => ?_)
      obtain ⟨rfl, rfl, e105⟩ := h9
      change zW _ _ _ _ _ 108 [(0, .inr (.inr 1)), (2, .inl v)] [] M105
      refine z_iinc (L' := [(0, .inr (.inr 1)), (2, .inl (v + 1))]) 1 (zdec DX1_layWalls 64 rfl) rfl (by unfold z32; omega) rfl (by decide) ?_
      refine z_goto 68 (zdec DX1_layWalls 65 rfl) rfl ?_
      exact ih (v + 1) M105 (by omega) ⟨by omega, by omega, (fun c h => by rw [e105, zup_row (by omega), zup_row (by omega), zup_row (by omega), e88, zup_row (by omega), zup_row (by omega), zup_row (by omega)]; exact hI.2.2.1 c h), (fun u x y => by rw [e105, zup_row (c' := 2) (by decide), zup_row (c' := 2) (by decide), zup_row (c' := 2) (by decide), zup_row (c' := 3) (by decide), zup_row (c' := 3) (by decide), zup_row (c' := 3) (by decide), e88, zup_row (c' := 2) (by decide), zup_row (c' := 2) (by decide), zup_row (c' := 2) (by decide), zup_row (c' := 3) (by decide), zup_row (c' := 3) (by decide), zup_row (c' := 3) (by decide)]; exact hI.2.2.2.1 u x y), hI.2.2.2.2.go (R4' := M88 4) (R5' := M88 5) (R6' := M88 6) hI.1 (by omega) (by rw [e88, zup_zpu, zup_row (c' := 4) (by decide), zup_row (c' := 4) (by decide)]) (by rw [e88, zup_row (c' := 5) (by decide), zup_row (c' := 5) (by decide), zup_zpu]) (by rw [e88, zup_row (c' := 6) (by decide), zup_zpu, zup_row (c' := 6) (by decide)]) (by rw [e105, zup_zpu, zup_row (c' := 4) (by decide), zup_row (c' := 4) (by decide)]) (by rw [e105, zup_row (c' := 5) (by decide), zup_row (c' := 5) (by decide), zup_zpu]) (by rw [e105, zup_row (c' := 6) (by decide), zup_zpu, zup_row (c' := 6) (by decide)])⟩
set_option maxHeartbeats 4000000 in
theorem lp_X1_layWalls_14 {Q : zPost} {M : zMm} (hP : zD1 M) (a : Int) (ha : 0 ≤ a ∧ a < 16) (hx60 : ∀ (w2 : Int) (M3 : zMm), (w2 = zcw a 16 ∧ (∀ c : Int, c ≠ 2 → c ≠ 3 → M3 c = M c) ∧ ∀ v : Int, 0 ≤ v → v < w2 → M3 2 v = zlow v ∧ M3 3 v = zhigh v) → zW mX1_layWalls 3 Q (0, 0) (zS0.take 14) 60 [(0, .inr (.inr 1)), (1, .inl w2), (2, .inl a)] [] M3) : ∀ (n : Nat) (w2 : Int) (b : Int) (M3 : zMm), (16 - b).toNat < n → (a < b ∧ b ≤ 16 ∧ w2 = zcw a b ∧ (∀ c : Int, c ≠ 2 → c ≠ 3 → M3 c = M c) ∧ ∀ v : Int, 0 ≤ v → v < w2 → M3 2 v = zlow v ∧ M3 3 v = zhigh v) → zW mX1_layWalls 3 Q (0, 0) (zS0.take 14) 14 [(0, .inr (.inr 1)), (1, .inl w2), (2, .inl a), (3, .inl b)] [] M3 := by
  intro n
  induction n with
  | zero => intro w2 b M3 hn; exact absurd hn (Nat.not_lt_zero _)
  | succ n ih =>
    intro w2 b M3 hn hI
    have wb := zcw_b a b
    have t := fun h => zcw_tI ha.1 hI.1 h
    refine z_iload_n 3 (zdec DX1_layWalls 11 rfl) rfl rfl ?_
    refine z_bipush 16 (zdec DX1_layWalls 12 rfl) (by decide) ?_
    refine z_icmp_ge 60 (zdec DX1_layWalls 13 rfl) rfl (fun h17 => ?_) (fun h17 => ?_)
    ·
      refine z_weak (L' := [(0, .inr (.inr 1)), (1, .inl w2), (2, .inl a)]) (by simp) ?_
      exact hx60 w2 M3 (by have e : b = 16 := (by omega); subst e; exact hI.2.2)
    ·
      refine z_iload_n 1 (zdec DX1_layWalls 14 rfl) rfl rfl ?_
      refine z_bipush 33 (zdec DX1_layWalls 15 rfl) (by decide) ?_
      refine z_icmp_ge 54 (zdec DX1_layWalls 16 rfl) rfl (fun h23 => ?_) (fun h23 => ?_)
      ·
        refine z_iinc (L' := [(0, .inr (.inr 1)), (1, .inl w2), (2, .inl a), (3, .inl (b + 1))]) 3 (zdec DX1_layWalls 33 rfl) rfl (by unfold z32; omega) rfl (by decide) ?_
        refine z_goto 14 (zdec DX1_layWalls 34 rfl) rfl ?_
        exact ih w2 (b + 1) M3 (by omega) ⟨by omega, by omega, (by rw [hI.2.2.1, (t (by omega)).2 (fun q => by have := ((t (by omega)).1 q).1; omega)]), hI.2.2.2⟩
      ·
        refine z_iload_n 2 (zdec DX1_layWalls 17 rfl) rfl rfl ?_
        refine z_iload_n 3 (zdec DX1_layWalls 18 rfl) rfl rfl ?_
        refine z_invs mX1_beside [.inl a, .inl b] (zdec DX1_layWalls 19 rfl) (Or.inl ml_SixWalls_Comb_58) okX1_beside rfl rfl (Nat.le_of_ble_eq_true rfl) (Nat.le_of_ble_eq_true rfl) (b' := (0, 0)) ⟨Nat.le_refl 0, Nat.le_refl 0⟩ (Nat.le_of_ble_eq_true rfl) (cX1_beside a b ⟨by omega, by omega⟩ ⟨by omega, by omega⟩) (fun rv9 S9 M28 h9 => ?_)
        obtain ⟨rfl, rfl, rfl⟩ := h9
        change zW _ _ _ _ _ 31 [(0, .inr (.inr 1)), (1, .inl w2), (2, .inl a), (3, .inl b)] [.inl (zbsd a b)] M3
        refine z_if_ne 37 (zdec DX1_layWalls 20 rfl) rfl (fun h31 => ?_) (fun h31 => ?_)
        ·
          have q31 : zbsd a b = 1 := by have h31b := h31; unfold zbsd at h31b ⊢; repeat (first | split at h31b | split); all_goals first | rfl | omega
          refine z_aload_n 0 (zdec DX1_layWalls 22 rfl) rfl rfl (by decide) ?_
          refine z_getr (rw1 := -11) (ki := 0) (r' := 2) 1 1 (zdec DX1_layWalls 23 rfl) rfl rfl rfl rfl (by decide) rfl rfl fl_SixWalls_Comb_9 ((zD1_of hP fun c hc => hI.2.2.2.1 c (by omega) (by omega)).a 0 rfl) ?_
          refine z_iload_n 1 (zdec DX1_layWalls 24 rfl) rfl rfl ?_
          refine z_iload_n 2 (zdec DX1_layWalls 25 rfl) rfl rfl ?_
          refine z_iast 2 (zdec DX1_layWalls 26 rfl) rfl rfl ⟨by omega, by omega⟩ ?_
          refine z_aload_n 0 (zdec DX1_layWalls 27 rfl) rfl rfl (by decide) ?_
          refine z_getr (rw1 := -11) (ki := 1) (r' := 3) 1 1 (zdec DX1_layWalls 28 rfl) rfl rfl rfl rfl (by decide) rfl rfl fl_SixWalls_Comb_15 ((zD1_up (zD1_of hP fun c hc => hI.2.2.2.1 c (by omega) (by omega)) (by decide)).a 1 rfl) ?_
          refine z_iload_n 1 (zdec DX1_layWalls 29 rfl) rfl rfl ?_
          refine z_iload_n 3 (zdec DX1_layWalls 30 rfl) rfl rfl ?_
          refine z_iast 3 (zdec DX1_layWalls 31 rfl) rfl rfl ⟨by omega, by omega⟩ ?_
          refine z_iinc (L' := [(0, .inr (.inr 1)), (1, .inl (w2 + 1)), (2, .inl a), (3, .inl b)]) 1 (zdec DX1_layWalls 32 rfl) rfl (by unfold z32; omega) rfl (by decide) ?_
          refine z_iinc (L' := [(0, .inr (.inr 1)), (1, .inl (w2 + 1)), (2, .inl a), (3, .inl (b + 1))]) 3 (zdec DX1_layWalls 33 rfl) rfl (by unfold z32; omega) rfl (by decide) ?_
          refine z_goto 14 (zdec DX1_layWalls 34 rfl) rfl ?_
          exact ih (w2 + 1) (b + 1) (zup (zup M3 2 w2 a) 3 w2 b) (by omega) (by have z1 : zbsd a b = 1 := q31; have t1 := (t (by omega)).1 z1; rw [← hI.2.2.1] at t1; exact ⟨by omega, by omega, t1.2.2.2.symm, (fun c x y => by rw [zup_row y, zup_row x]; exact hI.2.2.2.1 c x y), fun v x y => (by by_cases e : v = w2; (subst e; rw [zup_row (c' := 2) (by decide), zup_self, zup_self]; exact ⟨t1.2.1.symm, t1.2.2.1.symm⟩); (rw [zup_row (c' := 2) (by decide), zup_ne e, zup_ne e, zup_row (c' := 3) (by decide)]; exact hI.2.2.2.2 v x (by omega)))⟩)
        ·
          refine z_goto 54 (zdec DX1_layWalls 21 rfl) rfl ?_
          refine z_iinc (L' := [(0, .inr (.inr 1)), (1, .inl w2), (2, .inl a), (3, .inl (b + 1))]) 3 (zdec DX1_layWalls 33 rfl) rfl (by unfold z32; omega) rfl (by decide) ?_
          refine z_goto 14 (zdec DX1_layWalls 34 rfl) rfl ?_
          exact ih w2 (b + 1) M3 (by omega) ⟨by omega, by omega, (by rw [hI.2.2.1, (t (by omega)).2 (by omega)]), hI.2.2.2⟩
set_option maxHeartbeats 4000000 in
theorem lp_X1_layWalls_4 {Q : zPost} {M : zMm} (hP : zD1 M)  (hx66 : ∀ (M2 : zMm), ((∀ c : Int, c ≠ 2 → c ≠ 3 → M2 c = M c) ∧ ∀ v : Int, 0 ≤ v → v < 33 → M2 2 v = zlow v ∧ M2 3 v = zhigh v) → zW mX1_layWalls 3 Q (0, 0) (zS0.take 14) 66 [(0, .inr (.inr 1))] [] M2) : ∀ (n : Nat) (w : Int) (a : Int) (M2 : zMm), (16 - a).toNat < n → (0 ≤ a ∧ a ≤ 16 ∧ w = zcw a (a + 1) ∧ (∀ c : Int, c ≠ 2 → c ≠ 3 → M2 c = M c) ∧ ∀ v : Int, 0 ≤ v → v < w → M2 2 v = zlow v ∧ M2 3 v = zhigh v) → zW mX1_layWalls 3 Q (0, 0) (zS0.take 14) 4 [(0, .inr (.inr 1)), (1, .inl w), (2, .inl a)] [] M2 := by
  intro n
  induction n with
  | zero => intro w a M2 hn; exact absurd hn (Nat.not_lt_zero _)
  | succ n ih =>
    intro w a M2 hn hI
    refine z_iload_n 2 (zdec DX1_layWalls 4 rfl) rfl rfl ?_
    refine z_bipush 16 (zdec DX1_layWalls 5 rfl) (by decide) ?_
    refine z_icmp_ge 66 (zdec DX1_layWalls 6 rfl) rfl (fun h7 => ?_) (fun h7 => ?_)
    ·
      refine z_weak (L' := [(0, .inr (.inr 1))]) (by simp) ?_
      exact hx66 M2 (by have e : a = 16 := (by omega); subst e; have ew := hI.2.2.1; rw [zcw_16] at ew; subst ew; exact hI.2.2.2)
    ·
      refine z_iload_n 2 (zdec DX1_layWalls 7 rfl) rfl rfl ?_
      refine z_iconst 1 (zdec DX1_layWalls 8 rfl) (by decide) ?_
      refine z_iadd (zdec DX1_layWalls 9 rfl) (by unfold z32; omega) ?_
      refine z_istore_n (L' := [(0, .inr (.inr 1)), (1, .inl w), (2, .inl a), (3, .inl (a + 1))]) (zdec DX1_layWalls 10 rfl) rfl rfl (by decide) ?_
      refine lp_X1_layWalls_14 hP a ⟨by omega, by omega⟩ (hx60 := fun w2 M3 hy => ?_) _ w (a + 1) M2 (Nat.lt_succ_self _) ⟨by omega, by omega, hI.2.2.1, hI.2.2.2⟩
      refine z_iinc (L' := [(0, .inr (.inr 1)), (1, .inl w2), (2, .inl (a + 1))]) 2 (zdec DX1_layWalls 35 rfl) rfl (by unfold z32; omega) rfl (by decide) ?_
      refine z_goto 4 (zdec DX1_layWalls 36 rfl) rfl ?_
      exact ih w2 (a + 1) M3 (by omega) ⟨by omega, by omega, by rw [hy.1]; exact zcw_eI hI.1 (by omega), hy.2⟩
set_option maxHeartbeats 4000000 in
theorem cX1_layWalls {M : zMm} (hP : zD1 M) (hz : zZr [2, 3, 4, 5, 6] M) : zW mX1_layWalls 3 (fun rv S' M' => S' = zS0.take 14 ∧ rv = none ∧ (∀ c : Int, c < 2 ∨ 6 < c → M' c = M c) ∧ zG M') (0, 0) (zS0.take 14) 0 (zargs 0 [.inr (.inr 1)]) [] M := by
  change zW _ _ _ _ _ 0 [(0, .inr (.inr 1))] [] M
  refine z_iconst 0 (zdec DX1_layWalls 0 rfl) (by decide) ?_
  refine z_istore_n (L' := [(0, .inr (.inr 1)), (1, .inl 0)]) (zdec DX1_layWalls 1 rfl) rfl rfl (by decide) ?_
  refine z_iconst 0 (zdec DX1_layWalls 2 rfl) (by decide) ?_
  refine z_istore_n (L' := [(0, .inr (.inr 1)), (1, .inl 0), (2, .inl 0)]) (zdec DX1_layWalls 3 rfl) rfl rfl (by decide) ?_
  refine lp_X1_layWalls_4 hP (hx66 := fun M2 hx => ?_) _ 0 0 M (Nat.lt_succ_self _) ⟨by omega, by omega, zcw_0.symm, (fun c _ _ => rfl), fun v x y => by omega⟩
  refine z_iconst 0 (zdec DX1_layWalls 37 rfl) (by decide) ?_
  refine z_istore_n (L' := [(0, .inr (.inr 1)), (2, .inl 0)]) (zdec DX1_layWalls 38 rfl) rfl rfl (by decide) ?_
  refine lp_X1_layWalls_68 hP (hx114 := fun M2 hz2 => ?_) _ 0 M2 (Nat.lt_succ_self _) ⟨by omega, by omega, (fun c h => hx.1 c (by omega) (by omega)), hx.2, ⟨fun h a b => by rw [hx.1 4 (by decide) (by decide), hz 4 (by decide)]; exact ⟨rfl, Int.le_refl _⟩, fun h s a b c d => by rw [hx.1 5 (by decide) (by decide), hx.1 6 (by decide) (by decide), hz 5 (by decide), hz 6 (by decide)]; exact ⟨(if_neg (by show ¬ s < 0; omega)).symm, (if_neg (by show ¬ s < 0; omega)).symm⟩⟩⟩
  exact z_vret (zdec DX1_layWalls 66 rfl) rfl (⟨rfl, rfl, hz2⟩)
set_option maxHeartbeats 4000000 in
theorem lp_X1_init_149 {Q : zPost} {MB : zMm} (hPMB : zD1 MB) (hx168 : ∀ (M3 : zMm), ((∀ c : Int, c ≠ 11 → M3 c = MB c) ∧ ∀ k : Int, 0 ≤ k → k < 33 → M3 11 k = 3) → zW mX1_init 4 Q (0, 0) (zS0.take 14) 168 [(0, .inr (.inr 1))] [] M3) : ∀ (n : Nat) (w : Int) (M3 : zMm), (33 - w).toNat < n → (0 ≤ w ∧ w ≤ 33 ∧ (∀ c : Int, c ≠ 11 → M3 c = MB c) ∧ ∀ k : Int, 0 ≤ k → k < w → M3 11 k = 3) → zW mX1_init 4 Q (0, 0) (zS0.take 14) 149 [(0, .inr (.inr 1)), (1, .inl w)] [] M3 := by
  intro n
  induction n with
  | zero => intro w M3 hn; exact absurd hn (Nat.not_lt_zero _)
  | succ n ih =>
    intro w M3 hn hI
    refine z_iload_n 1 (zdec DX1_init 80 rfl) rfl rfl ?_
    refine z_bipush 33 (zdec DX1_init 81 rfl) (by decide) ?_
    refine z_icmp_ge 168 (zdec DX1_init 82 rfl) rfl (fun h152 => ?_) (fun h152 => ?_)
    ·
      refine z_weak (L' := [(0, .inr (.inr 1))]) (by simp) ?_
      exact hx168 M3 ⟨hI.2.2.1, fun k a b => hI.2.2.2 k a (by omega)⟩
    ·
      refine z_aload_n 0 (zdec DX1_init 83 rfl) rfl rfl (by decide) ?_
      refine z_getr (rw1 := -11) (ki := 9) (r' := 11) 1 1 (zdec DX1_init 84 rfl) rfl rfl rfl rfl (by decide) rfl rfl fl_SixWalls_Comb_39 ((zD1_of hPMB fun c hc => hI.2.2.1 c (by omega)).a 9 rfl) ?_
      refine z_iload_n 1 (zdec DX1_init 85 rfl) rfl rfl ?_
      refine z_iconst 3 (zdec DX1_init 86 rfl) (by decide) ?_
      refine z_iast 11 (zdec DX1_init 87 rfl) rfl rfl ⟨by omega, by omega⟩ ?_
      refine z_iinc (L' := [(0, .inr (.inr 1)), (1, .inl (w + 1))]) 1 (zdec DX1_init 88 rfl) rfl (by unfold z32; omega) rfl (by decide) ?_
      refine z_goto 149 (zdec DX1_init 89 rfl) rfl ?_
      exact ih (w + 1) (zup M3 11 w 3) (by omega) ⟨by omega, by omega, (fun c a => by rw [zup_row a]; exact hI.2.2.1 c a), fun k a b => (by by_cases e : k = w; (subst e; rw [zup_self]); (rw [zup_ne e]; exact hI.2.2.2 k a (by omega)))⟩
set_option maxHeartbeats 4000000 in
theorem lp_X1_init_113 {Q : zPost} {MA : zMm} (hPMA : zD1 MA) (hx147 : ∀ (M2 : zMm), ((∀ c : Int, c ≠ 7 → c ≠ 9 → c ≠ 10 → M2 c = MA c) ∧ ∀ k : Int, 0 ≤ k → k < 16 → M2 7 k = 1 ∧ M2 9 k = 20 ∧ M2 10 k = 4) → zW mX1_init 4 Q (0, 0) (zS0.take 14) 147 [(0, .inr (.inr 1))] [] M2) : ∀ (n : Nat) (h : Int) (M2 : zMm), (16 - h).toNat < n → (0 ≤ h ∧ h ≤ 16 ∧ (∀ c : Int, c ≠ 7 → c ≠ 9 → c ≠ 10 → M2 c = MA c) ∧ ∀ k : Int, 0 ≤ k → k < h → M2 7 k = 1 ∧ M2 9 k = 20 ∧ M2 10 k = 4) → zW mX1_init 4 Q (0, 0) (zS0.take 14) 113 [(0, .inr (.inr 1)), (1, .inl h)] [] M2 := by
  intro n
  induction n with
  | zero => intro h M2 hn; exact absurd hn (Nat.not_lt_zero _)
  | succ n ih =>
    intro h M2 hn hI
    refine z_iload_n 1 (zdec DX1_init 58 rfl) rfl rfl ?_
    refine z_bipush 16 (zdec DX1_init 59 rfl) (by decide) ?_
    refine z_icmp_ge 147 (zdec DX1_init 60 rfl) rfl (fun h116 => ?_) (fun h116 => ?_)
    ·
      refine z_weak (L' := [(0, .inr (.inr 1))]) (by simp) ?_
      exact hx147 M2 ⟨hI.2.2.1, fun k a b => hI.2.2.2 k a (by omega)⟩
    ·
      refine z_aload_n 0 (zdec DX1_init 61 rfl) rfl rfl (by decide) ?_
      refine z_getr (rw1 := -11) (ki := 5) (r' := 7) 1 1 (zdec DX1_init 62 rfl) rfl rfl rfl rfl (by decide) rfl rfl fl_SixWalls_Comb_27 ((zD1_of hPMA fun c hc => hI.2.2.1 c (by omega) (by omega) (by omega)).a 5 rfl) ?_
      refine z_iload_n 1 (zdec DX1_init 63 rfl) rfl rfl ?_
      refine z_iconst 1 (zdec DX1_init 64 rfl) (by decide) ?_
      refine z_iast 7 (zdec DX1_init 65 rfl) rfl rfl ⟨by omega, by omega⟩ ?_
      refine z_aload_n 0 (zdec DX1_init 66 rfl) rfl rfl (by decide) ?_
      refine z_getr (rw1 := -11) (ki := 7) (r' := 9) 1 1 (zdec DX1_init 67 rfl) rfl rfl rfl rfl (by decide) rfl rfl fl_SixWalls_Comb_33 ((zD1_up (zD1_of hPMA fun c hc => hI.2.2.1 c (by omega) (by omega) (by omega)) (by decide)).a 7 rfl) ?_
      refine z_iload_n 1 (zdec DX1_init 68 rfl) rfl rfl ?_
      refine z_bipush 20 (zdec DX1_init 69 rfl) (by decide) ?_
      refine z_iast 9 (zdec DX1_init 70 rfl) rfl rfl ⟨by omega, by omega⟩ ?_
      refine z_aload_n 0 (zdec DX1_init 71 rfl) rfl rfl (by decide) ?_
      refine z_getr (rw1 := -11) (ki := 8) (r' := 10) 1 1 (zdec DX1_init 72 rfl) rfl rfl rfl rfl (by decide) rfl rfl fl_SixWalls_Comb_36 ((zD1_up (zD1_up (zD1_of hPMA fun c hc => hI.2.2.1 c (by omega) (by omega) (by omega)) (by decide)) (by decide)).a 8 rfl) ?_
      refine z_iload_n 1 (zdec DX1_init 73 rfl) rfl rfl ?_
      refine z_iconst 4 (zdec DX1_init 74 rfl) (by decide) ?_
      refine z_iast 10 (zdec DX1_init 75 rfl) rfl rfl ⟨by omega, by omega⟩ ?_
      refine z_iinc (L' := [(0, .inr (.inr 1)), (1, .inl (h + 1))]) 1 (zdec DX1_init 76 rfl) rfl (by unfold z32; omega) rfl (by decide) ?_
      refine z_goto 113 (zdec DX1_init 77 rfl) rfl ?_
      exact ih (h + 1) (zup (zup (zup M2 7 h 1) 9 h 20) 10 h 4) (by omega) ⟨by omega, by omega, (fun c a b d => by rw [zup_row d, zup_row b, zup_row a]; exact hI.2.2.1 c a b d), fun k a b => (by rw [zup_row (c' := 7) (by decide), zup_row (c' := 7) (by decide), zup_zpu, zup_row (c' := 9) (by decide), zup_zpu, zup_row (c' := 9) (by decide), zup_zpu, zup_row (c' := 10) (by decide), zup_row (c' := 10) (by decide)]; by_cases e : k = h; (subst e; rw [zpu_s, zpu_s, zpu_s]; exact ⟨rfl, rfl, rfl⟩); (rw [zpu_n e, zpu_n e, zpu_n e]; exact hI.2.2.2 k a (by omega)))⟩
set_option maxHeartbeats 4000000 in
theorem cX1_init {M : zMm} : zW mX1_init 4 (fun rv S' M' => S' = zS0.take 14 ∧ rv = none ∧ zFk 1 M M' ∧ zPt [((-11), 0, 2), ((-11), 1, 3), ((-11), 2, 4), ((-11), 3, 5), ((-11), 4, 6), ((-11), 5, 7), ((-11), 6, 8), ((-11), 7, 9), ((-11), 8, 10), ((-11), 9, 11), ((-11), 10, 12), ((-11), 11, 13), (1, 12, 2), (1, 13, 30)] M' ∧ zZr [8, 12, 13] M' ∧ zG M' ∧ (∀ h : Int, 0 ≤ h → h < 16 → M' 7 h = 1 ∧ M' 9 h = 20 ∧ M' 10 h = 4) ∧ ∀ w : Int, 0 ≤ w → w < 33 → M' 11 w = 3) (12, 437) (zS0.take 2) 0 (zargs 0 [.inr (.inr 1)]) [] M := by
  change zW _ _ _ _ _ 0 [(0, .inr (.inr 1))] [] M
  refine z_aload_n 0 (zdec DX1_init 0 rfl) rfl rfl (by decide) ?_
  refine z_objInit (zdec DX1_init 1 rfl) ml_SixWalls_Comb_3 zoi1 zoi2 (by decide) (by decide) rfl ?_
  refine z_aload_n 0 (zdec DX1_init 2 rfl) rfl rfl (by decide) ?_
  refine z_bipush 33 (zdec DX1_init 3 rfl) (by decide) ?_
  refine z_newa (b := (11, 404)) 0 (n := 33) (zdec DX1_init 4 rfl) (Or.inl ⟨rfl, rfl⟩) zac_0 rfl (by decide) ?_
  change zW _ _ _ _ (zS0.take 3) 9 [(0, .inr (.inr 1))] [.inr (.inr 2), .inr (.inr 1)] (znew M 2)
  refine z_putr (rw1 := -11) (ki := 0) 1 1 (zdec DX1_init 5 rfl) rfl rfl rfl rfl (by decide) rfl rfl fl_SixWalls_Comb_9 (Or.inr ⟨rfl, rfl⟩) ?_
  refine z_aload_n 0 (zdec DX1_init 6 rfl) rfl rfl (by decide) ?_
  refine z_bipush 33 (zdec DX1_init 7 rfl) (by decide) ?_
  refine z_newa (b := (10, 371)) 0 (n := 33) (zdec DX1_init 8 rfl) (Or.inl ⟨rfl, rfl⟩) zac_0 rfl (by decide) ?_
  change zW _ _ _ _ (zS0.take 4) 17 [(0, .inr (.inr 1))] [.inr (.inr 3), .inr (.inr 1)] (znew (zup (znew M 2) (-11) 0 2) 3)
  refine z_putr (rw1 := -11) (ki := 1) 1 1 (zdec DX1_init 9 rfl) rfl rfl rfl rfl (by decide) rfl rfl fl_SixWalls_Comb_15 (Or.inr ⟨rfl, rfl⟩) ?_
  refine z_aload_n 0 (zdec DX1_init 10 rfl) rfl rfl (by decide) ?_
  refine z_bipush 16 (zdec DX1_init 11 rfl) (by decide) ?_
  refine z_newa (b := (9, 355)) 0 (n := 16) (zdec DX1_init 12 rfl) (Or.inl ⟨rfl, rfl⟩) zac_0 rfl (by decide) ?_
  change zW _ _ _ _ (zS0.take 5) 25 [(0, .inr (.inr 1))] [.inr (.inr 4), .inr (.inr 1)] (znew (zup (znew (zup (znew M 2) (-11) 0 2) 3) (-11) 1 3) 4)
  refine z_putr (rw1 := -11) (ki := 2) 1 1 (zdec DX1_init 13 rfl) rfl rfl rfl rfl (by decide) rfl rfl fl_SixWalls_Comb_18 (Or.inr ⟨rfl, rfl⟩) ?_
  refine z_aload_n 0 (zdec DX1_init 14 rfl) rfl rfl (by decide) ?_
  refine z_bipush 96 (zdec DX1_init 15 rfl) (by decide) ?_
  refine z_newa (b := (8, 259)) 0 (n := 96) (zdec DX1_init 16 rfl) (Or.inl ⟨rfl, rfl⟩) zac_0 rfl (by decide) ?_
  change zW _ _ _ _ (zS0.take 6) 33 [(0, .inr (.inr 1))] [.inr (.inr 5), .inr (.inr 1)] (znew (zup (znew (zup (znew (zup (znew M 2) (-11) 0 2) 3) (-11) 1 3) 4) (-11) 2 4) 5)
  refine z_putr (rw1 := -11) (ki := 3) 1 1 (zdec DX1_init 17 rfl) rfl rfl rfl rfl (by decide) rfl rfl fl_SixWalls_Comb_21 (Or.inr ⟨rfl, rfl⟩) ?_
  refine z_aload_n 0 (zdec DX1_init 18 rfl) rfl rfl (by decide) ?_
  refine z_bipush 96 (zdec DX1_init 19 rfl) (by decide) ?_
  refine z_newa (b := (7, 163)) 0 (n := 96) (zdec DX1_init 20 rfl) (Or.inl ⟨rfl, rfl⟩) zac_0 rfl (by decide) ?_
  change zW _ _ _ _ (zS0.take 7) 41 [(0, .inr (.inr 1))] [.inr (.inr 6), .inr (.inr 1)] (znew (zup (znew (zup (znew (zup (znew (zup (znew M 2) (-11) 0 2) 3) (-11) 1 3) 4) (-11) 2 4) 5) (-11) 3 5) 6)
  refine z_putr (rw1 := -11) (ki := 4) 1 1 (zdec DX1_init 21 rfl) rfl rfl rfl rfl (by decide) rfl rfl fl_SixWalls_Comb_24 (Or.inr ⟨rfl, rfl⟩) ?_
  refine z_aload_n 0 (zdec DX1_init 22 rfl) rfl rfl (by decide) ?_
  refine z_bipush 16 (zdec DX1_init 23 rfl) (by decide) ?_
  refine z_newa (b := (6, 147)) 0 (n := 16) (zdec DX1_init 24 rfl) (Or.inl ⟨rfl, rfl⟩) zac_0 rfl (by decide) ?_
  change zW _ _ _ _ (zS0.take 8) 49 [(0, .inr (.inr 1))] [.inr (.inr 7), .inr (.inr 1)] (znew (zup (znew (zup (znew (zup (znew (zup (znew (zup (znew M 2) (-11) 0 2) 3) (-11) 1 3) 4) (-11) 2 4) 5) (-11) 3 5) 6) (-11) 4 6) 7)
  refine z_putr (rw1 := -11) (ki := 5) 1 1 (zdec DX1_init 25 rfl) rfl rfl rfl rfl (by decide) rfl rfl fl_SixWalls_Comb_27 (Or.inr ⟨rfl, rfl⟩) ?_
  refine z_aload_n 0 (zdec DX1_init 26 rfl) rfl rfl (by decide) ?_
  refine z_bipush 16 (zdec DX1_init 27 rfl) (by decide) ?_
  refine z_newa (b := (5, 131)) 0 (n := 16) (zdec DX1_init 28 rfl) (Or.inl ⟨rfl, rfl⟩) zac_0 rfl (by decide) ?_
  change zW _ _ _ _ (zS0.take 9) 57 [(0, .inr (.inr 1))] [.inr (.inr 8), .inr (.inr 1)] (znew (zup (znew (zup (znew (zup (znew (zup (znew (zup (znew (zup (znew M 2) (-11) 0 2) 3) (-11) 1 3) 4) (-11) 2 4) 5) (-11) 3 5) 6) (-11) 4 6) 7) (-11) 5 7) 8)
  refine z_putr (rw1 := -11) (ki := 6) 1 1 (zdec DX1_init 29 rfl) rfl rfl rfl rfl (by decide) rfl rfl fl_SixWalls_Comb_30 (Or.inr ⟨rfl, rfl⟩) ?_
  refine z_aload_n 0 (zdec DX1_init 30 rfl) rfl rfl (by decide) ?_
  refine z_bipush 16 (zdec DX1_init 31 rfl) (by decide) ?_
  refine z_newa (b := (4, 115)) 0 (n := 16) (zdec DX1_init 32 rfl) (Or.inl ⟨rfl, rfl⟩) zac_0 rfl (by decide) ?_
  change zW _ _ _ _ (zS0.take 10) 65 [(0, .inr (.inr 1))] [.inr (.inr 9), .inr (.inr 1)] (znew (zup (znew (zup (znew (zup (znew (zup (znew (zup (znew (zup (znew (zup (znew M 2) (-11) 0 2) 3) (-11) 1 3) 4) (-11) 2 4) 5) (-11) 3 5) 6) (-11) 4 6) 7) (-11) 5 7) 8) (-11) 6 8) 9)
  refine z_putr (rw1 := -11) (ki := 7) 1 1 (zdec DX1_init 33 rfl) rfl rfl rfl rfl (by decide) rfl rfl fl_SixWalls_Comb_33 (Or.inr ⟨rfl, rfl⟩) ?_
  refine z_aload_n 0 (zdec DX1_init 34 rfl) rfl rfl (by decide) ?_
  refine z_bipush 16 (zdec DX1_init 35 rfl) (by decide) ?_
  refine z_newa (b := (3, 99)) 0 (n := 16) (zdec DX1_init 36 rfl) (Or.inl ⟨rfl, rfl⟩) zac_0 rfl (by decide) ?_
  change zW _ _ _ _ (zS0.take 11) 73 [(0, .inr (.inr 1))] [.inr (.inr 10), .inr (.inr 1)] (znew (zup (znew (zup (znew (zup (znew (zup (znew (zup (znew (zup (znew (zup (znew (zup (znew M 2) (-11) 0 2) 3) (-11) 1 3) 4) (-11) 2 4) 5) (-11) 3 5) 6) (-11) 4 6) 7) (-11) 5 7) 8) (-11) 6 8) 9) (-11) 7 9) 10)
  refine z_putr (rw1 := -11) (ki := 8) 1 1 (zdec DX1_init 37 rfl) rfl rfl rfl rfl (by decide) rfl rfl fl_SixWalls_Comb_36 (Or.inr ⟨rfl, rfl⟩) ?_
  refine z_aload_n 0 (zdec DX1_init 38 rfl) rfl rfl (by decide) ?_
  refine z_bipush 33 (zdec DX1_init 39 rfl) (by decide) ?_
  refine z_newa (b := (2, 66)) 0 (n := 33) (zdec DX1_init 40 rfl) (Or.inl ⟨rfl, rfl⟩) zac_0 rfl (by decide) ?_
  change zW _ _ _ _ (zS0.take 12) 81 [(0, .inr (.inr 1))] [.inr (.inr 11), .inr (.inr 1)] (znew (zup (znew (zup (znew (zup (znew (zup (znew (zup (znew (zup (znew (zup (znew (zup (znew (zup (znew M 2) (-11) 0 2) 3) (-11) 1 3) 4) (-11) 2 4) 5) (-11) 3 5) 6) (-11) 4 6) 7) (-11) 5 7) 8) (-11) 6 8) 9) (-11) 7 9) 10) (-11) 8 10) 11)
  refine z_putr (rw1 := -11) (ki := 9) 1 1 (zdec DX1_init 41 rfl) rfl rfl rfl rfl (by decide) rfl rfl fl_SixWalls_Comb_39 (Or.inr ⟨rfl, rfl⟩) ?_
  refine z_aload_n 0 (zdec DX1_init 42 rfl) rfl rfl (by decide) ?_
  refine z_bipush 33 (zdec DX1_init 43 rfl) (by decide) ?_
  refine z_newa (b := (1, 33)) 0 (n := 33) (zdec DX1_init 44 rfl) (Or.inl ⟨rfl, rfl⟩) zac_0 rfl (by decide) ?_
  change zW _ _ _ _ (zS0.take 13) 89 [(0, .inr (.inr 1))] [.inr (.inr 12), .inr (.inr 1)] (znew (zup (znew (zup (znew (zup (znew (zup (znew (zup (znew (zup (znew (zup (znew (zup (znew (zup (znew (zup (znew M 2) (-11) 0 2) 3) (-11) 1 3) 4) (-11) 2 4) 5) (-11) 3 5) 6) (-11) 4 6) 7) (-11) 5 7) 8) (-11) 6 8) 9) (-11) 7 9) 10) (-11) 8 10) 11) (-11) 9 11) 12)
  refine z_putr (rw1 := -11) (ki := 10) 1 1 (zdec DX1_init 45 rfl) rfl rfl rfl rfl (by decide) rfl rfl fl_SixWalls_Comb_42 (Or.inr ⟨rfl, rfl⟩) ?_
  refine z_aload_n 0 (zdec DX1_init 46 rfl) rfl rfl (by decide) ?_
  refine z_bipush 33 (zdec DX1_init 47 rfl) (by decide) ?_
  refine z_newa (b := (0, 0)) 0 (n := 33) (zdec DX1_init 48 rfl) (Or.inl ⟨rfl, rfl⟩) zac_0 rfl (by decide) ?_
  change zW _ _ _ _ (zS0.take 14) 97 [(0, .inr (.inr 1))] [.inr (.inr 13), .inr (.inr 1)] (znew (zup (znew (zup (znew (zup (znew (zup (znew (zup (znew (zup (znew (zup (znew (zup (znew (zup (znew (zup (znew (zup (znew M 2) (-11) 0 2) 3) (-11) 1 3) 4) (-11) 2 4) 5) (-11) 3 5) 6) (-11) 4 6) 7) (-11) 5 7) 8) (-11) 6 8) 9) (-11) 7 9) 10) (-11) 8 10) 11) (-11) 9 11) 12) (-11) 10 12) 13)
  refine z_putr (rw1 := -11) (ki := 11) 1 1 (zdec DX1_init 49 rfl) rfl rfl rfl rfl (by decide) rfl rfl fl_SixWalls_Comb_45 (Or.inr ⟨rfl, rfl⟩) ?_
  refine z_aload_n 0 (zdec DX1_init 50 rfl) rfl rfl (by decide) ?_
  refine z_iconst 2 (zdec DX1_init 51 rfl) (by decide) ?_
  refine z_puti (ki := 12) 1 1 (zdec DX1_init 52 rfl) rfl rfl rfl (by decide) rfl rfl fl_SixWalls_Comb_48 (Or.inl rfl) ?_
  refine z_aload_n 0 (zdec DX1_init 53 rfl) rfl rfl (by decide) ?_
  refine z_bipush 30 (zdec DX1_init 54 rfl) (by decide) ?_
  refine z_puti (ki := 13) 1 1 (zdec DX1_init 55 rfl) rfl rfl rfl (by decide) rfl rfl fl_SixWalls_Comb_52 (Or.inl rfl) ?_
  obtain ⟨MA, eMA⟩ : ∃ x, x = zup (zup (zup (znew (zup (znew (zup (znew (zup (znew (zup (znew (zup (znew (zup (znew (zup (znew (zup (znew (zup (znew (zup (znew (zup (znew M 2) (-11) 0 2) 3) (-11) 1 3) 4) (-11) 2 4) 5) (-11) 3 5) 6) (-11) 4 6) 7) (-11) 5 7) 8) (-11) 6 8) 9) (-11) 7 9) 10) (-11) 8 10) 11) (-11) 9 11) 12) (-11) 10 12) 13) (-11) 11 13) 1 12 2) 1 13 30 := ⟨_, rfl⟩
  have hPMA : zD1 MA := by rw [eMA]; exact List.forall_mem_cons.mpr ⟨by simp [zup, znew], List.forall_mem_cons.mpr ⟨by simp [zup, znew], List.forall_mem_cons.mpr ⟨by simp [zup, znew], List.forall_mem_cons.mpr ⟨by simp [zup, znew], List.forall_mem_cons.mpr ⟨by simp [zup, znew], List.forall_mem_cons.mpr ⟨by simp [zup, znew], List.forall_mem_cons.mpr ⟨by simp [zup, znew], List.forall_mem_cons.mpr ⟨by simp [zup, znew], List.forall_mem_cons.mpr ⟨by simp [zup, znew], List.forall_mem_cons.mpr ⟨by simp [zup, znew], List.forall_mem_cons.mpr ⟨by simp [zup, znew], List.forall_mem_cons.mpr ⟨by simp [zup, znew], by simp⟩⟩⟩⟩⟩⟩⟩⟩⟩⟩⟩⟩
  rw [← eMA]
  have fA : zFk 1 M MA := fun c h1 h2 => by rw [eMA]; repeat (first | rw [zup_row (by omega)] | rw [znew_row (by omega) (by omega)])
  have tA : zPt [((-11), 0, 2), ((-11), 1, 3), ((-11), 2, 4), ((-11), 3, 5), ((-11), 4, 6), ((-11), 5, 7), ((-11), 6, 8), ((-11), 7, 9), ((-11), 8, 10), ((-11), 9, 11), ((-11), 10, 12), ((-11), 11, 13), (1, 12, 2), (1, 13, 30)] MA := by
    rw [eMA]
    exact List.forall_mem_cons.mpr ⟨by simp [zup, znew], List.forall_mem_cons.mpr ⟨by simp [zup, znew], List.forall_mem_cons.mpr ⟨by simp [zup, znew], List.forall_mem_cons.mpr ⟨by simp [zup, znew], List.forall_mem_cons.mpr ⟨by simp [zup, znew], List.forall_mem_cons.mpr ⟨by simp [zup, znew], List.forall_mem_cons.mpr ⟨by simp [zup, znew], List.forall_mem_cons.mpr ⟨by simp [zup, znew], List.forall_mem_cons.mpr ⟨by simp [zup, znew], List.forall_mem_cons.mpr ⟨by simp [zup, znew], List.forall_mem_cons.mpr ⟨by simp [zup, znew], List.forall_mem_cons.mpr ⟨by simp [zup, znew], List.forall_mem_cons.mpr ⟨by simp [zup, znew], List.forall_mem_cons.mpr ⟨by simp [zup, znew], by simp⟩⟩⟩⟩⟩⟩⟩⟩⟩⟩⟩⟩⟩⟩
  have zA : zZr [2, 3, 4, 5, 6, 7, 8, 9, 10, 11, 12, 13] MA := by
    rw [eMA]
    exact List.forall_mem_cons.mpr ⟨fun k => by simp [zup, znew], List.forall_mem_cons.mpr ⟨fun k => by simp [zup, znew], List.forall_mem_cons.mpr ⟨fun k => by simp [zup, znew], List.forall_mem_cons.mpr ⟨fun k => by simp [zup, znew], List.forall_mem_cons.mpr ⟨fun k => by simp [zup, znew], List.forall_mem_cons.mpr ⟨fun k => by simp [zup, znew], List.forall_mem_cons.mpr ⟨fun k => by simp [zup, znew], List.forall_mem_cons.mpr ⟨fun k => by simp [zup, znew], List.forall_mem_cons.mpr ⟨fun k => by simp [zup, znew], List.forall_mem_cons.mpr ⟨fun k => by simp [zup, znew], List.forall_mem_cons.mpr ⟨fun k => by simp [zup, znew], List.forall_mem_cons.mpr ⟨fun k => by simp [zup, znew], by simp⟩⟩⟩⟩⟩⟩⟩⟩⟩⟩⟩⟩
  refine z_iconst 0 (zdec DX1_init 56 rfl) (by decide) ?_
  refine z_istore_n (L' := [(0, .inr (.inr 1)), (1, .inl 0)]) (zdec DX1_init 57 rfl) rfl rfl (by decide) ?_
  refine lp_X1_init_113 hPMA (hx147 := fun M2 hx => ?_) _ 0 MA (Nat.lt_succ_self _) ⟨by omega, by omega, fun _ _ _ _ => rfl, fun k a b => by omega⟩
  refine z_iconst 0 (zdec DX1_init 78 rfl) (by decide) ?_
  refine z_istore_n (L' := [(0, .inr (.inr 1)), (1, .inl 0)]) (zdec DX1_init 79 rfl) rfl rfl (by decide) ?_
  refine lp_X1_init_149 (zD1_of hPMA fun c hc => hx.1 c (by omega) (by omega) (by omega)) (hx168 := fun M3 hy => ?_) _ 0 M2 (Nat.lt_succ_self _) ⟨by omega, by omega, fun _ _ => rfl, fun k a b => by omega⟩
  refine z_aload_n 0 (zdec DX1_init 90 rfl) rfl rfl (by decide) ?_
  refine z_inv mX1_layWalls 1 1 [] (zdec DX1_init 91 rfl) ml_SixWalls_Comb_55 okX1_layWalls rfl rfl rfl rfl rfl rfl (Nat.le_of_ble_eq_true rfl) (Nat.le_of_ble_eq_true rfl) (b' := (0, 0)) ⟨Nat.le_refl 0, Nat.le_refl 0⟩ (Nat.le_of_ble_eq_true rfl) (cX1_layWalls (zD1_of hPMA fun c hc => (hy.1 c (by omega)).trans (hx.1 c (by omega) (by omega) (by omega))) (fun c hc k => by rw [hy.1 c (by revert c; decide), hx.1 c (by revert c; decide) (by revert c; decide) (by revert c; decide)]; exact zA c (by revert c; decide) k)) (fun rv9 S9 M169 h9 => ?_)
  obtain ⟨rfl, rfl, l1, l2⟩ := h9
  change zW _ _ _ _ _ 172 [(0, .inr (.inr 1))] [] M169
  exact z_vret (zdec DX1_init 92 rfl) rfl (by have ch : ∀ c : Int, c < 2 ∨ 6 < c → c ≠ 7 → c ≠ 9 → c ≠ 10 → c ≠ 11 → M169 c = MA c := fun c a b d e f => (l1 c a).trans ((hy.1 c f).trans (hx.1 c b d e)); exact ⟨rfl, rfl, (fun c a b => by rw [ch c (by omega) (by omega) (by omega) (by omega) (by omega)]; exact fA c a b), (fun q hq => by rw [ch q.1 (by revert q; decide) (by revert q; decide) (by revert q; decide) (by revert q; decide) (by revert q; decide)]; exact tA q hq), (fun c hc k => by rw [ch c (by revert c; decide) (by revert c; decide) (by revert c; decide) (by revert c; decide) (by revert c; decide)]; exact zA c (by revert c; decide) k), l2, (fun h a b => by rw [l1 7 (by omega), l1 9 (by omega), l1 10 (by omega), hy.1 7 (by decide), hy.1 9 (by decide), hy.1 10 (by decide)]; exact hx.2 h a b), (fun w a b => by rw [l1 11 (by omega)]; exact hy.2 w a b)⟩)
