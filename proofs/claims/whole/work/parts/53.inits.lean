/-! the constructors without loops -/
set_option maxRecDepth 4000
theorem zac_0 : Cond.arrayClass (newarray.typeOf .int) ∈ lw_tbl := zt1 (List.mem_of_getElem? (i := 129) rfl)
theorem zac_1 : Cond.arrayClass (newarray.typeOf .boolean) ∈ lw_tbl := zt5 (List.mem_of_getElem? (i := 155) rfl)
theorem zac_2 : Cond.arrayClass .long ∈ lw_tbl := zt2 (List.mem_of_getElem? (i := 89) rfl)
def zFk (k : Int) (M M' : zMm) : Prop := ∀ c : Int, -10 - k < c → c < k → M' c = M c
def zPt (l : List (Int × Int × Int)) (M : zMm) : Prop := ∀ q ∈ l, M q.1 q.2.1 = q.2.2
def zZr (l : List Int) (M : zMm) : Prop := ∀ c ∈ l, ∀ k : Int, M c k = 0
theorem zFk.tr {k : Int} {M M1 M2 : zMm} (h : zFk k M M1) (h2 : zFk k M1 M2) : zFk k M M2 := fun c a b => (h2 c a b).trans (h c a b)
theorem zFk.le {k k' : Int} {M M1 : zMm} (h : zFk k' M M1) (hk : k ≤ k') : zFk k M M1 := fun c a b => h c (by omega) (by omega)
theorem zPt.fk {k : Int} {l : List (Int × Int × Int)} {M M' : zMm} (h : zPt l M) (hf : zFk k M M') (hl : ∀ q ∈ l, -10 - k < q.1 ∧ q.1 < k) : zPt l M' := fun q hq => by rw [hf q.1 (hl q hq).1 (hl q hq).2]; exact h q hq
theorem zZr.fk {k : Int} {l : List Int} {M M' : zMm} (h : zZr l M) (hf : zFk k M M') (hl : ∀ q ∈ l, -10 - k < q ∧ q < k) : zZr l M' := fun q hq j => by rw [hf q (hl q hq).1 (hl q hq).2]; exact h q hq j
theorem zPt.a {l : List (Int × Int × Int)} {M : zMm} (h : zPt l M) (i : Nat) {a b c : Int} (hi : l[i]? = some (a, b, c)) : M a b = c := h (a, b, c) (List.mem_of_getElem? hi)
theorem zfd0 : ∀ j : Nat, j < 5 → (zty 0 j = .int ∨ zty 0 j = .boolean ∨ zty 0 j = .long ∨ zik (zty 0 j) = 2) := fun j hj => match j, hj with
  | 0, _ => Or.inr (Or.inr (Or.inr rfl))
  | 1, _ => Or.inl rfl
  | 2, _ => Or.inr (Or.inr (Or.inr rfl))
  | 3, _ => Or.inl rfl
  | 4, _ => Or.inl rfl
  | j + 5, h => absurd h (by omega)
theorem zfd1 : ∀ j : Nat, j < 14 → (zty 1 j = .int ∨ zty 1 j = .boolean ∨ zty 1 j = .long ∨ zik (zty 1 j) = 2) := fun j hj => match j, hj with
  | 0, _ => Or.inr (Or.inr (Or.inr rfl))
  | 1, _ => Or.inr (Or.inr (Or.inr rfl))
  | 2, _ => Or.inr (Or.inr (Or.inr rfl))
  | 3, _ => Or.inr (Or.inr (Or.inr rfl))
  | 4, _ => Or.inr (Or.inr (Or.inr rfl))
  | 5, _ => Or.inr (Or.inr (Or.inr rfl))
  | 6, _ => Or.inr (Or.inr (Or.inr rfl))
  | 7, _ => Or.inr (Or.inr (Or.inr rfl))
  | 8, _ => Or.inr (Or.inr (Or.inr rfl))
  | 9, _ => Or.inr (Or.inr (Or.inr rfl))
  | 10, _ => Or.inr (Or.inr (Or.inr rfl))
  | 11, _ => Or.inr (Or.inr (Or.inr rfl))
  | 12, _ => Or.inl rfl
  | 13, _ => Or.inl rfl
  | j + 14, h => absurd h (by omega)
theorem zfd2 : ∀ j : Nat, j < 4 → (zty 2 j = .int ∨ zty 2 j = .boolean ∨ zty 2 j = .long ∨ zik (zty 2 j) = 2) := fun j hj => match j, hj with
  | 0, _ => Or.inr (Or.inr (Or.inr rfl))
  | 1, _ => Or.inr (Or.inr (Or.inr rfl))
  | 2, _ => Or.inr (Or.inr (Or.inr rfl))
  | 3, _ => Or.inr (Or.inl rfl)
  | j + 4, h => absurd h (by omega)
theorem zfd3 : ∀ j : Nat, j < 7 → (zty 3 j = .int ∨ zty 3 j = .boolean ∨ zty 3 j = .long ∨ zik (zty 3 j) = 2) := fun j hj => match j, hj with
  | 0, _ => Or.inr (Or.inr (Or.inr rfl))
  | 1, _ => Or.inr (Or.inr (Or.inr rfl))
  | 2, _ => Or.inr (Or.inr (Or.inr rfl))
  | 3, _ => Or.inr (Or.inr (Or.inr rfl))
  | 4, _ => Or.inr (Or.inr (Or.inr rfl))
  | 5, _ => Or.inl rfl
  | 6, _ => Or.inl rfl
  | j + 7, h => absurd h (by omega)
theorem zfd4 : ∀ j : Nat, j < 11 → (zty 4 j = .int ∨ zty 4 j = .boolean ∨ zty 4 j = .long ∨ zik (zty 4 j) = 2) := fun j hj => match j, hj with
  | 0, _ => Or.inr (Or.inr (Or.inr rfl))
  | 1, _ => Or.inl rfl
  | 2, _ => Or.inl rfl
  | 3, _ => Or.inr (Or.inl rfl)
  | 4, _ => Or.inr (Or.inr (Or.inr rfl))
  | 5, _ => Or.inr (Or.inr (Or.inr rfl))
  | 6, _ => Or.inl rfl
  | 7, _ => Or.inr (Or.inr (Or.inr rfl))
  | 8, _ => Or.inr (Or.inr (Or.inr rfl))
  | 9, _ => Or.inl rfl
  | 10, _ => Or.inr (Or.inr (Or.inr rfl))
  | j + 11, h => absurd h (by omega)
theorem zfd5 : ∀ j : Nat, j < 4 → (zty 5 j = .int ∨ zty 5 j = .boolean ∨ zty 5 j = .long ∨ zik (zty 5 j) = 2) := fun j hj => match j, hj with
  | 0, _ => Or.inr (Or.inr (Or.inr rfl))
  | 1, _ => Or.inr (Or.inr (Or.inr rfl))
  | 2, _ => Or.inr (Or.inr (Or.inr rfl))
  | 3, _ => Or.inr (Or.inr (Or.inr rfl))
  | j + 4, h => absurd h (by omega)
theorem zfd6 : ∀ j : Nat, j < 4 → (zty 6 j = .int ∨ zty 6 j = .boolean ∨ zty 6 j = .long ∨ zik (zty 6 j) = 2) := fun j hj => match j, hj with
  | 0, _ => Or.inr (Or.inr (Or.inr rfl))
  | 1, _ => Or.inr (Or.inr (Or.inr rfl))
  | 2, _ => Or.inr (Or.inr (Or.inr rfl))
  | 3, _ => Or.inr (Or.inr (Or.inr rfl))
  | j + 4, h => absurd h (by omega)
theorem zfd7 : ∀ j : Nat, j < 3 → (zty 7 j = .int ∨ zty 7 j = .boolean ∨ zty 7 j = .long ∨ zik (zty 7 j) = 2) := fun j hj => match j, hj with
  | 0, _ => Or.inr (Or.inr (Or.inr rfl))
  | 1, _ => Or.inr (Or.inr (Or.inr rfl))
  | 2, _ => Or.inr (Or.inr (Or.inr rfl))
  | j + 3, h => absurd h (by omega)
theorem zfd8 : ∀ j : Nat, j < 8 → (zty 8 j = .int ∨ zty 8 j = .boolean ∨ zty 8 j = .long ∨ zik (zty 8 j) = 2) := fun j hj => match j, hj with
  | 0, _ => Or.inr (Or.inr (Or.inr rfl))
  | 1, _ => Or.inr (Or.inr (Or.inr rfl))
  | 2, _ => Or.inr (Or.inr (Or.inr rfl))
  | 3, _ => Or.inr (Or.inr (Or.inr rfl))
  | 4, _ => Or.inr (Or.inr (Or.inr rfl))
  | 5, _ => Or.inr (Or.inr (Or.inr rfl))
  | 6, _ => Or.inr (Or.inr (Or.inr rfl))
  | 7, _ => Or.inl rfl
  | j + 8, h => absurd h (by omega)
theorem zfd9 : ∀ j : Nat, j < 9 → (zty 9 j = .int ∨ zty 9 j = .boolean ∨ zty 9 j = .long ∨ zik (zty 9 j) = 2) := fun j hj => match j, hj with
  | 0, _ => Or.inr (Or.inr (Or.inr rfl))
  | 1, _ => Or.inr (Or.inr (Or.inr rfl))
  | 2, _ => Or.inr (Or.inr (Or.inr rfl))
  | 3, _ => Or.inr (Or.inr (Or.inr rfl))
  | 4, _ => Or.inr (Or.inr (Or.inr rfl))
  | 5, _ => Or.inr (Or.inr (Or.inr rfl))
  | 6, _ => Or.inr (Or.inr (Or.inr rfl))
  | 7, _ => Or.inr (Or.inr (Or.inr rfl))
  | 8, _ => Or.inr (Or.inr (Or.inr rfl))
  | j + 9, h => absurd h (by omega)
theorem zfd10 : ∀ j : Nat, j < 44 → (zty 10 j = .int ∨ zty 10 j = .boolean ∨ zty 10 j = .long ∨ zik (zty 10 j) = 2) := fun j hj => match j, hj with
  | 0, _ => Or.inr (Or.inr (Or.inr rfl))
  | 1, _ => Or.inr (Or.inr (Or.inr rfl))
  | 2, _ => Or.inr (Or.inr (Or.inr rfl))
  | 3, _ => Or.inr (Or.inr (Or.inr rfl))
  | 4, _ => Or.inl rfl
  | 5, _ => Or.inl rfl
  | 6, _ => Or.inl rfl
  | 7, _ => Or.inr (Or.inr (Or.inr rfl))
  | 8, _ => Or.inr (Or.inr (Or.inr rfl))
  | 9, _ => Or.inr (Or.inr (Or.inr rfl))
  | 10, _ => Or.inr (Or.inr (Or.inr rfl))
  | 11, _ => Or.inr (Or.inr (Or.inr rfl))
  | 12, _ => Or.inl rfl
  | 13, _ => Or.inr (Or.inr (Or.inr rfl))
  | 14, _ => Or.inl rfl
  | 15, _ => Or.inl rfl
  | 16, _ => Or.inl rfl
  | 17, _ => Or.inl rfl
  | 18, _ => Or.inl rfl
  | 19, _ => Or.inl rfl
  | 20, _ => Or.inr (Or.inr (Or.inr rfl))
  | 21, _ => Or.inr (Or.inr (Or.inr rfl))
  | 22, _ => Or.inr (Or.inr (Or.inr rfl))
  | 23, _ => Or.inr (Or.inr (Or.inr rfl))
  | 24, _ => Or.inr (Or.inr (Or.inr rfl))
  | 25, _ => Or.inl rfl
  | 26, _ => Or.inr (Or.inr (Or.inr rfl))
  | 27, _ => Or.inr (Or.inr (Or.inr rfl))
  | 28, _ => Or.inr (Or.inr (Or.inr rfl))
  | 29, _ => Or.inr (Or.inr (Or.inl rfl))
  | 30, _ => Or.inr (Or.inr (Or.inr rfl))
  | 31, _ => Or.inr (Or.inl rfl)
  | 32, _ => Or.inr (Or.inr (Or.inr rfl))
  | 33, _ => Or.inr (Or.inr (Or.inr rfl))
  | 34, _ => Or.inl rfl
  | 35, _ => Or.inr (Or.inr (Or.inr rfl))
  | 36, _ => Or.inr (Or.inr (Or.inr rfl))
  | 37, _ => Or.inl rfl
  | 38, _ => Or.inl rfl
  | 39, _ => Or.inl rfl
  | 40, _ => Or.inr (Or.inr (Or.inr rfl))
  | 41, _ => Or.inr (Or.inr (Or.inr rfl))
  | 42, _ => Or.inr (Or.inr (Or.inr rfl))
  | 43, _ => Or.inr (Or.inr (Or.inr rfl))
  | j + 44, h => absurd h (by omega)
set_option maxHeartbeats 4000000 in
theorem cX4_init {M : zMm} : zW mX4_init 2 (fun rv S' M' => S' = zS0.take 21 ∧ rv = none ∧ zFk 14 M M' ∧ zPt [((-24), 0, 15), (14, 1, 0), (14, 2, 0), (14, 3, 0), ((-24), 4, 16), ((-24), 5, 17), (14, 6, 0), ((-24), 7, 18), ((-24), 8, 19), (14, 9, 0), ((-24), 10, 20)] M' ∧ zZr [15, 16, 17, 18, 19, 20] M') (6, 725) (zS0.take 15) 0 (zargs 0 [.inr (.inr 14)]) [] M := by
  change zW _ _ _ _ _ 0 [(0, .inr (.inr 14))] [] M
  refine z_aload_n 0 (zdec DX4_init 0 rfl) rfl rfl (by decide) ?_
  refine z_objInit (zdec DX4_init 1 rfl) ml_SixWalls_LawText_1 zoi1 zoi2 (by decide) (by decide) rfl ?_
  refine z_aload_n 0 (zdec DX4_init 2 rfl) rfl rfl (by decide) ?_
  refine z_bipush 120 (zdec DX4_init 3 rfl) (by decide) ?_
  refine z_newa (b := (5, 605)) 0 (n := 120) (zdec DX4_init 4 rfl) (Or.inl ⟨rfl, rfl⟩) zac_0 rfl (by decide) ?_
  change zW _ _ _ _ (zS0.take 16) 9 [(0, .inr (.inr 14))] [.inr (.inr 15), .inr (.inr 14)] (znew M 15)
  refine z_putr (rw1 := -24) (ki := 0) 14 4 (zdec DX4_init 5 rfl) rfl rfl rfl rfl (by decide) rfl rfl fl_SixWalls_LawText_9 (Or.inr ⟨rfl, rfl⟩) ?_
  refine z_aload_n 0 (zdec DX4_init 6 rfl) rfl rfl (by decide) ?_
  refine z_iconst 0 (zdec DX4_init 7 rfl) (by decide) ?_
  refine z_puti (ki := 1) 14 4 (zdec DX4_init 8 rfl) rfl rfl rfl (by decide) rfl rfl fl_SixWalls_LawText_13 (Or.inl rfl) ?_
  refine z_aload_n 0 (zdec DX4_init 9 rfl) rfl rfl (by decide) ?_
  refine z_iconst 0 (zdec DX4_init 10 rfl) (by decide) ?_
  refine z_puti (ki := 2) 14 4 (zdec DX4_init 11 rfl) rfl rfl rfl (by decide) rfl rfl fl_SixWalls_LawText_17 (Or.inl rfl) ?_
  refine z_aload_n 0 (zdec DX4_init 12 rfl) rfl rfl (by decide) ?_
  refine z_iconst 0 (zdec DX4_init 13 rfl) (by decide) ?_
  refine z_putz (ki := 3) 14 4 (zdec DX4_init 14 rfl) rfl rfl rfl (by decide) rfl rfl fl_SixWalls_LawText_20 (Or.inl rfl) (by omega) ?_
  refine z_aload_n 0 (zdec DX4_init 15 rfl) rfl rfl (by decide) ?_
  refine z_bipush 121 (zdec DX4_init 16 rfl) (by decide) ?_
  refine z_newa (b := (4, 484)) 0 (n := 121) (zdec DX4_init 17 rfl) (Or.inl ⟨rfl, rfl⟩) zac_0 rfl (by decide) ?_
  change zW _ _ _ _ (zS0.take 17) 32 [(0, .inr (.inr 14))] [.inr (.inr 16), .inr (.inr 14)] (znew (zup (zup (zup (zup (znew M 15) (-24) 0 15) 14 1 0) 14 2 0) 14 3 0) 16)
  refine z_putr (rw1 := -24) (ki := 4) 14 4 (zdec DX4_init 18 rfl) rfl rfl rfl rfl (by decide) rfl rfl fl_SixWalls_LawText_24 (Or.inl rfl) ?_
  refine z_aload_n 0 (zdec DX4_init 19 rfl) rfl rfl (by decide) ?_
  refine z_bipush 121 (zdec DX4_init 20 rfl) (by decide) ?_
  refine z_newa (b := (3, 363)) 0 (n := 121) (zdec DX4_init 21 rfl) (Or.inl ⟨rfl, rfl⟩) zac_0 rfl (by decide) ?_
  change zW _ _ _ _ (zS0.take 18) 40 [(0, .inr (.inr 14))] [.inr (.inr 17), .inr (.inr 14)] (znew (zup (znew (zup (zup (zup (zup (znew M 15) (-24) 0 15) 14 1 0) 14 2 0) 14 3 0) 16) (-24) 4 16) 17)
  refine z_putr (rw1 := -24) (ki := 5) 14 4 (zdec DX4_init 22 rfl) rfl rfl rfl rfl (by decide) rfl rfl fl_SixWalls_LawText_27 (Or.inl rfl) ?_
  refine z_aload_n 0 (zdec DX4_init 23 rfl) rfl rfl (by decide) ?_
  refine z_iconst 0 (zdec DX4_init 24 rfl) (by decide) ?_
  refine z_puti (ki := 6) 14 4 (zdec DX4_init 25 rfl) rfl rfl rfl (by decide) rfl rfl fl_SixWalls_LawText_30 (Or.inl rfl) ?_
  refine z_aload_n 0 (zdec DX4_init 26 rfl) rfl rfl (by decide) ?_
  refine z_bipush 121 (zdec DX4_init 27 rfl) (by decide) ?_
  refine z_newa (b := (2, 242)) 0 (n := 121) (zdec DX4_init 28 rfl) (Or.inl ⟨rfl, rfl⟩) zac_0 rfl (by decide) ?_
  change zW _ _ _ _ (zS0.take 19) 53 [(0, .inr (.inr 14))] [.inr (.inr 18), .inr (.inr 14)] (znew (zup (zup (znew (zup (znew (zup (zup (zup (zup (znew M 15) (-24) 0 15) 14 1 0) 14 2 0) 14 3 0) 16) (-24) 4 16) 17) (-24) 5 17) 14 6 0) 18)
  refine z_putr (rw1 := -24) (ki := 7) 14 4 (zdec DX4_init 29 rfl) rfl rfl rfl rfl (by decide) rfl rfl fl_SixWalls_LawText_33 (Or.inl rfl) ?_
  refine z_aload_n 0 (zdec DX4_init 30 rfl) rfl rfl (by decide) ?_
  refine z_bipush 121 (zdec DX4_init 31 rfl) (by decide) ?_
  refine z_newa (b := (1, 121)) 0 (n := 121) (zdec DX4_init 32 rfl) (Or.inl ⟨rfl, rfl⟩) zac_0 rfl (by decide) ?_
  change zW _ _ _ _ (zS0.take 20) 61 [(0, .inr (.inr 14))] [.inr (.inr 19), .inr (.inr 14)] (znew (zup (znew (zup (zup (znew (zup (znew (zup (zup (zup (zup (znew M 15) (-24) 0 15) 14 1 0) 14 2 0) 14 3 0) 16) (-24) 4 16) 17) (-24) 5 17) 14 6 0) 18) (-24) 7 18) 19)
  refine z_putr (rw1 := -24) (ki := 8) 14 4 (zdec DX4_init 33 rfl) rfl rfl rfl rfl (by decide) rfl rfl fl_SixWalls_LawText_36 (Or.inl rfl) ?_
  refine z_aload_n 0 (zdec DX4_init 34 rfl) rfl rfl (by decide) ?_
  refine z_iconst 0 (zdec DX4_init 35 rfl) (by decide) ?_
  refine z_puti (ki := 9) 14 4 (zdec DX4_init 36 rfl) rfl rfl rfl (by decide) rfl rfl fl_SixWalls_LawText_39 (Or.inl rfl) ?_
  refine z_aload_n 0 (zdec DX4_init 37 rfl) rfl rfl (by decide) ?_
  refine z_bipush 121 (zdec DX4_init 38 rfl) (by decide) ?_
  refine z_newa (b := (0, 0)) 0 (n := 121) (zdec DX4_init 39 rfl) (Or.inl ⟨rfl, rfl⟩) zac_0 rfl (by decide) ?_
  change zW _ _ _ _ (zS0.take 21) 74 [(0, .inr (.inr 14))] [.inr (.inr 20), .inr (.inr 14)] (znew (zup (zup (znew (zup (znew (zup (zup (znew (zup (znew (zup (zup (zup (zup (znew M 15) (-24) 0 15) 14 1 0) 14 2 0) 14 3 0) 16) (-24) 4 16) 17) (-24) 5 17) 14 6 0) 18) (-24) 7 18) 19) (-24) 8 19) 14 9 0) 20)
  refine z_putr (rw1 := -24) (ki := 10) 14 4 (zdec DX4_init 40 rfl) rfl rfl rfl rfl (by decide) rfl rfl fl_SixWalls_LawText_42 (Or.inr ⟨rfl, rfl⟩) ?_
  exact z_vret (zdec DX4_init 41 rfl) rfl (⟨rfl, rfl, (fun c h1 h2 => by repeat (first | rw [zup_row (by omega)] | rw [znew_row (by omega) (by omega)])), (List.forall_mem_cons.mpr ⟨by simp [zup, znew], List.forall_mem_cons.mpr ⟨by simp [zup, znew], List.forall_mem_cons.mpr ⟨by simp [zup, znew], List.forall_mem_cons.mpr ⟨by simp [zup, znew], List.forall_mem_cons.mpr ⟨by simp [zup, znew], List.forall_mem_cons.mpr ⟨by simp [zup, znew], List.forall_mem_cons.mpr ⟨by simp [zup, znew], List.forall_mem_cons.mpr ⟨by simp [zup, znew], List.forall_mem_cons.mpr ⟨by simp [zup, znew], List.forall_mem_cons.mpr ⟨by simp [zup, znew], List.forall_mem_cons.mpr ⟨by simp [zup, znew], by simp⟩⟩⟩⟩⟩⟩⟩⟩⟩⟩⟩), (List.forall_mem_cons.mpr ⟨fun k => by simp [zup, znew], List.forall_mem_cons.mpr ⟨fun k => by simp [zup, znew], List.forall_mem_cons.mpr ⟨fun k => by simp [zup, znew], List.forall_mem_cons.mpr ⟨fun k => by simp [zup, znew], List.forall_mem_cons.mpr ⟨fun k => by simp [zup, znew], List.forall_mem_cons.mpr ⟨fun k => by simp [zup, znew], by simp⟩⟩⟩⟩⟩⟩)⟩)
set_option maxHeartbeats 4000000 in
theorem cX8_init {M : zMm} : zW mX8_init 2 (fun rv S' M' => S' = zS0.take 27 ∧ rv = none ∧ zFk 21 M M' ∧ zPt [((-31), 0, 1), ((-31), 1, 14), ((-31), 2, 22), ((-31), 3, 23), ((-31), 4, 24), ((-31), 5, 25), ((-31), 6, 26), (21, 7, 0)] M' ∧ zZr [22, 23, 24, 25, 26] M') (5, 114) (zS0.take 22) 0 (zargs 0 [.inr (.inr 21), .inr (.inr 1), .inr (.inr 14)]) [] M := by
  change zW _ _ _ _ _ 0 [(0, .inr (.inr 21)), (1, .inr (.inr 1)), (2, .inr (.inr 14))] [] M
  refine z_aload_n 0 (zdec DX8_init 0 rfl) rfl rfl (by decide) ?_
  refine z_objInit (zdec DX8_init 1 rfl) ml_SixWalls_Winter_3 zoi1 zoi2 (by decide) (by decide) rfl ?_
  refine z_aload_n 0 (zdec DX8_init 2 rfl) rfl rfl (by decide) ?_
  refine z_bipush 16 (zdec DX8_init 3 rfl) (by decide) ?_
  refine z_newa (b := (4, 98)) 0 (n := 16) (zdec DX8_init 4 rfl) (Or.inl ⟨rfl, rfl⟩) zac_0 rfl (by decide) ?_
  change zW _ _ _ _ (zS0.take 23) 9 [(0, .inr (.inr 21)), (1, .inr (.inr 1)), (2, .inr (.inr 14))] [.inr (.inr 22), .inr (.inr 21)] (znew M 22)
  refine z_putr (rw1 := -31) (ki := 2) 21 8 (zdec DX8_init 5 rfl) rfl rfl rfl rfl (by decide) rfl rfl fl_SixWalls_Winter_9 (Or.inr ⟨rfl, rfl⟩) ?_
  refine z_aload_n 0 (zdec DX8_init 6 rfl) rfl rfl (by decide) ?_
  refine z_bipush 16 (zdec DX8_init 7 rfl) (by decide) ?_
  refine z_newa (b := (3, 82)) 0 (n := 16) (zdec DX8_init 8 rfl) (Or.inl ⟨rfl, rfl⟩) zac_0 rfl (by decide) ?_
  change zW _ _ _ _ (zS0.take 24) 17 [(0, .inr (.inr 21)), (1, .inr (.inr 1)), (2, .inr (.inr 14))] [.inr (.inr 23), .inr (.inr 21)] (znew (zup (znew M 22) (-31) 2 22) 23)
  refine z_putr (rw1 := -31) (ki := 3) 21 8 (zdec DX8_init 9 rfl) rfl rfl rfl rfl (by decide) rfl rfl fl_SixWalls_Winter_15 (Or.inr ⟨rfl, rfl⟩) ?_
  refine z_aload_n 0 (zdec DX8_init 10 rfl) rfl rfl (by decide) ?_
  refine z_bipush 33 (zdec DX8_init 11 rfl) (by decide) ?_
  refine z_newa (b := (2, 49)) 0 (n := 33) (zdec DX8_init 12 rfl) (Or.inl ⟨rfl, rfl⟩) zac_0 rfl (by decide) ?_
  change zW _ _ _ _ (zS0.take 25) 25 [(0, .inr (.inr 21)), (1, .inr (.inr 1)), (2, .inr (.inr 14))] [.inr (.inr 24), .inr (.inr 21)] (znew (zup (znew (zup (znew M 22) (-31) 2 22) 23) (-31) 3 23) 24)
  refine z_putr (rw1 := -31) (ki := 4) 21 8 (zdec DX8_init 13 rfl) rfl rfl rfl rfl (by decide) rfl rfl fl_SixWalls_Winter_18 (Or.inr ⟨rfl, rfl⟩) ?_
  refine z_aload_n 0 (zdec DX8_init 14 rfl) rfl rfl (by decide) ?_
  refine z_bipush 16 (zdec DX8_init 15 rfl) (by decide) ?_
  refine z_newa (b := (1, 33)) 0 (n := 16) (zdec DX8_init 16 rfl) (Or.inl ⟨rfl, rfl⟩) zac_0 rfl (by decide) ?_
  change zW _ _ _ _ (zS0.take 26) 33 [(0, .inr (.inr 21)), (1, .inr (.inr 1)), (2, .inr (.inr 14))] [.inr (.inr 25), .inr (.inr 21)] (znew (zup (znew (zup (znew (zup (znew M 22) (-31) 2 22) 23) (-31) 3 23) 24) (-31) 4 24) 25)
  refine z_putr (rw1 := -31) (ki := 5) 21 8 (zdec DX8_init 17 rfl) rfl rfl rfl rfl (by decide) rfl rfl fl_SixWalls_Winter_21 (Or.inr ⟨rfl, rfl⟩) ?_
  refine z_aload_n 0 (zdec DX8_init 18 rfl) rfl rfl (by decide) ?_
  refine z_bipush 33 (zdec DX8_init 19 rfl) (by decide) ?_
  refine z_newa (b := (0, 0)) 0 (n := 33) (zdec DX8_init 20 rfl) (Or.inl ⟨rfl, rfl⟩) zac_0 rfl (by decide) ?_
  change zW _ _ _ _ (zS0.take 27) 41 [(0, .inr (.inr 21)), (1, .inr (.inr 1)), (2, .inr (.inr 14))] [.inr (.inr 26), .inr (.inr 21)] (znew (zup (znew (zup (znew (zup (znew (zup (znew M 22) (-31) 2 22) 23) (-31) 3 23) 24) (-31) 4 24) 25) (-31) 5 25) 26)
  refine z_putr (rw1 := -31) (ki := 6) 21 8 (zdec DX8_init 21 rfl) rfl rfl rfl rfl (by decide) rfl rfl fl_SixWalls_Winter_24 (Or.inr ⟨rfl, rfl⟩) ?_
  refine z_aload_n 0 (zdec DX8_init 22 rfl) rfl rfl (by decide) ?_
  refine z_iconst 0 (zdec DX8_init 23 rfl) (by decide) ?_
  refine z_puti (ki := 7) 21 8 (zdec DX8_init 24 rfl) rfl rfl rfl (by decide) rfl rfl fl_SixWalls_Winter_27 (Or.inl rfl) ?_
  refine z_aload_n 0 (zdec DX8_init 25 rfl) rfl rfl (by decide) ?_
  refine z_aload_n 1 (zdec DX8_init 26 rfl) rfl rfl (by decide) ?_
  refine z_putr (rw1 := -31) (ki := 0) 21 8 (zdec DX8_init 27 rfl) rfl rfl rfl rfl (by decide) rfl rfl fl_SixWalls_Winter_31 (Or.inr ⟨rfl, rfl⟩) ?_
  refine z_aload_n 0 (zdec DX8_init 28 rfl) rfl rfl (by decide) ?_
  refine z_aload_n 2 (zdec DX8_init 29 rfl) rfl rfl (by decide) ?_
  refine z_putr (rw1 := -31) (ki := 1) 21 8 (zdec DX8_init 30 rfl) rfl rfl rfl rfl (by decide) rfl rfl fl_SixWalls_Winter_35 (Or.inr ⟨rfl, rfl⟩) ?_
  exact z_vret (zdec DX8_init 31 rfl) rfl (⟨rfl, rfl, (fun c h1 h2 => by repeat (first | rw [zup_row (by omega)] | rw [znew_row (by omega) (by omega)])), (List.forall_mem_cons.mpr ⟨by simp [zup, znew], List.forall_mem_cons.mpr ⟨by simp [zup, znew], List.forall_mem_cons.mpr ⟨by simp [zup, znew], List.forall_mem_cons.mpr ⟨by simp [zup, znew], List.forall_mem_cons.mpr ⟨by simp [zup, znew], List.forall_mem_cons.mpr ⟨by simp [zup, znew], List.forall_mem_cons.mpr ⟨by simp [zup, znew], List.forall_mem_cons.mpr ⟨by simp [zup, znew], by simp⟩⟩⟩⟩⟩⟩⟩⟩), (List.forall_mem_cons.mpr ⟨fun k => by simp [zup, znew], List.forall_mem_cons.mpr ⟨fun k => by simp [zup, znew], List.forall_mem_cons.mpr ⟨fun k => by simp [zup, znew], List.forall_mem_cons.mpr ⟨fun k => by simp [zup, znew], List.forall_mem_cons.mpr ⟨fun k => by simp [zup, znew], by simp⟩⟩⟩⟩⟩)⟩)
set_option maxHeartbeats 4000000 in
theorem cX5_init {M : zMm} : zW mX5_init 2 (fun rv S' M' => S' = zS0.take 31 ∧ rv = none ∧ zFk 27 M M' ∧ zPt [((-37), 0, 1), ((-37), 1, 28), ((-37), 2, 29), ((-37), 3, 30)] M' ∧ zZr [28, 29, 30] M') (3, 82) (zS0.take 28) 0 (zargs 0 [.inr (.inr 27), .inr (.inr 1)]) [] M := by
  change zW _ _ _ _ _ 0 [(0, .inr (.inr 27)), (1, .inr (.inr 1))] [] M
  refine z_aload_n 0 (zdec DX5_init 0 rfl) rfl rfl (by decide) ?_
  refine z_objInit (zdec DX5_init 1 rfl) ml_SixWalls_Masonry_3 zoi1 zoi2 (by decide) (by decide) rfl ?_
  refine z_aload_n 0 (zdec DX5_init 2 rfl) rfl rfl (by decide) ?_
  refine z_bipush 33 (zdec DX5_init 3 rfl) (by decide) ?_
  refine z_newa (b := (2, 49)) 0 (n := 33) (zdec DX5_init 4 rfl) (Or.inl ⟨rfl, rfl⟩) zac_0 rfl (by decide) ?_
  change zW _ _ _ _ (zS0.take 29) 9 [(0, .inr (.inr 27)), (1, .inr (.inr 1))] [.inr (.inr 28), .inr (.inr 27)] (znew M 28)
  refine z_putr (rw1 := -37) (ki := 1) 27 5 (zdec DX5_init 5 rfl) rfl rfl rfl rfl (by decide) rfl rfl fl_SixWalls_Masonry_9 (Or.inr ⟨rfl, rfl⟩) ?_
  refine z_aload_n 0 (zdec DX5_init 6 rfl) rfl rfl (by decide) ?_
  refine z_bipush 16 (zdec DX5_init 7 rfl) (by decide) ?_
  refine z_newa (b := (1, 33)) 0 (n := 16) (zdec DX5_init 8 rfl) (Or.inl ⟨rfl, rfl⟩) zac_0 rfl (by decide) ?_
  change zW _ _ _ _ (zS0.take 30) 17 [(0, .inr (.inr 27)), (1, .inr (.inr 1))] [.inr (.inr 29), .inr (.inr 27)] (znew (zup (znew M 28) (-37) 1 28) 29)
  refine z_putr (rw1 := -37) (ki := 2) 27 5 (zdec DX5_init 9 rfl) rfl rfl rfl rfl (by decide) rfl rfl fl_SixWalls_Masonry_15 (Or.inr ⟨rfl, rfl⟩) ?_
  refine z_aload_n 0 (zdec DX5_init 10 rfl) rfl rfl (by decide) ?_
  refine z_bipush 33 (zdec DX5_init 11 rfl) (by decide) ?_
  refine z_newa (b := (0, 0)) 0 (n := 33) (zdec DX5_init 12 rfl) (Or.inl ⟨rfl, rfl⟩) zac_0 rfl (by decide) ?_
  change zW _ _ _ _ (zS0.take 31) 25 [(0, .inr (.inr 27)), (1, .inr (.inr 1))] [.inr (.inr 30), .inr (.inr 27)] (znew (zup (znew (zup (znew M 28) (-37) 1 28) 29) (-37) 2 29) 30)
  refine z_putr (rw1 := -37) (ki := 3) 27 5 (zdec DX5_init 13 rfl) rfl rfl rfl rfl (by decide) rfl rfl fl_SixWalls_Masonry_18 (Or.inr ⟨rfl, rfl⟩) ?_
  refine z_aload_n 0 (zdec DX5_init 14 rfl) rfl rfl (by decide) ?_
  refine z_aload_n 1 (zdec DX5_init 15 rfl) rfl rfl (by decide) ?_
  refine z_putr (rw1 := -37) (ki := 0) 27 5 (zdec DX5_init 16 rfl) rfl rfl rfl rfl (by decide) rfl rfl fl_SixWalls_Masonry_21 (Or.inr ⟨rfl, rfl⟩) ?_
  exact z_vret (zdec DX5_init 17 rfl) rfl (⟨rfl, rfl, (fun c h1 h2 => by repeat (first | rw [zup_row (by omega)] | rw [znew_row (by omega) (by omega)])), (List.forall_mem_cons.mpr ⟨by simp [zup, znew], List.forall_mem_cons.mpr ⟨by simp [zup, znew], List.forall_mem_cons.mpr ⟨by simp [zup, znew], List.forall_mem_cons.mpr ⟨by simp [zup, znew], by simp⟩⟩⟩⟩), (List.forall_mem_cons.mpr ⟨fun k => by simp [zup, znew], List.forall_mem_cons.mpr ⟨fun k => by simp [zup, znew], List.forall_mem_cons.mpr ⟨fun k => by simp [zup, znew], by simp⟩⟩⟩)⟩)
set_option maxHeartbeats 4000000 in
theorem cX7_init {M : zMm} : zW mX7_init 2 (fun rv S' M' => S' = zS0.take 34 ∧ rv = none ∧ zFk 31 M M' ∧ zPt [((-41), 0, 1), ((-41), 1, 32), ((-41), 2, 33)] M' ∧ zZr [32, 33] M') (2, 32) (zS0.take 32) 0 (zargs 0 [.inr (.inr 31), .inr (.inr 1)]) [] M := by
  change zW _ _ _ _ _ 0 [(0, .inr (.inr 31)), (1, .inr (.inr 1))] [] M
  refine z_aload_n 0 (zdec DX7_init 0 rfl) rfl rfl (by decide) ?_
  refine z_objInit (zdec DX7_init 1 rfl) ml_SixWalls_Ways_3 zoi1 zoi2 (by decide) (by decide) rfl ?_
  refine z_aload_n 0 (zdec DX7_init 2 rfl) rfl rfl (by decide) ?_
  refine z_bipush 16 (zdec DX7_init 3 rfl) (by decide) ?_
  refine z_newa (b := (1, 16)) 0 (n := 16) (zdec DX7_init 4 rfl) (Or.inl ⟨rfl, rfl⟩) zac_0 rfl (by decide) ?_
  change zW _ _ _ _ (zS0.take 33) 9 [(0, .inr (.inr 31)), (1, .inr (.inr 1))] [.inr (.inr 32), .inr (.inr 31)] (znew M 32)
  refine z_putr (rw1 := -41) (ki := 1) 31 7 (zdec DX7_init 5 rfl) rfl rfl rfl rfl (by decide) rfl rfl fl_SixWalls_Ways_9 (Or.inr ⟨rfl, rfl⟩) ?_
  refine z_aload_n 0 (zdec DX7_init 6 rfl) rfl rfl (by decide) ?_
  refine z_bipush 16 (zdec DX7_init 7 rfl) (by decide) ?_
  refine z_newa (b := (0, 0)) 0 (n := 16) (zdec DX7_init 8 rfl) (Or.inl ⟨rfl, rfl⟩) zac_0 rfl (by decide) ?_
  change zW _ _ _ _ (zS0.take 34) 17 [(0, .inr (.inr 31)), (1, .inr (.inr 1))] [.inr (.inr 33), .inr (.inr 31)] (znew (zup (znew M 32) (-41) 1 32) 33)
  refine z_putr (rw1 := -41) (ki := 2) 31 7 (zdec DX7_init 9 rfl) rfl rfl rfl rfl (by decide) rfl rfl fl_SixWalls_Ways_15 (Or.inr ⟨rfl, rfl⟩) ?_
  refine z_aload_n 0 (zdec DX7_init 10 rfl) rfl rfl (by decide) ?_
  refine z_aload_n 1 (zdec DX7_init 11 rfl) rfl rfl (by decide) ?_
  refine z_putr (rw1 := -41) (ki := 0) 31 7 (zdec DX7_init 12 rfl) rfl rfl rfl rfl (by decide) rfl rfl fl_SixWalls_Ways_18 (Or.inr ⟨rfl, rfl⟩) ?_
  exact z_vret (zdec DX7_init 13 rfl) rfl (⟨rfl, rfl, (fun c h1 h2 => by repeat (first | rw [zup_row (by omega)] | rw [znew_row (by omega) (by omega)])), (List.forall_mem_cons.mpr ⟨by simp [zup, znew], List.forall_mem_cons.mpr ⟨by simp [zup, znew], List.forall_mem_cons.mpr ⟨by simp [zup, znew], by simp⟩⟩⟩), (List.forall_mem_cons.mpr ⟨fun k => by simp [zup, znew], List.forall_mem_cons.mpr ⟨fun k => by simp [zup, znew], by simp⟩⟩)⟩)
set_option maxHeartbeats 4000000 in
theorem cX2_init {M : zMm} : zW mX2_init 2 (fun rv S' M' => S' = zS0.take 37 ∧ rv = none ∧ zFk 34 M M' ∧ zPt [((-44), 0, 1), ((-44), 1, 35), ((-44), 2, 36), (34, 3, 0)] M' ∧ zZr [35, 36] M') (2, 32) (zS0.take 35) 0 (zargs 0 [.inr (.inr 34), .inr (.inr 1)]) [] M := by
  change zW _ _ _ _ _ 0 [(0, .inr (.inr 34)), (1, .inr (.inr 1))] [] M
  refine z_aload_n 0 (zdec DX2_init 0 rfl) rfl rfl (by decide) ?_
  refine z_objInit (zdec DX2_init 1 rfl) ml_SixWalls_Families_3 zoi1 zoi2 (by decide) (by decide) rfl ?_
  refine z_aload_n 0 (zdec DX2_init 2 rfl) rfl rfl (by decide) ?_
  refine z_bipush 16 (zdec DX2_init 3 rfl) (by decide) ?_
  refine z_newa (b := (1, 16)) 0 (n := 16) (zdec DX2_init 4 rfl) (Or.inl ⟨rfl, rfl⟩) zac_0 rfl (by decide) ?_
  change zW _ _ _ _ (zS0.take 36) 9 [(0, .inr (.inr 34)), (1, .inr (.inr 1))] [.inr (.inr 35), .inr (.inr 34)] (znew M 35)
  refine z_putr (rw1 := -44) (ki := 1) 34 2 (zdec DX2_init 5 rfl) rfl rfl rfl rfl (by decide) rfl rfl fl_SixWalls_Families_9 (Or.inr ⟨rfl, rfl⟩) ?_
  refine z_aload_n 0 (zdec DX2_init 6 rfl) rfl rfl (by decide) ?_
  refine z_bipush 16 (zdec DX2_init 7 rfl) (by decide) ?_
  refine z_newa (b := (0, 0)) 0 (n := 16) (zdec DX2_init 8 rfl) (Or.inl ⟨rfl, rfl⟩) zac_0 rfl (by decide) ?_
  change zW _ _ _ _ (zS0.take 37) 17 [(0, .inr (.inr 34)), (1, .inr (.inr 1))] [.inr (.inr 36), .inr (.inr 34)] (znew (zup (znew M 35) (-44) 1 35) 36)
  refine z_putr (rw1 := -44) (ki := 2) 34 2 (zdec DX2_init 9 rfl) rfl rfl rfl rfl (by decide) rfl rfl fl_SixWalls_Families_15 (Or.inr ⟨rfl, rfl⟩) ?_
  refine z_aload_n 0 (zdec DX2_init 10 rfl) rfl rfl (by decide) ?_
  refine z_iconst 0 (zdec DX2_init 11 rfl) (by decide) ?_
  refine z_putz (ki := 3) 34 2 (zdec DX2_init 12 rfl) rfl rfl rfl (by decide) rfl rfl fl_SixWalls_Families_18 (Or.inl rfl) (by omega) ?_
  refine z_aload_n 0 (zdec DX2_init 13 rfl) rfl rfl (by decide) ?_
  refine z_aload_n 1 (zdec DX2_init 14 rfl) rfl rfl (by decide) ?_
  refine z_putr (rw1 := -44) (ki := 0) 34 2 (zdec DX2_init 15 rfl) rfl rfl rfl rfl (by decide) rfl rfl fl_SixWalls_Families_22 (Or.inr ⟨rfl, rfl⟩) ?_
  exact z_vret (zdec DX2_init 16 rfl) rfl (⟨rfl, rfl, (fun c h1 h2 => by repeat (first | rw [zup_row (by omega)] | rw [znew_row (by omega) (by omega)])), (List.forall_mem_cons.mpr ⟨by simp [zup, znew], List.forall_mem_cons.mpr ⟨by simp [zup, znew], List.forall_mem_cons.mpr ⟨by simp [zup, znew], List.forall_mem_cons.mpr ⟨by simp [zup, znew], by simp⟩⟩⟩⟩), (List.forall_mem_cons.mpr ⟨fun k => by simp [zup, znew], List.forall_mem_cons.mpr ⟨fun k => by simp [zup, znew], by simp⟩⟩)⟩)
set_option maxHeartbeats 4000000 in
theorem cX3_init {M : zMm} : zW mX3_init 2 (fun rv S' M' => S' = zS0.take 42 ∧ rv = none ∧ zFk 37 M M' ∧ zPt [((-47), 0, 1), ((-47), 1, 38), ((-47), 2, 39), ((-47), 3, 40), ((-47), 4, 41), (37, 5, 0), (37, 6, 0)] M' ∧ zZr [38, 39, 40, 41] M') (4, 160) (zS0.take 38) 0 (zargs 0 [.inr (.inr 37), .inr (.inr 1)]) [] M := by
  change zW _ _ _ _ _ 0 [(0, .inr (.inr 37)), (1, .inr (.inr 1))] [] M
  refine z_aload_n 0 (zdec DX3_init 0 rfl) rfl rfl (by decide) ?_
  refine z_objInit (zdec DX3_init 1 rfl) ml_SixWalls_History_3 zoi1 zoi2 (by decide) (by decide) rfl ?_
  refine z_aload_n 0 (zdec DX3_init 2 rfl) rfl rfl (by decide) ?_
  refine z_bipush 40 (zdec DX3_init 3 rfl) (by decide) ?_
  refine z_newa (b := (3, 120)) 0 (n := 40) (zdec DX3_init 4 rfl) (Or.inl ⟨rfl, rfl⟩) zac_0 rfl (by decide) ?_
  change zW _ _ _ _ (zS0.take 39) 9 [(0, .inr (.inr 37)), (1, .inr (.inr 1))] [.inr (.inr 38), .inr (.inr 37)] (znew M 38)
  refine z_putr (rw1 := -47) (ki := 1) 37 3 (zdec DX3_init 5 rfl) rfl rfl rfl rfl (by decide) rfl rfl fl_SixWalls_History_11 (Or.inr ⟨rfl, rfl⟩) ?_
  refine z_aload_n 0 (zdec DX3_init 6 rfl) rfl rfl (by decide) ?_
  refine z_bipush 40 (zdec DX3_init 7 rfl) (by decide) ?_
  refine z_newa (b := (2, 80)) 0 (n := 40) (zdec DX3_init 8 rfl) (Or.inl ⟨rfl, rfl⟩) zac_0 rfl (by decide) ?_
  change zW _ _ _ _ (zS0.take 40) 17 [(0, .inr (.inr 37)), (1, .inr (.inr 1))] [.inr (.inr 39), .inr (.inr 37)] (znew (zup (znew M 38) (-47) 1 38) 39)
  refine z_putr (rw1 := -47) (ki := 2) 37 3 (zdec DX3_init 9 rfl) rfl rfl rfl rfl (by decide) rfl rfl fl_SixWalls_History_15 (Or.inr ⟨rfl, rfl⟩) ?_
  refine z_aload_n 0 (zdec DX3_init 10 rfl) rfl rfl (by decide) ?_
  refine z_bipush 40 (zdec DX3_init 11 rfl) (by decide) ?_
  refine z_newa (b := (1, 40)) 0 (n := 40) (zdec DX3_init 12 rfl) (Or.inl ⟨rfl, rfl⟩) zac_0 rfl (by decide) ?_
  change zW _ _ _ _ (zS0.take 41) 25 [(0, .inr (.inr 37)), (1, .inr (.inr 1))] [.inr (.inr 40), .inr (.inr 37)] (znew (zup (znew (zup (znew M 38) (-47) 1 38) 39) (-47) 2 39) 40)
  refine z_putr (rw1 := -47) (ki := 3) 37 3 (zdec DX3_init 13 rfl) rfl rfl rfl rfl (by decide) rfl rfl fl_SixWalls_History_18 (Or.inr ⟨rfl, rfl⟩) ?_
  refine z_aload_n 0 (zdec DX3_init 14 rfl) rfl rfl (by decide) ?_
  refine z_bipush 40 (zdec DX3_init 15 rfl) (by decide) ?_
  refine z_newa (b := (0, 0)) 0 (n := 40) (zdec DX3_init 16 rfl) (Or.inl ⟨rfl, rfl⟩) zac_0 rfl (by decide) ?_
  change zW _ _ _ _ (zS0.take 42) 33 [(0, .inr (.inr 37)), (1, .inr (.inr 1))] [.inr (.inr 41), .inr (.inr 37)] (znew (zup (znew (zup (znew (zup (znew M 38) (-47) 1 38) 39) (-47) 2 39) 40) (-47) 3 40) 41)
  refine z_putr (rw1 := -47) (ki := 4) 37 3 (zdec DX3_init 17 rfl) rfl rfl rfl rfl (by decide) rfl rfl fl_SixWalls_History_21 (Or.inr ⟨rfl, rfl⟩) ?_
  refine z_aload_n 0 (zdec DX3_init 18 rfl) rfl rfl (by decide) ?_
  refine z_iconst 0 (zdec DX3_init 19 rfl) (by decide) ?_
  refine z_puti (ki := 5) 37 3 (zdec DX3_init 20 rfl) rfl rfl rfl (by decide) rfl rfl fl_SixWalls_History_24 (Or.inl rfl) ?_
  refine z_aload_n 0 (zdec DX3_init 21 rfl) rfl rfl (by decide) ?_
  refine z_iconst 0 (zdec DX3_init 22 rfl) (by decide) ?_
  refine z_puti (ki := 6) 37 3 (zdec DX3_init 23 rfl) rfl rfl rfl (by decide) rfl rfl fl_SixWalls_History_28 (Or.inl rfl) ?_
  refine z_aload_n 0 (zdec DX3_init 24 rfl) rfl rfl (by decide) ?_
  refine z_aload_n 1 (zdec DX3_init 25 rfl) rfl rfl (by decide) ?_
  refine z_putr (rw1 := -47) (ki := 0) 37 3 (zdec DX3_init 26 rfl) rfl rfl rfl rfl (by decide) rfl rfl fl_SixWalls_History_31 (Or.inr ⟨rfl, rfl⟩) ?_
  exact z_vret (zdec DX3_init 27 rfl) rfl (⟨rfl, rfl, (fun c h1 h2 => by repeat (first | rw [zup_row (by omega)] | rw [znew_row (by omega) (by omega)])), (List.forall_mem_cons.mpr ⟨by simp [zup, znew], List.forall_mem_cons.mpr ⟨by simp [zup, znew], List.forall_mem_cons.mpr ⟨by simp [zup, znew], List.forall_mem_cons.mpr ⟨by simp [zup, znew], List.forall_mem_cons.mpr ⟨by simp [zup, znew], List.forall_mem_cons.mpr ⟨by simp [zup, znew], List.forall_mem_cons.mpr ⟨by simp [zup, znew], by simp⟩⟩⟩⟩⟩⟩⟩), (List.forall_mem_cons.mpr ⟨fun k => by simp [zup, znew], List.forall_mem_cons.mpr ⟨fun k => by simp [zup, znew], List.forall_mem_cons.mpr ⟨fun k => by simp [zup, znew], List.forall_mem_cons.mpr ⟨fun k => by simp [zup, znew], by simp⟩⟩⟩⟩)⟩)
set_option maxHeartbeats 4000000 in
theorem cX0_init {M : zMm} : zW mX0_init 2 (fun rv S' M' => S' = zS0.take 45 ∧ rv = none ∧ zFk 42 M M' ∧ zPt [((-52), 0, 43), (42, 1, 0), ((-52), 2, 44), (42, 3, 0), (42, 4, 0)] M' ∧ zZr [43, 44] M') (2, 74) (zS0.take 43) 0 (zargs 0 [.inr (.inr 42)]) [] M := by
  change zW _ _ _ _ _ 0 [(0, .inr (.inr 42))] [] M
  refine z_aload_n 0 (zdec DX0_init 0 rfl) rfl rfl (by decide) ?_
  refine z_objInit (zdec DX0_init 1 rfl) ml_SixWalls_Cells_3 zoi1 zoi2 (by decide) (by decide) rfl ?_
  refine z_aload_n 0 (zdec DX0_init 2 rfl) rfl rfl (by decide) ?_
  refine z_bipush 50 (zdec DX0_init 3 rfl) (by decide) ?_
  refine z_newa (b := (1, 24)) 0 (n := 50) (zdec DX0_init 4 rfl) (Or.inl ⟨rfl, rfl⟩) zac_0 rfl (by decide) ?_
  change zW _ _ _ _ (zS0.take 44) 9 [(0, .inr (.inr 42))] [.inr (.inr 43), .inr (.inr 42)] (znew M 43)
  refine z_putr (rw1 := -52) (ki := 0) 42 0 (zdec DX0_init 5 rfl) rfl rfl rfl rfl (by decide) rfl rfl fl_SixWalls_Cells_11 (Or.inr ⟨rfl, rfl⟩) ?_
  refine z_aload_n 0 (zdec DX0_init 6 rfl) rfl rfl (by decide) ?_
  refine z_iconst 0 (zdec DX0_init 7 rfl) (by decide) ?_
  refine z_puti (ki := 1) 42 0 (zdec DX0_init 8 rfl) rfl rfl rfl (by decide) rfl rfl fl_SixWalls_Cells_15 (Or.inl rfl) ?_
  refine z_aload_n 0 (zdec DX0_init 9 rfl) rfl rfl (by decide) ?_
  refine z_bipush 24 (zdec DX0_init 10 rfl) (by decide) ?_
  refine z_newa (b := (0, 0)) 0 (n := 24) (zdec DX0_init 11 rfl) (Or.inl ⟨rfl, rfl⟩) zac_0 rfl (by decide) ?_
  change zW _ _ _ _ (zS0.take 45) 22 [(0, .inr (.inr 42))] [.inr (.inr 44), .inr (.inr 42)] (znew (zup (zup (znew M 43) (-52) 0 43) 42 1 0) 44)
  refine z_putr (rw1 := -52) (ki := 2) 42 0 (zdec DX0_init 12 rfl) rfl rfl rfl rfl (by decide) rfl rfl fl_SixWalls_Cells_19 (Or.inr ⟨rfl, rfl⟩) ?_
  refine z_aload_n 0 (zdec DX0_init 13 rfl) rfl rfl (by decide) ?_
  refine z_iconst 0 (zdec DX0_init 14 rfl) (by decide) ?_
  refine z_puti (ki := 3) 42 0 (zdec DX0_init 15 rfl) rfl rfl rfl (by decide) rfl rfl fl_SixWalls_Cells_22 (Or.inl rfl) ?_
  refine z_aload_n 0 (zdec DX0_init 16 rfl) rfl rfl (by decide) ?_
  refine z_iconst 0 (zdec DX0_init 17 rfl) (by decide) ?_
  refine z_puti (ki := 4) 42 0 (zdec DX0_init 18 rfl) rfl rfl rfl (by decide) rfl rfl fl_SixWalls_Cells_25 (Or.inl rfl) ?_
  exact z_vret (zdec DX0_init 19 rfl) rfl (⟨rfl, rfl, (fun c h1 h2 => by repeat (first | rw [zup_row (by omega)] | rw [znew_row (by omega) (by omega)])), (List.forall_mem_cons.mpr ⟨by simp [zup, znew], List.forall_mem_cons.mpr ⟨by simp [zup, znew], List.forall_mem_cons.mpr ⟨by simp [zup, znew], List.forall_mem_cons.mpr ⟨by simp [zup, znew], List.forall_mem_cons.mpr ⟨by simp [zup, znew], by simp⟩⟩⟩⟩⟩), (List.forall_mem_cons.mpr ⟨fun k => by simp [zup, znew], List.forall_mem_cons.mpr ⟨fun k => by simp [zup, znew], by simp⟩⟩)⟩)
