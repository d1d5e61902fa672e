/-! contracts of LawText: the tape, the signs, the law worked out -/
def zQ (M : zMm) (q : Int) : Prop := (q = 16 ∨ q = 18) ∧ M (-24) 4 = q ∧ M (-24) 5 = q + 1 ∧ M (-24) 7 = 34 - q ∧ M (-24) 8 = 35 - q
theorem shpTx {q : Int} (h : q = 16 ∨ q = 18) : zS0[q.toNat]? = some (0, 121) ∧ zS0[(q + 1).toNat]? = some (0, 121) ∧ zS0[(34 - q).toNat]? = some (0, 121) ∧ zS0[(35 - q).toNat]? = some (0, 121) := by
  rcases h with rfl | rfl <;> exact ⟨rfl, rfl, rfl, rfl⟩
theorem zQ_of {M M2 : zMm} {q : Int} (h : zQ M q) (e : M2 (-24) = M (-24)) : zQ M2 q := by
  unfold zQ
  rw [e]
  exact h
def zlev (g : Int) : Int := if g = 124 then 0 else if g = 38 then 1 else if g = 60 ∨ g = 61 ∨ g = 62 then 2 else if g = 43 ∨ g = 45 then 3 else if g = 42 ∨ g = 47 ∨ g = 37 then 4 else -1
def znmd (g d t o a b : Int) : Int := if g = 100 then d else if g = 116 then t else if g = 111 then o else if g = 97 then a else b
def zjoi (g x y : Int) : Int := if g = 124 then zb (x ≠ 0 ∨ y ≠ 0) else if g = 38 then zb (x ≠ 0 ∧ y ≠ 0) else if g = 60 then zb (x < y) else if g = 61 then zb (x = y) else if g = 62 then zb (y < x) else if g = 43 then zw (x + y) else if g = 45 then zw (x - y) else if g = 42 then zw (x * y) else if g = 47 then (if y = 0 then 0 else zw (Int.tdiv x y)) else if y = 0 then 0 else zw (Int.tmod x y)
def zpk (M : zMm) : Int := if M 14 2 < M 14 1 then M 15 (M 14 2) else -1
def zmin (a b : Int) : Int := if b < a then b else a
def zmax (a b : Int) : Int := if a < b then b else a
def zemi (M : zMm) (q g n : Int) : zMm := zup (zup (zup M (34 - q) (if M 14 6 < 120 then M 14 6 else 120) g) (35 - q) (if M 14 6 < 120 then M 14 6 else 120) n) 14 6 ((if M 14 6 < 120 then M 14 6 else 120) + 1)
set_option maxHeartbeats 4000000 in
theorem cX4_take {M : zMm} (hP : zP M) (hf : 0 ≤ M 14 1) (c : Int) : zW mX4_take 1 (fun rv S' M' => S' = zS0 ∧ rv = some (.inl (zb (M 14 1 < 120))) ∧ M' = if M 14 1 < 120 then zup (zup M 15 (M 14 1) c) 14 1 (M 14 1 + 1) else M) (0, 0) zS0 0 (zargs 0 [.inr (.inr 14), .inl c]) [] M := by
  change zW _ _ _ _ _ 0 [(0, .inr (.inr 14)), (1, .inl c)] [] M
  refine z_aload_n 0 (zdec DX4_take 0 rfl) rfl rfl (by decide) ?_
  refine z_geti (ki := 1) 14 4 (zdec DX4_take 1 rfl) rfl shp14 rfl (by decide) rfl rfl fl_SixWalls_LawText_13 ?_
  refine z_bipush 120 (zdec DX4_take 2 rfl) (by decide) ?_
  refine z_icmp_lt 11 (zdec DX4_take 3 rfl) rfl (fun h6 => ?_) (fun h6 => ?_)
  ·
    refine z_aload_n 0 (zdec DX4_take 6 rfl) rfl rfl (by decide) ?_
    refine z_getr (rw1 := -24) (ki := 0) (r' := 15) 14 4 (zdec DX4_take 7 rfl) rfl rfl shp14 rfl (by decide) rfl rfl fl_SixWalls_LawText_9 (zPa hP 21 rfl) ?_
    refine z_aload_n 0 (zdec DX4_take 8 rfl) rfl rfl (by decide) ?_
    refine z_geti (ki := 1) 14 4 (zdec DX4_take 9 rfl) rfl shp14 rfl (by decide) rfl rfl fl_SixWalls_LawText_13 ?_
    refine z_iload_n 1 (zdec DX4_take 10 rfl) rfl rfl ?_
    refine z_iast 15 (zdec DX4_take 11 rfl) rfl shp15 ⟨by omega, by omega⟩ ?_
    refine z_aload_n 0 (zdec DX4_take 12 rfl) rfl rfl (by decide) ?_
    refine z_dup (zdec DX4_take 13 rfl) rfl ?_
    refine z_geti (ki := 1) 14 4 (zdec DX4_take 14 rfl) rfl shp14 rfl (by decide) rfl rfl fl_SixWalls_LawText_13 ?_
    rw [show (zup M 15 (M 14 1) c) 14 1 = M 14 1 from by simp [zup, zcpy]]
    refine z_iconst 1 (zdec DX4_take 15 rfl) (by decide) ?_
    refine z_iadd (zdec DX4_take 16 rfl) (by unfold z32; omega) ?_
    refine z_puti (ki := 1) 14 4 (zdec DX4_take 17 rfl) rfl shp14 rfl (by decide) rfl rfl fl_SixWalls_LawText_13 (Or.inl rfl) ?_
    refine z_iconst 1 (zdec DX4_take 18 rfl) (by decide) ?_
    exact z_zret (zdec DX4_take 19 rfl) rfl (by omega) (⟨rfl, zri (by unfold zb; rw [if_pos (by omega)]), by rw [if_pos (by omega)]⟩)
  ·
    refine z_iconst 0 (zdec DX4_take 4 rfl) (by decide) ?_
    exact z_zret (zdec DX4_take 5 rfl) rfl (by omega) (⟨rfl, zri (by unfold zb; rw [if_neg (by omega)]), by rw [if_neg (by omega)]⟩)
set_option maxHeartbeats 4000000 in
theorem cX4_fed {M : zMm} (hP : zP M) : zW mX4_fed 1 (fun rv S' M' => S' = zS0 ∧ M = M' ∧ rv = some (.inl (M 14 1))) (0, 0) zS0 0 (zargs 0 [.inr (.inr 14)]) [] M := by
  change zW _ _ _ _ _ 0 [(0, .inr (.inr 14))] [] M
  refine z_aload_n 0 (zdec DX4_fed 0 rfl) rfl rfl (by decide) ?_
  refine z_geti (ki := 1) 14 4 (zdec DX4_fed 1 rfl) rfl shp14 rfl (by decide) rfl rfl fl_SixWalls_LawText_13 ?_
  exact z_iret (zdec DX4_fed 2 rfl) rfl (⟨rfl, rfl, rfl⟩)
set_option maxHeartbeats 4000000 in
theorem cX4_isTold {M : zMm} (hP : zP M) : zW mX4_isTold 1 (fun rv S' M' => S' = zS0 ∧ M = M' ∧ rv = some (.inl (zb (0 < M 14 6)))) (0, 0) zS0 0 (zargs 0 [.inr (.inr 14)]) [] M := by
  change zW _ _ _ _ _ 0 [(0, .inr (.inr 14))] [] M
  refine z_aload_n 0 (zdec DX4_isTold 0 rfl) rfl rfl (by decide) ?_
  refine z_geti (ki := 6) 14 4 (zdec DX4_isTold 1 rfl) rfl shp14 rfl (by decide) rfl rfl fl_SixWalls_LawText_30 ?_
  refine z_if_le 11 (zdec DX4_isTold 2 rfl) rfl (fun h4 => ?_) (fun h4 => ?_)
  ·
    refine z_iconst 0 (zdec DX4_isTold 5 rfl) (by decide) ?_
    exact z_zret (zdec DX4_isTold 6 rfl) rfl (by omega) (⟨rfl, rfl, zri (by unfold zb; first | rw [if_pos (by omega)] | rw [if_neg (by omega)])⟩)
  ·
    refine z_iconst 1 (zdec DX4_isTold 3 rfl) (by decide) ?_
    refine z_goto 12 (zdec DX4_isTold 4 rfl) rfl ?_
    exact z_zret (zdec DX4_isTold 6 rfl) rfl (by omega) (⟨rfl, rfl, zri (by unfold zb; first | rw [if_pos (by omega)] | rw [if_neg (by omega)])⟩)
set_option maxHeartbeats 4000000 in
theorem cX4_isDigit {M : zMm} (v : Int) : zW mX4_isDigit 2 (fun rv S' M' => S' = zS0 ∧ M = M' ∧ rv = some (.inl (zb (48 ≤ v ∧ v ≤ 57)))) (0, 0) zS0 0 (zargs 0 [.inl v]) [] M := by
  change zW _ _ _ _ _ 0 [(0, .inl v)] [] M
  refine z_iload_n 0 (zdec DX4_isDigit 0 rfl) rfl rfl ?_
  refine z_bipush 48 (zdec DX4_isDigit 1 rfl) (by decide) ?_
  refine z_bipush 57 (zdec DX4_isDigit 2 rfl) (by decide) ?_
  refine z_invs mX9_within [.inl v, .inl 48, .inl 57] (zdec DX4_isDigit 3 rfl) (Or.inr mn_SixWalls_LawText_86) okX9_within rfl rfl (Nat.le_of_ble_eq_true rfl) (Nat.le_of_ble_eq_true rfl) (b' := (0, 0)) ⟨Nat.le_refl 0, Nat.le_refl 0⟩ (Nat.le_of_ble_eq_true rfl) (cX9_within v 48 57) (fun rv9 S9 M5 h9 => ?_)
  obtain ⟨rfl, rfl, rfl⟩ := h9
  change zW _ _ _ _ _ 8 [(0, .inl v)] [.inl (zb (48 ≤ v ∧ v ≤ 57))] M
  exact z_zret (zdec DX4_isDigit 4 rfl) rfl (by unfold zb; split <;> omega) (⟨rfl, rfl, rfl⟩)
set_option maxHeartbeats 4000000 in
theorem cX4_isName {M : zMm} (v : Int) : zW mX4_isName 1 (fun rv S' M' => S' = zS0 ∧ M = M' ∧ rv = some (.inl (zb (v = 100 ∨ v = 116 ∨ v = 111 ∨ v = 97 ∨ v = 98)))) (0, 0) zS0 0 (zargs 0 [.inl v]) [] M := by
  change zW _ _ _ _ _ 0 [(0, .inl v)] [] M
  refine z_iload_n 0 (zdec DX4_isName 0 rfl) rfl rfl ?_
  refine z_bipush 100 (zdec DX4_isName 1 rfl) (by decide) ?_
  refine z_icmp_eq 30 (zdec DX4_isName 2 rfl) rfl (fun h3 => ?_) (fun h3 => ?_)
  ·
    refine z_iconst 1 (zdec DX4_isName 15 rfl) (by decide) ?_
    refine z_goto 35 (zdec DX4_isName 16 rfl) rfl ?_
    exact z_zret (zdec DX4_isName 18 rfl) rfl (by omega) (⟨rfl, rfl, zri (by unfold zb; first | rw [if_pos (by omega)] | rw [if_neg (by omega)])⟩)
  ·
    refine z_iload_n 0 (zdec DX4_isName 3 rfl) rfl rfl ?_
    refine z_bipush 116 (zdec DX4_isName 4 rfl) (by decide) ?_
    refine z_icmp_eq 30 (zdec DX4_isName 5 rfl) rfl (fun h9 => ?_) (fun h9 => ?_)
    ·
      refine z_iconst 1 (zdec DX4_isName 15 rfl) (by decide) ?_
      refine z_goto 35 (zdec DX4_isName 16 rfl) rfl ?_
      exact z_zret (zdec DX4_isName 18 rfl) rfl (by omega) (⟨rfl, rfl, zri (by unfold zb; first | rw [if_pos (by omega)] | rw [if_neg (by omega)])⟩)
    ·
      refine z_iload_n 0 (zdec DX4_isName 6 rfl) rfl rfl ?_
      refine z_bipush 111 (zdec DX4_isName 7 rfl) (by decide) ?_
      refine z_icmp_eq 30 (zdec DX4_isName 8 rfl) rfl (fun h15 => ?_) (fun h15 => ?_)
      ·
        refine z_iconst 1 (zdec DX4_isName 15 rfl) (by decide) ?_
        refine z_goto 35 (zdec DX4_isName 16 rfl) rfl ?_
        exact z_zret (zdec DX4_isName 18 rfl) rfl (by omega) (⟨rfl, rfl, zri (by unfold zb; first | rw [if_pos (by omega)] | rw [if_neg (by omega)])⟩)
      ·
        refine z_iload_n 0 (zdec DX4_isName 9 rfl) rfl rfl ?_
        refine z_bipush 97 (zdec DX4_isName 10 rfl) (by decide) ?_
        refine z_icmp_eq 30 (zdec DX4_isName 11 rfl) rfl (fun h21 => ?_) (fun h21 => ?_)
        ·
          refine z_iconst 1 (zdec DX4_isName 15 rfl) (by decide) ?_
          refine z_goto 35 (zdec DX4_isName 16 rfl) rfl ?_
          exact z_zret (zdec DX4_isName 18 rfl) rfl (by omega) (⟨rfl, rfl, zri (by unfold zb; first | rw [if_pos (by omega)] | rw [if_neg (by omega)])⟩)
        ·
          refine z_iload_n 0 (zdec DX4_isName 12 rfl) rfl rfl ?_
          refine z_bipush 98 (zdec DX4_isName 13 rfl) (by decide) ?_
          refine z_icmp_ne 34 (zdec DX4_isName 14 rfl) rfl (fun h27 => ?_) (fun h27 => ?_)
          ·
            refine z_iconst 0 (zdec DX4_isName 17 rfl) (by decide) ?_
            exact z_zret (zdec DX4_isName 18 rfl) rfl (by omega) (⟨rfl, rfl, zri (by unfold zb; first | rw [if_pos (by omega)] | rw [if_neg (by omega)])⟩)
          ·
            refine z_iconst 1 (zdec DX4_isName 15 rfl) (by decide) ?_
            refine z_goto 35 (zdec DX4_isName 16 rfl) rfl ?_
            exact z_zret (zdec DX4_isName 18 rfl) rfl (by omega) (⟨rfl, rfl, zri (by unfold zb; first | rw [if_pos (by omega)] | rw [if_neg (by omega)])⟩)
set_option maxHeartbeats 4000000 in
theorem cX4_levelOf {M : zMm} (v : Int) : zW mX4_levelOf 1 (fun rv S' M' => S' = zS0 ∧ M = M' ∧ rv = some (.inl (zlev v))) (0, 0) zS0 0 (zargs 0 [.inl v]) [] M := by
  change zW _ _ _ _ _ 0 [(0, .inl v)] [] M
  refine z_iload_n 0 (zdec DX4_levelOf 0 rfl) rfl rfl ?_
  by_cases h1_37 : v = 37
  · refine z_lsw 100 (zdec DX4_levelOf 1 rfl) (by decide) (by first | (rw [h1_37]; done) | (rw [h1_37]; rfl)) rfl ?_
    refine z_iconst 4 (zdec DX4_levelOf 10 rfl) (by decide) ?_
    exact z_iret (zdec DX4_levelOf 11 rfl) rfl (⟨rfl, rfl, zri (by unfold zlev; first | (repeat (first | rw [if_pos (by omega)] | rw [if_neg (by omega)])))⟩)
  by_cases h1_38 : v = 38
  · refine z_lsw 94 (zdec DX4_levelOf 1 rfl) (by decide) (by first | (rw [h1_38]; done) | (rw [h1_38]; rfl)) rfl ?_
    refine z_iconst 1 (zdec DX4_levelOf 4 rfl) (by decide) ?_
    exact z_iret (zdec DX4_levelOf 5 rfl) rfl (⟨rfl, rfl, zri (by unfold zlev; first | (repeat (first | rw [if_pos (by omega)] | rw [if_neg (by omega)])))⟩)
  by_cases h1_42 : v = 42
  · refine z_lsw 100 (zdec DX4_levelOf 1 rfl) (by decide) (by first | (rw [h1_42]; done) | (rw [h1_42]; rfl)) rfl ?_
    refine z_iconst 4 (zdec DX4_levelOf 10 rfl) (by decide) ?_
    exact z_iret (zdec DX4_levelOf 11 rfl) rfl (⟨rfl, rfl, zri (by unfold zlev; first | (repeat (first | rw [if_pos (by omega)] | rw [if_neg (by omega)])))⟩)
  by_cases h1_43 : v = 43
  · refine z_lsw 98 (zdec DX4_levelOf 1 rfl) (by decide) (by first | (rw [h1_43]; done) | (rw [h1_43]; rfl)) rfl ?_
    refine z_iconst 3 (zdec DX4_levelOf 8 rfl) (by decide) ?_
    exact z_iret (zdec DX4_levelOf 9 rfl) rfl (⟨rfl, rfl, zri (by unfold zlev; first | (repeat (first | rw [if_pos (by omega)] | rw [if_neg (by omega)])))⟩)
  by_cases h1_45 : v = 45
  · refine z_lsw 98 (zdec DX4_levelOf 1 rfl) (by decide) (by first | (rw [h1_45]; done) | (rw [h1_45]; rfl)) rfl ?_
    refine z_iconst 3 (zdec DX4_levelOf 8 rfl) (by decide) ?_
    exact z_iret (zdec DX4_levelOf 9 rfl) rfl (⟨rfl, rfl, zri (by unfold zlev; first | (repeat (first | rw [if_pos (by omega)] | rw [if_neg (by omega)])))⟩)
  by_cases h1_47 : v = 47
  · refine z_lsw 100 (zdec DX4_levelOf 1 rfl) (by decide) (by first | (rw [h1_47]; done) | (rw [h1_47]; rfl)) rfl ?_
    refine z_iconst 4 (zdec DX4_levelOf 10 rfl) (by decide) ?_
    exact z_iret (zdec DX4_levelOf 11 rfl) rfl (⟨rfl, rfl, zri (by unfold zlev; first | (repeat (first | rw [if_pos (by omega)] | rw [if_neg (by omega)])))⟩)
  by_cases h1_60 : v = 60
  · refine z_lsw 96 (zdec DX4_levelOf 1 rfl) (by decide) (by first | (rw [h1_60]; done) | (rw [h1_60]; rfl)) rfl ?_
    refine z_iconst 2 (zdec DX4_levelOf 6 rfl) (by decide) ?_
    exact z_iret (zdec DX4_levelOf 7 rfl) rfl (⟨rfl, rfl, zri (by unfold zlev; first | (repeat (first | rw [if_pos (by omega)] | rw [if_neg (by omega)])))⟩)
  by_cases h1_61 : v = 61
  · refine z_lsw 96 (zdec DX4_levelOf 1 rfl) (by decide) (by first | (rw [h1_61]; done) | (rw [h1_61]; rfl)) rfl ?_
    refine z_iconst 2 (zdec DX4_levelOf 6 rfl) (by decide) ?_
    exact z_iret (zdec DX4_levelOf 7 rfl) rfl (⟨rfl, rfl, zri (by unfold zlev; first | (repeat (first | rw [if_pos (by omega)] | rw [if_neg (by omega)])))⟩)
  by_cases h1_62 : v = 62
  · refine z_lsw 96 (zdec DX4_levelOf 1 rfl) (by decide) (by first | (rw [h1_62]; done) | (rw [h1_62]; rfl)) rfl ?_
    refine z_iconst 2 (zdec DX4_levelOf 6 rfl) (by decide) ?_
    exact z_iret (zdec DX4_levelOf 7 rfl) rfl (⟨rfl, rfl, zri (by unfold zlev; first | (repeat (first | rw [if_pos (by omega)] | rw [if_neg (by omega)])))⟩)
  by_cases h1_124 : v = 124
  · refine z_lsw 92 (zdec DX4_levelOf 1 rfl) (by decide) (by first | (rw [h1_124]; done) | (rw [h1_124]; rfl)) rfl ?_
    refine z_iconst 0 (zdec DX4_levelOf 2 rfl) (by decide) ?_
    exact z_iret (zdec DX4_levelOf 3 rfl) rfl (⟨rfl, rfl, zri (by unfold zlev; first | (repeat (first | rw [if_pos (by omega)] | rw [if_neg (by omega)])))⟩)
  refine z_lsw (off := 101) 102 (zdec DX4_levelOf 1 rfl) (by decide) (by simp [Op.lookupswitch.offset, h1_37, Ne.symm h1_37, h1_38, Ne.symm h1_38, h1_42, Ne.symm h1_42, h1_43, Ne.symm h1_43, h1_45, Ne.symm h1_45, h1_47, Ne.symm h1_47, h1_60, Ne.symm h1_60, h1_61, Ne.symm h1_61, h1_62, Ne.symm h1_62, h1_124, Ne.symm h1_124]) rfl ?_
  refine z_iconst (-1) (zdec DX4_levelOf 12 rfl) (by decide) ?_
  exact z_iret (zdec DX4_levelOf 13 rfl) rfl (⟨rfl, rfl, zri (by unfold zlev; first | (repeat (first | rw [if_pos (by omega)] | rw [if_neg (by omega)])))⟩)
set_option maxHeartbeats 4000000 in
theorem cX4_named {M : zMm} (v d t o a b : Int) : zW mX4_named 1 (fun rv S' M' => S' = zS0 ∧ M = M' ∧ rv = some (.inl (znmd v d t o a b))) (0, 0) zS0 0 (zargs 0 [.inl v, .inl d, .inl t, .inl o, .inl a, .inl b]) [] M := by
  change zW _ _ _ _ _ 0 [(0, .inl v), (1, .inl d), (2, .inl t), (3, .inl o), (4, .inl a), (5, .inl b)] [] M
  refine z_iload_n 0 (zdec DX4_named 0 rfl) rfl rfl ?_
  by_cases h1_97 : v = 97
  · refine z_lsw 50 (zdec DX4_named 1 rfl) (by decide) (by first | (rw [h1_97]; done) | (rw [h1_97]; rfl)) rfl ?_
    refine z_iload 4 (zdec DX4_named 8 rfl) rfl ?_
    exact z_iret (zdec DX4_named 9 rfl) rfl (⟨rfl, rfl, zri (by unfold znmd; first | (repeat (first | rw [if_pos (by omega)] | rw [if_neg (by omega)])))⟩)
  by_cases h1_100 : v = 100
  · refine z_lsw 44 (zdec DX4_named 1 rfl) (by decide) (by first | (rw [h1_100]; done) | (rw [h1_100]; rfl)) rfl ?_
    refine z_iload_n 1 (zdec DX4_named 2 rfl) rfl rfl ?_
    exact z_iret (zdec DX4_named 3 rfl) rfl (⟨rfl, rfl, zri (by unfold znmd; first | (repeat (first | rw [if_pos (by omega)] | rw [if_neg (by omega)])))⟩)
  by_cases h1_111 : v = 111
  · refine z_lsw 48 (zdec DX4_named 1 rfl) (by decide) (by first | (rw [h1_111]; done) | (rw [h1_111]; rfl)) rfl ?_
    refine z_iload_n 3 (zdec DX4_named 6 rfl) rfl rfl ?_
    exact z_iret (zdec DX4_named 7 rfl) rfl (⟨rfl, rfl, zri (by unfold znmd; first | (repeat (first | rw [if_pos (by omega)] | rw [if_neg (by omega)])))⟩)
  by_cases h1_116 : v = 116
  · refine z_lsw 46 (zdec DX4_named 1 rfl) (by decide) (by first | (rw [h1_116]; done) | (rw [h1_116]; rfl)) rfl ?_
    refine z_iload_n 2 (zdec DX4_named 4 rfl) rfl rfl ?_
    exact z_iret (zdec DX4_named 5 rfl) rfl (⟨rfl, rfl, zri (by unfold znmd; first | (repeat (first | rw [if_pos (by omega)] | rw [if_neg (by omega)])))⟩)
  refine z_lsw (off := 52) 53 (zdec DX4_named 1 rfl) (by decide) (by simp [Op.lookupswitch.offset, h1_97, Ne.symm h1_97, h1_100, Ne.symm h1_100, h1_111, Ne.symm h1_111, h1_116, Ne.symm h1_116]) rfl ?_
  refine z_iload 5 (zdec DX4_named 10 rfl) rfl ?_
  exact z_iret (zdec DX4_named 11 rfl) rfl (⟨rfl, rfl, zri (by unfold znmd; first | (repeat (first | rw [if_pos (by omega)] | rw [if_neg (by omega)])))⟩)
set_option maxHeartbeats 4000000 in
theorem cX4_truth {M : zMm} (v : Int) (hv : 0 ≤ v ∧ v ≤ 1) : zW mX4_truth 1 (fun rv S' M' => S' = zS0 ∧ M = M' ∧ rv = some (.inl (v))) (0, 0) zS0 0 (zargs 0 [.inl v]) [] M := by
  change zW _ _ _ _ _ 0 [(0, .inl v)] [] M
  refine z_iload_n 0 (zdec DX4_truth 0 rfl) rfl rfl ?_
  refine z_if_eq 8 (zdec DX4_truth 1 rfl) rfl (fun h1 => ?_) (fun h1 => ?_)
  ·
    refine z_iconst 0 (zdec DX4_truth 4 rfl) (by decide) ?_
    exact z_iret (zdec DX4_truth 5 rfl) rfl (⟨rfl, rfl, zri (by omega)⟩)
  ·
    refine z_iconst 1 (zdec DX4_truth 2 rfl) (by decide) ?_
    refine z_goto 9 (zdec DX4_truth 3 rfl) rfl ?_
    exact z_iret (zdec DX4_truth 5 rfl) rfl (⟨rfl, rfl, zri (by omega)⟩)
set_option maxHeartbeats 4000000 in
theorem cX4_joined {M : zMm} (g x y : Int) : zW mX4_joined 2 (fun rv S' M' => S' = zS0 ∧ M = M' ∧ rv = some (.inl (zjoi g x y))) (0, 0) zS0 0 (zargs 0 [.inl g, .inl x, .inl y]) [] M := by
  change zW _ _ _ _ _ 0 [(0, .inl g), (1, .inl x), (2, .inl y)] [] M
  refine z_iload_n 0 (zdec DX4_joined 0 rfl) rfl rfl ?_
  by_cases h1_38 : g = 38
  · refine z_lsw 101 (zdec DX4_joined 1 rfl) (by decide) (by first | (rw [h1_38]; done) | (rw [h1_38]; rfl)) rfl ?_
    refine z_iload_n 1 (zdec DX4_joined 11 rfl) rfl rfl ?_
    refine z_if_eq 113 (zdec DX4_joined 12 rfl) rfl (fun h102 => ?_) (fun h102 => ?_)
    ·
      refine z_iconst 0 (zdec DX4_joined 17 rfl) (by decide) ?_
      refine z_invs mX4_truth [.inl 0] (zdec DX4_joined 18 rfl) (Or.inl ml_SixWalls_LawText_95) okX4_truth rfl rfl (Nat.le_of_ble_eq_true rfl) (Nat.le_of_ble_eq_true rfl) (b' := (0, 0)) ⟨Nat.le_refl 0, Nat.le_refl 0⟩ (Nat.le_of_ble_eq_true rfl) (cX4_truth 0 (by decide)) (fun rv9 S9 M114 h9 => ?_)
      obtain ⟨rfl, rfl, rfl⟩ := h9
      change zW _ _ _ _ _ 117 [(0, .inl g), (1, .inl x), (2, .inl y)] [.inl 0] M
      exact z_iret (zdec DX4_joined 19 rfl) rfl (⟨rfl, rfl, zri (by unfold zjoi zb; (repeat (first | rw [if_pos (by omega)] | rw [if_neg (by omega)])))⟩)
    ·
      refine z_iload_n 2 (zdec DX4_joined 13 rfl) rfl rfl ?_
      refine z_if_eq 113 (zdec DX4_joined 14 rfl) rfl (fun h106 => ?_) (fun h106 => ?_)
      ·
        refine z_iconst 0 (zdec DX4_joined 17 rfl) (by decide) ?_
        refine z_invs mX4_truth [.inl 0] (zdec DX4_joined 18 rfl) (Or.inl ml_SixWalls_LawText_95) okX4_truth rfl rfl (Nat.le_of_ble_eq_true rfl) (Nat.le_of_ble_eq_true rfl) (b' := (0, 0)) ⟨Nat.le_refl 0, Nat.le_refl 0⟩ (Nat.le_of_ble_eq_true rfl) (cX4_truth 0 (by decide)) (fun rv9 S9 M114 h9 => ?_)
        obtain ⟨rfl, rfl, rfl⟩ := h9
        change zW _ _ _ _ _ 117 [(0, .inl g), (1, .inl x), (2, .inl y)] [.inl 0] M
        exact z_iret (zdec DX4_joined 19 rfl) rfl (⟨rfl, rfl, zri (by unfold zjoi zb; (repeat (first | rw [if_pos (by omega)] | rw [if_neg (by omega)])))⟩)
      ·
        refine z_iconst 1 (zdec DX4_joined 15 rfl) (by decide) ?_
        refine z_goto 114 (zdec DX4_joined 16 rfl) rfl ?_
        refine z_invs mX4_truth [.inl 1] (zdec DX4_joined 18 rfl) (Or.inl ml_SixWalls_LawText_95) okX4_truth rfl rfl (Nat.le_of_ble_eq_true rfl) (Nat.le_of_ble_eq_true rfl) (b' := (0, 0)) ⟨Nat.le_refl 0, Nat.le_refl 0⟩ (Nat.le_of_ble_eq_true rfl) (cX4_truth 1 (by decide)) (fun rv9 S9 M114 h9 => ?_)
        obtain ⟨rfl, rfl, rfl⟩ := h9
        change zW _ _ _ _ _ 117 [(0, .inl g), (1, .inl x), (2, .inl y)] [.inl 1] M
        exact z_iret (zdec DX4_joined 19 rfl) rfl (⟨rfl, rfl, zri (by unfold zjoi zb; (repeat (first | rw [if_pos (by omega)] | rw [if_neg (by omega)])))⟩)
  by_cases h1_42 : g = 42
  · refine z_lsw 168 (zdec DX4_joined 1 rfl) (by decide) (by first | (rw [h1_42]; done) | (rw [h1_42]; rfl)) rfl ?_
    refine z_iload_n 1 (zdec DX4_joined 52 rfl) rfl rfl ?_
    refine z_iload_n 2 (zdec DX4_joined 53 rfl) rfl rfl ?_
    refine z_imulw (zdec DX4_joined 54 rfl) ?_
    exact z_iret (zdec DX4_joined 55 rfl) rfl (⟨rfl, rfl, zri (by unfold zjoi zb; (repeat (first | rw [if_pos (by omega)] | rw [if_neg (by omega)])))⟩)
  by_cases h1_43 : g = 43
  · refine z_lsw 160 (zdec DX4_joined 1 rfl) (by decide) (by first | (rw [h1_43]; done) | (rw [h1_43]; rfl)) rfl ?_
    refine z_iload_n 1 (zdec DX4_joined 44 rfl) rfl rfl ?_
    refine z_iload_n 2 (zdec DX4_joined 45 rfl) rfl rfl ?_
    refine z_iaddw (zdec DX4_joined 46 rfl) ?_
    exact z_iret (zdec DX4_joined 47 rfl) rfl (⟨rfl, rfl, zri (by unfold zjoi zb; (repeat (first | rw [if_pos (by omega)] | rw [if_neg (by omega)])))⟩)
  by_cases h1_45 : g = 45
  · refine z_lsw 164 (zdec DX4_joined 1 rfl) (by decide) (by first | (rw [h1_45]; done) | (rw [h1_45]; rfl)) rfl ?_
    refine z_iload_n 1 (zdec DX4_joined 48 rfl) rfl rfl ?_
    refine z_iload_n 2 (zdec DX4_joined 49 rfl) rfl rfl ?_
    refine z_isubw (zdec DX4_joined 50 rfl) ?_
    exact z_iret (zdec DX4_joined 51 rfl) rfl (⟨rfl, rfl, zri (by unfold zjoi zb; (repeat (first | rw [if_pos (by omega)] | rw [if_neg (by omega)])))⟩)
  by_cases h1_47 : g = 47
  · refine z_lsw 172 (zdec DX4_joined 1 rfl) (by decide) (by first | (rw [h1_47]; done) | (rw [h1_47]; rfl)) rfl ?_
    refine z_iload_n 2 (zdec DX4_joined 56 rfl) rfl rfl ?_
    refine z_if_ne 180 (zdec DX4_joined 57 rfl) rfl (fun h173 => ?_) (fun h173 => ?_)
    ·
      refine z_iload_n 1 (zdec DX4_joined 60 rfl) rfl rfl ?_
      refine z_iload_n 2 (zdec DX4_joined 61 rfl) rfl rfl ?_
      refine z_idivw (zdec DX4_joined 62 rfl) (by omega) ?_
      exact z_iret (zdec DX4_joined 63 rfl) rfl (⟨rfl, rfl, zri (by unfold zjoi zb; (repeat (first | rw [if_pos (by omega)] | rw [if_neg (by omega)])))⟩)
    ·
      refine z_iconst 0 (zdec DX4_joined 58 rfl) (by decide) ?_
      refine z_goto 183 (zdec DX4_joined 59 rfl) rfl ?_
      exact z_iret (zdec DX4_joined 63 rfl) rfl (⟨rfl, rfl, zri (by unfold zjoi zb; (repeat (first | rw [if_pos (by omega)] | rw [if_neg (by omega)])))⟩)
  by_cases h1_60 : g = 60
  · refine z_lsw 118 (zdec DX4_joined 1 rfl) (by decide) (by first | (rw [h1_60]; done) | (rw [h1_60]; rfl)) rfl ?_
    refine z_iload_n 1 (zdec DX4_joined 20 rfl) rfl rfl ?_
    refine z_iload_n 2 (zdec DX4_joined 21 rfl) rfl rfl ?_
    refine z_icmp_ge 127 (zdec DX4_joined 22 rfl) rfl (fun h120 => ?_) (fun h120 => ?_)
    ·
      refine z_iconst 0 (zdec DX4_joined 25 rfl) (by decide) ?_
      refine z_invs mX4_truth [.inl 0] (zdec DX4_joined 26 rfl) (Or.inl ml_SixWalls_LawText_95) okX4_truth rfl rfl (Nat.le_of_ble_eq_true rfl) (Nat.le_of_ble_eq_true rfl) (b' := (0, 0)) ⟨Nat.le_refl 0, Nat.le_refl 0⟩ (Nat.le_of_ble_eq_true rfl) (cX4_truth 0 (by decide)) (fun rv9 S9 M128 h9 => ?_)
      obtain ⟨rfl, rfl, rfl⟩ := h9
      change zW _ _ _ _ _ 131 [(0, .inl g), (1, .inl x), (2, .inl y)] [.inl 0] M
      exact z_iret (zdec DX4_joined 27 rfl) rfl (⟨rfl, rfl, zri (by unfold zjoi zb; (repeat (first | rw [if_pos (by omega)] | rw [if_neg (by omega)])))⟩)
    ·
      refine z_iconst 1 (zdec DX4_joined 23 rfl) (by decide) ?_
      refine z_goto 128 (zdec DX4_joined 24 rfl) rfl ?_
      refine z_invs mX4_truth [.inl 1] (zdec DX4_joined 26 rfl) (Or.inl ml_SixWalls_LawText_95) okX4_truth rfl rfl (Nat.le_of_ble_eq_true rfl) (Nat.le_of_ble_eq_true rfl) (b' := (0, 0)) ⟨Nat.le_refl 0, Nat.le_refl 0⟩ (Nat.le_of_ble_eq_true rfl) (cX4_truth 1 (by decide)) (fun rv9 S9 M128 h9 => ?_)
      obtain ⟨rfl, rfl, rfl⟩ := h9
      change zW _ _ _ _ _ 131 [(0, .inl g), (1, .inl x), (2, .inl y)] [.inl 1] M
      exact z_iret (zdec DX4_joined 27 rfl) rfl (⟨rfl, rfl, zri (by unfold zjoi zb; (repeat (first | rw [if_pos (by omega)] | rw [if_neg (by omega)])))⟩)
  by_cases h1_61 : g = 61
  · refine z_lsw 132 (zdec DX4_joined 1 rfl) (by decide) (by first | (rw [h1_61]; done) | (rw [h1_61]; rfl)) rfl ?_
    refine z_iload_n 1 (zdec DX4_joined 28 rfl) rfl rfl ?_
    refine z_iload_n 2 (zdec DX4_joined 29 rfl) rfl rfl ?_
    refine z_icmp_ne 141 (zdec DX4_joined 30 rfl) rfl (fun h134 => ?_) (fun h134 => ?_)
    ·
      refine z_iconst 0 (zdec DX4_joined 33 rfl) (by decide) ?_
      refine z_invs mX4_truth [.inl 0] (zdec DX4_joined 34 rfl) (Or.inl ml_SixWalls_LawText_95) okX4_truth rfl rfl (Nat.le_of_ble_eq_true rfl) (Nat.le_of_ble_eq_true rfl) (b' := (0, 0)) ⟨Nat.le_refl 0, Nat.le_refl 0⟩ (Nat.le_of_ble_eq_true rfl) (cX4_truth 0 (by decide)) (fun rv9 S9 M142 h9 => ?_)
      obtain ⟨rfl, rfl, rfl⟩ := h9
      change zW _ _ _ _ _ 145 [(0, .inl g), (1, .inl x), (2, .inl y)] [.inl 0] M
      exact z_iret (zdec DX4_joined 35 rfl) rfl (⟨rfl, rfl, zri (by unfold zjoi zb; (repeat (first | rw [if_pos (by omega)] | rw [if_neg (by omega)])))⟩)
    ·
      refine z_iconst 1 (zdec DX4_joined 31 rfl) (by decide) ?_
      refine z_goto 142 (zdec DX4_joined 32 rfl) rfl ?_
      refine z_invs mX4_truth [.inl 1] (zdec DX4_joined 34 rfl) (Or.inl ml_SixWalls_LawText_95) okX4_truth rfl rfl (Nat.le_of_ble_eq_true rfl) (Nat.le_of_ble_eq_true rfl) (b' := (0, 0)) ⟨Nat.le_refl 0, Nat.le_refl 0⟩ (Nat.le_of_ble_eq_true rfl) (cX4_truth 1 (by decide)) (fun rv9 S9 M142 h9 => ?_)
      obtain ⟨rfl, rfl, rfl⟩ := h9
      change zW _ _ _ _ _ 145 [(0, .inl g), (1, .inl x), (2, .inl y)] [.inl 1] M
      exact z_iret (zdec DX4_joined 35 rfl) rfl (⟨rfl, rfl, zri (by unfold zjoi zb; (repeat (first | rw [if_pos (by omega)] | rw [if_neg (by omega)])))⟩)
  by_cases h1_62 : g = 62
  · refine z_lsw 146 (zdec DX4_joined 1 rfl) (by decide) (by first | (rw [h1_62]; done) | (rw [h1_62]; rfl)) rfl ?_
    refine z_iload_n 1 (zdec DX4_joined 36 rfl) rfl rfl ?_
    refine z_iload_n 2 (zdec DX4_joined 37 rfl) rfl rfl ?_
    refine z_icmp_le 155 (zdec DX4_joined 38 rfl) rfl (fun h148 => ?_) (fun h148 => ?_)
    ·
      refine z_iconst 0 (zdec DX4_joined 41 rfl) (by decide) ?_
      refine z_invs mX4_truth [.inl 0] (zdec DX4_joined 42 rfl) (Or.inl ml_SixWalls_LawText_95) okX4_truth rfl rfl (Nat.le_of_ble_eq_true rfl) (Nat.le_of_ble_eq_true rfl) (b' := (0, 0)) ⟨Nat.le_refl 0, Nat.le_refl 0⟩ (Nat.le_of_ble_eq_true rfl) (cX4_truth 0 (by decide)) (fun rv9 S9 M156 h9 => ?_)
      obtain ⟨rfl, rfl, rfl⟩ := h9
      change zW _ _ _ _ _ 159 [(0, .inl g), (1, .inl x), (2, .inl y)] [.inl 0] M
      exact z_iret (zdec DX4_joined 43 rfl) rfl (⟨rfl, rfl, zri (by unfold zjoi zb; (repeat (first | rw [if_pos (by omega)] | rw [if_neg (by omega)])))⟩)
    ·
      refine z_iconst 1 (zdec DX4_joined 39 rfl) (by decide) ?_
      refine z_goto 156 (zdec DX4_joined 40 rfl) rfl ?_
      refine z_invs mX4_truth [.inl 1] (zdec DX4_joined 42 rfl) (Or.inl ml_SixWalls_LawText_95) okX4_truth rfl rfl (Nat.le_of_ble_eq_true rfl) (Nat.le_of_ble_eq_true rfl) (b' := (0, 0)) ⟨Nat.le_refl 0, Nat.le_refl 0⟩ (Nat.le_of_ble_eq_true rfl) (cX4_truth 1 (by decide)) (fun rv9 S9 M156 h9 => ?_)
      obtain ⟨rfl, rfl, rfl⟩ := h9
      change zW _ _ _ _ _ 159 [(0, .inl g), (1, .inl x), (2, .inl y)] [.inl 1] M
      exact z_iret (zdec DX4_joined 43 rfl) rfl (⟨rfl, rfl, zri (by unfold zjoi zb; (repeat (first | rw [if_pos (by omega)] | rw [if_neg (by omega)])))⟩)
  by_cases h1_124 : g = 124
  · refine z_lsw 84 (zdec DX4_joined 1 rfl) (by decide) (by first | (rw [h1_124]; done) | (rw [h1_124]; rfl)) rfl ?_
    refine z_iload_n 1 (zdec DX4_joined 2 rfl) rfl rfl ?_
    refine z_if_ne 92 (zdec DX4_joined 3 rfl) rfl (fun h85 => ?_) (fun h85 => ?_)
    ·
      refine z_iconst 1 (zdec DX4_joined 6 rfl) (by decide) ?_
      refine z_goto 97 (zdec DX4_joined 7 rfl) rfl ?_
      refine z_invs mX4_truth [.inl 1] (zdec DX4_joined 9 rfl) (Or.inl ml_SixWalls_LawText_95) okX4_truth rfl rfl (Nat.le_of_ble_eq_true rfl) (Nat.le_of_ble_eq_true rfl) (b' := (0, 0)) ⟨Nat.le_refl 0, Nat.le_refl 0⟩ (Nat.le_of_ble_eq_true rfl) (cX4_truth 1 (by decide)) (fun rv9 S9 M97 h9 => ?_)
      obtain ⟨rfl, rfl, rfl⟩ := h9
      change zW _ _ _ _ _ 100 [(0, .inl g), (1, .inl x), (2, .inl y)] [.inl 1] M
      exact z_iret (zdec DX4_joined 10 rfl) rfl (⟨rfl, rfl, zri (by unfold zjoi zb; (repeat (first | rw [if_pos (by omega)] | rw [if_neg (by omega)])))⟩)
    ·
      refine z_iload_n 2 (zdec DX4_joined 4 rfl) rfl rfl ?_
      refine z_if_eq 96 (zdec DX4_joined 5 rfl) rfl (fun h89 => ?_) (fun h89 => ?_)
      ·
        refine z_iconst 0 (zdec DX4_joined 8 rfl) (by decide) ?_
        refine z_invs mX4_truth [.inl 0] (zdec DX4_joined 9 rfl) (Or.inl ml_SixWalls_LawText_95) okX4_truth rfl rfl (Nat.le_of_ble_eq_true rfl) (Nat.le_of_ble_eq_true rfl) (b' := (0, 0)) ⟨Nat.le_refl 0, Nat.le_refl 0⟩ (Nat.le_of_ble_eq_true rfl) (cX4_truth 0 (by decide)) (fun rv9 S9 M97 h9 => ?_)
        obtain ⟨rfl, rfl, rfl⟩ := h9
        change zW _ _ _ _ _ 100 [(0, .inl g), (1, .inl x), (2, .inl y)] [.inl 0] M
        exact z_iret (zdec DX4_joined 10 rfl) rfl (⟨rfl, rfl, zri (by unfold zjoi zb; (repeat (first | rw [if_pos (by omega)] | rw [if_neg (by omega)])))⟩)
      ·
        refine z_iconst 1 (zdec DX4_joined 6 rfl) (by decide) ?_
        refine z_goto 97 (zdec DX4_joined 7 rfl) rfl ?_
        refine z_invs mX4_truth [.inl 1] (zdec DX4_joined 9 rfl) (Or.inl ml_SixWalls_LawText_95) okX4_truth rfl rfl (Nat.le_of_ble_eq_true rfl) (Nat.le_of_ble_eq_true rfl) (b' := (0, 0)) ⟨Nat.le_refl 0, Nat.le_refl 0⟩ (Nat.le_of_ble_eq_true rfl) (cX4_truth 1 (by decide)) (fun rv9 S9 M97 h9 => ?_)
        obtain ⟨rfl, rfl, rfl⟩ := h9
        change zW _ _ _ _ _ 100 [(0, .inl g), (1, .inl x), (2, .inl y)] [.inl 1] M
        exact z_iret (zdec DX4_joined 10 rfl) rfl (⟨rfl, rfl, zri (by unfold zjoi zb; (repeat (first | rw [if_pos (by omega)] | rw [if_neg (by omega)])))⟩)
  refine z_lsw (off := 183) 184 (zdec DX4_joined 1 rfl) (by decide) (by simp [Op.lookupswitch.offset, h1_38, Ne.symm h1_38, h1_42, Ne.symm h1_42, h1_43, Ne.symm h1_43, h1_45, Ne.symm h1_45, h1_47, Ne.symm h1_47, h1_60, Ne.symm h1_60, h1_61, Ne.symm h1_61, h1_62, Ne.symm h1_62, h1_124, Ne.symm h1_124]) rfl ?_
  refine z_iload_n 2 (zdec DX4_joined 64 rfl) rfl rfl ?_
  refine z_if_ne 192 (zdec DX4_joined 65 rfl) rfl (fun h185 => ?_) (fun h185 => ?_)
  ·
    refine z_iload_n 1 (zdec DX4_joined 68 rfl) rfl rfl ?_
    refine z_iload_n 2 (zdec DX4_joined 69 rfl) rfl rfl ?_
    refine z_iremw (zdec DX4_joined 70 rfl) (by omega) ?_
    exact z_iret (zdec DX4_joined 71 rfl) rfl (⟨rfl, rfl, zri (by unfold zjoi zb; (repeat (first | rw [if_pos (by omega)] | rw [if_neg (by omega)])))⟩)
  ·
    refine z_iconst 0 (zdec DX4_joined 66 rfl) (by decide) ?_
    refine z_goto 195 (zdec DX4_joined 67 rfl) rfl ?_
    exact z_iret (zdec DX4_joined 71 rfl) rfl (⟨rfl, rfl, zri (by unfold zjoi zb; (repeat (first | rw [if_pos (by omega)] | rw [if_neg (by omega)])))⟩)
set_option maxHeartbeats 4000000 in
theorem cX4_peek {M : zMm} (hP : zP M) (hf : 0 ≤ M 14 2 ∧ M 14 1 ≤ 120) : zW mX4_peek 1 (fun rv S' M' => S' = zS0 ∧ M = M' ∧ rv = some (.inl (zpk M))) (0, 0) zS0 0 (zargs 0 [.inr (.inr 14)]) [] M := by
  change zW _ _ _ _ _ 0 [(0, .inr (.inr 14))] [] M
  refine z_aload_n 0 (zdec DX4_peek 0 rfl) rfl rfl (by decide) ?_
  refine z_geti (ki := 2) 14 4 (zdec DX4_peek 1 rfl) rfl shp14 rfl (by decide) rfl rfl fl_SixWalls_LawText_17 ?_
  refine z_aload_n 0 (zdec DX4_peek 2 rfl) rfl rfl (by decide) ?_
  refine z_geti (ki := 1) 14 4 (zdec DX4_peek 3 rfl) rfl shp14 rfl (by decide) rfl rfl fl_SixWalls_LawText_13 ?_
  refine z_icmp_ge 23 (zdec DX4_peek 4 rfl) rfl (fun h8 => ?_) (fun h8 => ?_)
  ·
    refine z_iconst (-1) (zdec DX4_peek 11 rfl) (by decide) ?_
    exact z_iret (zdec DX4_peek 12 rfl) rfl (⟨rfl, rfl, zri (by unfold zpk; first | rw [if_pos (by omega)] | rw [if_neg (by omega)])⟩)
  ·
    refine z_aload_n 0 (zdec DX4_peek 5 rfl) rfl rfl (by decide) ?_
    refine z_getr (rw1 := -24) (ki := 0) (r' := 15) 14 4 (zdec DX4_peek 6 rfl) rfl rfl shp14 rfl (by decide) rfl rfl fl_SixWalls_LawText_9 (zPa hP 21 rfl) ?_
    refine z_aload_n 0 (zdec DX4_peek 7 rfl) rfl rfl (by decide) ?_
    refine z_geti (ki := 2) 14 4 (zdec DX4_peek 8 rfl) rfl shp14 rfl (by decide) rfl rfl fl_SixWalls_LawText_17 ?_
    refine z_iald 15 (zdec DX4_peek 9 rfl) rfl shp15 ⟨by omega, by omega⟩ ?_
    refine z_goto 24 (zdec DX4_peek 10 rfl) rfl ?_
    exact z_iret (zdec DX4_peek 12 rfl) rfl (⟨rfl, rfl, zri (by unfold zpk; first | rw [if_pos (by omega)] | rw [if_neg (by omega)])⟩)
