/-! contracts of LawText: the tape, the signs, the law worked out -/
def zQ (M : zMm) (q : Int) : Prop := (q = 16 ∨ q = 18) ∧ M (-24) 4 = q ∧ M (-24) 5 = q + 1 ∧ M (-24) 7 = 34 - q ∧ M (-24) 8 = 35 - q
theorem shpTx {q : Int} (h : q = 16 ∨ q = 18) : zS0[q.toNat]? = some (0, 121) ∧ zS0[(q + 1).toNat]? = some (0, 121) ∧ zS0[(34 - q).toNat]? = some (0, 121) ∧ zS0[(35 - q).toNat]? = some (0, 121) := by
  rcases h with rfl | rfl <;> exact ⟨rfl, rfl, rfl, rfl⟩
theorem zQ_of {M M2 : zMm} {q : Int} (h : zQ M q) (e : M2 (-24) = M (-24)) : zQ M2 q := by
  unfold zQ
  rw [e]
  exact h
def zlev (g : Int) : Int := if g = 124 then 0 else if g = 38 then 1 else if g = 60 ∨ g = 61 ∨ g = 62 then 2 else if g = 43 ∨ g = 45 then 3 else if g = 42 ∨ g = 47 ∨ g = 37 then 4 else -1
def znmd (g d t o a b : Int) : Int := if g = 100 then d else if g = 116 then t else if g = 111 then o else if g = 97 then a else b
def zjoi (g x y : Int) : Int := if g = 124 then zb (x ≠ 0 ∨ y ≠ 0) else if g = 38 then zb (x ≠ 0 ∧ y ≠ 0) else if g = 60 then zb (x < y) else if g = 61 then zb (x = y) else if g = 62 then zb (y < x) else if g = 43 then zw (x + y) else if g = 45 then zw (x - y) else if g = 42 then zw (x * y) else if g = 47 then (if y = 0 then 0 else zw (Int.tdiv x y)) else if y = 0 then 0 else zw (Int.tmod x y)
def zpk (M : zMm) : Int := if M 14 2 < M 14 1 then M 15 (M 14 2) else -1
def zmin (a b : Int) : Int := if b < a then b else a
def zmax (a b : Int) : Int := if a < b then b else a
def zpl (M : zMm) : Int := if 120 < M 14 9 then 120 else M 14 9
def zemi (M : zMm) (q g n : Int) : zMm := zup (zup (zup M (34 - q) (zpl M) g) (35 - q) (zpl M) n) 14 9 (zpl M + 1)
set_option maxHeartbeats 4000000 in
theorem cX4_take {M : zMm} (hP : zP M) (hf : 0 ≤ M 14 1) (c : Int) : zW mX4_take 1 (fun rv S' M' => S' = zS0 ∧ rv = some (.inl (zb (M 14 1 < 120))) ∧ M' = if M 14 1 < 120 then zup (zup M 15 (M 14 1) c) 14 1 (M 14 1 + 1) else M) (0, 0) zS0 0 (zargs 0 [.inr (.inr 14), .inl c]) [] M := by
  change zW _ _ _ _ _ 0 [(0, .inr (.inr 14)), (1, .inl c)] [] M
  refine z_aload_n 0 (zdec DX4_take 0 rfl) rfl rfl (by decide) ?_
  refine z_geti (ki := 1) 14 4 (zdec DX4_take 1 rfl) rfl shp14 rfl (by decide) rfl rfl fl_SixWalls_LawText_13 ?_
  refine z_bipush 120 (zdec DX4_take 2 rfl) (by decide) ?_
  refine z_icmp_lt 11 (zdec DX4_take 3 rfl) rfl (fun h6 => ?_) (fun h6 => ?_)
  ·
    refine z_aload_n 0 (zdec DX4_take 6 rfl) rfl rfl (by decide) ?_
    refine z_getr (rw1 := -24) (ki := 0) (r' := 15) 14 4 (zdec DX4_take 7 rfl) rfl rfl shp14 rfl (by decide) rfl rfl fl_SixWalls_LawText_9 (zPa hP 21 rfl) ?_
    refine z_aload_n 0 (zdec DX4_take 8 rfl) rfl rfl (by decide) ?_
    refine z_geti (ki := 1) 14 4 (zdec DX4_take 9 rfl) rfl shp14 rfl (by decide) rfl rfl fl_SixWalls_LawText_13 ?_
    refine z_iload_n 1 (zdec DX4_take 10 rfl) rfl rfl ?_
    refine z_iast 15 (zdec DX4_take 11 rfl) rfl shp15 ⟨by omega, by omega⟩ ?_
    refine z_aload_n 0 (zdec DX4_take 12 rfl) rfl rfl (by decide) ?_
    refine z_dup (zdec DX4_take 13 rfl) rfl ?_
    refine z_geti (ki := 1) 14 4 (zdec DX4_take 14 rfl) rfl shp14 rfl (by decide) rfl rfl fl_SixWalls_LawText_13 ?_
    rw [show (zup M 15 (M 14 1) c) 14 1 = M 14 1 from by simp [zup, zcpy]]
    refine z_iconst 1 (zdec DX4_take 15 rfl) (by decide) ?_
    refine z_iadd (zdec DX4_take 16 rfl) (by unfold z32; omega) ?_
    refine z_puti (ki := 1) 14 4 (zdec DX4_take 17 rfl) rfl shp14 rfl (by decide) rfl rfl fl_SixWalls_LawText_13 (Or.inl rfl) ?_
    refine z_iconst 1 (zdec DX4_take 18 rfl) (by decide) ?_
    exact z_zret (zdec DX4_take 19 rfl) rfl (by omega) (⟨rfl, zri (by unfold zb; rw [if_pos (by omega)]), by rw [if_pos (by omega)]⟩)
  ·
    refine z_iconst 0 (zdec DX4_take 4 rfl) (by decide) ?_
    exact z_zret (zdec DX4_take 5 rfl) rfl (by omega) (⟨rfl, zri (by unfold zb; rw [if_neg (by omega)]), by rw [if_neg (by omega)]⟩)
set_option maxHeartbeats 4000000 in
theorem cX4_fed {M : zMm} (hP : zP M) : zW mX4_fed 1 (fun rv S' M' => S' = zS0 ∧ M = M' ∧ rv = some (.inl (M 14 1))) (0, 0) zS0 0 (zargs 0 [.inr (.inr 14)]) [] M := by
  change zW _ _ _ _ _ 0 [(0, .inr (.inr 14))] [] M
  refine z_aload_n 0 (zdec DX4_fed 0 rfl) rfl rfl (by decide) ?_
  refine z_geti (ki := 1) 14 4 (zdec DX4_fed 1 rfl) rfl shp14 rfl (by decide) rfl rfl fl_SixWalls_LawText_13 ?_
  exact z_iret (zdec DX4_fed 2 rfl) rfl (⟨rfl, rfl, rfl⟩)
set_option maxHeartbeats 4000000 in
theorem cX4_isTold {M : zMm} (hP : zP M) : zW mX4_isTold 1 (fun rv S' M' => S' = zS0 ∧ M = M' ∧ rv = some (.inl (zb (0 < M 14 6)))) (0, 0) zS0 0 (zargs 0 [.inr (.inr 14)]) [] M := by
  change zW _ _ _ _ _ 0 [(0, .inr (.inr 14))] [] M
  refine z_aload_n 0 (zdec DX4_isTold 0 rfl) rfl rfl (by decide) ?_
  refine z_geti (ki := 6) 14 4 (zdec DX4_isTold 1 rfl) rfl shp14 rfl (by decide) rfl rfl fl_SixWalls_LawText_30 ?_
  refine z_if_le 11 (zdec DX4_isTold 2 rfl) rfl (fun h4 => ?_) (fun h4 => ?_)
  ·
    refine z_iconst 0 (zdec DX4_isTold 5 rfl) (by decide) ?_
    exact z_zret (zdec DX4_isTold 6 rfl) rfl (by omega) (⟨rfl, rfl, zri (by unfold zb; first | rw [if_pos (by omega)] | rw [if_neg (by omega)])⟩)
  ·
    refine z_iconst 1 (zdec DX4_isTold 3 rfl) (by decide) ?_
    refine z_goto 12 (zdec DX4_isTold 4 rfl) rfl ?_
    exact z_zret (zdec DX4_isTold 6 rfl) rfl (by omega) (⟨rfl, rfl, zri (by unfold zb; first | rw [if_pos (by omega)] | rw [if_neg (by omega)])⟩)
set_option maxHeartbeats 4000000 in
theorem cX4_isDigit {M : zMm} (v : Int) : zW mX4_isDigit 2 (fun rv S' M' => S' = zS0 ∧ M = M' ∧ rv = some (.inl (zb (48 ≤ v ∧ v ≤ 57)))) (0, 0) zS0 0 (zargs 0 [.inl v]) [] M := by
  change zW _ _ _ _ _ 0 [(0, .inl v)] [] M
  refine z_iload_n 0 (zdec DX4_isDigit 0 rfl) rfl rfl ?_
  refine z_bipush 48 (zdec DX4_isDigit 1 rfl) (by decide) ?_
  refine z_icmp_lt 16 (zdec DX4_isDigit 2 rfl) rfl (fun h3 => ?_) (fun h3 => ?_)
  ·
    refine z_iconst 0 (zdec DX4_isDigit 8 rfl) (by decide) ?_
    exact z_zret (zdec DX4_isDigit 9 rfl) rfl (by omega) (⟨rfl, rfl, zri (by unfold zb; first | rw [if_pos (by omega)] | rw [if_neg (by omega)])⟩)
  ·
    refine z_iload_n 0 (zdec DX4_isDigit 3 rfl) rfl rfl ?_
    refine z_bipush 57 (zdec DX4_isDigit 4 rfl) (by decide) ?_
    refine z_icmp_gt 16 (zdec DX4_isDigit 5 rfl) rfl (fun h9 => ?_) (fun h9 => ?_)
    ·
      refine z_iconst 0 (zdec DX4_isDigit 8 rfl) (by decide) ?_
      exact z_zret (zdec DX4_isDigit 9 rfl) rfl (by omega) (⟨rfl, rfl, zri (by unfold zb; first | rw [if_pos (by omega)] | rw [if_neg (by omega)])⟩)
    ·
      refine z_iconst 1 (zdec DX4_isDigit 6 rfl) (by decide) ?_
      refine z_goto 17 (zdec DX4_isDigit 7 rfl) rfl ?_
      exact z_zret (zdec DX4_isDigit 9 rfl) rfl (by omega) (⟨rfl, rfl, zri (by unfold zb; first | rw [if_pos (by omega)] | rw [if_neg (by omega)])⟩)
set_option maxHeartbeats 4000000 in
theorem cX4_isName {M : zMm} (v : Int) : zW mX4_isName 1 (fun rv S' M' => S' = zS0 ∧ M = M' ∧ rv = some (.inl (zb (v = 100 ∨ v = 116 ∨ v = 111 ∨ v = 97 ∨ v = 98)))) (0, 0) zS0 0 (zargs 0 [.inl v]) [] M := by
  change zW _ _ _ _ _ 0 [(0, .inl v)] [] M
  refine z_iload_n 0 (zdec DX4_isName 0 rfl) rfl rfl ?_
  refine z_bipush 100 (zdec DX4_isName 1 rfl) (by decide) ?_
  refine z_icmp_eq 30 (zdec DX4_isName 2 rfl) rfl (fun h3 => ?_) (fun h3 => ?_)
  ·
    refine z_iconst 1 (zdec DX4_isName 15 rfl) (by decide) ?_
    refine z_goto 35 (zdec DX4_isName 16 rfl) rfl ?_
    exact z_zret (zdec DX4_isName 18 rfl) rfl (by omega) (⟨rfl, rfl, zri (by unfold zb; first | rw [if_pos (by omega)] | rw [if_neg (by omega)])⟩)
  ·
    refine z_iload_n 0 (zdec DX4_isName 3 rfl) rfl rfl ?_
    refine z_bipush 116 (zdec DX4_isName 4 rfl) (by decide) ?_
    refine z_icmp_eq 30 (zdec DX4_isName 5 rfl) rfl (fun h9 => ?_) (fun h9 => ?_)
    ·
      refine z_iconst 1 (zdec DX4_isName 15 rfl) (by decide) ?_
      refine z_goto 35 (zdec DX4_isName 16 rfl) rfl ?_
      exact z_zret (zdec DX4_isName 18 rfl) rfl (by omega) (⟨rfl, rfl, zri (by unfold zb; first | rw [if_pos (by omega)] | rw [if_neg (by omega)])⟩)
    ·
      refine z_iload_n 0 (zdec DX4_isName 6 rfl) rfl rfl ?_
      refine z_bipush 111 (zdec DX4_isName 7 rfl) (by decide) ?_
      refine z_icmp_eq 30 (zdec DX4_isName 8 rfl) rfl (fun h15 => ?_) (fun h15 => ?_)
      ·
        refine z_iconst 1 (zdec DX4_isName 15 rfl) (by decide) ?_
        refine z_goto 35 (zdec DX4_isName 16 rfl) rfl ?_
        exact z_zret (zdec DX4_isName 18 rfl) rfl (by omega) (⟨rfl, rfl, zri (by unfold zb; first | rw [if_pos (by omega)] | rw [if_neg (by omega)])⟩)
      ·
        refine z_iload_n 0 (zdec DX4_isName 9 rfl) rfl rfl ?_
        refine z_bipush 97 (zdec DX4_isName 10 rfl) (by decide) ?_
        refine z_icmp_eq 30 (zdec DX4_isName 11 rfl) rfl (fun h21 => ?_) (fun h21 => ?_)
        ·
          refine z_iconst 1 (zdec DX4_isName 15 rfl) (by decide) ?_
          refine z_goto 35 (zdec DX4_isName 16 rfl) rfl ?_
          exact z_zret (zdec DX4_isName 18 rfl) rfl (by omega) (⟨rfl, rfl, zri (by unfold zb; first | rw [if_pos (by omega)] | rw [if_neg (by omega)])⟩)
        ·
          refine z_iload_n 0 (zdec DX4_isName 12 rfl) rfl rfl ?_
          refine z_bipush 98 (zdec DX4_isName 13 rfl) (by decide) ?_
          refine z_icmp_ne 34 (zdec DX4_isName 14 rfl) rfl (fun h27 => ?_) (fun h27 => ?_)
          ·
            refine z_iconst 0 (zdec DX4_isName 17 rfl) (by decide) ?_
            exact z_zret (zdec DX4_isName 18 rfl) rfl (by omega) (⟨rfl, rfl, zri (by unfold zb; first | rw [if_pos (by omega)] | rw [if_neg (by omega)])⟩)
          ·
            refine z_iconst 1 (zdec DX4_isName 15 rfl) (by decide) ?_
            refine z_goto 35 (zdec DX4_isName 16 rfl) rfl ?_
            exact z_zret (zdec DX4_isName 18 rfl) rfl (by omega) (⟨rfl, rfl, zri (by unfold zb; first | rw [if_pos (by omega)] | rw [if_neg (by omega)])⟩)
set_option maxHeartbeats 4000000 in
theorem cX4_levelOf {M : zMm} (v : Int) : zW mX4_levelOf 1 (fun rv S' M' => S' = zS0 ∧ M = M' ∧ rv = some (.inl (zlev v))) (0, 0) zS0 0 (zargs 0 [.inl v]) [] M := by
  change zW _ _ _ _ _ 0 [(0, .inl v)] [] M
  refine z_iload_n 0 (zdec DX4_levelOf 0 rfl) rfl rfl ?_
  by_cases h1_37 : v = 37
  · refine z_lsw 100 (zdec DX4_levelOf 1 rfl) (by decide) (by first | (rw [h1_37]; done) | (rw [h1_37]; rfl)) rfl ?_
    refine z_iconst 4 (zdec DX4_levelOf 10 rfl) (by decide) ?_
    exact z_iret (zdec DX4_levelOf 11 rfl) rfl (⟨rfl, rfl, zri (by unfold zlev; first | (repeat (first | rw [if_pos (by omega)] | rw [if_neg (by omega)])))⟩)
  by_cases h1_38 : v = 38
  · refine z_lsw 94 (zdec DX4_levelOf 1 rfl) (by decide) (by first | (rw [h1_38]; done) | (rw [h1_38]; rfl)) rfl ?_
    refine z_iconst 1 (zdec DX4_levelOf 4 rfl) (by decide) ?_
    exact z_iret (zdec DX4_levelOf 5 rfl) rfl (⟨rfl, rfl, zri (by unfold zlev; first | (repeat (first | rw [if_pos (by omega)] | rw [if_neg (by omega)])))⟩)
  by_cases h1_42 : v = 42
  · refine z_lsw 100 (zdec DX4_levelOf 1 rfl) (by decide) (by first | (rw [h1_42]; done) | (rw [h1_42]; rfl)) rfl ?_
    refine z_iconst 4 (zdec DX4_levelOf 10 rfl) (by decide) ?_
    exact z_iret (zdec DX4_levelOf 11 rfl) rfl (⟨rfl, rfl, zri (by unfold zlev; first | (repeat (first | rw [if_pos (by omega)] | rw [if_neg (by omega)])))⟩)
  by_cases h1_43 : v = 43
  · refine z_lsw 98 (zdec DX4_levelOf 1 rfl) (by decide) (by first | (rw [h1_43]; done) | (rw [h1_43]; rfl)) rfl ?_
    refine z_iconst 3 (zdec DX4_levelOf 8 rfl) (by decide) ?_
    exact z_iret (zdec DX4_levelOf 9 rfl) rfl (⟨rfl, rfl, zri (by unfold zlev; first | (repeat (first | rw [if_pos (by omega)] | rw [if_neg (by omega)])))⟩)
  by_cases h1_45 : v = 45
  · refine z_lsw 98 (zdec DX4_levelOf 1 rfl) (by decide) (by first | (rw [h1_45]; done) | (rw [h1_45]; rfl)) rfl ?_
    refine z_iconst 3 (zdec DX4_levelOf 8 rfl) (by decide) ?_
    exact z_iret (zdec DX4_levelOf 9 rfl) rfl (⟨rfl, rfl, zri (by unfold zlev; first | (repeat (first | rw [if_pos (by omega)] | rw [if_neg (by omega)])))⟩)
  by_cases h1_47 : v = 47
  · refine z_lsw 100 (zdec DX4_levelOf 1 rfl) (by decide) (by first | (rw [h1_47]; done) | (rw [h1_47]; rfl)) rfl ?_
    refine z_iconst 4 (zdec DX4_levelOf 10 rfl) (by decide) ?_
    exact z_iret (zdec DX4_levelOf 11 rfl) rfl (⟨rfl, rfl, zri (by unfold zlev; first | (repeat (first | rw [if_pos (by omega)] | rw [if_neg (by omega)])))⟩)
  by_cases h1_60 : v = 60
  · refine z_lsw 96 (zdec DX4_levelOf 1 rfl) (by decide) (by first | (rw [h1_60]; done) | (rw [h1_60]; rfl)) rfl ?_
    refine z_iconst 2 (zdec DX4_levelOf 6 rfl) (by decide) ?_
    exact z_iret (zdec DX4_levelOf 7 rfl) rfl (⟨rfl, rfl, zri (by unfold zlev; first | (repeat (first | rw [if_pos (by omega)] | rw [if_neg (by omega)])))⟩)
  by_cases h1_61 : v = 61
  · refine z_lsw 96 (zdec DX4_levelOf 1 rfl) (by decide) (by first | (rw [h1_61]; done) | (rw [h1_61]; rfl)) rfl ?_
    refine z_iconst 2 (zdec DX4_levelOf 6 rfl) (by decide) ?_
    exact z_iret (zdec DX4_levelOf 7 rfl) rfl (⟨rfl, rfl, zri (by unfold zlev; first | (repeat (first | rw [if_pos (by omega)] | rw [if_neg (by omega)])))⟩)
  by_cases h1_62 : v = 62
  · refine z_lsw 96 (zdec DX4_levelOf 1 rfl) (by decide) (by first | (rw [h1_62]; done) | (rw [h1_62]; rfl)) rfl ?_
    refine z_iconst 2 (zdec DX4_levelOf 6 rfl) (by decide) ?_
    exact z_iret (zdec DX4_levelOf 7 rfl) rfl (⟨rfl, rfl, zri (by unfold zlev; first | (repeat (first | rw [if_pos (by omega)] | rw [if_neg (by omega)])))⟩)
  by_cases h1_124 : v = 124
  · refine z_lsw 92 (zdec DX4_levelOf 1 rfl) (by decide) (by first | (rw [h1_124]; done) | (rw [h1_124]; rfl)) rfl ?_
    refine z_iconst 0 (zdec DX4_levelOf 2 rfl) (by decide) ?_
    exact z_iret (zdec DX4_levelOf 3 rfl) rfl (⟨rfl, rfl, zri (by unfold zlev; first | (repeat (first | rw [if_pos (by omega)] | rw [if_neg (by omega)])))⟩)
  refine z_lsw (off := 101) 102 (zdec DX4_levelOf 1 rfl) (by decide) (by simp [Op.lookupswitch.offset, h1_37, Ne.symm h1_37, h1_38, Ne.symm h1_38, h1_42, Ne.symm h1_42, h1_43, Ne.symm h1_43, h1_45, Ne.symm h1_45, h1_47, Ne.symm h1_47, h1_60, Ne.symm h1_60, h1_61, Ne.symm h1_61, h1_62, Ne.symm h1_62, h1_124, Ne.symm h1_124]) rfl ?_
  refine z_iconst (-1) (zdec DX4_levelOf 12 rfl) (by decide) ?_
  exact z_iret (zdec DX4_levelOf 13 rfl) rfl (⟨rfl, rfl, zri (by unfold zlev; first | (repeat (first | rw [if_pos (by omega)] | rw [if_neg (by omega)])))⟩)
set_option maxHeartbeats 4000000 in
theorem cX4_named {M : zMm} (v d t o a b : Int) : zW mX4_named 1 (fun rv S' M' => S' = zS0 ∧ M = M' ∧ rv = some (.inl (znmd v d t o a b))) (0, 0) zS0 0 (zargs 0 [.inl v, .inl d, .inl t, .inl o, .inl a, .inl b]) [] M := by
  change zW _ _ _ _ _ 0 [(0, .inl v), (1, .inl d), (2, .inl t), (3, .inl o), (4, .inl a), (5, .inl b)] [] M
  refine z_iload_n 0 (zdec DX4_named 0 rfl) rfl rfl ?_
  by_cases h1_97 : v = 97
  · refine z_lsw 50 (zdec DX4_named 1 rfl) (by decide) (by first | (rw [h1_97]; done) | (rw [h1_97]; rfl)) rfl ?_
    refine z_iload 4 (zdec DX4_named 8 rfl) rfl ?_
    exact z_iret (zdec DX4_named 9 rfl) rfl (⟨rfl, rfl, zri (by unfold znmd; first | (repeat (first | rw [if_pos (by omega)] | rw [if_neg (by omega)])))⟩)
  by_cases h1_100 : v = 100
  · refine z_lsw 44 (zdec DX4_named 1 rfl) (by decide) (by first | (rw [h1_100]; done) | (rw [h1_100]; rfl)) rfl ?_
    refine z_iload_n 1 (zdec DX4_named 2 rfl) rfl rfl ?_
    exact z_iret (zdec DX4_named 3 rfl) rfl (⟨rfl, rfl, zri (by unfold znmd; first | (repeat (first | rw [if_pos (by omega)] | rw [if_neg (by omega)])))⟩)
  by_cases h1_111 : v = 111
  · refine z_lsw 48 (zdec DX4_named 1 rfl) (by decide) (by first | (rw [h1_111]; done) | (rw [h1_111]; rfl)) rfl ?_
    refine z_iload_n 3 (zdec DX4_named 6 rfl) rfl rfl ?_
    exact z_iret (zdec DX4_named 7 rfl) rfl (⟨rfl, rfl, zri (by unfold znmd; first | (repeat (first | rw [if_pos (by omega)] | rw [if_neg (by omega)])))⟩)
  by_cases h1_116 : v = 116
  · refine z_lsw 46 (zdec DX4_named 1 rfl) (by decide) (by first | (rw [h1_116]; done) | (rw [h1_116]; rfl)) rfl ?_
    refine z_iload_n 2 (zdec DX4_named 4 rfl) rfl rfl ?_
    exact z_iret (zdec DX4_named 5 rfl) rfl (⟨rfl, rfl, zri (by unfold znmd; first | (repeat (first | rw [if_pos (by omega)] | rw [if_neg (by omega)])))⟩)
  refine z_lsw (off := 52) 53 (zdec DX4_named 1 rfl) (by decide) (by simp [Op.lookupswitch.offset, h1_97, Ne.symm h1_97, h1_100, Ne.symm h1_100, h1_111, Ne.symm h1_111, h1_116, Ne.symm h1_116]) rfl ?_
  refine z_iload 5 (zdec DX4_named 10 rfl) rfl ?_
  exact z_iret (zdec DX4_named 11 rfl) rfl (⟨rfl, rfl, zri (by unfold znmd; first | (repeat (first | rw [if_pos (by omega)] | rw [if_neg (by omega)])))⟩)
set_option maxHeartbeats 4000000 in
theorem cX4_joined {M : zMm} (g x y : Int) : zW mX4_joined 2 (fun rv S' M' => S' = zS0 ∧ M = M' ∧ rv = some (.inl (zjoi g x y))) (0, 0) zS0 0 (zargs 0 [.inl g, .inl x, .inl y]) [] M := by
  change zW _ _ _ _ _ 0 [(0, .inl g), (1, .inl x), (2, .inl y)] [] M
  refine z_iload_n 0 (zdec DX4_joined 0 rfl) rfl rfl ?_
  by_cases h1_38 : g = 38
  · refine z_lsw 98 (zdec DX4_joined 1 rfl) (by decide) (by first | (rw [h1_38]; done) | (rw [h1_38]; rfl)) rfl ?_
    refine z_iload_n 1 (zdec DX4_joined 10 rfl) rfl rfl ?_
    refine z_if_eq 110 (zdec DX4_joined 11 rfl) rfl (fun h99 => ?_) (fun h99 => ?_)
    ·
      refine z_iconst 0 (zdec DX4_joined 16 rfl) (by decide) ?_
      exact z_iret (zdec DX4_joined 17 rfl) rfl (⟨rfl, rfl, zri (by unfold zjoi zb; (repeat (first | rw [if_pos (by omega)] | rw [if_neg (by omega)])))⟩)
    ·
      refine z_iload_n 2 (zdec DX4_joined 12 rfl) rfl rfl ?_
      refine z_if_eq 110 (zdec DX4_joined 13 rfl) rfl (fun h103 => ?_) (fun h103 => ?_)
      ·
        refine z_iconst 0 (zdec DX4_joined 16 rfl) (by decide) ?_
        exact z_iret (zdec DX4_joined 17 rfl) rfl (⟨rfl, rfl, zri (by unfold zjoi zb; (repeat (first | rw [if_pos (by omega)] | rw [if_neg (by omega)])))⟩)
      ·
        refine z_iconst 1 (zdec DX4_joined 14 rfl) (by decide) ?_
        refine z_goto 111 (zdec DX4_joined 15 rfl) rfl ?_
        exact z_iret (zdec DX4_joined 17 rfl) rfl (⟨rfl, rfl, zri (by unfold zjoi zb; (repeat (first | rw [if_pos (by omega)] | rw [if_neg (by omega)])))⟩)
  by_cases h1_42 : g = 42
  · refine z_lsw 153 (zdec DX4_joined 1 rfl) (by decide) (by first | (rw [h1_42]; done) | (rw [h1_42]; rfl)) rfl ?_
    refine z_iload_n 1 (zdec DX4_joined 47 rfl) rfl rfl ?_
    refine z_iload_n 2 (zdec DX4_joined 48 rfl) rfl rfl ?_
    refine z_imulw (zdec DX4_joined 49 rfl) ?_
    exact z_iret (zdec DX4_joined 50 rfl) rfl (⟨rfl, rfl, zri (by unfold zjoi zb; (repeat (first | rw [if_pos (by omega)] | rw [if_neg (by omega)])))⟩)
  by_cases h1_43 : g = 43
  · refine z_lsw 145 (zdec DX4_joined 1 rfl) (by decide) (by first | (rw [h1_43]; done) | (rw [h1_43]; rfl)) rfl ?_
    refine z_iload_n 1 (zdec DX4_joined 39 rfl) rfl rfl ?_
    refine z_iload_n 2 (zdec DX4_joined 40 rfl) rfl rfl ?_
    refine z_iaddw (zdec DX4_joined 41 rfl) ?_
    exact z_iret (zdec DX4_joined 42 rfl) rfl (⟨rfl, rfl, zri (by unfold zjoi zb; (repeat (first | rw [if_pos (by omega)] | rw [if_neg (by omega)])))⟩)
  by_cases h1_45 : g = 45
  · refine z_lsw 149 (zdec DX4_joined 1 rfl) (by decide) (by first | (rw [h1_45]; done) | (rw [h1_45]; rfl)) rfl ?_
    refine z_iload_n 1 (zdec DX4_joined 43 rfl) rfl rfl ?_
    refine z_iload_n 2 (zdec DX4_joined 44 rfl) rfl rfl ?_
    refine z_isubw (zdec DX4_joined 45 rfl) ?_
    exact z_iret (zdec DX4_joined 46 rfl) rfl (⟨rfl, rfl, zri (by unfold zjoi zb; (repeat (first | rw [if_pos (by omega)] | rw [if_neg (by omega)])))⟩)
  by_cases h1_47 : g = 47
  · refine z_lsw 157 (zdec DX4_joined 1 rfl) (by decide) (by first | (rw [h1_47]; done) | (rw [h1_47]; rfl)) rfl ?_
    refine z_iload_n 2 (zdec DX4_joined 51 rfl) rfl rfl ?_
    refine z_if_ne 165 (zdec DX4_joined 52 rfl) rfl (fun h158 => ?_) (fun h158 => ?_)
    ·
      refine z_iload_n 1 (zdec DX4_joined 55 rfl) rfl rfl ?_
      refine z_iload_n 2 (zdec DX4_joined 56 rfl) rfl rfl ?_
      refine z_idivw (zdec DX4_joined 57 rfl) (by omega) ?_
      exact z_iret (zdec DX4_joined 58 rfl) rfl (⟨rfl, rfl, zri (by unfold zjoi zb; (repeat (first | rw [if_pos (by omega)] | rw [if_neg (by omega)])))⟩)
    ·
      refine z_iconst 0 (zdec DX4_joined 53 rfl) (by decide) ?_
      refine z_goto 168 (zdec DX4_joined 54 rfl) rfl ?_
      exact z_iret (zdec DX4_joined 58 rfl) rfl (⟨rfl, rfl, zri (by unfold zjoi zb; (repeat (first | rw [if_pos (by omega)] | rw [if_neg (by omega)])))⟩)
  by_cases h1_60 : g = 60
  · refine z_lsw 112 (zdec DX4_joined 1 rfl) (by decide) (by first | (rw [h1_60]; done) | (rw [h1_60]; rfl)) rfl ?_
    refine z_iload_n 1 (zdec DX4_joined 18 rfl) rfl rfl ?_
    refine z_iload_n 2 (zdec DX4_joined 19 rfl) rfl rfl ?_
    refine z_icmp_ge 121 (zdec DX4_joined 20 rfl) rfl (fun h114 => ?_) (fun h114 => ?_)
    ·
      refine z_iconst 0 (zdec DX4_joined 23 rfl) (by decide) ?_
      exact z_iret (zdec DX4_joined 24 rfl) rfl (⟨rfl, rfl, zri (by unfold zjoi zb; (repeat (first | rw [if_pos (by omega)] | rw [if_neg (by omega)])))⟩)
    ·
      refine z_iconst 1 (zdec DX4_joined 21 rfl) (by decide) ?_
      refine z_goto 122 (zdec DX4_joined 22 rfl) rfl ?_
      exact z_iret (zdec DX4_joined 24 rfl) rfl (⟨rfl, rfl, zri (by unfold zjoi zb; (repeat (first | rw [if_pos (by omega)] | rw [if_neg (by omega)])))⟩)
  by_cases h1_61 : g = 61
  · refine z_lsw 123 (zdec DX4_joined 1 rfl) (by decide) (by first | (rw [h1_61]; done) | (rw [h1_61]; rfl)) rfl ?_
    refine z_iload_n 1 (zdec DX4_joined 25 rfl) rfl rfl ?_
    refine z_iload_n 2 (zdec DX4_joined 26 rfl) rfl rfl ?_
    refine z_icmp_ne 132 (zdec DX4_joined 27 rfl) rfl (fun h125 => ?_) (fun h125 => ?_)
    ·
      refine z_iconst 0 (zdec DX4_joined 30 rfl) (by decide) ?_
      exact z_iret (zdec DX4_joined 31 rfl) rfl (⟨rfl, rfl, zri (by unfold zjoi zb; (repeat (first | rw [if_pos (by omega)] | rw [if_neg (by omega)])))⟩)
    ·
      refine z_iconst 1 (zdec DX4_joined 28 rfl) (by decide) ?_
      refine z_goto 133 (zdec DX4_joined 29 rfl) rfl ?_
      exact z_iret (zdec DX4_joined 31 rfl) rfl (⟨rfl, rfl, zri (by unfold zjoi zb; (repeat (first | rw [if_pos (by omega)] | rw [if_neg (by omega)])))⟩)
  by_cases h1_62 : g = 62
  · refine z_lsw 134 (zdec DX4_joined 1 rfl) (by decide) (by first | (rw [h1_62]; done) | (rw [h1_62]; rfl)) rfl ?_
    refine z_iload_n 1 (zdec DX4_joined 32 rfl) rfl rfl ?_
    refine z_iload_n 2 (zdec DX4_joined 33 rfl) rfl rfl ?_
    refine z_icmp_le 143 (zdec DX4_joined 34 rfl) rfl (fun h136 => ?_) (fun h136 => ?_)
    ·
      refine z_iconst 0 (zdec DX4_joined 37 rfl) (by decide) ?_
      exact z_iret (zdec DX4_joined 38 rfl) rfl (⟨rfl, rfl, zri (by unfold zjoi zb; (repeat (first | rw [if_pos (by omega)] | rw [if_neg (by omega)])))⟩)
    ·
      refine z_iconst 1 (zdec DX4_joined 35 rfl) (by decide) ?_
      refine z_goto 144 (zdec DX4_joined 36 rfl) rfl ?_
      exact z_iret (zdec DX4_joined 38 rfl) rfl (⟨rfl, rfl, zri (by unfold zjoi zb; (repeat (first | rw [if_pos (by omega)] | rw [if_neg (by omega)])))⟩)
  by_cases h1_124 : g = 124
  · refine z_lsw 84 (zdec DX4_joined 1 rfl) (by decide) (by first | (rw [h1_124]; done) | (rw [h1_124]; rfl)) rfl ?_
    refine z_iload_n 1 (zdec DX4_joined 2 rfl) rfl rfl ?_
    refine z_if_ne 92 (zdec DX4_joined 3 rfl) rfl (fun h85 => ?_) (fun h85 => ?_)
    ·
      refine z_iconst 1 (zdec DX4_joined 6 rfl) (by decide) ?_
      refine z_goto 97 (zdec DX4_joined 7 rfl) rfl ?_
      exact z_iret (zdec DX4_joined 9 rfl) rfl (⟨rfl, rfl, zri (by unfold zjoi zb; (repeat (first | rw [if_pos (by omega)] | rw [if_neg (by omega)])))⟩)
    ·
      refine z_iload_n 2 (zdec DX4_joined 4 rfl) rfl rfl ?_
      refine z_if_eq 96 (zdec DX4_joined 5 rfl) rfl (fun h89 => ?_) (fun h89 => ?_)
      ·
        refine z_iconst 0 (zdec DX4_joined 8 rfl) (by decide) ?_
        exact z_iret (zdec DX4_joined 9 rfl) rfl (⟨rfl, rfl, zri (by unfold zjoi zb; (repeat (first | rw [if_pos (by omega)] | rw [if_neg (by omega)])))⟩)
      ·
        refine z_iconst 1 (zdec DX4_joined 6 rfl) (by decide) ?_
        refine z_goto 97 (zdec DX4_joined 7 rfl) rfl ?_
        exact z_iret (zdec DX4_joined 9 rfl) rfl (⟨rfl, rfl, zri (by unfold zjoi zb; (repeat (first | rw [if_pos (by omega)] | rw [if_neg (by omega)])))⟩)
  refine z_lsw (off := 168) 169 (zdec DX4_joined 1 rfl) (by decide) (by simp [Op.lookupswitch.offset, h1_38, Ne.symm h1_38, h1_42, Ne.symm h1_42, h1_43, Ne.symm h1_43, h1_45, Ne.symm h1_45, h1_47, Ne.symm h1_47, h1_60, Ne.symm h1_60, h1_61, Ne.symm h1_61, h1_62, Ne.symm h1_62, h1_124, Ne.symm h1_124]) rfl ?_
  refine z_iload_n 2 (zdec DX4_joined 59 rfl) rfl rfl ?_
  refine z_if_ne 177 (zdec DX4_joined 60 rfl) rfl (fun h170 => ?_) (fun h170 => ?_)
  ·
    refine z_iload_n 1 (zdec DX4_joined 63 rfl) rfl rfl ?_
    refine z_iload_n 2 (zdec DX4_joined 64 rfl) rfl rfl ?_
    refine z_iremw (zdec DX4_joined 65 rfl) (by omega) ?_
    exact z_iret (zdec DX4_joined 66 rfl) rfl (⟨rfl, rfl, zri (by unfold zjoi zb; (repeat (first | rw [if_pos (by omega)] | rw [if_neg (by omega)])))⟩)
  ·
    refine z_iconst 0 (zdec DX4_joined 61 rfl) (by decide) ?_
    refine z_goto 180 (zdec DX4_joined 62 rfl) rfl ?_
    exact z_iret (zdec DX4_joined 66 rfl) rfl (⟨rfl, rfl, zri (by unfold zjoi zb; (repeat (first | rw [if_pos (by omega)] | rw [if_neg (by omega)])))⟩)
set_option maxHeartbeats 4000000 in
theorem cX4_peek {M : zMm} (hP : zP M) (hf : 0 ≤ M 14 2 ∧ M 14 1 ≤ 120) : zW mX4_peek 1 (fun rv S' M' => S' = zS0 ∧ M = M' ∧ rv = some (.inl (zpk M))) (0, 0) zS0 0 (zargs 0 [.inr (.inr 14)]) [] M := by
  change zW _ _ _ _ _ 0 [(0, .inr (.inr 14))] [] M
  refine z_aload_n 0 (zdec DX4_peek 0 rfl) rfl rfl (by decide) ?_
  refine z_geti (ki := 2) 14 4 (zdec DX4_peek 1 rfl) rfl shp14 rfl (by decide) rfl rfl fl_SixWalls_LawText_17 ?_
  refine z_aload_n 0 (zdec DX4_peek 2 rfl) rfl rfl (by decide) ?_
  refine z_geti (ki := 1) 14 4 (zdec DX4_peek 3 rfl) rfl shp14 rfl (by decide) rfl rfl fl_SixWalls_LawText_13 ?_
  refine z_icmp_ge 23 (zdec DX4_peek 4 rfl) rfl (fun h8 => ?_) (fun h8 => ?_)
  ·
    refine z_iconst (-1) (zdec DX4_peek 11 rfl) (by decide) ?_
    exact z_iret (zdec DX4_peek 12 rfl) rfl (⟨rfl, rfl, zri (by unfold zpk; first | rw [if_pos (by omega)] | rw [if_neg (by omega)])⟩)
  ·
    refine z_aload_n 0 (zdec DX4_peek 5 rfl) rfl rfl (by decide) ?_
    refine z_getr (rw1 := -24) (ki := 0) (r' := 15) 14 4 (zdec DX4_peek 6 rfl) rfl rfl shp14 rfl (by decide) rfl rfl fl_SixWalls_LawText_9 (zPa hP 21 rfl) ?_
    refine z_aload_n 0 (zdec DX4_peek 7 rfl) rfl rfl (by decide) ?_
    refine z_geti (ki := 2) 14 4 (zdec DX4_peek 8 rfl) rfl shp14 rfl (by decide) rfl rfl fl_SixWalls_LawText_17 ?_
    refine z_iald 15 (zdec DX4_peek 9 rfl) rfl shp15 ⟨by omega, by omega⟩ ?_
    refine z_goto 24 (zdec DX4_peek 10 rfl) rfl ?_
    exact z_iret (zdec DX4_peek 12 rfl) rfl (⟨rfl, rfl, zri (by unfold zpk; first | rw [if_pos (by omega)] | rw [if_neg (by omega)])⟩)
set_option maxHeartbeats 4000000 in
theorem cX4_emit {M : zMm} (hP : zP M) {q : Int} (hq2 : zQ M q) (hs : 0 ≤ M 14 9) (g v : Int) : zW mX4_emit 2 (fun rv S' M' => S' = zS0 ∧ rv = some (.inl (zpl M)) ∧ M' = zemi M q g v) (0, 0) zS0 0 (zargs 0 [.inr (.inr 14), .inl g, .inl v]) [] M := by
  change zW _ _ _ _ _ 0 [(0, .inr (.inr 14)), (1, .inl g), (2, .inl v)] [] M
  have hq0 := hq2.1
  have hpl : (if 120 < M 14 9 then 120 else M 14 9) = zpl M := rfl
  have hpb : 0 ≤ zpl M ∧ zpl M ≤ 120 := by unfold zpl; split <;> omega
  refine z_aload_n 0 (zdec DX4_emit 0 rfl) rfl rfl (by decide) ?_
  refine z_geti (ki := 9) 14 4 (zdec DX4_emit 1 rfl) rfl shp14 rfl (by decide) rfl rfl fl_SixWalls_LawText_39 ?_
  refine z_bipush 120 (zdec DX4_emit 2 rfl) (by decide) ?_
  refine z_mmin (zdec DX4_emit 3 rfl) ml_SixWalls_LawText_48 (by decide) (Nat.le_of_ble_eq_true rfl) ?_
  rw [hpl]
  refine z_istore_n (L' := [(0, .inr (.inr 14)), (1, .inl g), (2, .inl v), (3, .inl (zpl M))]) (zdec DX4_emit 4 rfl) rfl rfl (by decide) ?_
  refine z_aload_n 0 (zdec DX4_emit 5 rfl) rfl rfl (by decide) ?_
  refine z_getr (rw1 := -24) (ki := 7) (r' := (34 - q)) 14 4 (zdec DX4_emit 6 rfl) rfl rfl shp14 rfl (by decide) rfl rfl fl_SixWalls_LawText_33 hq2.2.2.2.1 ?_
  refine z_iload_n 3 (zdec DX4_emit 7 rfl) rfl rfl ?_
  refine z_iload_n 1 (zdec DX4_emit 8 rfl) rfl rfl ?_
  refine z_iast (34 - q).toNat (zdec DX4_emit 9 rfl) (by omega) (shpTx hq0).2.2.1 ⟨by omega, by omega⟩ ?_
  refine z_aload_n 0 (zdec DX4_emit 10 rfl) rfl rfl (by decide) ?_
  refine z_getr (rw1 := -24) (ki := 8) (r' := (35 - q)) 14 4 (zdec DX4_emit 11 rfl) rfl rfl shp14 rfl (by decide) rfl rfl fl_SixWalls_LawText_36 (by show zup M (34 - q) _ _ (-24) 8 = _; rw [zup_row (by omega)]; exact hq2.2.2.2.2) ?_
  refine z_iload_n 3 (zdec DX4_emit 12 rfl) rfl rfl ?_
  refine z_iload_n 2 (zdec DX4_emit 13 rfl) rfl rfl ?_
  refine z_iast (35 - q).toNat (zdec DX4_emit 14 rfl) (by omega) (shpTx hq0).2.2.2 ⟨by omega, by omega⟩ ?_
  refine z_aload_n 0 (zdec DX4_emit 15 rfl) rfl rfl (by decide) ?_
  refine z_iload_n 3 (zdec DX4_emit 16 rfl) rfl rfl ?_
  refine z_iconst 1 (zdec DX4_emit 17 rfl) (by decide) ?_
  refine z_iadd (zdec DX4_emit 18 rfl) (by unfold z32; omega) ?_
  refine z_puti (ki := 9) 14 4 (zdec DX4_emit 19 rfl) rfl shp14 rfl (by decide) rfl rfl fl_SixWalls_LawText_39 (Or.inl rfl) ?_
  refine z_iload_n 3 (zdec DX4_emit 20 rfl) rfl rfl ?_
  exact z_iret (zdec DX4_emit 21 rfl) rfl (⟨rfl, rfl, rfl⟩)
/-- the law worked out, a step for a sign; v: the names' values -/
def zwst (s : zMm) (q : Int) (v : Int → Int) (p : Int × Int × (Int → Int)) : Int × Int × (Int → Int) :=
  if s q p.1 = 63 then ((if 0 < p.2.1 ∧ p.2.2 (p.2.1 - 1) ≠ 0 then p.1 else if p.1 < s (q + 1) p.1 then s (q + 1) p.1 else p.1) + 1, 0, p.2.2)
  else if s q p.1 = 109 ∨ s q p.1 = 33 then (p.1 + 1, p.2.1, if 0 < p.2.1 then zpu p.2.2 (p.2.1 - 1) (if s q p.1 = 33 then zb (p.2.2 (p.2.1 - 1) = 0) else zw (-(p.2.2 (p.2.1 - 1)))) else p.2.2)
  else if 0 ≤ zlev (s q p.1) then (if 1 < p.2.1 then (p.1 + 1, p.2.1 - 1, zpu p.2.2 (p.2.1 - 1 - 1) (zjoi (s q p.1) (p.2.2 (p.2.1 - 1 - 1)) (p.2.2 (p.2.1 - 1)))) else (p.1 + 1, p.2.1, p.2.2))
  else if p.2.1 < 121 then (p.1 + 1, p.2.1 + 1, zpu p.2.2 p.2.1 (if s q p.1 = 110 then s (q + 1) p.1 else v (s q p.1))) else (p.1 + 1, p.2.1, p.2.2)
def zwor (s : zMm) (q : Int) (v : Int → Int) : Nat → Int × Int × (Int → Int) → Int
  | 0, _ => 0
  | f + 1, p => if s 14 6 ≤ p.1 then 0 else if s q p.1 = 59 then (if 0 < p.2.1 then p.2.2 (p.2.1 - 1) else 0) else zwor s q v f (zwst s q v p)
def zworth (s : zMm) (q d t o a b : Int) : Int := zwor s q (fun g => znmd g d t o a b) 123 (0, 0, s 20)
def zTx (s : zMm) (q : Int) : Prop := zQ s q ∧ (0 ≤ s 14 6 ∧ s 14 6 ≤ 121) ∧ ∀ i : Int, 0 ≤ i → i < 121 → 0 ≤ s (q + 1) i ∧ s (q + 1) i ≤ 9999
theorem zwor_go {s : zMm} {q : Int} {v : Int → Int} {f : Nat} {p : Int × Int × (Int → Int)} (h1 : p.1 < s 14 6) (h2 : s q p.1 ≠ 59) (hf : 0 < f) : zwor s q v f p = zwor s q v (f - 1) (zwst s q v p) := by
  obtain ⟨f, rfl⟩ : ∃ g, f = g + 1 := ⟨f - 1, by omega⟩
  show (if s 14 6 ≤ p.1 then 0 else _) = _
  rw [if_neg (by omega), if_neg h2]
  rfl
theorem zwor_end {s : zMm} {q : Int} {v : Int → Int} {f : Nat} {p : Int × Int × (Int → Int)} (h1 : p.1 < s 14 6) (h2 : s q p.1 = 59) (hf : 0 < f) : zwor s q v f p = if 0 < p.2.1 then p.2.2 (p.2.1 - 1) else 0 := by
  obtain ⟨f, rfl⟩ : ∃ g, f = g + 1 := ⟨f - 1, by omega⟩
  show (if s 14 6 ≤ p.1 then 0 else _) = _
  rw [if_neg (by omega), if_pos h2]
theorem zwe {s : zMm} {q i tp Z : Int} {v stk : Int → Int} {f : Nat} (him : i < s 14 6) (h59 : s q i = 59) (hf0 : 0 < f) (hw : Z = zwor s q v f (i, tp, stk)) : Z = if 0 < tp then stk (tp - 1) else 0 := by
  rw [hw]
  exact zwor_end (p := (i, tp, stk)) him h59 hf0
theorem zwn {s M2 M3 : zMm} {q i tp i' tp' Z : Int} {v : Int → Int} {f : Nat} (him : i < s 14 6) (h59 : s q i ≠ 59) (hf0 : 0 < f) (hf1 : 121 - i < f) (hib : i < 121) (e : zwst s q v (i, tp, M2 20) = (i', tp', M3 20)) (hw : Z = zwor s q v f (i, tp, M2 20)) (hi : i < i') : ∃ g : Nat, 0 < g ∧ 121 - i' < g ∧ Z = zwor s q v g (i', tp', M3 20) := by
  refine ⟨f - 1, by omega, by omega, ?_⟩
  rw [hw, zwor_go him h59 hf0, e]
set_option maxHeartbeats 4000000 in
theorem lp_X4_worth_6 {M : zMm} (hP : zP M) {q : Int} (hT : zTx M q) (d t o a b : Int) (hx279 : ∀ (M2 : zMm), (zworth M q d t o a b = 0 ∧ zonly 20 M M2) → zW mX4_worth 3 (fun rv S' M' => S' = zS0 ∧ rv = some (.inl (zworth M q d t o a b)) ∧ zonly 20 M M') (0, 0) zS0 279 [] [] M2) : ∀ (n : Nat) (tp : Int) (i : Int) (M2 : zMm), (121 - i).toNat < n → (0 ≤ i ∧ 0 ≤ tp ∧ tp ≤ 121 ∧ zonly 20 M M2 ∧ ∃ f : Nat, 0 < f ∧ 121 - i < f ∧ zworth M q d t o a b = zwor M q (fun g => znmd g d t o a b) f (i, tp, M2 20)) → zW mX4_worth 3 (fun rv S' M' => S' = zS0 ∧ rv = some (.inl (zworth M q d t o a b)) ∧ zonly 20 M M') (0, 0) zS0 6 [(0, .inr (.inr 14)), (1, .inl d), (2, .inl t), (3, .inl o), (4, .inl a), (5, .inl b), (6, .inl tp), (7, .inl i)] [] M2 := by
  intro n
  induction n with
  | zero => intro tp i M2 hn; exact absurd hn (Nat.not_lt_zero _)
  | succ n ih =>
    intro tp i M2 hn hI
    have hq0 := hT.1.1
    obtain ⟨hi0, ht0, ht1, hO, f, hf0, hf1, hf2⟩ := hI
    have hP2 : zP M2 := hO.P (by decide) hP
    have hq2 : zQ M2 q := zQ_of hT.1 (hO (-24) (by decide))
    have e14 : M2 14 = M 14 := hO 14 (by decide)
    have eq : M2 q = M q := hO q (by omega)
    have eq1 : M2 (q + 1) = M (q + 1) := hO (q + 1) (by omega)
    have hs6 := hT.2.1
    have e146 : M2 14 6 = M 14 6 := by rw [e14]
    refine z_iload 7 (zdec DX4_worth 4 rfl) rfl ?_
    refine z_aload_n 0 (zdec DX4_worth 5 rfl) rfl rfl (by decide) ?_
    refine z_geti (ki := 6) 14 4 (zdec DX4_worth 6 rfl) rfl shp14 rfl (by decide) rfl rfl fl_SixWalls_LawText_30 ?_
    refine z_icmp_ge 279 (zdec DX4_worth 7 rfl) rfl (fun h12 => ?_) (fun h12 => ?_)
    ·
      refine z_weak (L' := []) (by simp) ?_
      exact hx279 M2 (by refine ⟨?_, hO⟩; rw [hf2]; obtain ⟨f, rfl⟩ : ∃ g, f = g + 1 := ⟨f - 1, by omega⟩; show (if M 14 6 ≤ i then 0 else _) = _; rw [if_pos (by omega)])
    ·
      have hib : i < 121 := by omega
      have hnb := hT.2.2 i hi0 hib
      rw [← eq1] at hnb
      have him : i < M 14 6 := by omega
      refine z_aload_n 0 (zdec DX4_worth 8 rfl) rfl rfl (by decide) ?_
      refine z_getr (rw1 := -24) (ki := 4) (r' := q) 14 4 (zdec DX4_worth 9 rfl) rfl rfl shp14 rfl (by decide) rfl rfl fl_SixWalls_LawText_24 hq2.2.1 ?_
      refine z_iload 7 (zdec DX4_worth 10 rfl) rfl ?_
      refine z_iald (q).toNat (zdec DX4_worth 11 rfl) (by omega) (shpTx hq0).1 ⟨by omega, by omega⟩ ?_
      refine z_istore (L' := [(0, .inr (.inr 14)), (1, .inl d), (2, .inl t), (3, .inl o), (4, .inl a), (5, .inl b), (6, .inl tp), (7, .inl i), (8, .inl (M2 q i))]) (zdec DX4_worth 12 rfl) rfl (by decide) ?_
      refine z_iload 8 (zdec DX4_worth 13 rfl) rfl ?_
      refine z_bipush 59 (zdec DX4_worth 14 rfl) (by decide) ?_
      refine z_icmp_ne 50 (zdec DX4_worth 15 rfl) rfl (fun h28 => ?_) (fun h28 => ?_)
      ·
        refine z_iload 8 (zdec DX4_worth 27 rfl) rfl ?_
        refine z_bipush 63 (zdec DX4_worth 28 rfl) (by decide) ?_
        refine z_icmp_ne 106 (zdec DX4_worth 29 rfl) rfl (fun h54 => ?_) (fun h54 => ?_)
        ·
          refine z_iload 8 (zdec DX4_worth 55 rfl) rfl ?_
          refine z_bipush 109 (zdec DX4_worth 56 rfl) (by decide) ?_
          refine z_icmp_eq 120 (zdec DX4_worth 57 rfl) rfl (fun h110 => ?_) (fun h110 => ?_)
          ·
            refine z_iload 6 (zdec DX4_worth 61 rfl) rfl ?_
            refine z_if_le 273 (zdec DX4_worth 62 rfl) rfl (fun h122 => ?_) (fun h122 => ?_)
            ·
              refine z_iinc (L' := [(0, .inr (.inr 14)), (1, .inl d), (2, .inl t), (3, .inl o), (4, .inl a), (5, .inl b), (6, .inl tp), (7, .inl (i + 1)), (8, .inl (M2 q i))]) 7 (zdec DX4_worth 142 rfl) rfl (by unfold z32; omega) rfl (by decide) ?_
              refine z_goto 6 (zdec DX4_worth 143 rfl) rfl ?_
              refine z_weak (L' := [(0, .inr (.inr 14)), (1, .inl d), (2, .inl t), (3, .inl o), (4, .inl a), (5, .inl b), (6, .inl tp), (7, .inl (i + 1))]) (by simp) ?_
              exact ih tp (i + 1) M2 (by omega) ⟨by (try split) <;> omega, by omega, by omega, (by first | exact hO | exact hO.up), zwn him (by rw [← eq]; omega) hf0 hf1 hib (by first | (exfalso; omega) | skip; unfold zwst; rw [← eq, ← eq1]; dsimp only; (try rw [zup_zpu]); (try unfold zb); (repeat (first | rw [if_pos (by omega)] | rw [if_neg (by omega)])); try rfl) hf2 (by (try split) <;> omega)⟩
            ·
              refine z_aload_n 0 (zdec DX4_worth 63 rfl) rfl rfl (by decide) ?_
              refine z_getr (rw1 := -24) (ki := 10) (r' := 20) 14 4 (zdec DX4_worth 64 rfl) rfl rfl shp14 rfl (by decide) rfl rfl fl_SixWalls_LawText_42 (zPa hP2 22 rfl) ?_
              refine z_iload 6 (zdec DX4_worth 65 rfl) rfl ?_
              refine z_iconst 1 (zdec DX4_worth 66 rfl) (by decide) ?_
              refine z_isub (zdec DX4_worth 67 rfl) (by unfold z32; omega) ?_
              refine z_iload 8 (zdec DX4_worth 68 rfl) rfl ?_
              refine z_bipush 109 (zdec DX4_worth 69 rfl) (by decide) ?_
              refine z_icmp_ne 153 (zdec DX4_worth 70 rfl) rfl (fun h137 => ?_) (fun h137 => ?_)
              ·
                refine z_aload_n 0 (zdec DX4_worth 79 rfl) rfl rfl (by decide) ?_
                refine z_getr (rw1 := -24) (ki := 10) (r' := 20) 14 4 (zdec DX4_worth 80 rfl) rfl rfl shp14 rfl (by decide) rfl rfl fl_SixWalls_LawText_42 (zPa hP2 22 rfl) ?_
                refine z_iload 6 (zdec DX4_worth 81 rfl) rfl ?_
                refine z_iconst 1 (zdec DX4_worth 82 rfl) (by decide) ?_
                refine z_isub (zdec DX4_worth 83 rfl) (by unfold z32; omega) ?_
                refine z_iald 20 (zdec DX4_worth 84 rfl) rfl shp20 ⟨by omega, by omega⟩ ?_
                refine z_if_ne 169 (zdec DX4_worth 85 rfl) rfl (fun h162 => ?_) (fun h162 => ?_)
                ·
                  refine z_iconst 0 (zdec DX4_worth 88 rfl) (by decide) ?_
                  refine z_iast 20 (zdec DX4_worth 89 rfl) rfl shp20 ⟨by omega, by omega⟩ ?_
                  refine z_goto 273 (zdec DX4_worth 90 rfl) rfl ?_
                  refine z_iinc (L' := [(0, .inr (.inr 14)), (1, .inl d), (2, .inl t), (3, .inl o), (4, .inl a), (5, .inl b), (6, .inl tp), (7, .inl (i + 1)), (8, .inl (M2 q i))]) 7 (zdec DX4_worth 142 rfl) rfl (by unfold z32; omega) rfl (by decide) ?_
                  refine z_goto 6 (zdec DX4_worth 143 rfl) rfl ?_
                  refine z_weak (L' := [(0, .inr (.inr 14)), (1, .inl d), (2, .inl t), (3, .inl o), (4, .inl a), (5, .inl b), (6, .inl tp), (7, .inl (i + 1))]) (by simp) ?_
                  exact ih tp (i + 1) (zup M2 20 (tp - 1) 0) (by omega) ⟨by (try split) <;> omega, by omega, by omega, (by first | exact hO | exact hO.up), zwn him (by rw [← eq]; omega) hf0 hf1 hib (by first | (exfalso; omega) | skip; unfold zwst; rw [← eq, ← eq1]; dsimp only; (try rw [zup_zpu]); (try unfold zb); (repeat (first | rw [if_pos (by omega)] | rw [if_neg (by omega)])); try rfl) hf2 (by (try split) <;> omega)⟩
                ·
                  refine z_iconst 1 (zdec DX4_worth 86 rfl) (by decide) ?_
                  refine z_goto 170 (zdec DX4_worth 87 rfl) rfl ?_
                  refine z_iast 20 (zdec DX4_worth 89 rfl) rfl shp20 ⟨by omega, by omega⟩ ?_
                  refine z_goto 273 (zdec DX4_worth 90 rfl) rfl ?_
                  refine z_iinc (L' := [(0, .inr (.inr 14)), (1, .inl d), (2, .inl t), (3, .inl o), (4, .inl a), (5, .inl b), (6, .inl tp), (7, .inl (i + 1)), (8, .inl (M2 q i))]) 7 (zdec DX4_worth 142 rfl) rfl (by unfold z32; omega) rfl (by decide) ?_
                  refine z_goto 6 (zdec DX4_worth 143 rfl) rfl ?_
                  refine z_weak (L' := [(0, .inr (.inr 14)), (1, .inl d), (2, .inl t), (3, .inl o), (4, .inl a), (5, .inl b), (6, .inl tp), (7, .inl (i + 1))]) (by simp) ?_
                  exact ih tp (i + 1) (zup M2 20 (tp - 1) 1) (by omega) ⟨by (try split) <;> omega, by omega, by omega, (by first | exact hO | exact hO.up), zwn him (by rw [← eq]; omega) hf0 hf1 hib (by first | (exfalso; omega) | skip; unfold zwst; rw [← eq, ← eq1]; dsimp only; (try rw [zup_zpu]); (try unfold zb); (repeat (first | rw [if_pos (by omega)] | rw [if_neg (by omega)])); try rfl) hf2 (by (try split) <;> omega)⟩
              ·
                refine z_aload_n 0 (zdec DX4_worth 71 rfl) rfl rfl (by decide) ?_
                refine z_getr (rw1 := -24) (ki := 10) (r' := 20) 14 4 (zdec DX4_worth 72 rfl) rfl rfl shp14 rfl (by decide) rfl rfl fl_SixWalls_LawText_42 (zPa hP2 22 rfl) ?_
                refine z_iload 6 (zdec DX4_worth 73 rfl) rfl ?_
                refine z_iconst 1 (zdec DX4_worth 74 rfl) (by decide) ?_
                refine z_isub (zdec DX4_worth 75 rfl) (by unfold z32; omega) ?_
                refine z_iald 20 (zdec DX4_worth 76 rfl) rfl shp20 ⟨by omega, by omega⟩ ?_
                refine z_inegw (zdec DX4_worth 77 rfl) ?_
                refine z_goto 170 (zdec DX4_worth 78 rfl) rfl ?_
                refine z_iast 20 (zdec DX4_worth 89 rfl) rfl shp20 ⟨by omega, by omega⟩ ?_
                refine z_goto 273 (zdec DX4_worth 90 rfl) rfl ?_
                refine z_iinc (L' := [(0, .inr (.inr 14)), (1, .inl d), (2, .inl t), (3, .inl o), (4, .inl a), (5, .inl b), (6, .inl tp), (7, .inl (i + 1)), (8, .inl (M2 q i))]) 7 (zdec DX4_worth 142 rfl) rfl (by unfold z32; omega) rfl (by decide) ?_
                refine z_goto 6 (zdec DX4_worth 143 rfl) rfl ?_
                refine z_weak (L' := [(0, .inr (.inr 14)), (1, .inl d), (2, .inl t), (3, .inl o), (4, .inl a), (5, .inl b), (6, .inl tp), (7, .inl (i + 1))]) (by simp) ?_
                exact ih tp (i + 1) (zup M2 20 (tp - 1) (zw (-(M2 20 (tp - 1))))) (by omega) ⟨by (try split) <;> omega, by omega, by omega, (by first | exact hO | exact hO.up), zwn him (by rw [← eq]; omega) hf0 hf1 hib (by first | (exfalso; omega) | skip; unfold zwst; rw [← eq, ← eq1]; dsimp only; (try rw [zup_zpu]); (try unfold zb); (repeat (first | rw [if_pos (by omega)] | rw [if_neg (by omega)])); try rfl) hf2 (by (try split) <;> omega)⟩
          ·
            refine z_iload 8 (zdec DX4_worth 58 rfl) rfl ?_
            refine z_bipush 33 (zdec DX4_worth 59 rfl) (by decide) ?_
            refine z_icmp_ne 174 (zdec DX4_worth 60 rfl) rfl (fun h117 => ?_) (fun h117 => ?_)
            ·
              refine z_iload 8 (zdec DX4_worth 91 rfl) rfl ?_
              refine z_invs mX4_levelOf [.inl (M2 q i)] (zdec DX4_worth 92 rfl) (Or.inl ml_SixWalls_LawText_69) okX4_levelOf rfl rfl (Nat.le_of_ble_eq_true rfl) (Nat.le_of_ble_eq_true rfl) (b' := (0, 0)) ⟨Nat.le_refl 0, Nat.le_refl 0⟩ (Nat.le_of_ble_eq_true rfl) (cX4_levelOf (M2 q i)) (fun rv9 S9 M176 h9 => ?_)
              obtain ⟨rfl, rfl, rfl⟩ := h9
              change zW _ _ _ _ _ 179 [(0, .inr (.inr 14)), (1, .inl d), (2, .inl t), (3, .inl o), (4, .inl a), (5, .inl b), (6, .inl tp), (7, .inl i), (8, .inl (M2 q i))] [.inl (zlev ((M2 q i)))] M2
              refine z_if_lt 224 (zdec DX4_worth 93 rfl) rfl (fun h179 => ?_) (fun h179 => ?_)
              ·
                refine z_iload 6 (zdec DX4_worth 117 rfl) rfl ?_
                refine z_aload_n 0 (zdec DX4_worth 118 rfl) rfl rfl (by decide) ?_
                refine z_getr (rw1 := -24) (ki := 10) (r' := 20) 14 4 (zdec DX4_worth 119 rfl) rfl rfl shp14 rfl (by decide) rfl rfl fl_SixWalls_LawText_42 (zPa hP2 22 rfl) ?_
                refine z_alen 20 (zdec DX4_worth 120 rfl) rfl shp20 (by decide) (by decide) ?_
                refine z_icmp_ge 273 (zdec DX4_worth 121 rfl) rfl (fun h231 => ?_) (fun h231 => ?_)
                ·
                  refine z_iinc (L' := [(0, .inr (.inr 14)), (1, .inl d), (2, .inl t), (3, .inl o), (4, .inl a), (5, .inl b), (6, .inl tp), (7, .inl (i + 1)), (8, .inl (M2 q i))]) 7 (zdec DX4_worth 142 rfl) rfl (by unfold z32; omega) rfl (by decide) ?_
                  refine z_goto 6 (zdec DX4_worth 143 rfl) rfl ?_
                  refine z_weak (L' := [(0, .inr (.inr 14)), (1, .inl d), (2, .inl t), (3, .inl o), (4, .inl a), (5, .inl b), (6, .inl tp), (7, .inl (i + 1))]) (by simp) ?_
                  exact ih tp (i + 1) M2 (by omega) ⟨by (try split) <;> omega, by omega, by omega, (by first | exact hO | exact hO.up), zwn him (by rw [← eq]; omega) hf0 hf1 hib (by first | (exfalso; omega) | skip; unfold zwst; rw [← eq, ← eq1]; dsimp only; (try rw [zup_zpu]); (try unfold zb); (repeat (first | rw [if_pos (by omega)] | rw [if_neg (by omega)])); try rfl) hf2 (by (try split) <;> omega)⟩
                ·
                  refine z_aload_n 0 (zdec DX4_worth 122 rfl) rfl rfl (by decide) ?_
                  refine z_getr (rw1 := -24) (ki := 10) (r' := 20) 14 4 (zdec DX4_worth 123 rfl) rfl rfl shp14 rfl (by decide) rfl rfl fl_SixWalls_LawText_42 (zPa hP2 22 rfl) ?_
                  refine z_iload 6 (zdec DX4_worth 124 rfl) rfl ?_
                  refine z_iload 8 (zdec DX4_worth 125 rfl) rfl ?_
                  refine z_bipush 110 (zdec DX4_worth 126 rfl) (by decide) ?_
                  refine z_icmp_ne 257 (zdec DX4_worth 127 rfl) rfl (fun h244 => ?_) (fun h244 => ?_)
                  ·
                    refine z_iload 8 (zdec DX4_worth 133 rfl) rfl ?_
                    refine z_iload_n 1 (zdec DX4_worth 134 rfl) rfl rfl ?_
                    refine z_iload_n 2 (zdec DX4_worth 135 rfl) rfl rfl ?_
                    refine z_iload_n 3 (zdec DX4_worth 136 rfl) rfl rfl ?_
                    refine z_iload 4 (zdec DX4_worth 137 rfl) rfl ?_
                    refine z_iload 5 (zdec DX4_worth 138 rfl) rfl ?_
                    refine z_invs mX4_named [.inl (M2 q i), .inl d, .inl t, .inl o, .inl a, .inl b] (zdec DX4_worth 139 rfl) (Or.inl ml_SixWalls_LawText_90) okX4_named rfl rfl (Nat.le_of_ble_eq_true rfl) (Nat.le_of_ble_eq_true rfl) (b' := (0, 0)) ⟨Nat.le_refl 0, Nat.le_refl 0⟩ (Nat.le_of_ble_eq_true rfl) (cX4_named (M2 q i) d t o a b) (fun rv9 S9 M266 h9 => ?_)
                    obtain ⟨rfl, rfl, rfl⟩ := h9
                    change zW _ _ _ _ _ 269 [(0, .inr (.inr 14)), (1, .inl d), (2, .inl t), (3, .inl o), (4, .inl a), (5, .inl b), (6, .inl tp), (7, .inl i), (8, .inl (M2 q i))] [.inl (znmd ((M2 q i)) d t o a b), .inl tp, .inr (.inr 20)] M2
                    refine z_iast 20 (zdec DX4_worth 140 rfl) rfl shp20 ⟨by omega, by omega⟩ ?_
                    refine z_iinc (L' := [(0, .inr (.inr 14)), (1, .inl d), (2, .inl t), (3, .inl o), (4, .inl a), (5, .inl b), (6, .inl (tp + 1)), (7, .inl i), (8, .inl (M2 q i))]) 6 (zdec DX4_worth 141 rfl) rfl (by unfold z32; omega) rfl (by decide) ?_
                    refine z_iinc (L' := [(0, .inr (.inr 14)), (1, .inl d), (2, .inl t), (3, .inl o), (4, .inl a), (5, .inl b), (6, .inl (tp + 1)), (7, .inl (i + 1)), (8, .inl (M2 q i))]) 7 (zdec DX4_worth 142 rfl) rfl (by unfold z32; omega) rfl (by decide) ?_
                    refine z_goto 6 (zdec DX4_worth 143 rfl) rfl ?_
                    refine z_weak (L' := [(0, .inr (.inr 14)), (1, .inl d), (2, .inl t), (3, .inl o), (4, .inl a), (5, .inl b), (6, .inl (tp + 1)), (7, .inl (i + 1))]) (by simp) ?_
                    exact ih (tp + 1) (i + 1) (zup M2 20 tp (znmd ((M2 q i)) d t o a b)) (by omega) ⟨by (try split) <;> omega, by omega, by omega, (by first | exact hO | exact hO.up), zwn him (by rw [← eq]; omega) hf0 hf1 hib (by first | (exfalso; omega) | skip; unfold zwst; rw [← eq, ← eq1]; dsimp only; (try rw [zup_zpu]); (try unfold zb); (repeat (first | rw [if_pos (by omega)] | rw [if_neg (by omega)])); try rfl) hf2 (by (try split) <;> omega)⟩
                  ·
                    refine z_aload_n 0 (zdec DX4_worth 128 rfl) rfl rfl (by decide) ?_
                    refine z_getr (rw1 := -24) (ki := 5) (r' := (q + 1)) 14 4 (zdec DX4_worth 129 rfl) rfl rfl shp14 rfl (by decide) rfl rfl fl_SixWalls_LawText_27 hq2.2.2.1 ?_
                    refine z_iload 7 (zdec DX4_worth 130 rfl) rfl ?_
                    refine z_iald (q + 1).toNat (zdec DX4_worth 131 rfl) (by omega) (shpTx hq0).2.1 ⟨by omega, by omega⟩ ?_
                    refine z_goto 269 (zdec DX4_worth 132 rfl) rfl ?_
                    refine z_iast 20 (zdec DX4_worth 140 rfl) rfl shp20 ⟨by omega, by omega⟩ ?_
                    refine z_iinc (L' := [(0, .inr (.inr 14)), (1, .inl d), (2, .inl t), (3, .inl o), (4, .inl a), (5, .inl b), (6, .inl (tp + 1)), (7, .inl i), (8, .inl (M2 q i))]) 6 (zdec DX4_worth 141 rfl) rfl (by unfold z32; omega) rfl (by decide) ?_
                    refine z_iinc (L' := [(0, .inr (.inr 14)), (1, .inl d), (2, .inl t), (3, .inl o), (4, .inl a), (5, .inl b), (6, .inl (tp + 1)), (7, .inl (i + 1)), (8, .inl (M2 q i))]) 7 (zdec DX4_worth 142 rfl) rfl (by unfold z32; omega) rfl (by decide) ?_
                    refine z_goto 6 (zdec DX4_worth 143 rfl) rfl ?_
                    refine z_weak (L' := [(0, .inr (.inr 14)), (1, .inl d), (2, .inl t), (3, .inl o), (4, .inl a), (5, .inl b), (6, .inl (tp + 1)), (7, .inl (i + 1))]) (by simp) ?_
                    exact ih (tp + 1) (i + 1) (zup M2 20 tp (M2 (q + 1) i)) (by omega) ⟨by (try split) <;> omega, by omega, by omega, (by first | exact hO | exact hO.up), zwn him (by rw [← eq]; omega) hf0 hf1 hib (by first | (exfalso; omega) | skip; unfold zwst; rw [← eq, ← eq1]; dsimp only; (try rw [zup_zpu]); (try unfold zb); (repeat (first | rw [if_pos (by omega)] | rw [if_neg (by omega)])); try rfl) hf2 (by (try split) <;> omega)⟩
              ·
                refine z_iload 6 (zdec DX4_worth 94 rfl) rfl ?_
                refine z_iconst 1 (zdec DX4_worth 95 rfl) (by decide) ?_
                refine z_icmp_le 273 (zdec DX4_worth 96 rfl) rfl (fun h185 => ?_) (fun h185 => ?_)
                ·
                  refine z_iinc (L' := [(0, .inr (.inr 14)), (1, .inl d), (2, .inl t), (3, .inl o), (4, .inl a), (5, .inl b), (6, .inl tp), (7, .inl (i + 1)), (8, .inl (M2 q i))]) 7 (zdec DX4_worth 142 rfl) rfl (by unfold z32; omega) rfl (by decide) ?_
                  refine z_goto 6 (zdec DX4_worth 143 rfl) rfl ?_
                  refine z_weak (L' := [(0, .inr (.inr 14)), (1, .inl d), (2, .inl t), (3, .inl o), (4, .inl a), (5, .inl b), (6, .inl tp), (7, .inl (i + 1))]) (by simp) ?_
                  exact ih tp (i + 1) M2 (by omega) ⟨by (try split) <;> omega, by omega, by omega, (by first | exact hO | exact hO.up), zwn him (by rw [← eq]; omega) hf0 hf1 hib (by first | (exfalso; omega) | skip; unfold zwst; rw [← eq, ← eq1]; dsimp only; (try rw [zup_zpu]); (try unfold zb); (repeat (first | rw [if_pos (by omega)] | rw [if_neg (by omega)])); try rfl) hf2 (by (try split) <;> omega)⟩
                ·
                  refine z_iinc (L' := [(0, .inr (.inr 14)), (1, .inl d), (2, .inl t), (3, .inl o), (4, .inl a), (5, .inl b), (6, .inl (tp + (-1))), (7, .inl i), (8, .inl (M2 q i))]) 6 (zdec DX4_worth 97 rfl) rfl (by unfold z32; omega) rfl (by decide) ?_
                  refine z_aload_n 0 (zdec DX4_worth 98 rfl) rfl rfl (by decide) ?_
                  refine z_getr (rw1 := -24) (ki := 10) (r' := 20) 14 4 (zdec DX4_worth 99 rfl) rfl rfl shp14 rfl (by decide) rfl rfl fl_SixWalls_LawText_42 (zPa hP2 22 rfl) ?_
                  refine z_iload 6 (zdec DX4_worth 100 rfl) rfl ?_
                  refine z_iconst 1 (zdec DX4_worth 101 rfl) (by decide) ?_
                  refine z_isub (zdec DX4_worth 102 rfl) (by unfold z32; omega) ?_
                  refine z_iload 8 (zdec DX4_worth 103 rfl) rfl ?_
                  refine z_aload_n 0 (zdec DX4_worth 104 rfl) rfl rfl (by decide) ?_
                  refine z_getr (rw1 := -24) (ki := 10) (r' := 20) 14 4 (zdec DX4_worth 105 rfl) rfl rfl shp14 rfl (by decide) rfl rfl fl_SixWalls_LawText_42 (zPa hP2 22 rfl) ?_
                  refine z_iload 6 (zdec DX4_worth 106 rfl) rfl ?_
                  refine z_iconst 1 (zdec DX4_worth 107 rfl) (by decide) ?_
                  refine z_isub (zdec DX4_worth 108 rfl) (by unfold z32; omega) ?_
                  refine z_iald 20 (zdec DX4_worth 109 rfl) rfl shp20 ⟨by omega, by omega⟩ ?_
                  refine z_aload_n 0 (zdec DX4_worth 110 rfl) rfl rfl (by decide) ?_
                  refine z_getr (rw1 := -24) (ki := 10) (r' := 20) 14 4 (zdec DX4_worth 111 rfl) rfl rfl shp14 rfl (by decide) rfl rfl fl_SixWalls_LawText_42 (zPa hP2 22 rfl) ?_
                  refine z_iload 6 (zdec DX4_worth 112 rfl) rfl ?_
                  refine z_iald 20 (zdec DX4_worth 113 rfl) rfl shp20 ⟨by omega, by omega⟩ ?_
                  refine z_invs mX4_joined [.inl (M2 q i), .inl (M2 20 ((tp + (-1)) - 1)), .inl (M2 20 (tp + (-1)))] (zdec DX4_worth 114 rfl) (Or.inl ml_SixWalls_LawText_86) okX4_joined rfl rfl (Nat.le_of_ble_eq_true rfl) (Nat.le_of_ble_eq_true rfl) (b' := (0, 0)) ⟨Nat.le_refl 0, Nat.le_refl 0⟩ (Nat.le_of_ble_eq_true rfl) (cX4_joined (M2 q i) (M2 20 ((tp + (-1)) - 1)) (M2 20 (tp + (-1)))) (fun rv9 S9 M217 h9 => ?_)
                  obtain ⟨rfl, rfl, rfl⟩ := h9
                  change zW _ _ _ _ _ 220 [(0, .inr (.inr 14)), (1, .inl d), (2, .inl t), (3, .inl o), (4, .inl a), (5, .inl b), (6, .inl (tp + (-1))), (7, .inl i), (8, .inl (M2 q i))] [.inl (zjoi ((M2 q i)) ((M2 20 ((tp + (-1)) - 1))) ((M2 20 (tp + (-1))))), .inl ((tp + (-1)) - 1), .inr (.inr 20)] M2
                  refine z_iast 20 (zdec DX4_worth 115 rfl) rfl shp20 ⟨by omega, by omega⟩ ?_
                  refine z_goto 273 (zdec DX4_worth 116 rfl) rfl ?_
                  refine z_iinc (L' := [(0, .inr (.inr 14)), (1, .inl d), (2, .inl t), (3, .inl o), (4, .inl a), (5, .inl b), (6, .inl (tp + (-1))), (7, .inl (i + 1)), (8, .inl (M2 q i))]) 7 (zdec DX4_worth 142 rfl) rfl (by unfold z32; omega) rfl (by decide) ?_
                  refine z_goto 6 (zdec DX4_worth 143 rfl) rfl ?_
                  refine z_weak (L' := [(0, .inr (.inr 14)), (1, .inl d), (2, .inl t), (3, .inl o), (4, .inl a), (5, .inl b), (6, .inl (tp + (-1))), (7, .inl (i + 1))]) (by simp) ?_
                  exact ih (tp + (-1)) (i + 1) (zup M2 20 ((tp + (-1)) - 1) (zjoi ((M2 q i)) ((M2 20 ((tp + (-1)) - 1))) ((M2 20 (tp + (-1)))))) (by omega) ⟨by (try split) <;> omega, by omega, by omega, (by first | exact hO | exact hO.up), zwn him (by rw [← eq]; omega) hf0 hf1 hib (by first | (exfalso; omega) | skip; unfold zwst; rw [← eq, ← eq1]; dsimp only; (try rw [zup_zpu]); (try unfold zb); (repeat (first | rw [if_pos (by omega)] | rw [if_neg (by omega)])); try rfl) hf2 (by (try split) <;> omega)⟩
            ·
              refine z_iload 6 (zdec DX4_worth 61 rfl) rfl ?_
              refine z_if_le 273 (zdec DX4_worth 62 rfl) rfl (fun h122 => ?_) (fun h122 => ?_)
              ·
                refine z_iinc (L' := [(0, .inr (.inr 14)), (1, .inl d), (2, .inl t), (3, .inl o), (4, .inl a), (5, .inl b), (6, .inl tp), (7, .inl (i + 1)), (8, .inl (M2 q i))]) 7 (zdec DX4_worth 142 rfl) rfl (by unfold z32; omega) rfl (by decide) ?_
                refine z_goto 6 (zdec DX4_worth 143 rfl) rfl ?_
                refine z_weak (L' := [(0, .inr (.inr 14)), (1, .inl d), (2, .inl t), (3, .inl o), (4, .inl a), (5, .inl b), (6, .inl tp), (7, .inl (i + 1))]) (by simp) ?_
                exact ih tp (i + 1) M2 (by omega) ⟨by (try split) <;> omega, by omega, by omega, (by first | exact hO | exact hO.up), zwn him (by rw [← eq]; omega) hf0 hf1 hib (by first | (exfalso; omega) | skip; unfold zwst; rw [← eq, ← eq1]; dsimp only; (try rw [zup_zpu]); (try unfold zb); (repeat (first | rw [if_pos (by omega)] | rw [if_neg (by omega)])); try rfl) hf2 (by (try split) <;> omega)⟩
              ·
                refine z_aload_n 0 (zdec DX4_worth 63 rfl) rfl rfl (by decide) ?_
                refine z_getr (rw1 := -24) (ki := 10) (r' := 20) 14 4 (zdec DX4_worth 64 rfl) rfl rfl shp14 rfl (by decide) rfl rfl fl_SixWalls_LawText_42 (zPa hP2 22 rfl) ?_
                refine z_iload 6 (zdec DX4_worth 65 rfl) rfl ?_
                refine z_iconst 1 (zdec DX4_worth 66 rfl) (by decide) ?_
                refine z_isub (zdec DX4_worth 67 rfl) (by unfold z32; omega) ?_
                refine z_iload 8 (zdec DX4_worth 68 rfl) rfl ?_
                refine z_bipush 109 (zdec DX4_worth 69 rfl) (by decide) ?_
                refine z_icmp_ne 153 (zdec DX4_worth 70 rfl) rfl (fun h137 => ?_) (fun h137 => ?_)
                ·
                  refine z_aload_n 0 (zdec DX4_worth 79 rfl) rfl rfl (by decide) ?_
                  refine z_getr (rw1 := -24) (ki := 10) (r' := 20) 14 4 (zdec DX4_worth 80 rfl) rfl rfl shp14 rfl (by decide) rfl rfl fl_SixWalls_LawText_42 (zPa hP2 22 rfl) ?_
                  refine z_iload 6 (zdec DX4_worth 81 rfl) rfl ?_
                  refine z_iconst 1 (zdec DX4_worth 82 rfl) (by decide) ?_
                  refine z_isub (zdec DX4_worth 83 rfl) (by unfold z32; omega) ?_
                  refine z_iald 20 (zdec DX4_worth 84 rfl) rfl shp20 ⟨by omega, by omega⟩ ?_
                  refine z_if_ne 169 (zdec DX4_worth 85 rfl) rfl (fun h162 => ?_) (fun h162 => ?_)
                  ·
                    refine z_iconst 0 (zdec DX4_worth 88 rfl) (by decide) ?_
                    refine z_iast 20 (zdec DX4_worth 89 rfl) rfl shp20 ⟨by omega, by omega⟩ ?_
                    refine z_goto 273 (zdec DX4_worth 90 rfl) rfl ?_
                    refine z_iinc (L' := [(0, .inr (.inr 14)), (1, .inl d), (2, .inl t), (3, .inl o), (4, .inl a), (5, .inl b), (6, .inl tp), (7, .inl (i + 1)), (8, .inl (M2 q i))]) 7 (zdec DX4_worth 142 rfl) rfl (by unfold z32; omega) rfl (by decide) ?_
                    refine z_goto 6 (zdec DX4_worth 143 rfl) rfl ?_
                    refine z_weak (L' := [(0, .inr (.inr 14)), (1, .inl d), (2, .inl t), (3, .inl o), (4, .inl a), (5, .inl b), (6, .inl tp), (7, .inl (i + 1))]) (by simp) ?_
                    exact ih tp (i + 1) (zup M2 20 (tp - 1) 0) (by omega) ⟨by (try split) <;> omega, by omega, by omega, (by first | exact hO | exact hO.up), zwn him (by rw [← eq]; omega) hf0 hf1 hib (by first | (exfalso; omega) | skip; unfold zwst; rw [← eq, ← eq1]; dsimp only; (try rw [zup_zpu]); (try unfold zb); (repeat (first | rw [if_pos (by omega)] | rw [if_neg (by omega)])); try rfl) hf2 (by (try split) <;> omega)⟩
                  ·
                    refine z_iconst 1 (zdec DX4_worth 86 rfl) (by decide) ?_
                    refine z_goto 170 (zdec DX4_worth 87 rfl) rfl ?_
                    refine z_iast 20 (zdec DX4_worth 89 rfl) rfl shp20 ⟨by omega, by omega⟩ ?_
                    refine z_goto 273 (zdec DX4_worth 90 rfl) rfl ?_
                    refine z_iinc (L' := [(0, .inr (.inr 14)), (1, .inl d), (2, .inl t), (3, .inl o), (4, .inl a), (5, .inl b), (6, .inl tp), (7, .inl (i + 1)), (8, .inl (M2 q i))]) 7 (zdec DX4_worth 142 rfl) rfl (by unfold z32; omega) rfl (by decide) ?_
                    refine z_goto 6 (zdec DX4_worth 143 rfl) rfl ?_
                    refine z_weak (L' := [(0, .inr (.inr 14)), (1, .inl d), (2, .inl t), (3, .inl o), (4, .inl a), (5, .inl b), (6, .inl tp), (7, .inl (i + 1))]) (by simp) ?_
                    exact ih tp (i + 1) (zup M2 20 (tp - 1) 1) (by omega) ⟨by (try split) <;> omega, by omega, by omega, (by first | exact hO | exact hO.up), zwn him (by rw [← eq]; omega) hf0 hf1 hib (by first | (exfalso; omega) | skip; unfold zwst; rw [← eq, ← eq1]; dsimp only; (try rw [zup_zpu]); (try unfold zb); (repeat (first | rw [if_pos (by omega)] | rw [if_neg (by omega)])); try rfl) hf2 (by (try split) <;> omega)⟩
                ·
                  refine z_aload_n 0 (zdec DX4_worth 71 rfl) rfl rfl (by decide) ?_
                  refine z_getr (rw1 := -24) (ki := 10) (r' := 20) 14 4 (zdec DX4_worth 72 rfl) rfl rfl shp14 rfl (by decide) rfl rfl fl_SixWalls_LawText_42 (zPa hP2 22 rfl) ?_
                  refine z_iload 6 (zdec DX4_worth 73 rfl) rfl ?_
                  refine z_iconst 1 (zdec DX4_worth 74 rfl) (by decide) ?_
                  refine z_isub (zdec DX4_worth 75 rfl) (by unfold z32; omega) ?_
                  refine z_iald 20 (zdec DX4_worth 76 rfl) rfl shp20 ⟨by omega, by omega⟩ ?_
                  refine z_inegw (zdec DX4_worth 77 rfl) ?_
                  refine z_goto 170 (zdec DX4_worth 78 rfl) rfl ?_
                  refine z_iast 20 (zdec DX4_worth 89 rfl) rfl shp20 ⟨by omega, by omega⟩ ?_
                  refine z_goto 273 (zdec DX4_worth 90 rfl) rfl ?_
                  refine z_iinc (L' := [(0, .inr (.inr 14)), (1, .inl d), (2, .inl t), (3, .inl o), (4, .inl a), (5, .inl b), (6, .inl tp), (7, .inl (i + 1)), (8, .inl (M2 q i))]) 7 (zdec DX4_worth 142 rfl) rfl (by unfold z32; omega) rfl (by decide) ?_
                  refine z_goto 6 (zdec DX4_worth 143 rfl) rfl ?_
                  refine z_weak (L' := [(0, .inr (.inr 14)), (1, .inl d), (2, .inl t), (3, .inl o), (4, .inl a), (5, .inl b), (6, .inl tp), (7, .inl (i + 1))]) (by simp) ?_
                  exact ih tp (i + 1) (zup M2 20 (tp - 1) (zw (-(M2 20 (tp - 1))))) (by omega) ⟨by (try split) <;> omega, by omega, by omega, (by first | exact hO | exact hO.up), zwn him (by rw [← eq]; omega) hf0 hf1 hib (by first | (exfalso; omega) | skip; unfold zwst; rw [← eq, ← eq1]; dsimp only; (try rw [zup_zpu]); (try unfold zb); (repeat (first | rw [if_pos (by omega)] | rw [if_neg (by omega)])); try rfl) hf2 (by (try split) <;> omega)⟩
        ·
          refine z_iload 6 (zdec DX4_worth 30 rfl) rfl ?_
          refine z_if_le 78 (zdec DX4_worth 31 rfl) rfl (fun h59 => ?_) (fun h59 => ?_)
          ·
            refine z_iconst 0 (zdec DX4_worth 41 rfl) (by decide) ?_
            refine z_istore (L' := [(0, .inr (.inr 14)), (1, .inl d), (2, .inl t), (3, .inl o), (4, .inl a), (5, .inl b), (6, .inl tp), (7, .inl i), (8, .inl (M2 q i)), (9, .inl 0)]) (zdec DX4_worth 42 rfl) rfl (by decide) ?_
            refine z_iconst 0 (zdec DX4_worth 43 rfl) (by decide) ?_
            refine z_istore (L' := [(0, .inr (.inr 14)), (1, .inl d), (2, .inl t), (3, .inl o), (4, .inl a), (5, .inl b), (6, .inl 0), (7, .inl i), (8, .inl (M2 q i)), (9, .inl 0)]) (zdec DX4_worth 44 rfl) rfl (by decide) ?_
            refine z_iload 9 (zdec DX4_worth 45 rfl) rfl ?_
            refine z_if_ne 103 (zdec DX4_worth 46 rfl) rfl (fun h => absurd h (by decide)) (fun _ => ?_)
            refine z_iload 7 (zdec DX4_worth 47 rfl) rfl ?_
            refine z_aload_n 0 (zdec DX4_worth 48 rfl) rfl rfl (by decide) ?_
            refine z_getr (rw1 := -24) (ki := 5) (r' := (q + 1)) 14 4 (zdec DX4_worth 49 rfl) rfl rfl shp14 rfl (by decide) rfl rfl fl_SixWalls_LawText_27 hq2.2.2.1 ?_
            refine z_iload 7 (zdec DX4_worth 50 rfl) rfl ?_
            refine z_iald (q + 1).toNat (zdec DX4_worth 51 rfl) (by omega) (shpTx hq0).2.1 ⟨by omega, by omega⟩ ?_
            refine z_mmax (zdec DX4_worth 52 rfl) ml_SixWalls_LawText_83 (by decide) (Nat.le_of_ble_eq_true rfl) ?_
            refine z_istore (L' := [(0, .inr (.inr 14)), (1, .inl d), (2, .inl t), (3, .inl o), (4, .inl a), (5, .inl b), (6, .inl 0), (7, .inl (if i < M2 (q + 1) i then M2 (q + 1) i else i)), (8, .inl (M2 q i)), (9, .inl 0)]) (zdec DX4_worth 53 rfl) rfl (by decide) ?_
            refine z_goto 273 (zdec DX4_worth 54 rfl) rfl ?_
            refine z_iinc (L' := [(0, .inr (.inr 14)), (1, .inl d), (2, .inl t), (3, .inl o), (4, .inl a), (5, .inl b), (6, .inl 0), (7, .inl ((if i < M2 (q + 1) i then M2 (q + 1) i else i) + 1)), (8, .inl (M2 q i)), (9, .inl 0)]) 7 (zdec DX4_worth 142 rfl) rfl (by unfold z32; omega) rfl (by decide) ?_
            refine z_goto 6 (zdec DX4_worth 143 rfl) rfl ?_
            refine z_weak (L' := [(0, .inr (.inr 14)), (1, .inl d), (2, .inl t), (3, .inl o), (4, .inl a), (5, .inl b), (6, .inl 0), (7, .inl ((if i < M2 (q + 1) i then M2 (q + 1) i else i) + 1))]) (by simp) ?_
            exact ih 0 ((if i < M2 (q + 1) i then M2 (q + 1) i else i) + 1) M2 (by omega) ⟨by (try split) <;> omega, by omega, by omega, (by first | exact hO | exact hO.up), zwn him (by rw [← eq]; omega) hf0 hf1 hib (by first | (exfalso; omega) | skip; unfold zwst; rw [← eq, ← eq1]; dsimp only; (try rw [zup_zpu]); (try unfold zb); (repeat (first | rw [if_pos (by omega)] | rw [if_neg (by omega)])); try rfl) hf2 (by (try split) <;> omega)⟩
          ·
            refine z_aload_n 0 (zdec DX4_worth 32 rfl) rfl rfl (by decide) ?_
            refine z_getr (rw1 := -24) (ki := 10) (r' := 20) 14 4 (zdec DX4_worth 33 rfl) rfl rfl shp14 rfl (by decide) rfl rfl fl_SixWalls_LawText_42 (zPa hP2 22 rfl) ?_
            refine z_iload 6 (zdec DX4_worth 34 rfl) rfl ?_
            refine z_iconst 1 (zdec DX4_worth 35 rfl) (by decide) ?_
            refine z_isub (zdec DX4_worth 36 rfl) (by unfold z32; omega) ?_
            refine z_iald 20 (zdec DX4_worth 37 rfl) rfl shp20 ⟨by omega, by omega⟩ ?_
            refine z_if_eq 78 (zdec DX4_worth 38 rfl) rfl (fun h71 => ?_) (fun h71 => ?_)
            ·
              refine z_iconst 0 (zdec DX4_worth 41 rfl) (by decide) ?_
              refine z_istore (L' := [(0, .inr (.inr 14)), (1, .inl d), (2, .inl t), (3, .inl o), (4, .inl a), (5, .inl b), (6, .inl tp), (7, .inl i), (8, .inl (M2 q i)), (9, .inl 0)]) (zdec DX4_worth 42 rfl) rfl (by decide) ?_
              refine z_iconst 0 (zdec DX4_worth 43 rfl) (by decide) ?_
              refine z_istore (L' := [(0, .inr (.inr 14)), (1, .inl d), (2, .inl t), (3, .inl o), (4, .inl a), (5, .inl b), (6, .inl 0), (7, .inl i), (8, .inl (M2 q i)), (9, .inl 0)]) (zdec DX4_worth 44 rfl) rfl (by decide) ?_
              refine z_iload 9 (zdec DX4_worth 45 rfl) rfl ?_
              refine z_if_ne 103 (zdec DX4_worth 46 rfl) rfl (fun h => absurd h (by decide)) (fun _ => ?_)
              refine z_iload 7 (zdec DX4_worth 47 rfl) rfl ?_
              refine z_aload_n 0 (zdec DX4_worth 48 rfl) rfl rfl (by decide) ?_
              refine z_getr (rw1 := -24) (ki := 5) (r' := (q + 1)) 14 4 (zdec DX4_worth 49 rfl) rfl rfl shp14 rfl (by decide) rfl rfl fl_SixWalls_LawText_27 hq2.2.2.1 ?_
              refine z_iload 7 (zdec DX4_worth 50 rfl) rfl ?_
              refine z_iald (q + 1).toNat (zdec DX4_worth 51 rfl) (by omega) (shpTx hq0).2.1 ⟨by omega, by omega⟩ ?_
              refine z_mmax (zdec DX4_worth 52 rfl) ml_SixWalls_LawText_83 (by decide) (Nat.le_of_ble_eq_true rfl) ?_
              refine z_istore (L' := [(0, .inr (.inr 14)), (1, .inl d), (2, .inl t), (3, .inl o), (4, .inl a), (5, .inl b), (6, .inl 0), (7, .inl (if i < M2 (q + 1) i then M2 (q + 1) i else i)), (8, .inl (M2 q i)), (9, .inl 0)]) (zdec DX4_worth 53 rfl) rfl (by decide) ?_
              refine z_goto 273 (zdec DX4_worth 54 rfl) rfl ?_
              refine z_iinc (L' := [(0, .inr (.inr 14)), (1, .inl d), (2, .inl t), (3, .inl o), (4, .inl a), (5, .inl b), (6, .inl 0), (7, .inl ((if i < M2 (q + 1) i then M2 (q + 1) i else i) + 1)), (8, .inl (M2 q i)), (9, .inl 0)]) 7 (zdec DX4_worth 142 rfl) rfl (by unfold z32; omega) rfl (by decide) ?_
              refine z_goto 6 (zdec DX4_worth 143 rfl) rfl ?_
              refine z_weak (L' := [(0, .inr (.inr 14)), (1, .inl d), (2, .inl t), (3, .inl o), (4, .inl a), (5, .inl b), (6, .inl 0), (7, .inl ((if i < M2 (q + 1) i then M2 (q + 1) i else i) + 1))]) (by simp) ?_
              exact ih 0 ((if i < M2 (q + 1) i then M2 (q + 1) i else i) + 1) M2 (by omega) ⟨by (try split) <;> omega, by omega, by omega, (by first | exact hO | exact hO.up), zwn him (by rw [← eq]; omega) hf0 hf1 hib (by first | (exfalso; omega) | skip; unfold zwst; rw [← eq, ← eq1]; dsimp only; (try rw [zup_zpu]); (try unfold zb); (repeat (first | rw [if_pos (by omega)] | rw [if_neg (by omega)])); try rfl) hf2 (by (try split) <;> omega)⟩
            ·
              refine z_iconst 1 (zdec DX4_worth 39 rfl) (by decide) ?_
              refine z_goto 79 (zdec DX4_worth 40 rfl) rfl ?_
              refine z_istore (L' := [(0, .inr (.inr 14)), (1, .inl d), (2, .inl t), (3, .inl o), (4, .inl a), (5, .inl b), (6, .inl tp), (7, .inl i), (8, .inl (M2 q i)), (9, .inl 1)]) (zdec DX4_worth 42 rfl) rfl (by decide) ?_
              refine z_iconst 0 (zdec DX4_worth 43 rfl) (by decide) ?_
              refine z_istore (L' := [(0, .inr (.inr 14)), (1, .inl d), (2, .inl t), (3, .inl o), (4, .inl a), (5, .inl b), (6, .inl 0), (7, .inl i), (8, .inl (M2 q i)), (9, .inl 1)]) (zdec DX4_worth 44 rfl) rfl (by decide) ?_
              refine z_iload 9 (zdec DX4_worth 45 rfl) rfl ?_
              refine z_if_ne 103 (zdec DX4_worth 46 rfl) rfl (fun _ => ?_) (fun h => absurd h (by decide))
              refine z_goto 273 (zdec DX4_worth 54 rfl) rfl ?_
              refine z_iinc (L' := [(0, .inr (.inr 14)), (1, .inl d), (2, .inl t), (3, .inl o), (4, .inl a), (5, .inl b), (6, .inl 0), (7, .inl (i + 1)), (8, .inl (M2 q i)), (9, .inl 1)]) 7 (zdec DX4_worth 142 rfl) rfl (by unfold z32; omega) rfl (by decide) ?_
              refine z_goto 6 (zdec DX4_worth 143 rfl) rfl ?_
              refine z_weak (L' := [(0, .inr (.inr 14)), (1, .inl d), (2, .inl t), (3, .inl o), (4, .inl a), (5, .inl b), (6, .inl 0), (7, .inl (i + 1))]) (by simp) ?_
              exact ih 0 (i + 1) M2 (by omega) ⟨by (try split) <;> omega, by omega, by omega, (by first | exact hO | exact hO.up), zwn him (by rw [← eq]; omega) hf0 hf1 hib (by first | (exfalso; omega) | skip; unfold zwst; rw [← eq, ← eq1]; dsimp only; (try rw [zup_zpu]); (try unfold zb); (repeat (first | rw [if_pos (by omega)] | rw [if_neg (by omega)])); try rfl) hf2 (by (try split) <;> omega)⟩
      ·
        refine z_iload 6 (zdec DX4_worth 16 rfl) rfl ?_
        refine z_if_le 48 (zdec DX4_worth 17 rfl) rfl (fun h33 => ?_) (fun h33 => ?_)
        ·
          refine z_iconst 0 (zdec DX4_worth 25 rfl) (by decide) ?_
          exact z_iret (zdec DX4_worth 26 rfl) rfl (⟨rfl, zri (by rw [zwe him (by rw [← eq]; omega) hf0 hf2]; first | rw [if_pos (by omega)] | rw [if_neg (by omega)]), hO⟩)
        ·
          refine z_aload_n 0 (zdec DX4_worth 18 rfl) rfl rfl (by decide) ?_
          refine z_getr (rw1 := -24) (ki := 10) (r' := 20) 14 4 (zdec DX4_worth 19 rfl) rfl rfl shp14 rfl (by decide) rfl rfl fl_SixWalls_LawText_42 (zPa hP2 22 rfl) ?_
          refine z_iload 6 (zdec DX4_worth 20 rfl) rfl ?_
          refine z_iconst 1 (zdec DX4_worth 21 rfl) (by decide) ?_
          refine z_isub (zdec DX4_worth 22 rfl) (by unfold z32; omega) ?_
          refine z_iald 20 (zdec DX4_worth 23 rfl) rfl shp20 ⟨by omega, by omega⟩ ?_
          refine z_goto 49 (zdec DX4_worth 24 rfl) rfl ?_
          exact z_iret (zdec DX4_worth 26 rfl) rfl (⟨rfl, zri (by rw [zwe him (by rw [← eq]; omega) hf0 hf2]; first | rw [if_pos (by omega)] | rw [if_neg (by omega)]), hO⟩)
set_option maxHeartbeats 4000000 in
theorem cX4_worth {M : zMm} (hP : zP M) {q : Int} (hT : zTx M q) (d t o a b : Int) : zW mX4_worth 3 (fun rv S' M' => S' = zS0 ∧ rv = some (.inl (zworth M q d t o a b)) ∧ zonly 20 M M') (0, 0) zS0 0 (zargs 0 [.inr (.inr 14), .inl d, .inl t, .inl o, .inl a, .inl b]) [] M := by
  change zW _ _ _ _ _ 0 [(0, .inr (.inr 14)), (1, .inl d), (2, .inl t), (3, .inl o), (4, .inl a), (5, .inl b)] [] M
  have hq0 := hT.1.1
  refine z_iconst 0 (zdec DX4_worth 0 rfl) (by decide) ?_
  refine z_istore (L' := [(0, .inr (.inr 14)), (1, .inl d), (2, .inl t), (3, .inl o), (4, .inl a), (5, .inl b), (6, .inl 0)]) (zdec DX4_worth 1 rfl) rfl (by decide) ?_
  refine z_iconst 0 (zdec DX4_worth 2 rfl) (by decide) ?_
  refine z_istore (L' := [(0, .inr (.inr 14)), (1, .inl d), (2, .inl t), (3, .inl o), (4, .inl a), (5, .inl b), (6, .inl 0), (7, .inl 0)]) (zdec DX4_worth 3 rfl) rfl (by decide) ?_
  refine lp_X4_worth_6 hP hT d t o a b (hx279 := fun M2 hx => ?_) _ 0 0 M (Nat.lt_succ_self _) ⟨by omega, by omega, by omega, zonly.rf, 123, by omega, by omega, rfl⟩
  refine z_iconst 0 (zdec DX4_worth 144 rfl) (by decide) ?_
  exact z_iret (zdec DX4_worth 145 rfl) rfl (⟨rfl, zri hx.1.symm, hx.2⟩)
