/-! the reference: changes, undone and done again; mend -/
/-- rows of which the first is dropped -/
def zsf (R R' : Int → Int) (n : Int) : Prop := ∀ j : Int, R' j = if 0 ≤ j ∧ j < n then R (j + 1) else R j
theorem zsf.s {R R' : Int → Int} {k : Int} (h : zsf R R' (k - 1)) (hk : 1 ≤ k) : zsf R (zpu R' (k - 1) (R' k)) (k + 1 - 1) := by
  intro j
  unfold zpu
  have h1 := h k
  have h2 := h j
  rw [if_neg (by omega)] at h1
  by_cases hj : j = k - 1
  · subst hj
    rw [if_pos rfl, if_pos (by omega), h1, show k - 1 + 1 = k by omega]
  · rw [if_neg hj, h2]
    by_cases hl : 0 ≤ j ∧ j < k - 1
    · rw [if_pos hl, if_pos (by omega)]
    · rw [if_neg hl, if_neg (by omega)]
def zsh (d : Int) (R : Int → Int) : Int → Int := fun j => if d = 40 ∧ 0 ≤ j ∧ j < 39 then R (j + 1) else R j
theorem zsf.sh {R R' : Int → Int} {d : Int} (h : zsf R R' 39) (hd : d = 40) : R' = zsh d R := by
  funext j
  rw [h j]
  unfold zsh
  by_cases hj : 0 ≤ j ∧ j < 39
  · rw [if_pos hj, if_pos ⟨hd, hj⟩]
  · rw [if_neg hj, if_neg (fun q => hj q.2)]
theorem zsh_n {R : Int → Int} {d : Int} (hd : d ≠ 40) : zsh d R = R := by
  funext j
  unfold zsh
  rw [if_neg (fun q => hd q.1)]
def zrn (M : zMm) : Int := if M 56 5 = 40 then 39 else M 56 5
def zBec (M : zMm) (p v : Int) (M' : zMm) : Prop := M' 57 = zpu (M 57) p v ∧ M' 58 = zpu (zsh (M 56 5) (M 58)) (zrn M) p ∧ M' 59 = zpu (zsh (M 56 5) (M 59)) (zrn M) (M 57 p) ∧ M' 60 = zpu (zsh (M 56 5) (M 60)) (zrn M) v ∧ (∀ j : Int, M' 56 j = if j = 5 ∨ j = 4 then zrn M + 1 else M 56 j) ∧ ∀ c : Int, c < 56 ∨ 60 < c → M' c = M c
theorem zBec_of {M Mx : zMm} {p v d : Int} (hd : d = zrn M) (h57 : Mx 57 = M 57) (h58 : Mx 58 = zsh (M 56 5) (M 58)) (h59 : Mx 59 = zsh (M 56 5) (M 59)) (h60 : Mx 60 = zsh (M 56 5) (M 60)) (h56 : ∀ j : Int, j ≠ 5 → Mx 56 j = M 56 j) (hc : ∀ c : Int, c < 56 ∨ 60 < c → Mx c = M c) : zBec M p v (zup (zup (zup (zup (zup (zup Mx 58 d p) 59 d (M 57 p)) 60 d v) 56 5 (d + 1)) 56 4 (d + 1)) 57 p v) := by
  subst hd
  refine ⟨?_, ?_, ?_, ?_, fun j => ?_, fun c h => ?_⟩
  · rw [zup_zpu, zup_row (by decide), zup_row (by decide), zup_row (by decide), zup_row (by decide), zup_row (by decide), h57]
  · rw [zup_row (by decide), zup_row (by decide), zup_row (by decide), zup_row (by decide), zup_row (by decide), zup_zpu, h58]
  · rw [zup_row (by decide), zup_row (by decide), zup_row (by decide), zup_row (by decide), zup_zpu, zup_row (by decide), h59]
  · rw [zup_row (by decide), zup_row (by decide), zup_row (by decide), zup_zpu, zup_row (by decide), zup_row (by decide), h60]
  · rw [zup_row (by decide), zup_zpu, zup_zpu]
    unfold zpu
    by_cases h4 : j = 4
    · rw [if_pos h4, if_pos (Or.inr h4)]
    · rw [if_neg h4]
      by_cases h5 : j = 5
      · rw [if_pos h5, if_pos (Or.inl h5)]
      · rw [if_neg h5, if_neg (by omega), zup_row (by decide), zup_row (by decide), zup_row (by decide), h56 j h5]
  · rw [zup_row (by omega), zup_row (by omega), zup_row (by omega), zup_row (by omega), zup_row (by omega), zup_row (by omega), hc c h]
/-- the reference's history, in its bounds -/
def zHr (M : zMm) : Prop := (0 ≤ M 56 5 ∧ M 56 5 ≤ M 56 4 ∧ M 56 4 ≤ 40) ∧ ∀ k : Int, 0 ≤ k → k < M 56 4 → 0 ≤ M 58 k ∧ M 58 k < 133
/-- where a thing that may be mended lies -/
def zat (n what : Int) : Int := if what = 0 then n else if what = 1 then 16 + n else if what = 2 then 32 + n else if what = 3 then 65 + n else if what = 4 then 98 + n else if what = 5 then 131 else 132
def zundR (M : zMm) : zMm := zup (zup M 56 5 (M 56 5 - 1)) 57 (M 58 (M 56 5 - 1)) (M 59 (M 56 5 - 1))
def zredR (M : zMm) : zMm := zup (zup M 57 (M 58 (M 56 5)) (M 60 (M 56 5))) 56 5 (M 56 5 + 1)
set_option maxHeartbeats 4000000 in
theorem lp_X10_becomes_26 {Q : zPost} {M : zMm} (hP : zP M) (hs : 0 ≤ M 56 5 ∧ M 56 5 ≤ 40) (p v : Int) (hp : 0 ≤ p ∧ p < 133) (hx87 : ∀ (M2 : zMm), ((∀ c : Int, c ≠ 58 → c ≠ 59 → c ≠ 60 → M2 c = M c) ∧ zsf (M 58) (M2 58) 39 ∧ zsf (M 59) (M2 59) 39 ∧ zsf (M 60) (M2 60) 39) → zW mX10_becomes 1 Q (0, 0) zS0 87 [(0, .inr (.inr 56)), (1, .inl p), (2, .inl v), (3, .inl (M 57 p))] [] M2) : ∀ (n : Nat) (k : Int) (M2 : zMm), (40 - k).toNat < n → (1 ≤ k ∧ k ≤ 40 ∧ (∀ c : Int, c ≠ 58 → c ≠ 59 → c ≠ 60 → M2 c = M c) ∧ zsf (M 58) (M2 58) (k - 1) ∧ zsf (M 59) (M2 59) (k - 1) ∧ zsf (M 60) (M2 60) (k - 1)) → zW mX10_becomes 1 Q (0, 0) zS0 26 [(0, .inr (.inr 56)), (1, .inl p), (2, .inl v), (3, .inl (M 57 p)), (4, .inl k)] [] M2 := by
  intro n
  induction n with
  | zero => intro k M2 hn; exact absurd hn (Nat.not_lt_zero _)
  | succ n ih =>
    intro k M2 hn hI
    refine z_iload 4 (zdec DX10_becomes 16 rfl) rfl ?_
    refine z_bipush 40 (zdec DX10_becomes 17 rfl) (by decide) ?_
    refine z_icmp_ge 87 (zdec DX10_becomes 18 rfl) rfl (fun h30 => ?_) (fun h30 => ?_)
    ·
      refine z_weak (L' := [(0, .inr (.inr 56)), (1, .inl p), (2, .inl v), (3, .inl (M 57 p))]) (by simp) ?_
      exact hx87 M2 (by have e : k = 40 := (by omega); subst e; exact hI.2.2)
    ·
      refine z_aload_n 0 (zdec DX10_becomes 19 rfl) rfl rfl (by decide) ?_
      refine z_getr (rw1 := -66) (ki := 1) (r' := 58) 56 10 (zdec DX10_becomes 20 rfl) rfl rfl shp56 rfl (by decide) rfl rfl fl_SixWallsModel_13 (zPa (zP_of hP fun r hr => hI.2.2.1 r (by omega) (by omega) (by omega)) 58 rfl) ?_
      refine z_iload 4 (zdec DX10_becomes 21 rfl) rfl ?_
      refine z_iconst 1 (zdec DX10_becomes 22 rfl) (by decide) ?_
      refine z_isub (zdec DX10_becomes 23 rfl) (by unfold z32; omega) ?_
      refine z_aload_n 0 (zdec DX10_becomes 24 rfl) rfl rfl (by decide) ?_
      refine z_getr (rw1 := -66) (ki := 1) (r' := 58) 56 10 (zdec DX10_becomes 25 rfl) rfl rfl shp56 rfl (by decide) rfl rfl fl_SixWallsModel_13 (zPa (zP_of hP fun r hr => hI.2.2.1 r (by omega) (by omega) (by omega)) 58 rfl) ?_
      refine z_iload 4 (zdec DX10_becomes 26 rfl) rfl ?_
      refine z_iald 58 (zdec DX10_becomes 27 rfl) rfl shp58 ⟨by omega, by omega⟩ ?_
      refine z_iast 58 (zdec DX10_becomes 28 rfl) rfl shp58 ⟨by omega, by omega⟩ ?_
      refine z_aload_n 0 (zdec DX10_becomes 29 rfl) rfl rfl (by decide) ?_
      refine z_getr (rw1 := -66) (ki := 2) (r' := 59) 56 10 (zdec DX10_becomes 30 rfl) rfl rfl shp56 rfl (by decide) rfl rfl fl_SixWallsModel_16 (zPa (zP_up (zP_of hP fun r hr => hI.2.2.1 r (by omega) (by omega) (by omega)) (by decide)) 59 rfl) ?_
      refine z_iload 4 (zdec DX10_becomes 31 rfl) rfl ?_
      refine z_iconst 1 (zdec DX10_becomes 32 rfl) (by decide) ?_
      refine z_isub (zdec DX10_becomes 33 rfl) (by unfold z32; omega) ?_
      refine z_aload_n 0 (zdec DX10_becomes 34 rfl) rfl rfl (by decide) ?_
      refine z_getr (rw1 := -66) (ki := 2) (r' := 59) 56 10 (zdec DX10_becomes 35 rfl) rfl rfl shp56 rfl (by decide) rfl rfl fl_SixWallsModel_16 (zPa (zP_up (zP_of hP fun r hr => hI.2.2.1 r (by omega) (by omega) (by omega)) (by decide)) 59 rfl) ?_
      refine z_iload 4 (zdec DX10_becomes 36 rfl) rfl ?_
      refine z_iald 59 (zdec DX10_becomes 37 rfl) rfl shp59 ⟨by omega, by omega⟩ ?_
      rw [show (zup M2 58 (k - 1) (M2 58 k)) 59 k = M2 59 k from by simp [zup, zcpy]]
      refine z_iast 59 (zdec DX10_becomes 38 rfl) rfl shp59 ⟨by omega, by omega⟩ ?_
      refine z_aload_n 0 (zdec DX10_becomes 39 rfl) rfl rfl (by decide) ?_
      refine z_getr (rw1 := -66) (ki := 3) (r' := 60) 56 10 (zdec DX10_becomes 40 rfl) rfl rfl shp56 rfl (by decide) rfl rfl fl_SixWallsModel_19 (zPa (zP_up (zP_up (zP_of hP fun r hr => hI.2.2.1 r (by omega) (by omega) (by omega)) (by decide)) (by decide)) 60 rfl) ?_
      refine z_iload 4 (zdec DX10_becomes 41 rfl) rfl ?_
      refine z_iconst 1 (zdec DX10_becomes 42 rfl) (by decide) ?_
      refine z_isub (zdec DX10_becomes 43 rfl) (by unfold z32; omega) ?_
      refine z_aload_n 0 (zdec DX10_becomes 44 rfl) rfl rfl (by decide) ?_
      refine z_getr (rw1 := -66) (ki := 3) (r' := 60) 56 10 (zdec DX10_becomes 45 rfl) rfl rfl shp56 rfl (by decide) rfl rfl fl_SixWallsModel_19 (zPa (zP_up (zP_up (zP_of hP fun r hr => hI.2.2.1 r (by omega) (by omega) (by omega)) (by decide)) (by decide)) 60 rfl) ?_
      refine z_iload 4 (zdec DX10_becomes 46 rfl) rfl ?_
      refine z_iald 60 (zdec DX10_becomes 47 rfl) rfl shp60 ⟨by omega, by omega⟩ ?_
      rw [show (zup (zup M2 58 (k - 1) (M2 58 k)) 59 (k - 1) (M2 59 k)) 60 k = M2 60 k from by simp [zup, zcpy]]
      refine z_iast 60 (zdec DX10_becomes 48 rfl) rfl shp60 ⟨by omega, by omega⟩ ?_
      refine z_iinc (L' := [(0, .inr (.inr 56)), (1, .inl p), (2, .inl v), (3, .inl (M 57 p)), (4, .inl (k + 1))]) 4 (zdec DX10_becomes 49 rfl) rfl (by unfold z32; omega) rfl (by decide) ?_
      refine z_goto 26 (zdec DX10_becomes 50 rfl) rfl ?_
      exact ih (k + 1) (zup (zup (zup M2 58 (k - 1) (M2 58 k)) 59 (k - 1) (M2 59 k)) 60 (k - 1) (M2 60 k)) (by omega) ⟨by omega, by omega, (fun c a b d => (by rw [zup_row d, zup_row b, zup_row a]; exact hI.2.2.1 c a b d)), (by rw [zup_row (by decide), zup_row (by decide), zup_zpu]; exact hI.2.2.2.1.s (by omega)), (by rw [zup_row (by decide), zup_zpu, zup_row (by decide)]; exact hI.2.2.2.2.1.s (by omega)), (by rw [zup_zpu, zup_row (by decide), zup_row (by decide)]; exact hI.2.2.2.2.2.s (by omega))⟩
set_option maxHeartbeats 4000000 in
theorem cX10_becomes {M : zMm} (hP : zP M) (hs : 0 ≤ M 56 5 ∧ M 56 5 ≤ 40) (p v : Int) (hp : 0 ≤ p ∧ p < 133) : zW mX10_becomes 1 (fun rv S' M' => S' = zS0 ∧ rv = some (.inl (M 57 p)) ∧ ((M 57 p = v ∧ M' = M) ∨ (M 57 p ≠ v ∧ zBec M p v M'))) (0, 0) zS0 0 (zargs 0 [.inr (.inr 56), .inl p, .inl v]) [] M := by
  change zW _ _ _ _ _ 0 [(0, .inr (.inr 56)), (1, .inl p), (2, .inl v)] [] M
  refine z_aload_n 0 (zdec DX10_becomes 0 rfl) rfl rfl (by decide) ?_
  refine z_getr (rw1 := -66) (ki := 0) (r' := 57) 56 10 (zdec DX10_becomes 1 rfl) rfl rfl shp56 rfl (by decide) rfl rfl fl_SixWallsModel_9 (zPa hP 57 rfl) ?_
  refine z_iload_n 1 (zdec DX10_becomes 2 rfl) rfl rfl ?_
  refine z_iald 57 (zdec DX10_becomes 3 rfl) rfl shp57 ⟨by omega, by omega⟩ ?_
  refine z_istore_n (L' := [(0, .inr (.inr 56)), (1, .inl p), (2, .inl v), (3, .inl (M 57 p))]) (zdec DX10_becomes 4 rfl) rfl rfl (by decide) ?_
  refine z_iload_n 3 (zdec DX10_becomes 5 rfl) rfl rfl ?_
  refine z_iload_n 2 (zdec DX10_becomes 6 rfl) rfl rfl ?_
  refine z_icmp_ne 14 (zdec DX10_becomes 7 rfl) rfl (fun h9 => ?_) (fun h9 => ?_)
  ·
    refine z_aload_n 0 (zdec DX10_becomes 10 rfl) rfl rfl (by decide) ?_
    refine z_geti (ki := 5) 56 10 (zdec DX10_becomes 11 rfl) rfl shp56 rfl (by decide) rfl rfl fl_SixWallsModel_104 ?_
    refine z_bipush 40 (zdec DX10_becomes 12 rfl) (by decide) ?_
    refine z_icmp_ne 97 (zdec DX10_becomes 13 rfl) rfl (fun h20 => ?_) (fun h20 => ?_)
    ·
      refine z_aload_n 0 (zdec DX10_becomes 57 rfl) rfl rfl (by decide) ?_
      refine z_getr (rw1 := -66) (ki := 1) (r' := 58) 56 10 (zdec DX10_becomes 58 rfl) rfl rfl shp56 rfl (by decide) rfl rfl fl_SixWallsModel_13 (zPa hP 58 rfl) ?_
      refine z_aload_n 0 (zdec DX10_becomes 59 rfl) rfl rfl (by decide) ?_
      refine z_geti (ki := 5) 56 10 (zdec DX10_becomes 60 rfl) rfl shp56 rfl (by decide) rfl rfl fl_SixWallsModel_104 ?_
      refine z_iload_n 1 (zdec DX10_becomes 61 rfl) rfl rfl ?_
      refine z_iast 58 (zdec DX10_becomes 62 rfl) rfl shp58 ⟨by omega, by omega⟩ ?_
      refine z_aload_n 0 (zdec DX10_becomes 63 rfl) rfl rfl (by decide) ?_
      refine z_getr (rw1 := -66) (ki := 2) (r' := 59) 56 10 (zdec DX10_becomes 64 rfl) rfl rfl shp56 rfl (by decide) rfl rfl fl_SixWallsModel_16 (zPa (zP_up hP (by decide)) 59 rfl) ?_
      refine z_aload_n 0 (zdec DX10_becomes 65 rfl) rfl rfl (by decide) ?_
      refine z_geti (ki := 5) 56 10 (zdec DX10_becomes 66 rfl) rfl shp56 rfl (by decide) rfl rfl fl_SixWallsModel_104 ?_
      rw [show (zup M 58 (M 56 5) p) 56 5 = M 56 5 from by simp [zup, zcpy]]
      refine z_iload_n 3 (zdec DX10_becomes 67 rfl) rfl rfl ?_
      refine z_iast 59 (zdec DX10_becomes 68 rfl) rfl shp59 ⟨by omega, by omega⟩ ?_
      refine z_aload_n 0 (zdec DX10_becomes 69 rfl) rfl rfl (by decide) ?_
      refine z_getr (rw1 := -66) (ki := 3) (r' := 60) 56 10 (zdec DX10_becomes 70 rfl) rfl rfl shp56 rfl (by decide) rfl rfl fl_SixWallsModel_19 (zPa (zP_up (zP_up hP (by decide)) (by decide)) 60 rfl) ?_
      refine z_aload_n 0 (zdec DX10_becomes 71 rfl) rfl rfl (by decide) ?_
      refine z_geti (ki := 5) 56 10 (zdec DX10_becomes 72 rfl) rfl shp56 rfl (by decide) rfl rfl fl_SixWallsModel_104 ?_
      rw [show (zup (zup M 58 (M 56 5) p) 59 (M 56 5) (M 57 p)) 56 5 = M 56 5 from by simp [zup, zcpy]]
      refine z_iload_n 2 (zdec DX10_becomes 73 rfl) rfl rfl ?_
      refine z_iast 60 (zdec DX10_becomes 74 rfl) rfl shp60 ⟨by omega, by omega⟩ ?_
      refine z_aload_n 0 (zdec DX10_becomes 75 rfl) rfl rfl (by decide) ?_
      refine z_dup (zdec DX10_becomes 76 rfl) rfl ?_
      refine z_geti (ki := 5) 56 10 (zdec DX10_becomes 77 rfl) rfl shp56 rfl (by decide) rfl rfl fl_SixWallsModel_104 ?_
      rw [show (zup (zup (zup M 58 (M 56 5) p) 59 (M 56 5) (M 57 p)) 60 (M 56 5) v) 56 5 = M 56 5 from by simp [zup, zcpy]]
      refine z_iconst 1 (zdec DX10_becomes 78 rfl) (by decide) ?_
      refine z_iadd (zdec DX10_becomes 79 rfl) (by unfold z32; omega) ?_
      refine z_puti (ki := 5) 56 10 (zdec DX10_becomes 80 rfl) rfl shp56 rfl (by decide) rfl rfl fl_SixWallsModel_104 (Or.inl rfl) ?_
      refine z_aload_n 0 (zdec DX10_becomes 81 rfl) rfl rfl (by decide) ?_
      refine z_aload_n 0 (zdec DX10_becomes 82 rfl) rfl rfl (by decide) ?_
      refine z_geti (ki := 5) 56 10 (zdec DX10_becomes 83 rfl) rfl shp56 rfl (by decide) rfl rfl fl_SixWallsModel_104 ?_
      rw [show (zup (zup (zup (zup M 58 (M 56 5) p) 59 (M 56 5) (M 57 p)) 60 (M 56 5) v) 56 5 ((M 56 5) + 1)) 56 5 = (M 56 5) + 1 from by simp [zup, zcpy]]
      refine z_puti (ki := 4) 56 10 (zdec DX10_becomes 84 rfl) rfl shp56 rfl (by decide) rfl rfl fl_SixWallsModel_107 (Or.inl rfl) ?_
      refine z_aload_n 0 (zdec DX10_becomes 85 rfl) rfl rfl (by decide) ?_
      refine z_getr (rw1 := -66) (ki := 0) (r' := 57) 56 10 (zdec DX10_becomes 86 rfl) rfl rfl shp56 rfl (by decide) rfl rfl fl_SixWallsModel_9 (zPa (zP_up (zP_up (zP_up (zP_up (zP_up hP (by decide)) (by decide)) (by decide)) (by decide)) (by decide)) 57 rfl) ?_
      refine z_iload_n 1 (zdec DX10_becomes 87 rfl) rfl rfl ?_
      refine z_iload_n 2 (zdec DX10_becomes 88 rfl) rfl rfl ?_
      refine z_iast 57 (zdec DX10_becomes 89 rfl) rfl shp57 ⟨by omega, by omega⟩ ?_
      refine z_iload_n 3 (zdec DX10_becomes 90 rfl) rfl rfl ?_
      exact z_iret (zdec DX10_becomes 91 rfl) rfl (⟨rfl, rfl, Or.inr ⟨h9, zBec_of (by unfold zrn; rw [if_neg h20]) rfl (zsh_n h20).symm (zsh_n h20).symm (zsh_n h20).symm (fun j hj => rfl) (fun c hc => rfl)⟩⟩)
    ·
      refine z_iconst 1 (zdec DX10_becomes 14 rfl) (by decide) ?_
      refine z_istore (L' := [(0, .inr (.inr 56)), (1, .inl p), (2, .inl v), (3, .inl (M 57 p)), (4, .inl 1)]) (zdec DX10_becomes 15 rfl) rfl (by decide) ?_
      refine lp_X10_becomes_26 hP hs p v hp (hx87 := fun M2 hx => ?_) _ 1 M (Nat.lt_succ_self _) ⟨by omega, by omega, fun c a b d => rfl, fun j => (if_neg (by omega)).symm, fun j => (if_neg (by omega)).symm, fun j => (if_neg (by omega)).symm⟩
      refine z_aload_n 0 (zdec DX10_becomes 51 rfl) rfl rfl (by decide) ?_
      refine z_dup (zdec DX10_becomes 52 rfl) rfl ?_
      refine z_geti (ki := 5) 56 10 (zdec DX10_becomes 53 rfl) rfl shp56 rfl (by decide) rfl rfl fl_SixWallsModel_104 ?_
      rw [hx.1 56 (by decide) (by decide) (by decide)]
      refine z_iconst 1 (zdec DX10_becomes 54 rfl) (by decide) ?_
      refine z_isub (zdec DX10_becomes 55 rfl) (by unfold z32; omega) ?_
      refine z_puti (ki := 5) 56 10 (zdec DX10_becomes 56 rfl) rfl shp56 rfl (by decide) rfl rfl fl_SixWallsModel_104 (Or.inl rfl) ?_
      refine z_aload_n 0 (zdec DX10_becomes 57 rfl) rfl rfl (by decide) ?_
      refine z_getr (rw1 := -66) (ki := 1) (r' := 58) 56 10 (zdec DX10_becomes 58 rfl) rfl rfl shp56 rfl (by decide) rfl rfl fl_SixWallsModel_13 (zPa (zP_up (zP_of hP fun r hr => hx.1 r (by omega) (by omega) (by omega)) (by decide)) 58 rfl) ?_
      refine z_aload_n 0 (zdec DX10_becomes 59 rfl) rfl rfl (by decide) ?_
      refine z_geti (ki := 5) 56 10 (zdec DX10_becomes 60 rfl) rfl shp56 rfl (by decide) rfl rfl fl_SixWallsModel_104 ?_
      rw [show (zup M2 56 5 ((M 56 5) - 1)) 56 5 = (M 56 5) - 1 from by simp [zup, zcpy]]
      refine z_iload_n 1 (zdec DX10_becomes 61 rfl) rfl rfl ?_
      refine z_iast 58 (zdec DX10_becomes 62 rfl) rfl shp58 ⟨by omega, by omega⟩ ?_
      refine z_aload_n 0 (zdec DX10_becomes 63 rfl) rfl rfl (by decide) ?_
      refine z_getr (rw1 := -66) (ki := 2) (r' := 59) 56 10 (zdec DX10_becomes 64 rfl) rfl rfl shp56 rfl (by decide) rfl rfl fl_SixWallsModel_16 (zPa (zP_up (zP_up (zP_of hP fun r hr => hx.1 r (by omega) (by omega) (by omega)) (by decide)) (by decide)) 59 rfl) ?_
      refine z_aload_n 0 (zdec DX10_becomes 65 rfl) rfl rfl (by decide) ?_
      refine z_geti (ki := 5) 56 10 (zdec DX10_becomes 66 rfl) rfl shp56 rfl (by decide) rfl rfl fl_SixWallsModel_104 ?_
      rw [show (zup (zup M2 56 5 ((M 56 5) - 1)) 58 ((M 56 5) - 1) p) 56 5 = (M 56 5) - 1 from by simp [zup, zcpy]]
      refine z_iload_n 3 (zdec DX10_becomes 67 rfl) rfl rfl ?_
      refine z_iast 59 (zdec DX10_becomes 68 rfl) rfl shp59 ⟨by omega, by omega⟩ ?_
      refine z_aload_n 0 (zdec DX10_becomes 69 rfl) rfl rfl (by decide) ?_
      refine z_getr (rw1 := -66) (ki := 3) (r' := 60) 56 10 (zdec DX10_becomes 70 rfl) rfl rfl shp56 rfl (by decide) rfl rfl fl_SixWallsModel_19 (zPa (zP_up (zP_up (zP_up (zP_of hP fun r hr => hx.1 r (by omega) (by omega) (by omega)) (by decide)) (by decide)) (by decide)) 60 rfl) ?_
      refine z_aload_n 0 (zdec DX10_becomes 71 rfl) rfl rfl (by decide) ?_
      refine z_geti (ki := 5) 56 10 (zdec DX10_becomes 72 rfl) rfl shp56 rfl (by decide) rfl rfl fl_SixWallsModel_104 ?_
      rw [show (zup (zup (zup M2 56 5 ((M 56 5) - 1)) 58 ((M 56 5) - 1) p) 59 ((M 56 5) - 1) (M 57 p)) 56 5 = (M 56 5) - 1 from by simp [zup, zcpy]]
      refine z_iload_n 2 (zdec DX10_becomes 73 rfl) rfl rfl ?_
      refine z_iast 60 (zdec DX10_becomes 74 rfl) rfl shp60 ⟨by omega, by omega⟩ ?_
      refine z_aload_n 0 (zdec DX10_becomes 75 rfl) rfl rfl (by decide) ?_
      refine z_dup (zdec DX10_becomes 76 rfl) rfl ?_
      refine z_geti (ki := 5) 56 10 (zdec DX10_becomes 77 rfl) rfl shp56 rfl (by decide) rfl rfl fl_SixWallsModel_104 ?_
      rw [show (zup (zup (zup (zup M2 56 5 ((M 56 5) - 1)) 58 ((M 56 5) - 1) p) 59 ((M 56 5) - 1) (M 57 p)) 60 ((M 56 5) - 1) v) 56 5 = (M 56 5) - 1 from by simp [zup, zcpy]]
      refine z_iconst 1 (zdec DX10_becomes 78 rfl) (by decide) ?_
      refine z_iadd (zdec DX10_becomes 79 rfl) (by unfold z32; omega) ?_
      refine z_puti (ki := 5) 56 10 (zdec DX10_becomes 80 rfl) rfl shp56 rfl (by decide) rfl rfl fl_SixWallsModel_104 (Or.inl rfl) ?_
      refine z_aload_n 0 (zdec DX10_becomes 81 rfl) rfl rfl (by decide) ?_
      refine z_aload_n 0 (zdec DX10_becomes 82 rfl) rfl rfl (by decide) ?_
      refine z_geti (ki := 5) 56 10 (zdec DX10_becomes 83 rfl) rfl shp56 rfl (by decide) rfl rfl fl_SixWallsModel_104 ?_
      rw [show (zup (zup (zup (zup (zup M2 56 5 ((M 56 5) - 1)) 58 ((M 56 5) - 1) p) 59 ((M 56 5) - 1) (M 57 p)) 60 ((M 56 5) - 1) v) 56 5 (((M 56 5) - 1) + 1)) 56 5 = ((M 56 5) - 1) + 1 from by simp [zup, zcpy]]
      refine z_puti (ki := 4) 56 10 (zdec DX10_becomes 84 rfl) rfl shp56 rfl (by decide) rfl rfl fl_SixWallsModel_107 (Or.inl rfl) ?_
      refine z_aload_n 0 (zdec DX10_becomes 85 rfl) rfl rfl (by decide) ?_
      refine z_getr (rw1 := -66) (ki := 0) (r' := 57) 56 10 (zdec DX10_becomes 86 rfl) rfl rfl shp56 rfl (by decide) rfl rfl fl_SixWallsModel_9 (zPa (zP_up (zP_up (zP_up (zP_up (zP_up (zP_up (zP_of hP fun r hr => hx.1 r (by omega) (by omega) (by omega)) (by decide)) (by decide)) (by decide)) (by decide)) (by decide)) (by decide)) 57 rfl) ?_
      refine z_iload_n 1 (zdec DX10_becomes 87 rfl) rfl rfl ?_
      refine z_iload_n 2 (zdec DX10_becomes 88 rfl) rfl rfl ?_
      refine z_iast 57 (zdec DX10_becomes 89 rfl) rfl shp57 ⟨by omega, by omega⟩ ?_
      refine z_iload_n 3 (zdec DX10_becomes 90 rfl) rfl rfl ?_
      exact z_iret (zdec DX10_becomes 91 rfl) rfl (⟨rfl, rfl, Or.inr ⟨h9, zBec_of (by unfold zrn; rw [if_pos (by omega)]; omega) (by rw [zup_row (by decide)]; exact hx.1 57 (by decide) (by decide) (by decide)) (by rw [zup_row (by decide)]; exact hx.2.1.sh (by omega)) (by rw [zup_row (by decide)]; exact hx.2.2.1.sh (by omega)) (by rw [zup_row (by decide)]; exact hx.2.2.2.sh (by omega)) (fun j hj => by rw [zup_ne hj]; exact congrFun (hx.1 56 (by decide) (by decide) (by decide)) j) (fun c hc => by rw [zup_row (by omega)]; exact hx.1 c (by omega) (by omega) (by omega))⟩⟩)
  ·
    refine z_iload_n 3 (zdec DX10_becomes 8 rfl) rfl rfl ?_
    exact z_iret (zdec DX10_becomes 9 rfl) rfl (⟨rfl, rfl, Or.inl ⟨by omega, rfl⟩⟩)
set_option maxHeartbeats 4000000 in
theorem cX10_undo {M : zMm} (hP : zP M) (hH : zHr M) : zW mX10_undo 1 (fun rv S' M' => S' = zS0 ∧ ((M 56 5 = 0 ∧ rv = some (.inl (-5)) ∧ M = M') ∨ (M 56 5 ≠ 0 ∧ rv = some (.inl (M 56 5 - 1)) ∧ M' = zundR M))) (0, 0) zS0 0 (zargs 0 [.inr (.inr 56)]) [] M := by
  change zW _ _ _ _ _ 0 [(0, .inr (.inr 56))] [] M
  obtain ⟨⟨hH1, hH2, hH3⟩, hH4⟩ := hH
  have hb := hH4 (M 56 5 - 1)
  refine z_aload_n 0 (zdec DX10_undo 0 rfl) rfl rfl (by decide) ?_
  refine z_geti (ki := 5) 56 10 (zdec DX10_undo 1 rfl) rfl shp56 rfl (by decide) rfl rfl fl_SixWallsModel_104 ?_
  refine z_if_ne 10 (zdec DX10_undo 2 rfl) rfl (fun h4 => ?_) (fun h4 => ?_)
  ·
    refine z_aload_n 0 (zdec DX10_undo 5 rfl) rfl rfl (by decide) ?_
    refine z_dup (zdec DX10_undo 6 rfl) rfl ?_
    refine z_geti (ki := 5) 56 10 (zdec DX10_undo 7 rfl) rfl shp56 rfl (by decide) rfl rfl fl_SixWallsModel_104 ?_
    refine z_iconst 1 (zdec DX10_undo 8 rfl) (by decide) ?_
    refine z_isub (zdec DX10_undo 9 rfl) (by unfold z32; omega) ?_
    refine z_puti (ki := 5) 56 10 (zdec DX10_undo 10 rfl) rfl shp56 rfl (by decide) rfl rfl fl_SixWallsModel_104 (Or.inl rfl) ?_
    refine z_aload_n 0 (zdec DX10_undo 11 rfl) rfl rfl (by decide) ?_
    refine z_getr (rw1 := -66) (ki := 0) (r' := 57) 56 10 (zdec DX10_undo 12 rfl) rfl rfl shp56 rfl (by decide) rfl rfl fl_SixWallsModel_9 (zPa (zP_up hP (by decide)) 57 rfl) ?_
    refine z_aload_n 0 (zdec DX10_undo 13 rfl) rfl rfl (by decide) ?_
    refine z_getr (rw1 := -66) (ki := 1) (r' := 58) 56 10 (zdec DX10_undo 14 rfl) rfl rfl shp56 rfl (by decide) rfl rfl fl_SixWallsModel_13 (zPa (zP_up hP (by decide)) 58 rfl) ?_
    refine z_aload_n 0 (zdec DX10_undo 15 rfl) rfl rfl (by decide) ?_
    refine z_geti (ki := 5) 56 10 (zdec DX10_undo 16 rfl) rfl shp56 rfl (by decide) rfl rfl fl_SixWallsModel_104 ?_
    rw [show (zup M 56 5 ((M 56 5) - 1)) 56 5 = (M 56 5) - 1 from by simp [zup, zcpy]]
    refine z_iald 58 (zdec DX10_undo 17 rfl) rfl shp58 ⟨by omega, by omega⟩ ?_
    rw [show (zup M 56 5 ((M 56 5) - 1)) 58 ((M 56 5) - 1) = M 58 ((M 56 5) - 1) from by simp [zup, zcpy]]
    refine z_aload_n 0 (zdec DX10_undo 18 rfl) rfl rfl (by decide) ?_
    refine z_getr (rw1 := -66) (ki := 2) (r' := 59) 56 10 (zdec DX10_undo 19 rfl) rfl rfl shp56 rfl (by decide) rfl rfl fl_SixWallsModel_16 (zPa (zP_up hP (by decide)) 59 rfl) ?_
    refine z_aload_n 0 (zdec DX10_undo 20 rfl) rfl rfl (by decide) ?_
    refine z_geti (ki := 5) 56 10 (zdec DX10_undo 21 rfl) rfl shp56 rfl (by decide) rfl rfl fl_SixWallsModel_104 ?_
    rw [show (zup M 56 5 ((M 56 5) - 1)) 56 5 = (M 56 5) - 1 from by simp [zup, zcpy]]
    refine z_iald 59 (zdec DX10_undo 22 rfl) rfl shp59 ⟨by omega, by omega⟩ ?_
    rw [show (zup M 56 5 ((M 56 5) - 1)) 59 ((M 56 5) - 1) = M 59 ((M 56 5) - 1) from by simp [zup, zcpy]]
    refine z_iast 57 (zdec DX10_undo 23 rfl) rfl shp57 ⟨by omega, by omega⟩ ?_
    refine z_aload_n 0 (zdec DX10_undo 24 rfl) rfl rfl (by decide) ?_
    refine z_geti (ki := 5) 56 10 (zdec DX10_undo 25 rfl) rfl shp56 rfl (by decide) rfl rfl fl_SixWallsModel_104 ?_
    rw [show (zup (zup M 56 5 ((M 56 5) - 1)) 57 (M 58 ((M 56 5) - 1)) (M 59 ((M 56 5) - 1))) 56 5 = (M 56 5) - 1 from by simp [zup, zcpy]]
    exact z_iret (zdec DX10_undo 26 rfl) rfl (⟨rfl, Or.inr ⟨h4, rfl, rfl⟩⟩)
  ·
    refine z_bipush (-5) (zdec DX10_undo 3 rfl) (by decide) ?_
    exact z_iret (zdec DX10_undo 4 rfl) rfl (⟨rfl, Or.inl ⟨by omega, rfl, rfl⟩⟩)
set_option maxHeartbeats 4000000 in
theorem cX10_redo {M : zMm} (hP : zP M) (hH : zHr M) : zW mX10_redo 1 (fun rv S' M' => S' = zS0 ∧ ((M 56 5 = M 56 4 ∧ rv = some (.inl (-5)) ∧ M = M') ∨ (M 56 5 < M 56 4 ∧ rv = some (.inl (M 56 4 - (M 56 5 + 1))) ∧ M' = zredR M))) (0, 0) zS0 0 (zargs 0 [.inr (.inr 56)]) [] M := by
  change zW _ _ _ _ _ 0 [(0, .inr (.inr 56))] [] M
  obtain ⟨⟨hH1, hH2, hH3⟩, hH4⟩ := hH
  have hb := hH4 (M 56 5)
  refine z_aload_n 0 (zdec DX10_redo 0 rfl) rfl rfl (by decide) ?_
  refine z_geti (ki := 5) 56 10 (zdec DX10_redo 1 rfl) rfl shp56 rfl (by decide) rfl rfl fl_SixWallsModel_104 ?_
  refine z_aload_n 0 (zdec DX10_redo 2 rfl) rfl rfl (by decide) ?_
  refine z_geti (ki := 4) 56 10 (zdec DX10_redo 3 rfl) rfl shp56 rfl (by decide) rfl rfl fl_SixWallsModel_107 ?_
  refine z_icmp_ne 14 (zdec DX10_redo 4 rfl) rfl (fun h8 => ?_) (fun h8 => ?_)
  ·
    refine z_aload_n 0 (zdec DX10_redo 7 rfl) rfl rfl (by decide) ?_
    refine z_getr (rw1 := -66) (ki := 0) (r' := 57) 56 10 (zdec DX10_redo 8 rfl) rfl rfl shp56 rfl (by decide) rfl rfl fl_SixWallsModel_9 (zPa hP 57 rfl) ?_
    refine z_aload_n 0 (zdec DX10_redo 9 rfl) rfl rfl (by decide) ?_
    refine z_getr (rw1 := -66) (ki := 1) (r' := 58) 56 10 (zdec DX10_redo 10 rfl) rfl rfl shp56 rfl (by decide) rfl rfl fl_SixWallsModel_13 (zPa hP 58 rfl) ?_
    refine z_aload_n 0 (zdec DX10_redo 11 rfl) rfl rfl (by decide) ?_
    refine z_geti (ki := 5) 56 10 (zdec DX10_redo 12 rfl) rfl shp56 rfl (by decide) rfl rfl fl_SixWallsModel_104 ?_
    refine z_iald 58 (zdec DX10_redo 13 rfl) rfl shp58 ⟨by omega, by omega⟩ ?_
    refine z_aload_n 0 (zdec DX10_redo 14 rfl) rfl rfl (by decide) ?_
    refine z_getr (rw1 := -66) (ki := 3) (r' := 60) 56 10 (zdec DX10_redo 15 rfl) rfl rfl shp56 rfl (by decide) rfl rfl fl_SixWallsModel_19 (zPa hP 60 rfl) ?_
    refine z_aload_n 0 (zdec DX10_redo 16 rfl) rfl rfl (by decide) ?_
    refine z_geti (ki := 5) 56 10 (zdec DX10_redo 17 rfl) rfl shp56 rfl (by decide) rfl rfl fl_SixWallsModel_104 ?_
    refine z_iald 60 (zdec DX10_redo 18 rfl) rfl shp60 ⟨by omega, by omega⟩ ?_
    refine z_iast 57 (zdec DX10_redo 19 rfl) rfl shp57 ⟨by omega, by omega⟩ ?_
    refine z_aload_n 0 (zdec DX10_redo 20 rfl) rfl rfl (by decide) ?_
    refine z_dup (zdec DX10_redo 21 rfl) rfl ?_
    refine z_geti (ki := 5) 56 10 (zdec DX10_redo 22 rfl) rfl shp56 rfl (by decide) rfl rfl fl_SixWallsModel_104 ?_
    rw [show (zup M 57 (M 58 (M 56 5)) (M 60 (M 56 5))) 56 5 = M 56 5 from by simp [zup, zcpy]]
    refine z_iconst 1 (zdec DX10_redo 23 rfl) (by decide) ?_
    refine z_iadd (zdec DX10_redo 24 rfl) (by unfold z32; omega) ?_
    refine z_puti (ki := 5) 56 10 (zdec DX10_redo 25 rfl) rfl shp56 rfl (by decide) rfl rfl fl_SixWallsModel_104 (Or.inl rfl) ?_
    refine z_aload_n 0 (zdec DX10_redo 26 rfl) rfl rfl (by decide) ?_
    refine z_geti (ki := 4) 56 10 (zdec DX10_redo 27 rfl) rfl shp56 rfl (by decide) rfl rfl fl_SixWallsModel_107 ?_
    rw [show (zup (zup M 57 (M 58 (M 56 5)) (M 60 (M 56 5))) 56 5 ((M 56 5) + 1)) 56 4 = M 56 4 from by simp [zup, zcpy]]
    refine z_aload_n 0 (zdec DX10_redo 28 rfl) rfl rfl (by decide) ?_
    refine z_geti (ki := 5) 56 10 (zdec DX10_redo 29 rfl) rfl shp56 rfl (by decide) rfl rfl fl_SixWallsModel_104 ?_
    rw [show (zup (zup M 57 (M 58 (M 56 5)) (M 60 (M 56 5))) 56 5 ((M 56 5) + 1)) 56 5 = (M 56 5) + 1 from by simp [zup, zcpy]]
    refine z_isub (zdec DX10_redo 30 rfl) (by unfold z32; omega) ?_
    exact z_iret (zdec DX10_redo 31 rfl) rfl (⟨rfl, Or.inr ⟨by omega, rfl, rfl⟩⟩)
  ·
    refine z_bipush (-5) (zdec DX10_redo 5 rfl) (by decide) ?_
    exact z_iret (zdec DX10_redo 6 rfl) rfl (⟨rfl, Or.inl ⟨by omega, rfl, rfl⟩⟩)
set_option maxHeartbeats 4000000 in
theorem cX10_mend {M : zMm} (hP : zP M) (hs : 0 ≤ M 56 5 ∧ M 56 5 ≤ 40) (n k v : Int) : zW mX10_mend 3 (fun rv S' M' => S' = zS0 ∧ ((¬ zfit n k v ∧ rv = some (.inl (-1)) ∧ M' = M) ∨ (zfit n k v ∧ rv = some (.inl (M 57 (zat n k))) ∧ ((M 57 (zat n k) = v ∧ M' = M) ∨ (M 57 (zat n k) ≠ v ∧ zBec M (zat n k) v M'))))) (0, 0) zS0 0 (zargs 0 [.inr (.inr 56), .inl n, .inl k, .inl v]) [] M := by
  change zW _ _ _ _ _ 0 [(0, .inr (.inr 56)), (1, .inl n), (2, .inl k), (3, .inl v)] [] M
  refine z_iload_n 2 (zdec DX10_mend 0 rfl) rfl rfl ?_
  refine z_tsw (zdec DX10_mend 1 rfl) (by decide) (fun j off hj he => ?_) (fun hd => ?_)
  · match j, hj, he with
    | 0, hj, he =>
      cases hj
      refine ⟨44, rfl, ?_⟩
      have h1 : k = 0 := by simpa using he
      refine z_iload_n 1 (zdec DX10_mend 2 rfl) rfl rfl ?_
      refine z_invs mX10_isHouse [.inl n] (zdec DX10_mend 3 rfl) (Or.inl ml_SixWallsModel_118) okX10_isHouse rfl rfl (Nat.le_of_ble_eq_true rfl) (Nat.le_of_ble_eq_true rfl) (b' := (0, 0)) ⟨Nat.le_refl 0, Nat.le_refl 0⟩ (Nat.le_of_ble_eq_true rfl) (cX10_isHouse n) (fun rv9 S9 M45 h9 => ?_)
      obtain ⟨rfl, rfl, rfl⟩ := h9
      change zW _ _ _ _ _ 48 [(0, .inr (.inr 56)), (1, .inl n), (2, .inl k), (3, .inl v)] [.inl (zb (0 ≤ n ∧ n < 16))] M
      refine z_if_eq 77 (zdec DX10_mend 4 rfl) rfl (fun h48 => ?_) (fun h48 => ?_)
      ·
        rw [zb_eq0] at h48
        refine z_iconst (-1) (zdec DX10_mend 20 rfl) (by decide) ?_
        exact z_iret (zdec DX10_mend 21 rfl) rfl (by first | exact ⟨rfl, Or.inr ⟨(by unfold zfit zknown zmay; omega), by rw [ep], by rw [ep]; exact x1⟩⟩ | exact ⟨rfl, Or.inl ⟨(by unfold zfit zknown zmay; omega), rfl, rfl⟩⟩)
      ·
        have q48 := zb_ne0.mp h48
        refine z_iload_n 3 (zdec DX10_mend 5 rfl) rfl rfl ?_
        refine z_i2l (zdec DX10_mend 6 rfl) ?_
        refine z_lconst 0 (zdec DX10_mend 7 rfl) rfl ?_
        refine z_ldc2 9 (zdec DX10_mend 8 rfl) kl_SixWallsModel_129 rfl ⟨by decide, by decide⟩ ?_
        refine z_invs mX10_within [.inr (.inl v), .inr (.inl 0), .inr (.inl 9)] (zdec DX10_mend 9 rfl) (Or.inl ml_SixWallsModel_112) okX10_within rfl rfl (Nat.le_of_ble_eq_true rfl) (Nat.le_of_ble_eq_true rfl) (b' := (0, 0)) ⟨Nat.le_refl 0, Nat.le_refl 0⟩ (Nat.le_of_ble_eq_true rfl) (cX10_within v 0 9) (fun rv9 S9 M57 h9 => ?_)
        obtain ⟨rfl, rfl, rfl⟩ := h9
        change zW _ _ _ _ _ 60 [(0, .inr (.inr 56)), (1, .inl n), (2, .inl k), (3, .inl v)] [.inl (zb (0 ≤ v ∧ v ≤ 9))] M
        refine z_if_eq 77 (zdec DX10_mend 10 rfl) rfl (fun h60 => ?_) (fun h60 => ?_)
        ·
          rw [zb_eq0] at h60
          refine z_iconst (-1) (zdec DX10_mend 20 rfl) (by decide) ?_
          exact z_iret (zdec DX10_mend 21 rfl) rfl (by first | exact ⟨rfl, Or.inr ⟨(by unfold zfit zknown zmay; omega), by rw [ep], by rw [ep]; exact x1⟩⟩ | exact ⟨rfl, Or.inl ⟨(by unfold zfit zknown zmay; omega), rfl, rfl⟩⟩)
        ·
          have q60 := zb_ne0.mp h60
          refine z_aload_n 0 (zdec DX10_mend 11 rfl) rfl rfl (by decide) ?_
          refine z_bipush 16 (zdec DX10_mend 12 rfl) (by decide) ?_
          refine z_iload_n 2 (zdec DX10_mend 13 rfl) rfl rfl ?_
          refine z_imul (zdec DX10_mend 14 rfl) (by unfold z32; omega) ?_
          refine z_iload_n 1 (zdec DX10_mend 15 rfl) rfl rfl ?_
          refine z_iadd (zdec DX10_mend 16 rfl) (by unfold z32; omega) ?_
          refine z_iload_n 3 (zdec DX10_mend 17 rfl) rfl rfl ?_
          refine z_inv mX10_becomes 56 10 [.inl ((16 * k) + n), .inl v] (zdec DX10_mend 18 rfl) ml_SixWallsModel_131 okX10_becomes rfl shp56 rfl rfl rfl rfl (Nat.le_of_ble_eq_true rfl) (Nat.le_of_ble_eq_true rfl) (b' := (0, 0)) ⟨Nat.le_refl 0, Nat.le_refl 0⟩ (Nat.le_of_ble_eq_true rfl) (cX10_becomes hP hs ((16 * k) + n) v (by omega)) (fun rv9 S9 M71 h9 => ?_)
          obtain ⟨rfl, rfl, x1⟩ := h9
          have ep : zat n k = 16 * k + n := by unfold zat; repeat (first | (rw [if_pos (by omega)]; done) | (rw [if_pos (by omega)]; omega) | rw [if_neg (by omega)])
          change zW _ _ _ _ _ 74 [(0, .inr (.inr 56)), (1, .inl n), (2, .inl k), (3, .inl v)] [.inl (M 57 (16 * k + n))] M71
          refine z_goto 78 (zdec DX10_mend 19 rfl) rfl ?_
          exact z_iret (zdec DX10_mend 21 rfl) rfl (by first | exact ⟨rfl, Or.inr ⟨(by unfold zfit zknown zmay; omega), by rw [ep], by rw [ep]; exact x1⟩⟩ | exact ⟨rfl, Or.inl ⟨(by unfold zfit zknown zmay; omega), rfl, rfl⟩⟩)
    | 1, hj, he =>
      cases hj
      refine ⟨44, rfl, ?_⟩
      have h1 : k = 1 := by simpa using he
      refine z_iload_n 1 (zdec DX10_mend 2 rfl) rfl rfl ?_
      refine z_invs mX10_isHouse [.inl n] (zdec DX10_mend 3 rfl) (Or.inl ml_SixWallsModel_118) okX10_isHouse rfl rfl (Nat.le_of_ble_eq_true rfl) (Nat.le_of_ble_eq_true rfl) (b' := (0, 0)) ⟨Nat.le_refl 0, Nat.le_refl 0⟩ (Nat.le_of_ble_eq_true rfl) (cX10_isHouse n) (fun rv9 S9 M45 h9 => ?_)
      obtain ⟨rfl, rfl, rfl⟩ := h9
      change zW _ _ _ _ _ 48 [(0, .inr (.inr 56)), (1, .inl n), (2, .inl k), (3, .inl v)] [.inl (zb (0 ≤ n ∧ n < 16))] M
      refine z_if_eq 77 (zdec DX10_mend 4 rfl) rfl (fun h48 => ?_) (fun h48 => ?_)
      ·
        rw [zb_eq0] at h48
        refine z_iconst (-1) (zdec DX10_mend 20 rfl) (by decide) ?_
        exact z_iret (zdec DX10_mend 21 rfl) rfl (by first | exact ⟨rfl, Or.inr ⟨(by unfold zfit zknown zmay; omega), by rw [ep], by rw [ep]; exact x1⟩⟩ | exact ⟨rfl, Or.inl ⟨(by unfold zfit zknown zmay; omega), rfl, rfl⟩⟩)
      ·
        have q48 := zb_ne0.mp h48
        refine z_iload_n 3 (zdec DX10_mend 5 rfl) rfl rfl ?_
        refine z_i2l (zdec DX10_mend 6 rfl) ?_
        refine z_lconst 0 (zdec DX10_mend 7 rfl) rfl ?_
        refine z_ldc2 9 (zdec DX10_mend 8 rfl) kl_SixWallsModel_129 rfl ⟨by decide, by decide⟩ ?_
        refine z_invs mX10_within [.inr (.inl v), .inr (.inl 0), .inr (.inl 9)] (zdec DX10_mend 9 rfl) (Or.inl ml_SixWallsModel_112) okX10_within rfl rfl (Nat.le_of_ble_eq_true rfl) (Nat.le_of_ble_eq_true rfl) (b' := (0, 0)) ⟨Nat.le_refl 0, Nat.le_refl 0⟩ (Nat.le_of_ble_eq_true rfl) (cX10_within v 0 9) (fun rv9 S9 M57 h9 => ?_)
        obtain ⟨rfl, rfl, rfl⟩ := h9
        change zW _ _ _ _ _ 60 [(0, .inr (.inr 56)), (1, .inl n), (2, .inl k), (3, .inl v)] [.inl (zb (0 ≤ v ∧ v ≤ 9))] M
        refine z_if_eq 77 (zdec DX10_mend 10 rfl) rfl (fun h60 => ?_) (fun h60 => ?_)
        ·
          rw [zb_eq0] at h60
          refine z_iconst (-1) (zdec DX10_mend 20 rfl) (by decide) ?_
          exact z_iret (zdec DX10_mend 21 rfl) rfl (by first | exact ⟨rfl, Or.inr ⟨(by unfold zfit zknown zmay; omega), by rw [ep], by rw [ep]; exact x1⟩⟩ | exact ⟨rfl, Or.inl ⟨(by unfold zfit zknown zmay; omega), rfl, rfl⟩⟩)
        ·
          have q60 := zb_ne0.mp h60
          refine z_aload_n 0 (zdec DX10_mend 11 rfl) rfl rfl (by decide) ?_
          refine z_bipush 16 (zdec DX10_mend 12 rfl) (by decide) ?_
          refine z_iload_n 2 (zdec DX10_mend 13 rfl) rfl rfl ?_
          refine z_imul (zdec DX10_mend 14 rfl) (by unfold z32; omega) ?_
          refine z_iload_n 1 (zdec DX10_mend 15 rfl) rfl rfl ?_
          refine z_iadd (zdec DX10_mend 16 rfl) (by unfold z32; omega) ?_
          refine z_iload_n 3 (zdec DX10_mend 17 rfl) rfl rfl ?_
          refine z_inv mX10_becomes 56 10 [.inl ((16 * k) + n), .inl v] (zdec DX10_mend 18 rfl) ml_SixWallsModel_131 okX10_becomes rfl shp56 rfl rfl rfl rfl (Nat.le_of_ble_eq_true rfl) (Nat.le_of_ble_eq_true rfl) (b' := (0, 0)) ⟨Nat.le_refl 0, Nat.le_refl 0⟩ (Nat.le_of_ble_eq_true rfl) (cX10_becomes hP hs ((16 * k) + n) v (by omega)) (fun rv9 S9 M71 h9 => ?_)
          obtain ⟨rfl, rfl, x1⟩ := h9
          have ep : zat n k = 16 * k + n := by unfold zat; repeat (first | (rw [if_pos (by omega)]; done) | (rw [if_pos (by omega)]; omega) | rw [if_neg (by omega)])
          change zW _ _ _ _ _ 74 [(0, .inr (.inr 56)), (1, .inl n), (2, .inl k), (3, .inl v)] [.inl (M 57 (16 * k + n))] M71
          refine z_goto 78 (zdec DX10_mend 19 rfl) rfl ?_
          exact z_iret (zdec DX10_mend 21 rfl) rfl (by first | exact ⟨rfl, Or.inr ⟨(by unfold zfit zknown zmay; omega), by rw [ep], by rw [ep]; exact x1⟩⟩ | exact ⟨rfl, Or.inl ⟨(by unfold zfit zknown zmay; omega), rfl, rfl⟩⟩)
    | 2, hj, he =>
      cases hj
      refine ⟨79, rfl, ?_⟩
      have h1 : k = 2 := by simpa using he
      refine z_iload_n 1 (zdec DX10_mend 22 rfl) rfl rfl ?_
      refine z_invs mX10_isWall [.inl n] (zdec DX10_mend 23 rfl) (Or.inl ml_SixWallsModel_134) okX10_isWall rfl rfl (Nat.le_of_ble_eq_true rfl) (Nat.le_of_ble_eq_true rfl) (b' := (0, 0)) ⟨Nat.le_refl 0, Nat.le_refl 0⟩ (Nat.le_of_ble_eq_true rfl) (cX10_isWall n) (fun rv9 S9 M80 h9 => ?_)
      obtain ⟨rfl, rfl, rfl⟩ := h9
      change zW _ _ _ _ _ 83 [(0, .inr (.inr 56)), (1, .inl n), (2, .inl k), (3, .inl v)] [.inl (zb (0 ≤ n ∧ n < 33))] M
      refine z_if_eq 110 (zdec DX10_mend 24 rfl) rfl (fun h83 => ?_) (fun h83 => ?_)
      ·
        rw [zb_eq0] at h83
        refine z_iconst (-1) (zdec DX10_mend 38 rfl) (by decide) ?_
        exact z_iret (zdec DX10_mend 39 rfl) rfl (by first | exact ⟨rfl, Or.inr ⟨(by unfold zfit zknown zmay; omega), by rw [ep], by rw [ep]; exact x1⟩⟩ | exact ⟨rfl, Or.inl ⟨(by unfold zfit zknown zmay; omega), rfl, rfl⟩⟩)
      ·
        have q83 := zb_ne0.mp h83
        refine z_iload_n 3 (zdec DX10_mend 25 rfl) rfl rfl ?_
        refine z_i2l (zdec DX10_mend 26 rfl) ?_
        refine z_lconst 0 (zdec DX10_mend 27 rfl) rfl ?_
        refine z_ldc2 9 (zdec DX10_mend 28 rfl) kl_SixWallsModel_129 rfl ⟨by decide, by decide⟩ ?_
        refine z_invs mX10_within [.inr (.inl v), .inr (.inl 0), .inr (.inl 9)] (zdec DX10_mend 29 rfl) (Or.inl ml_SixWallsModel_112) okX10_within rfl rfl (Nat.le_of_ble_eq_true rfl) (Nat.le_of_ble_eq_true rfl) (b' := (0, 0)) ⟨Nat.le_refl 0, Nat.le_refl 0⟩ (Nat.le_of_ble_eq_true rfl) (cX10_within v 0 9) (fun rv9 S9 M92 h9 => ?_)
        obtain ⟨rfl, rfl, rfl⟩ := h9
        change zW _ _ _ _ _ 95 [(0, .inr (.inr 56)), (1, .inl n), (2, .inl k), (3, .inl v)] [.inl (zb (0 ≤ v ∧ v ≤ 9))] M
        refine z_if_eq 110 (zdec DX10_mend 30 rfl) rfl (fun h95 => ?_) (fun h95 => ?_)
        ·
          rw [zb_eq0] at h95
          refine z_iconst (-1) (zdec DX10_mend 38 rfl) (by decide) ?_
          exact z_iret (zdec DX10_mend 39 rfl) rfl (by first | exact ⟨rfl, Or.inr ⟨(by unfold zfit zknown zmay; omega), by rw [ep], by rw [ep]; exact x1⟩⟩ | exact ⟨rfl, Or.inl ⟨(by unfold zfit zknown zmay; omega), rfl, rfl⟩⟩)
        ·
          have q95 := zb_ne0.mp h95
          refine z_aload_n 0 (zdec DX10_mend 31 rfl) rfl rfl (by decide) ?_
          refine z_bipush 32 (zdec DX10_mend 32 rfl) (by decide) ?_
          refine z_iload_n 1 (zdec DX10_mend 33 rfl) rfl rfl ?_
          refine z_iadd (zdec DX10_mend 34 rfl) (by unfold z32; omega) ?_
          refine z_iload_n 3 (zdec DX10_mend 35 rfl) rfl rfl ?_
          refine z_inv mX10_becomes 56 10 [.inl (32 + n), .inl v] (zdec DX10_mend 36 rfl) ml_SixWallsModel_131 okX10_becomes rfl shp56 rfl rfl rfl rfl (Nat.le_of_ble_eq_true rfl) (Nat.le_of_ble_eq_true rfl) (b' := (0, 0)) ⟨Nat.le_refl 0, Nat.le_refl 0⟩ (Nat.le_of_ble_eq_true rfl) (cX10_becomes hP hs (32 + n) v (by omega)) (fun rv9 S9 M104 h9 => ?_)
          obtain ⟨rfl, rfl, x1⟩ := h9
          have ep : zat n k = 32 + n := by unfold zat; repeat (first | (rw [if_pos (by omega)]; done) | (rw [if_pos (by omega)]; omega) | rw [if_neg (by omega)])
          change zW _ _ _ _ _ 107 [(0, .inr (.inr 56)), (1, .inl n), (2, .inl k), (3, .inl v)] [.inl (M 57 (32 + n))] M104
          refine z_goto 111 (zdec DX10_mend 37 rfl) rfl ?_
          exact z_iret (zdec DX10_mend 39 rfl) rfl (by first | exact ⟨rfl, Or.inr ⟨(by unfold zfit zknown zmay; omega), by rw [ep], by rw [ep]; exact x1⟩⟩ | exact ⟨rfl, Or.inl ⟨(by unfold zfit zknown zmay; omega), rfl, rfl⟩⟩)
    | 3, hj, he =>
      cases hj
      refine ⟨112, rfl, ?_⟩
      have h1 : k = 3 := by simpa using he
      refine z_iload_n 1 (zdec DX10_mend 40 rfl) rfl rfl ?_
      refine z_invs mX10_isWall [.inl n] (zdec DX10_mend 41 rfl) (Or.inl ml_SixWallsModel_134) okX10_isWall rfl rfl (Nat.le_of_ble_eq_true rfl) (Nat.le_of_ble_eq_true rfl) (b' := (0, 0)) ⟨Nat.le_refl 0, Nat.le_refl 0⟩ (Nat.le_of_ble_eq_true rfl) (cX10_isWall n) (fun rv9 S9 M113 h9 => ?_)
      obtain ⟨rfl, rfl, rfl⟩ := h9
      change zW _ _ _ _ _ 116 [(0, .inr (.inr 56)), (1, .inl n), (2, .inl k), (3, .inl v)] [.inl (zb (0 ≤ n ∧ n < 33))] M
      refine z_if_eq 141 (zdec DX10_mend 42 rfl) rfl (fun h116 => ?_) (fun h116 => ?_)
      ·
        rw [zb_eq0] at h116
        refine z_iconst (-1) (zdec DX10_mend 56 rfl) (by decide) ?_
        exact z_iret (zdec DX10_mend 57 rfl) rfl (by first | exact ⟨rfl, Or.inr ⟨(by unfold zfit zknown zmay; omega), by rw [ep], by rw [ep]; exact x1⟩⟩ | exact ⟨rfl, Or.inl ⟨(by unfold zfit zknown zmay; omega), rfl, rfl⟩⟩)
      ·
        have q116 := zb_ne0.mp h116
        refine z_iload_n 3 (zdec DX10_mend 43 rfl) rfl rfl ?_
        refine z_i2l (zdec DX10_mend 44 rfl) ?_
        refine z_lconst 0 (zdec DX10_mend 45 rfl) rfl ?_
        refine z_lconst 1 (zdec DX10_mend 46 rfl) rfl ?_
        refine z_invs mX10_within [.inr (.inl v), .inr (.inl 0), .inr (.inl 1)] (zdec DX10_mend 47 rfl) (Or.inl ml_SixWallsModel_112) okX10_within rfl rfl (Nat.le_of_ble_eq_true rfl) (Nat.le_of_ble_eq_true rfl) (b' := (0, 0)) ⟨Nat.le_refl 0, Nat.le_refl 0⟩ (Nat.le_of_ble_eq_true rfl) (cX10_within v 0 1) (fun rv9 S9 M123 h9 => ?_)
        obtain ⟨rfl, rfl, rfl⟩ := h9
        change zW _ _ _ _ _ 126 [(0, .inr (.inr 56)), (1, .inl n), (2, .inl k), (3, .inl v)] [.inl (zb (0 ≤ v ∧ v ≤ 1))] M
        refine z_if_eq 141 (zdec DX10_mend 48 rfl) rfl (fun h126 => ?_) (fun h126 => ?_)
        ·
          rw [zb_eq0] at h126
          refine z_iconst (-1) (zdec DX10_mend 56 rfl) (by decide) ?_
          exact z_iret (zdec DX10_mend 57 rfl) rfl (by first | exact ⟨rfl, Or.inr ⟨(by unfold zfit zknown zmay; omega), by rw [ep], by rw [ep]; exact x1⟩⟩ | exact ⟨rfl, Or.inl ⟨(by unfold zfit zknown zmay; omega), rfl, rfl⟩⟩)
        ·
          have q126 := zb_ne0.mp h126
          refine z_aload_n 0 (zdec DX10_mend 49 rfl) rfl rfl (by decide) ?_
          refine z_bipush 65 (zdec DX10_mend 50 rfl) (by decide) ?_
          refine z_iload_n 1 (zdec DX10_mend 51 rfl) rfl rfl ?_
          refine z_iadd (zdec DX10_mend 52 rfl) (by unfold z32; omega) ?_
          refine z_iload_n 3 (zdec DX10_mend 53 rfl) rfl rfl ?_
          refine z_inv mX10_becomes 56 10 [.inl (65 + n), .inl v] (zdec DX10_mend 54 rfl) ml_SixWallsModel_131 okX10_becomes rfl shp56 rfl rfl rfl rfl (Nat.le_of_ble_eq_true rfl) (Nat.le_of_ble_eq_true rfl) (b' := (0, 0)) ⟨Nat.le_refl 0, Nat.le_refl 0⟩ (Nat.le_of_ble_eq_true rfl) (cX10_becomes hP hs (65 + n) v (by omega)) (fun rv9 S9 M135 h9 => ?_)
          obtain ⟨rfl, rfl, x1⟩ := h9
          have ep : zat n k = 65 + n := by unfold zat; repeat (first | (rw [if_pos (by omega)]; done) | (rw [if_pos (by omega)]; omega) | rw [if_neg (by omega)])
          change zW _ _ _ _ _ 138 [(0, .inr (.inr 56)), (1, .inl n), (2, .inl k), (3, .inl v)] [.inl (M 57 (65 + n))] M135
          refine z_goto 142 (zdec DX10_mend 55 rfl) rfl ?_
          exact z_iret (zdec DX10_mend 57 rfl) rfl (by first | exact ⟨rfl, Or.inr ⟨(by unfold zfit zknown zmay; omega), by rw [ep], by rw [ep]; exact x1⟩⟩ | exact ⟨rfl, Or.inl ⟨(by unfold zfit zknown zmay; omega), rfl, rfl⟩⟩)
    | 4, hj, he =>
      cases hj
      refine ⟨143, rfl, ?_⟩
      have h1 : k = 4 := by simpa using he
      refine z_iload_n 1 (zdec DX10_mend 58 rfl) rfl rfl ?_
      refine z_invs mX10_isWall [.inl n] (zdec DX10_mend 59 rfl) (Or.inl ml_SixWallsModel_134) okX10_isWall rfl rfl (Nat.le_of_ble_eq_true rfl) (Nat.le_of_ble_eq_true rfl) (b' := (0, 0)) ⟨Nat.le_refl 0, Nat.le_refl 0⟩ (Nat.le_of_ble_eq_true rfl) (cX10_isWall n) (fun rv9 S9 M144 h9 => ?_)
      obtain ⟨rfl, rfl, rfl⟩ := h9
      change zW _ _ _ _ _ 147 [(0, .inr (.inr 56)), (1, .inl n), (2, .inl k), (3, .inl v)] [.inl (zb (0 ≤ n ∧ n < 33))] M
      refine z_if_eq 174 (zdec DX10_mend 60 rfl) rfl (fun h147 => ?_) (fun h147 => ?_)
      ·
        rw [zb_eq0] at h147
        refine z_iconst (-1) (zdec DX10_mend 74 rfl) (by decide) ?_
        exact z_iret (zdec DX10_mend 75 rfl) rfl (by first | exact ⟨rfl, Or.inr ⟨(by unfold zfit zknown zmay; omega), by rw [ep], by rw [ep]; exact x1⟩⟩ | exact ⟨rfl, Or.inl ⟨(by unfold zfit zknown zmay; omega), rfl, rfl⟩⟩)
      ·
        have q147 := zb_ne0.mp h147
        refine z_iload_n 3 (zdec DX10_mend 61 rfl) rfl rfl ?_
        refine z_i2l (zdec DX10_mend 62 rfl) ?_
        refine z_lconst 0 (zdec DX10_mend 63 rfl) rfl ?_
        refine z_ldc2 5 (zdec DX10_mend 64 rfl) kl_SixWallsModel_137 rfl ⟨by decide, by decide⟩ ?_
        refine z_invs mX10_within [.inr (.inl v), .inr (.inl 0), .inr (.inl 5)] (zdec DX10_mend 65 rfl) (Or.inl ml_SixWallsModel_112) okX10_within rfl rfl (Nat.le_of_ble_eq_true rfl) (Nat.le_of_ble_eq_true rfl) (b' := (0, 0)) ⟨Nat.le_refl 0, Nat.le_refl 0⟩ (Nat.le_of_ble_eq_true rfl) (cX10_within v 0 5) (fun rv9 S9 M156 h9 => ?_)
        obtain ⟨rfl, rfl, rfl⟩ := h9
        change zW _ _ _ _ _ 159 [(0, .inr (.inr 56)), (1, .inl n), (2, .inl k), (3, .inl v)] [.inl (zb (0 ≤ v ∧ v ≤ 5))] M
        refine z_if_eq 174 (zdec DX10_mend 66 rfl) rfl (fun h159 => ?_) (fun h159 => ?_)
        ·
          rw [zb_eq0] at h159
          refine z_iconst (-1) (zdec DX10_mend 74 rfl) (by decide) ?_
          exact z_iret (zdec DX10_mend 75 rfl) rfl (by first | exact ⟨rfl, Or.inr ⟨(by unfold zfit zknown zmay; omega), by rw [ep], by rw [ep]; exact x1⟩⟩ | exact ⟨rfl, Or.inl ⟨(by unfold zfit zknown zmay; omega), rfl, rfl⟩⟩)
        ·
          have q159 := zb_ne0.mp h159
          refine z_aload_n 0 (zdec DX10_mend 67 rfl) rfl rfl (by decide) ?_
          refine z_bipush 98 (zdec DX10_mend 68 rfl) (by decide) ?_
          refine z_iload_n 1 (zdec DX10_mend 69 rfl) rfl rfl ?_
          refine z_iadd (zdec DX10_mend 70 rfl) (by unfold z32; omega) ?_
          refine z_iload_n 3 (zdec DX10_mend 71 rfl) rfl rfl ?_
          refine z_inv mX10_becomes 56 10 [.inl (98 + n), .inl v] (zdec DX10_mend 72 rfl) ml_SixWallsModel_131 okX10_becomes rfl shp56 rfl rfl rfl rfl (Nat.le_of_ble_eq_true rfl) (Nat.le_of_ble_eq_true rfl) (b' := (0, 0)) ⟨Nat.le_refl 0, Nat.le_refl 0⟩ (Nat.le_of_ble_eq_true rfl) (cX10_becomes hP hs (98 + n) v (by omega)) (fun rv9 S9 M168 h9 => ?_)
          obtain ⟨rfl, rfl, x1⟩ := h9
          have ep : zat n k = 98 + n := by unfold zat; repeat (first | (rw [if_pos (by omega)]; done) | (rw [if_pos (by omega)]; omega) | rw [if_neg (by omega)])
          change zW _ _ _ _ _ 171 [(0, .inr (.inr 56)), (1, .inl n), (2, .inl k), (3, .inl v)] [.inl (M 57 (98 + n))] M168
          refine z_goto 175 (zdec DX10_mend 73 rfl) rfl ?_
          exact z_iret (zdec DX10_mend 75 rfl) rfl (by first | exact ⟨rfl, Or.inr ⟨(by unfold zfit zknown zmay; omega), by rw [ep], by rw [ep]; exact x1⟩⟩ | exact ⟨rfl, Or.inl ⟨(by unfold zfit zknown zmay; omega), rfl, rfl⟩⟩)
    | 5, hj, he =>
      cases hj
      refine ⟨176, rfl, ?_⟩
      have h1 : k = 5 := by simpa using he
      refine z_iload_n 1 (zdec DX10_mend 76 rfl) rfl rfl ?_
      refine z_if_ne 203 (zdec DX10_mend 77 rfl) rfl (fun h177 => ?_) (fun h177 => ?_)
      ·
        refine z_iconst (-1) (zdec DX10_mend 89 rfl) (by decide) ?_
        exact z_iret (zdec DX10_mend 90 rfl) rfl (by first | exact ⟨rfl, Or.inr ⟨(by unfold zfit zknown zmay; omega), by rw [ep], by rw [ep]; exact x1⟩⟩ | exact ⟨rfl, Or.inl ⟨(by unfold zfit zknown zmay; omega), rfl, rfl⟩⟩)
      ·
        refine z_iload_n 3 (zdec DX10_mend 78 rfl) rfl rfl ?_
        refine z_i2l (zdec DX10_mend 79 rfl) ?_
        refine z_lconst 0 (zdec DX10_mend 80 rfl) rfl ?_
        refine z_ldc2 9 (zdec DX10_mend 81 rfl) kl_SixWallsModel_129 rfl ⟨by decide, by decide⟩ ?_
        refine z_invs mX10_within [.inr (.inl v), .inr (.inl 0), .inr (.inl 9)] (zdec DX10_mend 82 rfl) (Or.inl ml_SixWallsModel_112) okX10_within rfl rfl (Nat.le_of_ble_eq_true rfl) (Nat.le_of_ble_eq_true rfl) (b' := (0, 0)) ⟨Nat.le_refl 0, Nat.le_refl 0⟩ (Nat.le_of_ble_eq_true rfl) (cX10_within v 0 9) (fun rv9 S9 M186 h9 => ?_)
        obtain ⟨rfl, rfl, rfl⟩ := h9
        change zW _ _ _ _ _ 189 [(0, .inr (.inr 56)), (1, .inl n), (2, .inl k), (3, .inl v)] [.inl (zb (0 ≤ v ∧ v ≤ 9))] M
        refine z_if_eq 203 (zdec DX10_mend 83 rfl) rfl (fun h189 => ?_) (fun h189 => ?_)
        ·
          rw [zb_eq0] at h189
          refine z_iconst (-1) (zdec DX10_mend 89 rfl) (by decide) ?_
          exact z_iret (zdec DX10_mend 90 rfl) rfl (by first | exact ⟨rfl, Or.inr ⟨(by unfold zfit zknown zmay; omega), by rw [ep], by rw [ep]; exact x1⟩⟩ | exact ⟨rfl, Or.inl ⟨(by unfold zfit zknown zmay; omega), rfl, rfl⟩⟩)
        ·
          have q189 := zb_ne0.mp h189
          refine z_aload_n 0 (zdec DX10_mend 84 rfl) rfl rfl (by decide) ?_
          refine z_sipush 131 (zdec DX10_mend 85 rfl) (by decide) ?_
          refine z_iload_n 3 (zdec DX10_mend 86 rfl) rfl rfl ?_
          refine z_inv mX10_becomes 56 10 [.inl 131, .inl v] (zdec DX10_mend 87 rfl) ml_SixWallsModel_131 okX10_becomes rfl shp56 rfl rfl rfl rfl (Nat.le_of_ble_eq_true rfl) (Nat.le_of_ble_eq_true rfl) (b' := (0, 0)) ⟨Nat.le_refl 0, Nat.le_refl 0⟩ (Nat.le_of_ble_eq_true rfl) (cX10_becomes hP hs 131 v (by omega)) (fun rv9 S9 M197 h9 => ?_)
          obtain ⟨rfl, rfl, x1⟩ := h9
          have ep : zat n k = 131 := by unfold zat; repeat (first | (rw [if_pos (by omega)]; done) | (rw [if_pos (by omega)]; omega) | rw [if_neg (by omega)])
          change zW _ _ _ _ _ 200 [(0, .inr (.inr 56)), (1, .inl n), (2, .inl k), (3, .inl v)] [.inl (M 57 (131))] M197
          refine z_goto 204 (zdec DX10_mend 88 rfl) rfl ?_
          exact z_iret (zdec DX10_mend 90 rfl) rfl (by first | exact ⟨rfl, Or.inr ⟨(by unfold zfit zknown zmay; omega), by rw [ep], by rw [ep]; exact x1⟩⟩ | exact ⟨rfl, Or.inl ⟨(by unfold zfit zknown zmay; omega), rfl, rfl⟩⟩)
    | 6, hj, he =>
      cases hj
      refine ⟨205, rfl, ?_⟩
      have h1 : k = 6 := by simpa using he
      refine z_iload_n 1 (zdec DX10_mend 91 rfl) rfl rfl ?_
      refine z_if_ne 234 (zdec DX10_mend 92 rfl) rfl (fun h206 => ?_) (fun h206 => ?_)
      ·
        refine z_iconst (-1) (zdec DX10_mend 104 rfl) (by decide) ?_
        exact z_iret (zdec DX10_mend 105 rfl) rfl (by first | exact ⟨rfl, Or.inr ⟨(by unfold zfit zknown zmay; omega), by rw [ep], by rw [ep]; exact x1⟩⟩ | exact ⟨rfl, Or.inl ⟨(by unfold zfit zknown zmay; omega), rfl, rfl⟩⟩)
      ·
        refine z_iload_n 3 (zdec DX10_mend 93 rfl) rfl rfl ?_
        refine z_i2l (zdec DX10_mend 94 rfl) ?_
        refine z_ldc2 6 (zdec DX10_mend 95 rfl) kl_SixWallsModel_139 rfl ⟨by decide, by decide⟩ ?_
        refine z_ldc2 54 (zdec DX10_mend 96 rfl) kl_SixWallsModel_141 rfl ⟨by decide, by decide⟩ ?_
        refine z_invs mX10_within [.inr (.inl v), .inr (.inl 6), .inr (.inl 54)] (zdec DX10_mend 97 rfl) (Or.inl ml_SixWallsModel_112) okX10_within rfl rfl (Nat.le_of_ble_eq_true rfl) (Nat.le_of_ble_eq_true rfl) (b' := (0, 0)) ⟨Nat.le_refl 0, Nat.le_refl 0⟩ (Nat.le_of_ble_eq_true rfl) (cX10_within v 6 54) (fun rv9 S9 M217 h9 => ?_)
        obtain ⟨rfl, rfl, rfl⟩ := h9
        change zW _ _ _ _ _ 220 [(0, .inr (.inr 56)), (1, .inl n), (2, .inl k), (3, .inl v)] [.inl (zb (6 ≤ v ∧ v ≤ 54))] M
        refine z_if_eq 234 (zdec DX10_mend 98 rfl) rfl (fun h220 => ?_) (fun h220 => ?_)
        ·
          rw [zb_eq0] at h220
          refine z_iconst (-1) (zdec DX10_mend 104 rfl) (by decide) ?_
          exact z_iret (zdec DX10_mend 105 rfl) rfl (by first | exact ⟨rfl, Or.inr ⟨(by unfold zfit zknown zmay; omega), by rw [ep], by rw [ep]; exact x1⟩⟩ | exact ⟨rfl, Or.inl ⟨(by unfold zfit zknown zmay; omega), rfl, rfl⟩⟩)
        ·
          have q220 := zb_ne0.mp h220
          refine z_aload_n 0 (zdec DX10_mend 99 rfl) rfl rfl (by decide) ?_
          refine z_sipush 132 (zdec DX10_mend 100 rfl) (by decide) ?_
          refine z_iload_n 3 (zdec DX10_mend 101 rfl) rfl rfl ?_
          refine z_inv mX10_becomes 56 10 [.inl 132, .inl v] (zdec DX10_mend 102 rfl) ml_SixWallsModel_131 okX10_becomes rfl shp56 rfl rfl rfl rfl (Nat.le_of_ble_eq_true rfl) (Nat.le_of_ble_eq_true rfl) (b' := (0, 0)) ⟨Nat.le_refl 0, Nat.le_refl 0⟩ (Nat.le_of_ble_eq_true rfl) (cX10_becomes hP hs 132 v (by omega)) (fun rv9 S9 M228 h9 => ?_)
          obtain ⟨rfl, rfl, x1⟩ := h9
          have ep : zat n k = 132 := by unfold zat; repeat (first | (rw [if_pos (by omega)]; done) | (rw [if_pos (by omega)]; omega) | rw [if_neg (by omega)])
          change zW _ _ _ _ _ 231 [(0, .inr (.inr 56)), (1, .inl n), (2, .inl k), (3, .inl v)] [.inl (M 57 (132))] M228
          refine z_goto 235 (zdec DX10_mend 103 rfl) rfl ?_
          exact z_iret (zdec DX10_mend 105 rfl) rfl (by first | exact ⟨rfl, Or.inr ⟨(by unfold zfit zknown zmay; omega), by rw [ep], by rw [ep]; exact x1⟩⟩ | exact ⟨rfl, Or.inl ⟨(by unfold zfit zknown zmay; omega), rfl, rfl⟩⟩)
    | j + 7, hj, he => exact absurd (List.getElem?_eq_some_iff.mp hj).1 (by simp)
  · refine ⟨236, rfl, ?_⟩
    refine z_iconst (-1) (zdec DX10_mend 106 rfl) (by decide) ?_
    exact z_iret (zdec DX10_mend 107 rfl) rfl (by first | exact ⟨rfl, Or.inr ⟨(by unfold zfit zknown zmay; omega), by rw [ep], by rw [ep]; exact x1⟩⟩ | exact ⟨rfl, Or.inl ⟨(by unfold zfit zknown zmay; omega), rfl, rfl⟩⟩)
