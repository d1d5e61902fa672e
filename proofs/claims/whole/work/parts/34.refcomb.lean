/-! the reference seen as a comb; its walls, loads, what is agreed -/
theorem zfold_l {α : Type} (g : α → Int → α) (a : α) : ∀ n : Nat, zfold g a n = (List.range n).foldl (fun x (i : Nat) => g x (i : Int)) a
  | 0 => rfl
  | n + 1 => by rw [List.range_succ, List.foldl_append, ← zfold_l g a n]; rfl
theorem zsideL : ∀ h : Fin 16, ((List.range (zsid (h.val : Int)).toNat).map (fun s : Nat => zwat ((h.val : Int) * 6 + (s : Int)))) = ((List.range 33).filter (fun w : Nat => decide (zlow (w : Int) = (h.val : Int) ∨ zhigh (w : Int) = (h.val : Int)))).map (fun w : Nat => (w : Int)) := by decide +kernel
theorem znextL : ∀ h : Fin 16, ((List.range (zsid (h.val : Int)).toNat).map (fun s : Nat => znat ((h.val : Int) * 6 + (s : Int)))) = ((List.range 16).filter (fun w : Nat => decide (0 ≤ zwo (h.val : Int) (w : Int)))).map (fun w : Nat => (w : Int)) := by decide +kernel
/-- a fold over a house's walls, and over all walls that are its -/
theorem zsideF {α : Type} (g : α → Int → α) (a : α) {h : Int} (h0 : 0 ≤ h) (h1 : h < 16) : zfo (fun x s => g x (zwat (h * 6 + s))) a (zsid h) = zfo (fun x w => if zlow w = h ∨ zhigh w = h then g x w else x) a 33 := by
  have e := zsideL ⟨h.toNat, by omega⟩
  have e2 : ((h.toNat : Nat) : Int) = h := by omega
  simp only [e2] at e
  unfold zfo
  rw [zfold_l, zfold_l]
  have k1 : (List.range (zsid h).toNat).foldl (fun x (i : Nat) => g x (zwat (h * 6 + (i : Int)))) a = ((List.range (zsid h).toNat).map (fun s : Nat => zwat (h * 6 + (s : Int)))).foldl g a := by rw [List.foldl_map]
  rw [k1, e, List.foldl_map, List.foldl_filter]
  simp only [decide_eq_true_eq]
  rfl
theorem znextF {α : Type} (g : α → Int → α) (a : α) {h : Int} (h0 : 0 ≤ h) (h1 : h < 16) : zfo (fun x s => g x (znat (h * 6 + s))) a (zsid h) = zfo (fun x o => if 0 ≤ zwo h o then g x o else x) a 16 := by
  have e := znextL ⟨h.toNat, by omega⟩
  have e2 : ((h.toNat : Nat) : Int) = h := by omega
  simp only [e2] at e
  unfold zfo
  rw [zfold_l, zfold_l]
  have k1 : (List.range (zsid h).toNat).foldl (fun x (i : Nat) => g x (znat (h * 6 + (i : Int)))) a = ((List.range (zsid h).toNat).map (fun s : Nat => znat (h * 6 + (s : Int)))).foldl g a := by rw [List.foldl_map]
  rw [k1, e, List.foldl_map, List.foldl_filter]
  simp only [decide_eq_true_eq]
  rfl
theorem zwo_wb : ∀ a b : Fin 16, zwo (a.val : Int) (b.val : Int) = zwb (a.val : Int) (b.val : Int) := by decide +kernel
theorem zwo_wbI {a b : Int} (ha : 0 ≤ a ∧ a < 16) (hb : 0 ≤ b ∧ b < 16) : zwo a b = zwb a b := by
  have e := zwo_wb ⟨a.toNat, by omega⟩ ⟨b.toNat, by omega⟩
  have e2 : ((a.toNat : Nat) : Int) = a := by omega
  have e3 : ((b.toNat : Nat) : Int) = b := by omega
  simpa only [e2, e3] using e
/-- how many neighbours, and what a house's walls bear, wall by wall -/
def znb (h n : Int) : Int := zsum (fun w => if zlow w = h ∨ zhigh w = h then 1 else 0) n
def zbo (T : Int → Int) (h n : Int) : Int := zsum (fun w => if zlow w = h ∨ zhigh w = h then T w else 0) n
theorem znb_sid : ∀ h : Fin 16, znb (h.val : Int) 33 = zsid (h.val : Int) := by decide +kernel
theorem znb_sidI {h : Int} (h0 : 0 ≤ h) (h1 : h < 16) : znb h 33 = zsid h := by
  have e := znb_sid ⟨h.toNat, by omega⟩
  have e2 : ((h.toNat : Nat) : Int) = h := by omega
  simpa only [e2] using e
theorem zbo_load (T : Int → Int) {h : Int} (h0 : 0 ≤ h) (h1 : h < 16) : zbo T h 33 = zload T h := by
  unfold zload
  rw [zsideF (fun x w => x + T w) 0 h0 h1]
  unfold zbo zsum
  exact zfo_c fun x i _ _ => by dsimp only; split <;> omega
/-- the reference's numbers, as a comb has them -/
def zvw (M : zMm) : zMm := fun c k => if c = 7 then M 64 k else if c = 8 then M 57 k else if c = 9 then M 63 k else if c = 10 then M 57 (16 + k) else if c = 11 then M 57 (32 + k) else if c = 12 then M 57 (65 + k) else if c = 13 then M 57 (98 + k) else if c = 1 then (if k = 12 then M 57 131 else M 57 132) else 0
theorem zv7 {M : zMm} {k : Int} : zvw M 7 k = M 64 k := rfl
theorem zv8 {M : zMm} {k : Int} : zvw M 8 k = M 57 k := rfl
theorem zv9 {M : zMm} {k : Int} : zvw M 9 k = M 63 k := rfl
theorem zv10 {M : zMm} {k : Int} : zvw M 10 k = M 57 (16 + k) := rfl
theorem zv11 {M : zMm} {k : Int} : zvw M 11 k = M 57 (32 + k) := rfl
theorem zv12 {M : zMm} {k : Int} : zvw M 12 k = M 57 (65 + k) := rfl
theorem zv13 {M : zMm} {k : Int} : zvw M 13 k = M 57 (98 + k) := rfl
theorem zvf {M : zMm} : zvw M 1 12 = M 57 131 := rfl
theorem zvb {M : zMm} : zvw M 1 13 = M 57 132 := rfl
/-- and in its bounds -/
def zRr (M : zMm) : Prop := (∀ h : Int, 0 ≤ h → h < 16 → (0 ≤ M 64 h ∧ M 64 h ≤ 1) ∧ (0 ≤ M 57 h ∧ M 57 h ≤ 9) ∧ (0 ≤ M 63 h ∧ M 63 h ≤ 99) ∧ (0 ≤ M 57 (16 + h) ∧ M 57 (16 + h) ≤ 9)) ∧ (∀ w : Int, 0 ≤ w → w < 33 → (0 ≤ M 57 (32 + w) ∧ M 57 (32 + w) ≤ 9) ∧ (0 ≤ M 57 (65 + w) ∧ M 57 (65 + w) ≤ 1) ∧ (0 ≤ M 57 (98 + w) ∧ M 57 (98 + w) ≤ 5)) ∧ (0 ≤ M 57 131 ∧ M 57 131 ≤ 9) ∧ (6 ≤ M 57 132 ∧ M 57 132 ≤ 54)
theorem zRr.v {M : zMm} (h : zRr M) : zRg (zvw M) := h
theorem zRr.of {M M2 : zMm} (h : zRr M) (e1 : M2 57 = M 57) (e2 : M2 63 = M 63) (e3 : M2 64 = M 64) : zRr M2 := by
  unfold zRr
  rw [e1, e2, e3]
  exact h
theorem zGr.of {M M2 : zMm} (h : zGr M) (e1 : M2 61 = M 61) (e2 : M2 62 = M 62) : zGr M2 := by
  unfold zGr
  rw [e1, e2]
  exact h
set_option maxHeartbeats 4000000 in
theorem lp_X10_neighboursOf_4 {Q : zPost} {M : zMm} (hP : zP M) (hg : zGr M) (h : Int) (hx44 : ∀ (n2 : Int), (n2 = znb h 33) → zW mX10_neighboursOf 1 Q (0, 0) zS0 44 [(2, .inl n2)] [] M) : ∀ (n : Nat) (n2 : Int) (w : Int), (33 - w).toNat < n → (0 ≤ w ∧ w ≤ 33 ∧ 0 ≤ n2 ∧ n2 ≤ w ∧ n2 = znb h w) → zW mX10_neighboursOf 1 Q (0, 0) zS0 4 [(0, .inr (.inr 56)), (1, .inl h), (2, .inl n2), (3, .inl w)] [] M := by
  intro n
  induction n with
  | zero => intro n2 w hn; exact absurd hn (Nat.not_lt_zero _)
  | succ n ih =>
    intro n2 w hn hI
    refine z_iload_n 3 (zdec DX10_neighboursOf 4 rfl) rfl rfl ?_
    refine z_bipush 33 (zdec DX10_neighboursOf 5 rfl) (by decide) ?_
    refine z_icmp_ge 44 (zdec DX10_neighboursOf 6 rfl) rfl (fun h7 => ?_) (fun h7 => ?_)
    ·
      refine z_weak (L' := [(2, .inl n2)]) (by simp) ?_
      exact hx44 n2 (by rw [hI.2.2.2.2, show w = 33 by omega])
    ·
      refine z_iload_n 2 (zdec DX10_neighboursOf 7 rfl) rfl rfl ?_
      refine z_aload_n 0 (zdec DX10_neighboursOf 8 rfl) rfl rfl (by decide) ?_
      refine z_getr (rw1 := -66) (ki := 7) (r' := 61) 56 10 (zdec DX10_neighboursOf 9 rfl) rfl rfl shp56 rfl (by decide) rfl rfl fl_SixWallsModel_22 (zPa hP 61 rfl) ?_
      refine z_iload_n 3 (zdec DX10_neighboursOf 10 rfl) rfl rfl ?_
      refine z_iald 61 (zdec DX10_neighboursOf 11 rfl) rfl shp61 ⟨by omega, by omega⟩ ?_
      rw [(hg w (by omega) (by omega)).1]
      refine z_iload_n 1 (zdec DX10_neighboursOf 12 rfl) rfl rfl ?_
      refine z_icmp_eq 31 (zdec DX10_neighboursOf 13 rfl) rfl (fun h18 => ?_) (fun h18 => ?_)
      ·
        refine z_iconst 1 (zdec DX10_neighboursOf 20 rfl) (by decide) ?_
        refine z_goto 36 (zdec DX10_neighboursOf 21 rfl) rfl ?_
        refine z_iadd (zdec DX10_neighboursOf 23 rfl) (by unfold z32; omega) ?_
        refine z_istore_n (L' := [(0, .inr (.inr 56)), (1, .inl h), (2, .inl (n2 + 1)), (3, .inl w)]) (zdec DX10_neighboursOf 24 rfl) rfl rfl (by decide) ?_
        refine z_iinc (L' := [(0, .inr (.inr 56)), (1, .inl h), (2, .inl (n2 + 1)), (3, .inl (w + 1))]) 3 (zdec DX10_neighboursOf 25 rfl) rfl (by unfold z32; omega) rfl (by decide) ?_
        refine z_goto 4 (zdec DX10_neighboursOf 26 rfl) rfl ?_
        exact ih (n2 + 1) (w + 1) (by omega) ⟨by omega, by omega, by omega, by omega, (by unfold znb; rw [zsum_s _ hI.1]; have e := hI.2.2.2.2; unfold znb at e; rw [← e]; first | rw [if_pos (by omega)] | rw [if_neg (by omega)])⟩
      ·
        refine z_aload_n 0 (zdec DX10_neighboursOf 14 rfl) rfl rfl (by decide) ?_
        refine z_getr (rw1 := -66) (ki := 8) (r' := 62) 56 10 (zdec DX10_neighboursOf 15 rfl) rfl rfl shp56 rfl (by decide) rfl rfl fl_SixWallsModel_25 (zPa hP 62 rfl) ?_
        refine z_iload_n 3 (zdec DX10_neighboursOf 16 rfl) rfl rfl ?_
        refine z_iald 62 (zdec DX10_neighboursOf 17 rfl) rfl shp62 ⟨by omega, by omega⟩ ?_
        rw [(hg w (by omega) (by omega)).2]
        refine z_iload_n 1 (zdec DX10_neighboursOf 18 rfl) rfl rfl ?_
        refine z_icmp_ne 35 (zdec DX10_neighboursOf 19 rfl) rfl (fun h28 => ?_) (fun h28 => ?_)
        ·
          refine z_iconst 0 (zdec DX10_neighboursOf 22 rfl) (by decide) ?_
          refine z_iadd (zdec DX10_neighboursOf 23 rfl) (by unfold z32; omega) ?_
          refine z_istore_n (L' := [(0, .inr (.inr 56)), (1, .inl h), (2, .inl (n2 + 0)), (3, .inl w)]) (zdec DX10_neighboursOf 24 rfl) rfl rfl (by decide) ?_
          refine z_iinc (L' := [(0, .inr (.inr 56)), (1, .inl h), (2, .inl (n2 + 0)), (3, .inl (w + 1))]) 3 (zdec DX10_neighboursOf 25 rfl) rfl (by unfold z32; omega) rfl (by decide) ?_
          refine z_goto 4 (zdec DX10_neighboursOf 26 rfl) rfl ?_
          exact ih (n2 + 0) (w + 1) (by omega) ⟨by omega, by omega, by omega, by omega, (by unfold znb; rw [zsum_s _ hI.1]; have e := hI.2.2.2.2; unfold znb at e; rw [← e]; first | rw [if_pos (by omega)] | rw [if_neg (by omega)])⟩
        ·
          refine z_iconst 1 (zdec DX10_neighboursOf 20 rfl) (by decide) ?_
          refine z_goto 36 (zdec DX10_neighboursOf 21 rfl) rfl ?_
          refine z_iadd (zdec DX10_neighboursOf 23 rfl) (by unfold z32; omega) ?_
          refine z_istore_n (L' := [(0, .inr (.inr 56)), (1, .inl h), (2, .inl (n2 + 1)), (3, .inl w)]) (zdec DX10_neighboursOf 24 rfl) rfl rfl (by decide) ?_
          refine z_iinc (L' := [(0, .inr (.inr 56)), (1, .inl h), (2, .inl (n2 + 1)), (3, .inl (w + 1))]) 3 (zdec DX10_neighboursOf 25 rfl) rfl (by unfold z32; omega) rfl (by decide) ?_
          refine z_goto 4 (zdec DX10_neighboursOf 26 rfl) rfl ?_
          exact ih (n2 + 1) (w + 1) (by omega) ⟨by omega, by omega, by omega, by omega, (by unfold znb; rw [zsum_s _ hI.1]; have e := hI.2.2.2.2; unfold znb at e; rw [← e]; first | rw [if_pos (by omega)] | rw [if_neg (by omega)])⟩
set_option maxHeartbeats 4000000 in
theorem cX10_neighboursOf {M : zMm} (hP : zP M) (hg : zGr M) (h : Int) : zW mX10_neighboursOf 1 (fun rv S' M' => S' = zS0 ∧ M = M' ∧ rv = some (.inl (znb h 33))) (0, 0) zS0 0 (zargs 0 [.inr (.inr 56), .inl h]) [] M := by
  change zW _ _ _ _ _ 0 [(0, .inr (.inr 56)), (1, .inl h)] [] M
  refine z_iconst 0 (zdec DX10_neighboursOf 0 rfl) (by decide) ?_
  refine z_istore_n (L' := [(0, .inr (.inr 56)), (1, .inl h), (2, .inl 0)]) (zdec DX10_neighboursOf 1 rfl) rfl rfl (by decide) ?_
  refine z_iconst 0 (zdec DX10_neighboursOf 2 rfl) (by decide) ?_
  refine z_istore_n (L' := [(0, .inr (.inr 56)), (1, .inl h), (2, .inl 0), (3, .inl 0)]) (zdec DX10_neighboursOf 3 rfl) rfl rfl (by decide) ?_
  refine lp_X10_neighboursOf_4 hP hg h (hx44 := fun n2 hx => ?_) _ 0 0 (Nat.lt_succ_self _) ⟨by omega, by omega, by omega, by omega, rfl⟩
  refine z_iload_n 0 (zdec DX10_neighboursOf 27 rfl) rfl rfl ?_
  exact z_iret (zdec DX10_neighboursOf 28 rfl) rfl (⟨rfl, rfl, zri hx⟩)
set_option maxHeartbeats 4000000 in
theorem lp_X10_borne_4 {Q : zPost} {M : zMm} (hP : zP M) (hg : zGr M) (h : Int) (hb : ∀ w : Int, 0 ≤ w → w < 33 → 0 ≤ M 73 w ∧ M 73 w ≤ 9) (hx49 : ∀ (n2 : Int), (n2 = zbo (M 73) h 33) → zW mX10_borne 1 Q (0, 0) zS0 49 [(2, .inl n2)] [] M) : ∀ (n : Nat) (n2 : Int) (w : Int), (33 - w).toNat < n → (0 ≤ w ∧ w ≤ 33 ∧ 0 ≤ n2 ∧ n2 ≤ 9 * w ∧ n2 = zbo (M 73) h w) → zW mX10_borne 1 Q (0, 0) zS0 4 [(0, .inr (.inr 56)), (1, .inl h), (2, .inl n2), (3, .inl w)] [] M := by
  intro n
  induction n with
  | zero => intro n2 w hn; exact absurd hn (Nat.not_lt_zero _)
  | succ n ih =>
    intro n2 w hn hI
    have hbw := hb w hI.1
    refine z_iload_n 3 (zdec DX10_borne 4 rfl) rfl rfl ?_
    refine z_bipush 33 (zdec DX10_borne 5 rfl) (by decide) ?_
    refine z_icmp_ge 49 (zdec DX10_borne 6 rfl) rfl (fun h7 => ?_) (fun h7 => ?_)
    ·
      refine z_weak (L' := [(2, .inl n2)]) (by simp) ?_
      exact hx49 n2 (by rw [hI.2.2.2.2, show w = 33 by omega])
    ·
      refine z_iload_n 2 (zdec DX10_borne 7 rfl) rfl rfl ?_
      refine z_aload_n 0 (zdec DX10_borne 8 rfl) rfl rfl (by decide) ?_
      refine z_getr (rw1 := -66) (ki := 7) (r' := 61) 56 10 (zdec DX10_borne 9 rfl) rfl rfl shp56 rfl (by decide) rfl rfl fl_SixWallsModel_22 (zPa hP 61 rfl) ?_
      refine z_iload_n 3 (zdec DX10_borne 10 rfl) rfl rfl ?_
      refine z_iald 61 (zdec DX10_borne 11 rfl) rfl shp61 ⟨by omega, by omega⟩ ?_
      rw [(hg w (by omega) (by omega)).1]
      refine z_iload_n 1 (zdec DX10_borne 12 rfl) rfl rfl ?_
      refine z_icmp_eq 31 (zdec DX10_borne 13 rfl) rfl (fun h18 => ?_) (fun h18 => ?_)
      ·
        refine z_aload_n 0 (zdec DX10_borne 20 rfl) rfl rfl (by decide) ?_
        refine z_getr (rw1 := -66) (ki := 27) (r' := 73) 56 10 (zdec DX10_borne 21 rfl) rfl rfl shp56 rfl (by decide) rfl rfl fl_SixWallsModel_59 (zPa hP 73 rfl) ?_
        refine z_iload_n 3 (zdec DX10_borne 22 rfl) rfl rfl ?_
        refine z_iald 73 (zdec DX10_borne 23 rfl) rfl shp73 ⟨by omega, by omega⟩ ?_
        refine z_goto 41 (zdec DX10_borne 24 rfl) rfl ?_
        refine z_iadd (zdec DX10_borne 26 rfl) (by unfold z32; omega) ?_
        refine z_istore_n (L' := [(0, .inr (.inr 56)), (1, .inl h), (2, .inl (n2 + (M 73 w))), (3, .inl w)]) (zdec DX10_borne 27 rfl) rfl rfl (by decide) ?_
        refine z_iinc (L' := [(0, .inr (.inr 56)), (1, .inl h), (2, .inl (n2 + (M 73 w))), (3, .inl (w + 1))]) 3 (zdec DX10_borne 28 rfl) rfl (by unfold z32; omega) rfl (by decide) ?_
        refine z_goto 4 (zdec DX10_borne 29 rfl) rfl ?_
        exact ih (n2 + (M 73 w)) (w + 1) (by omega) ⟨by omega, by omega, by omega, by omega, (by unfold zbo; rw [zsum_s _ hI.1]; have e := hI.2.2.2.2; unfold zbo at e; rw [← e]; first | rw [if_pos (by omega)] | rw [if_neg (by omega)])⟩
      ·
        refine z_aload_n 0 (zdec DX10_borne 14 rfl) rfl rfl (by decide) ?_
        refine z_getr (rw1 := -66) (ki := 8) (r' := 62) 56 10 (zdec DX10_borne 15 rfl) rfl rfl shp56 rfl (by decide) rfl rfl fl_SixWallsModel_25 (zPa hP 62 rfl) ?_
        refine z_iload_n 3 (zdec DX10_borne 16 rfl) rfl rfl ?_
        refine z_iald 62 (zdec DX10_borne 17 rfl) rfl shp62 ⟨by omega, by omega⟩ ?_
        rw [(hg w (by omega) (by omega)).2]
        refine z_iload_n 1 (zdec DX10_borne 18 rfl) rfl rfl ?_
        refine z_icmp_ne 40 (zdec DX10_borne 19 rfl) rfl (fun h28 => ?_) (fun h28 => ?_)
        ·
          refine z_iconst 0 (zdec DX10_borne 25 rfl) (by decide) ?_
          refine z_iadd (zdec DX10_borne 26 rfl) (by unfold z32; omega) ?_
          refine z_istore_n (L' := [(0, .inr (.inr 56)), (1, .inl h), (2, .inl (n2 + 0)), (3, .inl w)]) (zdec DX10_borne 27 rfl) rfl rfl (by decide) ?_
          refine z_iinc (L' := [(0, .inr (.inr 56)), (1, .inl h), (2, .inl (n2 + 0)), (3, .inl (w + 1))]) 3 (zdec DX10_borne 28 rfl) rfl (by unfold z32; omega) rfl (by decide) ?_
          refine z_goto 4 (zdec DX10_borne 29 rfl) rfl ?_
          exact ih (n2 + 0) (w + 1) (by omega) ⟨by omega, by omega, by omega, by omega, (by unfold zbo; rw [zsum_s _ hI.1]; have e := hI.2.2.2.2; unfold zbo at e; rw [← e]; first | rw [if_pos (by omega)] | rw [if_neg (by omega)])⟩
        ·
          refine z_aload_n 0 (zdec DX10_borne 20 rfl) rfl rfl (by decide) ?_
          refine z_getr (rw1 := -66) (ki := 27) (r' := 73) 56 10 (zdec DX10_borne 21 rfl) rfl rfl shp56 rfl (by decide) rfl rfl fl_SixWallsModel_59 (zPa hP 73 rfl) ?_
          refine z_iload_n 3 (zdec DX10_borne 22 rfl) rfl rfl ?_
          refine z_iald 73 (zdec DX10_borne 23 rfl) rfl shp73 ⟨by omega, by omega⟩ ?_
          refine z_goto 41 (zdec DX10_borne 24 rfl) rfl ?_
          refine z_iadd (zdec DX10_borne 26 rfl) (by unfold z32; omega) ?_
          refine z_istore_n (L' := [(0, .inr (.inr 56)), (1, .inl h), (2, .inl (n2 + (M 73 w))), (3, .inl w)]) (zdec DX10_borne 27 rfl) rfl rfl (by decide) ?_
          refine z_iinc (L' := [(0, .inr (.inr 56)), (1, .inl h), (2, .inl (n2 + (M 73 w))), (3, .inl (w + 1))]) 3 (zdec DX10_borne 28 rfl) rfl (by unfold z32; omega) rfl (by decide) ?_
          refine z_goto 4 (zdec DX10_borne 29 rfl) rfl ?_
          exact ih (n2 + (M 73 w)) (w + 1) (by omega) ⟨by omega, by omega, by omega, by omega, (by unfold zbo; rw [zsum_s _ hI.1]; have e := hI.2.2.2.2; unfold zbo at e; rw [← e]; first | rw [if_pos (by omega)] | rw [if_neg (by omega)])⟩
set_option maxHeartbeats 4000000 in
theorem cX10_borne {M : zMm} (hP : zP M) (hg : zGr M) (h : Int) (hb : ∀ w : Int, 0 ≤ w → w < 33 → 0 ≤ M 73 w ∧ M 73 w ≤ 9) : zW mX10_borne 1 (fun rv S' M' => S' = zS0 ∧ M = M' ∧ rv = some (.inl (zbo (M 73) h 33))) (0, 0) zS0 0 (zargs 0 [.inr (.inr 56), .inl h]) [] M := by
  change zW _ _ _ _ _ 0 [(0, .inr (.inr 56)), (1, .inl h)] [] M
  refine z_iconst 0 (zdec DX10_borne 0 rfl) (by decide) ?_
  refine z_istore_n (L' := [(0, .inr (.inr 56)), (1, .inl h), (2, .inl 0)]) (zdec DX10_borne 1 rfl) rfl rfl (by decide) ?_
  refine z_iconst 0 (zdec DX10_borne 2 rfl) (by decide) ?_
  refine z_istore_n (L' := [(0, .inr (.inr 56)), (1, .inl h), (2, .inl 0), (3, .inl 0)]) (zdec DX10_borne 3 rfl) rfl rfl (by decide) ?_
  refine lp_X10_borne_4 hP hg h hb (hx49 := fun n2 hx => ?_) _ 0 0 (Nat.lt_succ_self _) ⟨by omega, by omega, by omega, by omega, rfl⟩
  refine z_iload_n 0 (zdec DX10_borne 30 rfl) rfl rfl ?_
  exact z_iret (zdec DX10_borne 31 rfl) rfl (⟨rfl, rfl, zri hx⟩)
set_option maxHeartbeats 4000000 in
theorem cX10_agreedOf {M : zMm} (hP : zP M) (hg : zGr M) (hR : zRr M) (w : Int) (hw : 0 ≤ w ∧ w < 33) : zW mX10_agreedOf 1 (fun rv S' M' => S' = zS0 ∧ M = M' ∧ rv = some (.inl (zagree (zvw M) w (M 57 (32 + w))))) (0, 0) zS0 0 (zargs 0 [.inr (.inr 56), .inl w]) [] M := by
  change zW _ _ _ _ _ 0 [(0, .inr (.inr 56)), (1, .inl w)] [] M
  have lb := zlow_b w
  have lh := zhigh_b w
  have bl := hR.1 _ lb.1 lb.2
  have bh := hR.1 _ lh.1 lh.2
  have f1 : zvw M 7 (zlow w) = M 64 (zlow w) := rfl
  have f2 : zvw M 7 (zhigh w) = M 64 (zhigh w) := rfl
  refine z_aload_n 0 (zdec DX10_agreedOf 0 rfl) rfl rfl (by decide) ?_
  refine z_getr (rw1 := -66) (ki := 10) (r' := 64) 56 10 (zdec DX10_agreedOf 1 rfl) rfl rfl shp56 rfl (by decide) rfl rfl fl_SixWallsModel_31 (zPa hP 64 rfl) ?_
  refine z_aload_n 0 (zdec DX10_agreedOf 2 rfl) rfl rfl (by decide) ?_
  refine z_getr (rw1 := -66) (ki := 7) (r' := 61) 56 10 (zdec DX10_agreedOf 3 rfl) rfl rfl shp56 rfl (by decide) rfl rfl fl_SixWallsModel_22 (zPa hP 61 rfl) ?_
  refine z_iload_n 1 (zdec DX10_agreedOf 4 rfl) rfl rfl ?_
  refine z_iald 61 (zdec DX10_agreedOf 5 rfl) rfl shp61 ⟨by omega, by omega⟩ ?_
  rw [(hg w (by omega) (by omega)).1]
  refine z_zald 64 (zdec DX10_agreedOf 6 rfl) rfl shp64 ⟨by omega, by omega⟩ (fun hz10 => ?_)
  refine z_istore_n (L' := [(0, .inr (.inr 56)), (1, .inl w), (2, .inl (M 64 (zlow w)))]) (zdec DX10_agreedOf 7 rfl) rfl rfl (by decide) ?_
  refine z_aload_n 0 (zdec DX10_agreedOf 8 rfl) rfl rfl (by decide) ?_
  refine z_getr (rw1 := -66) (ki := 10) (r' := 64) 56 10 (zdec DX10_agreedOf 9 rfl) rfl rfl shp56 rfl (by decide) rfl rfl fl_SixWallsModel_31 (zPa hP 64 rfl) ?_
  refine z_aload_n 0 (zdec DX10_agreedOf 10 rfl) rfl rfl (by decide) ?_
  refine z_getr (rw1 := -66) (ki := 8) (r' := 62) 56 10 (zdec DX10_agreedOf 11 rfl) rfl rfl shp56 rfl (by decide) rfl rfl fl_SixWallsModel_25 (zPa hP 62 rfl) ?_
  refine z_iload_n 1 (zdec DX10_agreedOf 12 rfl) rfl rfl ?_
  refine z_iald 62 (zdec DX10_agreedOf 13 rfl) rfl shp62 ⟨by omega, by omega⟩ ?_
  rw [(hg w (by omega) (by omega)).2]
  refine z_zald 64 (zdec DX10_agreedOf 14 rfl) rfl shp64 ⟨by omega, by omega⟩ (fun hz22 => ?_)
  refine z_istore_n (L' := [(0, .inr (.inr 56)), (1, .inl w), (2, .inl (M 64 (zlow w))), (3, .inl (M 64 (zhigh w)))]) (zdec DX10_agreedOf 15 rfl) rfl rfl (by decide) ?_
  refine z_aload_n 0 (zdec DX10_agreedOf 16 rfl) rfl rfl (by decide) ?_
  refine z_getr (rw1 := -66) (ki := 0) (r' := 57) 56 10 (zdec DX10_agreedOf 17 rfl) rfl rfl shp56 rfl (by decide) rfl rfl fl_SixWallsModel_9 (zPa hP 57 rfl) ?_
  refine z_bipush 16 (zdec DX10_agreedOf 18 rfl) (by decide) ?_
  refine z_aload_n 0 (zdec DX10_agreedOf 19 rfl) rfl rfl (by decide) ?_
  refine z_getr (rw1 := -66) (ki := 7) (r' := 61) 56 10 (zdec DX10_agreedOf 20 rfl) rfl rfl shp56 rfl (by decide) rfl rfl fl_SixWallsModel_22 (zPa hP 61 rfl) ?_
  refine z_iload_n 1 (zdec DX10_agreedOf 21 rfl) rfl rfl ?_
  refine z_iald 61 (zdec DX10_agreedOf 22 rfl) rfl shp61 ⟨by omega, by omega⟩ ?_
  rw [(hg w (by omega) (by omega)).1]
  refine z_iadd (zdec DX10_agreedOf 23 rfl) (by unfold z32; omega) ?_
  refine z_iald 57 (zdec DX10_agreedOf 24 rfl) rfl shp57 ⟨by omega, by omega⟩ ?_
  refine z_istore (L' := [(0, .inr (.inr 56)), (1, .inl w), (2, .inl (M 64 (zlow w))), (3, .inl (M 64 (zhigh w))), (4, .inl (M 57 (16 + (zlow w))))]) (zdec DX10_agreedOf 25 rfl) rfl (by decide) ?_
  refine z_aload_n 0 (zdec DX10_agreedOf 26 rfl) rfl rfl (by decide) ?_
  refine z_getr (rw1 := -66) (ki := 0) (r' := 57) 56 10 (zdec DX10_agreedOf 27 rfl) rfl rfl shp56 rfl (by decide) rfl rfl fl_SixWallsModel_9 (zPa hP 57 rfl) ?_
  refine z_bipush 16 (zdec DX10_agreedOf 28 rfl) (by decide) ?_
  refine z_aload_n 0 (zdec DX10_agreedOf 29 rfl) rfl rfl (by decide) ?_
  refine z_getr (rw1 := -66) (ki := 8) (r' := 62) 56 10 (zdec DX10_agreedOf 30 rfl) rfl rfl shp56 rfl (by decide) rfl rfl fl_SixWallsModel_25 (zPa hP 62 rfl) ?_
  refine z_iload_n 1 (zdec DX10_agreedOf 31 rfl) rfl rfl ?_
  refine z_iald 62 (zdec DX10_agreedOf 32 rfl) rfl shp62 ⟨by omega, by omega⟩ ?_
  rw [(hg w (by omega) (by omega)).2]
  refine z_iadd (zdec DX10_agreedOf 33 rfl) (by unfold z32; omega) ?_
  refine z_iald 57 (zdec DX10_agreedOf 34 rfl) rfl shp57 ⟨by omega, by omega⟩ ?_
  refine z_istore (L' := [(0, .inr (.inr 56)), (1, .inl w), (2, .inl (M 64 (zlow w))), (3, .inl (M 64 (zhigh w))), (4, .inl (M 57 (16 + (zlow w)))), (5, .inl (M 57 (16 + (zhigh w))))]) (zdec DX10_agreedOf 35 rfl) rfl (by decide) ?_
  refine z_iload_n 2 (zdec DX10_agreedOf 36 rfl) rfl rfl ?_
  refine z_if_eq 74 (zdec DX10_agreedOf 37 rfl) rfl (fun h57 => ?_) (fun h57 => ?_)
  ·
    refine z_iload_n 2 (zdec DX10_agreedOf 46 rfl) rfl rfl ?_
    refine z_if_eq 83 (zdec DX10_agreedOf 47 rfl) rfl (fun h75 => ?_) (fun h75 => ?_)
    ·
      refine z_iload_n 3 (zdec DX10_agreedOf 50 rfl) rfl rfl ?_
      refine z_if_eq 92 (zdec DX10_agreedOf 51 rfl) rfl (fun h84 => ?_) (fun h84 => ?_)
      ·
        refine z_aload_n 0 (zdec DX10_agreedOf 54 rfl) rfl rfl (by decide) ?_
        refine z_getr (rw1 := -66) (ki := 0) (r' := 57) 56 10 (zdec DX10_agreedOf 55 rfl) rfl rfl shp56 rfl (by decide) rfl rfl fl_SixWallsModel_9 (zPa hP 57 rfl) ?_
        refine z_bipush 32 (zdec DX10_agreedOf 56 rfl) (by decide) ?_
        refine z_iload_n 1 (zdec DX10_agreedOf 57 rfl) rfl rfl ?_
        refine z_iadd (zdec DX10_agreedOf 58 rfl) (by unfold z32; omega) ?_
        refine z_iald 57 (zdec DX10_agreedOf 59 rfl) rfl shp57 ⟨by omega, by omega⟩ ?_
        exact z_iret (zdec DX10_agreedOf 60 rfl) rfl (⟨rfl, rfl, zri (by unfold zagree; first | rfl | (rw [if_pos (by omega)]; first | done | rfl) | (rw [if_neg (by omega)]; first | done | rfl) | (rw [if_pos (by omega), if_pos (by omega)]; first | done | rfl) | (rw [if_pos (by omega), if_neg (by omega)]; first | done | rfl) | (rw [if_neg (by omega), if_pos (by omega)]; first | done | rfl) | (rw [if_neg (by omega), if_neg (by omega)]; first | done | rfl) | (rw [if_neg (by omega), if_neg (by omega), if_pos (by omega)]; first | done | rfl) | (rw [if_neg (by omega), if_neg (by omega), if_neg (by omega)]; first | done | rfl))⟩)
      ·
        refine z_iload 5 (zdec DX10_agreedOf 52 rfl) rfl ?_
        refine z_goto 101 (zdec DX10_agreedOf 53 rfl) rfl ?_
        exact z_iret (zdec DX10_agreedOf 60 rfl) rfl (⟨rfl, rfl, zri (by unfold zagree; first | rfl | (rw [if_pos (by omega)]; first | done | rfl) | (rw [if_neg (by omega)]; first | done | rfl) | (rw [if_pos (by omega), if_pos (by omega)]; first | done | rfl) | (rw [if_pos (by omega), if_neg (by omega)]; first | done | rfl) | (rw [if_neg (by omega), if_pos (by omega)]; first | done | rfl) | (rw [if_neg (by omega), if_neg (by omega)]; first | done | rfl) | (rw [if_neg (by omega), if_neg (by omega), if_pos (by omega)]; first | done | rfl) | (rw [if_neg (by omega), if_neg (by omega), if_neg (by omega)]; first | done | rfl))⟩)
    ·
      refine z_iload 4 (zdec DX10_agreedOf 48 rfl) rfl ?_
      refine z_goto 101 (zdec DX10_agreedOf 49 rfl) rfl ?_
      exact z_iret (zdec DX10_agreedOf 60 rfl) rfl (⟨rfl, rfl, zri (by unfold zagree; first | rfl | (rw [if_pos (by omega)]; first | done | rfl) | (rw [if_neg (by omega)]; first | done | rfl) | (rw [if_pos (by omega), if_pos (by omega)]; first | done | rfl) | (rw [if_pos (by omega), if_neg (by omega)]; first | done | rfl) | (rw [if_neg (by omega), if_pos (by omega)]; first | done | rfl) | (rw [if_neg (by omega), if_neg (by omega)]; first | done | rfl) | (rw [if_neg (by omega), if_neg (by omega), if_pos (by omega)]; first | done | rfl) | (rw [if_neg (by omega), if_neg (by omega), if_neg (by omega)]; first | done | rfl))⟩)
  ·
    refine z_iload_n 3 (zdec DX10_agreedOf 38 rfl) rfl rfl ?_
    refine z_if_eq 74 (zdec DX10_agreedOf 39 rfl) rfl (fun h61 => ?_) (fun h61 => ?_)
    ·
      refine z_iload_n 2 (zdec DX10_agreedOf 46 rfl) rfl rfl ?_
      refine z_if_eq 83 (zdec DX10_agreedOf 47 rfl) rfl (fun h75 => ?_) (fun h75 => ?_)
      ·
        refine z_iload_n 3 (zdec DX10_agreedOf 50 rfl) rfl rfl ?_
        refine z_if_eq 92 (zdec DX10_agreedOf 51 rfl) rfl (fun h84 => ?_) (fun h84 => ?_)
        ·
          refine z_aload_n 0 (zdec DX10_agreedOf 54 rfl) rfl rfl (by decide) ?_
          refine z_getr (rw1 := -66) (ki := 0) (r' := 57) 56 10 (zdec DX10_agreedOf 55 rfl) rfl rfl shp56 rfl (by decide) rfl rfl fl_SixWallsModel_9 (zPa hP 57 rfl) ?_
          refine z_bipush 32 (zdec DX10_agreedOf 56 rfl) (by decide) ?_
          refine z_iload_n 1 (zdec DX10_agreedOf 57 rfl) rfl rfl ?_
          refine z_iadd (zdec DX10_agreedOf 58 rfl) (by unfold z32; omega) ?_
          refine z_iald 57 (zdec DX10_agreedOf 59 rfl) rfl shp57 ⟨by omega, by omega⟩ ?_
          exact z_iret (zdec DX10_agreedOf 60 rfl) rfl (⟨rfl, rfl, zri (by unfold zagree; first | rfl | (rw [if_pos (by omega)]; first | done | rfl) | (rw [if_neg (by omega)]; first | done | rfl) | (rw [if_pos (by omega), if_pos (by omega)]; first | done | rfl) | (rw [if_pos (by omega), if_neg (by omega)]; first | done | rfl) | (rw [if_neg (by omega), if_pos (by omega)]; first | done | rfl) | (rw [if_neg (by omega), if_neg (by omega)]; first | done | rfl) | (rw [if_neg (by omega), if_neg (by omega), if_pos (by omega)]; first | done | rfl) | (rw [if_neg (by omega), if_neg (by omega), if_neg (by omega)]; first | done | rfl))⟩)
        ·
          refine z_iload 5 (zdec DX10_agreedOf 52 rfl) rfl ?_
          refine z_goto 101 (zdec DX10_agreedOf 53 rfl) rfl ?_
          exact z_iret (zdec DX10_agreedOf 60 rfl) rfl (⟨rfl, rfl, zri (by unfold zagree; first | rfl | (rw [if_pos (by omega)]; first | done | rfl) | (rw [if_neg (by omega)]; first | done | rfl) | (rw [if_pos (by omega), if_pos (by omega)]; first | done | rfl) | (rw [if_pos (by omega), if_neg (by omega)]; first | done | rfl) | (rw [if_neg (by omega), if_pos (by omega)]; first | done | rfl) | (rw [if_neg (by omega), if_neg (by omega)]; first | done | rfl) | (rw [if_neg (by omega), if_neg (by omega), if_pos (by omega)]; first | done | rfl) | (rw [if_neg (by omega), if_neg (by omega), if_neg (by omega)]; first | done | rfl))⟩)
      ·
        refine z_iload 4 (zdec DX10_agreedOf 48 rfl) rfl ?_
        refine z_goto 101 (zdec DX10_agreedOf 49 rfl) rfl ?_
        exact z_iret (zdec DX10_agreedOf 60 rfl) rfl (⟨rfl, rfl, zri (by unfold zagree; first | rfl | (rw [if_pos (by omega)]; first | done | rfl) | (rw [if_neg (by omega)]; first | done | rfl) | (rw [if_pos (by omega), if_pos (by omega)]; first | done | rfl) | (rw [if_pos (by omega), if_neg (by omega)]; first | done | rfl) | (rw [if_neg (by omega), if_pos (by omega)]; first | done | rfl) | (rw [if_neg (by omega), if_neg (by omega)]; first | done | rfl) | (rw [if_neg (by omega), if_neg (by omega), if_pos (by omega)]; first | done | rfl) | (rw [if_neg (by omega), if_neg (by omega), if_neg (by omega)]; first | done | rfl))⟩)
    ·
      refine z_iload 4 (zdec DX10_agreedOf 40 rfl) rfl ?_
      refine z_iload 5 (zdec DX10_agreedOf 41 rfl) rfl ?_
      refine z_iadd (zdec DX10_agreedOf 42 rfl) (by unfold z32; omega) ?_
      refine z_iconst 2 (zdec DX10_agreedOf 43 rfl) (by decide) ?_
      refine z_idivp (zdec DX10_agreedOf 44 rfl) (by omega) (by omega) ?_
      refine z_goto 101 (zdec DX10_agreedOf 45 rfl) rfl ?_
      exact z_iret (zdec DX10_agreedOf 60 rfl) rfl (⟨rfl, rfl, zri (by unfold zagree; first | rfl | (rw [if_pos (by omega)]; first | done | rfl) | (rw [if_neg (by omega)]; first | done | rfl) | (rw [if_pos (by omega), if_pos (by omega)]; first | done | rfl) | (rw [if_pos (by omega), if_neg (by omega)]; first | done | rfl) | (rw [if_neg (by omega), if_pos (by omega)]; first | done | rfl) | (rw [if_neg (by omega), if_neg (by omega)]; first | done | rfl) | (rw [if_neg (by omega), if_neg (by omega), if_pos (by omega)]; first | done | rfl) | (rw [if_neg (by omega), if_neg (by omega), if_neg (by omega)]; first | done | rfl))⟩)
set_option maxHeartbeats 4000000 in
theorem lp_X10_asksThick_2 {Q : zPost} {M : zMm} (hP : zP M) (hg : zGr M) (hx29 : ∀ (M2 : zMm), (zonly 73 M M2 ∧ ∀ w : Int, 0 ≤ w → w < 33 → M2 73 w = M 57 (32 + w)) → zW mX10_asksThick 1 Q (0, 0) zS0 29 [] [] M2) : ∀ (n : Nat) (w : Int) (M2 : zMm), (33 - w).toNat < n → (0 ≤ w ∧ w ≤ 33 ∧ zonly 73 M M2 ∧ ∀ k : Int, 0 ≤ k → k < w → M2 73 k = M 57 (32 + k)) → zW mX10_asksThick 1 Q (0, 0) zS0 2 [(0, .inr (.inr 56)), (1, .inl w)] [] M2 := by
  intro n
  induction n with
  | zero => intro w M2 hn; exact absurd hn (Nat.not_lt_zero _)
  | succ n ih =>
    intro w M2 hn hI
    refine z_iload_n 1 (zdec DX10_asksThick 2 rfl) rfl rfl ?_
    refine z_bipush 33 (zdec DX10_asksThick 3 rfl) (by decide) ?_
    refine z_icmp_ge 29 (zdec DX10_asksThick 4 rfl) rfl (fun h5 => ?_) (fun h5 => ?_)
    ·
      refine z_weak (L' := []) (by simp) ?_
      exact hx29 M2 ⟨hI.2.2.1, fun k h0 h1 => hI.2.2.2 k h0 (by omega)⟩
    ·
      refine z_aload_n 0 (zdec DX10_asksThick 5 rfl) rfl rfl (by decide) ?_
      refine z_getr (rw1 := -66) (ki := 27) (r' := 73) 56 10 (zdec DX10_asksThick 6 rfl) rfl rfl shp56 rfl (by decide) rfl rfl fl_SixWallsModel_59 (zPa (hI.2.2.1.P (by decide) hP) 73 rfl) ?_
      refine z_iload_n 1 (zdec DX10_asksThick 7 rfl) rfl rfl ?_
      refine z_aload_n 0 (zdec DX10_asksThick 8 rfl) rfl rfl (by decide) ?_
      refine z_getr (rw1 := -66) (ki := 0) (r' := 57) 56 10 (zdec DX10_asksThick 9 rfl) rfl rfl shp56 rfl (by decide) rfl rfl fl_SixWallsModel_9 (zPa (hI.2.2.1.P (by decide) hP) 57 rfl) ?_
      refine z_bipush 32 (zdec DX10_asksThick 10 rfl) (by decide) ?_
      refine z_iload_n 1 (zdec DX10_asksThick 11 rfl) rfl rfl ?_
      refine z_iadd (zdec DX10_asksThick 12 rfl) (by unfold z32; omega) ?_
      refine z_iald 57 (zdec DX10_asksThick 13 rfl) rfl shp57 ⟨by omega, by omega⟩ ?_
      rw [hI.2.2.1 57 (by decide)]
      refine z_iast 73 (zdec DX10_asksThick 14 rfl) rfl shp73 ⟨by omega, by omega⟩ ?_
      refine z_iinc (L' := [(0, .inr (.inr 56)), (1, .inl (w + 1))]) 1 (zdec DX10_asksThick 15 rfl) rfl (by unfold z32; omega) rfl (by decide) ?_
      refine z_goto 2 (zdec DX10_asksThick 16 rfl) rfl ?_
      exact ih (w + 1) (zup M2 73 w (M 57 (32 + w))) (by omega) ⟨by omega, by omega, hI.2.2.1.up, fun k h0 h1 => (by by_cases hk : k = w; (subst hk; rw [zup_self]); (rw [zup_ne hk]; exact hI.2.2.2 k h0 (by omega)))⟩
set_option maxHeartbeats 4000000 in
theorem cX10_asksThick {M : zMm} (hP : zP M) (hg : zGr M) : zW mX10_asksThick 1 (fun rv S' M' => S' = zS0 ∧ rv = none ∧ zonly 73 M M' ∧ ∀ w : Int, 0 ≤ w → w < 33 → M' 73 w = M 57 (32 + w)) (0, 0) zS0 0 (zargs 0 [.inr (.inr 56)]) [] M := by
  change zW _ _ _ _ _ 0 [(0, .inr (.inr 56))] [] M
  refine z_iconst 0 (zdec DX10_asksThick 0 rfl) (by decide) ?_
  refine z_istore_n (L' := [(0, .inr (.inr 56)), (1, .inl 0)]) (zdec DX10_asksThick 1 rfl) rfl rfl (by decide) ?_
  refine lp_X10_asksThick_2 hP hg (hx29 := fun M2 hx => ?_) _ 0 M (Nat.lt_succ_self _) ⟨by omega, by omega, zonly.rf, fun k h0 h1 => by omega⟩
  exact z_vret (zdec DX10_asksThick 17 rfl) rfl (⟨rfl, rfl, hx⟩)
set_option maxHeartbeats 4000000 in
theorem cX10_isAb {M : zMm} (v : Int) : zW mX10_isAb 3 (fun rv S' M' => S' = zS0 ∧ M = M' ∧ rv = some (.inl (zb (0 ≤ v ∧ v / 100 < 16 ∧ v % 100 < 16)))) (0, 0) zS0 0 (zargs 0 [.inl v]) [] M := by
  change zW _ _ _ _ _ 0 [(0, .inl v)] [] M
  refine z_iload_n 0 (zdec DX10_isAb 0 rfl) rfl rfl ?_
  refine z_if_lt 28 (zdec DX10_isAb 1 rfl) rfl (fun h1 => ?_) (fun h1 => ?_)
  ·
    refine z_iconst 0 (zdec DX10_isAb 14 rfl) (by decide) ?_
    exact z_zret (zdec DX10_isAb 15 rfl) rfl (by omega) (⟨rfl, rfl, zri (by unfold zb; first | rw [if_pos (by omega)] | rw [if_neg (by omega)])⟩)
  ·
    refine z_iload_n 0 (zdec DX10_isAb 2 rfl) rfl rfl ?_
    refine z_bipush 100 (zdec DX10_isAb 3 rfl) (by decide) ?_
    refine z_idivp (zdec DX10_isAb 4 rfl) (by omega) (by omega) ?_
    refine z_invs mX10_isHouse [.inl (v / 100)] (zdec DX10_isAb 5 rfl) (Or.inl ml_SixWallsModel_118) okX10_isHouse rfl rfl (Nat.le_of_ble_eq_true rfl) (Nat.le_of_ble_eq_true rfl) (b' := (0, 0)) ⟨Nat.le_refl 0, Nat.le_refl 0⟩ (Nat.le_of_ble_eq_true rfl) (cX10_isHouse (v / 100)) (fun rv9 S9 M8 h9 => ?_)
    obtain ⟨rfl, rfl, rfl⟩ := h9
    change zW _ _ _ _ _ 11 [(0, .inl v)] [.inl (zb (0 ≤ (v / 100) ∧ (v / 100) < 16))] M
    refine z_if_eq 28 (zdec DX10_isAb 6 rfl) rfl (fun h11 => ?_) (fun h11 => ?_)
    ·
      rw [zb_eq0] at h11
      refine z_iconst 0 (zdec DX10_isAb 14 rfl) (by decide) ?_
      exact z_zret (zdec DX10_isAb 15 rfl) rfl (by omega) (⟨rfl, rfl, zri (by unfold zb; first | rw [if_pos (by omega)] | rw [if_neg (by omega)])⟩)
    ·
      have q11 := zb_ne0.mp h11
      refine z_iload_n 0 (zdec DX10_isAb 7 rfl) rfl rfl ?_
      refine z_bipush 100 (zdec DX10_isAb 8 rfl) (by decide) ?_
      refine z_iremp (zdec DX10_isAb 9 rfl) (by omega) (by omega) ?_
      refine z_invs mX10_isHouse [.inl (v % 100)] (zdec DX10_isAb 10 rfl) (Or.inl ml_SixWallsModel_118) okX10_isHouse rfl rfl (Nat.le_of_ble_eq_true rfl) (Nat.le_of_ble_eq_true rfl) (b' := (0, 0)) ⟨Nat.le_refl 0, Nat.le_refl 0⟩ (Nat.le_of_ble_eq_true rfl) (cX10_isHouse (v % 100)) (fun rv9 S9 M18 h9 => ?_)
      obtain ⟨rfl, rfl, rfl⟩ := h9
      change zW _ _ _ _ _ 21 [(0, .inl v)] [.inl (zb (0 ≤ (v % 100) ∧ (v % 100) < 16))] M
      refine z_if_eq 28 (zdec DX10_isAb 11 rfl) rfl (fun h21 => ?_) (fun h21 => ?_)
      ·
        rw [zb_eq0] at h21
        refine z_iconst 0 (zdec DX10_isAb 14 rfl) (by decide) ?_
        exact z_zret (zdec DX10_isAb 15 rfl) rfl (by omega) (⟨rfl, rfl, zri (by unfold zb; first | rw [if_pos (by omega)] | rw [if_neg (by omega)])⟩)
      ·
        have q21 := zb_ne0.mp h21
        refine z_iconst 1 (zdec DX10_isAb 12 rfl) (by decide) ?_
        refine z_goto 29 (zdec DX10_isAb 13 rfl) rfl ?_
        exact z_zret (zdec DX10_isAb 15 rfl) rfl (by omega) (⟨rfl, rfl, zri (by unfold zb; first | rw [if_pos (by omega)] | rw [if_neg (by omega)])⟩)
set_option maxHeartbeats 4000000 in
theorem cX10_wall {M : zMm} (hP : zP M) (hg : zGr M) (v : Int) : zW mX10_wall 4 (fun rv S' M' => S' = zS0 ∧ M = M' ∧ rv = some (.inl (if (0 ≤ v ∧ v / 100 < 16 ∧ v % 100 < 16) ∧ v / 100 ≠ v % 100 then (if zwb (v / 100) (v % 100) < 0 then -2 else zwb (v / 100) (v % 100)) else -1))) (0, 0) zS0 0 (zargs 0 [.inr (.inr 56), .inl v]) [] M := by
  change zW _ _ _ _ _ 0 [(0, .inr (.inr 56)), (1, .inl v)] [] M
  refine z_iload_n 1 (zdec DX10_wall 0 rfl) rfl rfl ?_
  refine z_invs mX10_isAb [.inl v] (zdec DX10_wall 1 rfl) (Or.inl ml_SixWallsModel_122) okX10_isAb rfl rfl (Nat.le_of_ble_eq_true rfl) (Nat.le_of_ble_eq_true rfl) (b' := (0, 0)) ⟨Nat.le_refl 0, Nat.le_refl 0⟩ (Nat.le_of_ble_eq_true rfl) (cX10_isAb v) (fun rv9 S9 M1 h9 => ?_)
  obtain ⟨rfl, rfl, rfl⟩ := h9
  change zW _ _ _ _ _ 4 [(0, .inr (.inr 56)), (1, .inl v)] [.inl (zb (0 ≤ v ∧ v / 100 < 16 ∧ v % 100 < 16))] M
  refine z_if_eq 33 (zdec DX10_wall 2 rfl) rfl (fun h4 => ?_) (fun h4 => ?_)
  ·
    rw [zb_eq0] at h4
    refine z_iconst (-1) (zdec DX10_wall 19 rfl) (by decide) ?_
    exact z_iret (zdec DX10_wall 20 rfl) rfl (⟨rfl, rfl, zri (by first | (rw [zwo_wbI ⟨by omega, by omega⟩ ⟨by omega, by omega⟩]; exact (if_pos ⟨q4, by omega⟩).symm) | (rw [if_neg (by omega)]))⟩)
  ·
    have q4 := zb_ne0.mp h4
    refine z_iload_n 1 (zdec DX10_wall 3 rfl) rfl rfl ?_
    refine z_bipush 100 (zdec DX10_wall 4 rfl) (by decide) ?_
    refine z_idivp (zdec DX10_wall 5 rfl) (by omega) (by omega) ?_
    refine z_iload_n 1 (zdec DX10_wall 6 rfl) rfl rfl ?_
    refine z_bipush 100 (zdec DX10_wall 7 rfl) (by decide) ?_
    refine z_iremp (zdec DX10_wall 8 rfl) (by omega) (by omega) ?_
    refine z_icmp_eq 33 (zdec DX10_wall 9 rfl) rfl (fun h15 => ?_) (fun h15 => ?_)
    ·
      refine z_iconst (-1) (zdec DX10_wall 19 rfl) (by decide) ?_
      exact z_iret (zdec DX10_wall 20 rfl) rfl (⟨rfl, rfl, zri (by first | (rw [zwo_wbI ⟨by omega, by omega⟩ ⟨by omega, by omega⟩]; exact (if_pos ⟨q4, by omega⟩).symm) | (rw [if_neg (by omega)]))⟩)
    ·
      refine z_aload_n 0 (zdec DX10_wall 10 rfl) rfl rfl (by decide) ?_
      refine z_iload_n 1 (zdec DX10_wall 11 rfl) rfl rfl ?_
      refine z_bipush 100 (zdec DX10_wall 12 rfl) (by decide) ?_
      refine z_idivp (zdec DX10_wall 13 rfl) (by omega) (by omega) ?_
      refine z_iload_n 1 (zdec DX10_wall 14 rfl) rfl rfl ?_
      refine z_bipush 100 (zdec DX10_wall 15 rfl) (by decide) ?_
      refine z_iremp (zdec DX10_wall 16 rfl) (by omega) (by omega) ?_
      refine z_inv mX10_wallOf 56 10 [.inl (v / 100), .inl (v % 100)] (zdec DX10_wall 17 rfl) ml_SixWallsModel_125 okX10_wallOf rfl shp56 rfl rfl rfl rfl (Nat.le_of_ble_eq_true rfl) (Nat.le_of_ble_eq_true rfl) (b' := (0, 0)) ⟨Nat.le_refl 0, Nat.le_refl 0⟩ (Nat.le_of_ble_eq_true rfl) (cX10_wallOf hP hg (v / 100) (v % 100)) (fun rv9 S9 M27 h9 => ?_)
      obtain ⟨rfl, rfl, rfl⟩ := h9
      change zW _ _ _ _ _ 30 [(0, .inr (.inr 56)), (1, .inl v)] [.inl (if zwo (v / 100) (v % 100) < 0 then -2 else zwo (v / 100) (v % 100))] M
      refine z_goto 34 (zdec DX10_wall 18 rfl) rfl ?_
      exact z_iret (zdec DX10_wall 20 rfl) rfl (⟨rfl, rfl, zri (by first | (rw [zwo_wbI ⟨by omega, by omega⟩ ⟨by omega, by omega⟩]; exact (if_pos ⟨q4, by omega⟩).symm) | (rw [if_neg (by omega)]))⟩)
/-- of a house -/
def zofR (M : zMm) (h k : Int) : Int := if k = 0 then M 57 h else if k = 1 then M 57 (16 + h) else if k = 2 then M 63 h else if k = 3 then M 64 h else if k = 4 then zsid h else zload (fun w => M 57 (32 + w)) h
set_option maxHeartbeats 4000000 in
theorem cX10_ofHouse {M : zMm} (hP : zP M) (hg : zGr M) (hR : zRr M) (h k : Int) (hh : 0 ≤ h ∧ h < 16) (hk : 0 ≤ k ∧ k ≤ 5) : zW mX10_ofHouse 3 (fun rv S' M' => S' = zS0 ∧ zonly 73 M M' ∧ rv = some (.inl (zofR M h k))) (0, 0) zS0 0 (zargs 0 [.inr (.inr 56), .inl h, .inl k]) [] M := by
  change zW _ _ _ _ _ 0 [(0, .inr (.inr 56)), (1, .inl h), (2, .inl k)] [] M
  refine z_iload_n 2 (zdec DX10_ofHouse 0 rfl) rfl rfl ?_
  refine z_tsw (zdec DX10_ofHouse 1 rfl) (by decide) (fun j off hj he => ?_) (fun hd => ?_)
  · match j, hj, he with
    | 0, hj, he =>
      cases hj
      refine ⟨36, rfl, ?_⟩
      have h1 : k = 0 := by simpa using he
      refine z_aload_n 0 (zdec DX10_ofHouse 2 rfl) rfl rfl (by decide) ?_
      refine z_getr (rw1 := -66) (ki := 0) (r' := 57) 56 10 (zdec DX10_ofHouse 3 rfl) rfl rfl shp56 rfl (by decide) rfl rfl fl_SixWallsModel_9 (zPa hP 57 rfl) ?_
      refine z_bipush 16 (zdec DX10_ofHouse 4 rfl) (by decide) ?_
      refine z_iload_n 2 (zdec DX10_ofHouse 5 rfl) rfl rfl ?_
      refine z_imul (zdec DX10_ofHouse 6 rfl) (by unfold z32; omega) ?_
      refine z_iload_n 1 (zdec DX10_ofHouse 7 rfl) rfl rfl ?_
      refine z_iadd (zdec DX10_ofHouse 8 rfl) (by unfold z32; omega) ?_
      refine z_iald 57 (zdec DX10_ofHouse 9 rfl) rfl shp57 ⟨by omega, by omega⟩ ?_
      exact z_iret (zdec DX10_ofHouse 10 rfl) rfl (⟨rfl, zonly.rf, zri (by unfold zofR; rw [if_pos h1, show 16 * k + h = h by omega])⟩)
    | 1, hj, he =>
      cases hj
      refine ⟨36, rfl, ?_⟩
      have h1 : k = 1 := by simpa using he
      refine z_aload_n 0 (zdec DX10_ofHouse 2 rfl) rfl rfl (by decide) ?_
      refine z_getr (rw1 := -66) (ki := 0) (r' := 57) 56 10 (zdec DX10_ofHouse 3 rfl) rfl rfl shp56 rfl (by decide) rfl rfl fl_SixWallsModel_9 (zPa hP 57 rfl) ?_
      refine z_bipush 16 (zdec DX10_ofHouse 4 rfl) (by decide) ?_
      refine z_iload_n 2 (zdec DX10_ofHouse 5 rfl) rfl rfl ?_
      refine z_imul (zdec DX10_ofHouse 6 rfl) (by unfold z32; omega) ?_
      refine z_iload_n 1 (zdec DX10_ofHouse 7 rfl) rfl rfl ?_
      refine z_iadd (zdec DX10_ofHouse 8 rfl) (by unfold z32; omega) ?_
      refine z_iald 57 (zdec DX10_ofHouse 9 rfl) rfl shp57 ⟨by omega, by omega⟩ ?_
      exact z_iret (zdec DX10_ofHouse 10 rfl) rfl (⟨rfl, zonly.rf, zri (by unfold zofR; rw [if_neg (by omega), if_pos h1, show 16 * k + h = 16 + h by omega])⟩)
    | 2, hj, he =>
      cases hj
      refine ⟨48, rfl, ?_⟩
      have h1 : k = 2 := by simpa using he
      refine z_aload_n 0 (zdec DX10_ofHouse 11 rfl) rfl rfl (by decide) ?_
      refine z_getr (rw1 := -66) (ki := 9) (r' := 63) 56 10 (zdec DX10_ofHouse 12 rfl) rfl rfl shp56 rfl (by decide) rfl rfl fl_SixWallsModel_28 (zPa hP 63 rfl) ?_
      refine z_iload_n 1 (zdec DX10_ofHouse 13 rfl) rfl rfl ?_
      refine z_iald 63 (zdec DX10_ofHouse 14 rfl) rfl shp63 ⟨by omega, by omega⟩ ?_
      exact z_iret (zdec DX10_ofHouse 15 rfl) rfl (⟨rfl, zonly.rf, zri (by unfold zofR; rw [if_neg (by omega), if_neg (by omega), if_pos h1])⟩)
    | 3, hj, he =>
      cases hj
      refine ⟨55, rfl, ?_⟩
      have h1 : k = 3 := by simpa using he
      refine z_aload_n 0 (zdec DX10_ofHouse 16 rfl) rfl rfl (by decide) ?_
      refine z_getr (rw1 := -66) (ki := 10) (r' := 64) 56 10 (zdec DX10_ofHouse 17 rfl) rfl rfl shp56 rfl (by decide) rfl rfl fl_SixWallsModel_31 (zPa hP 64 rfl) ?_
      refine z_iload_n 1 (zdec DX10_ofHouse 18 rfl) rfl rfl ?_
      refine z_zald 64 (zdec DX10_ofHouse 19 rfl) rfl shp64 ⟨by omega, by omega⟩ (fun hz60 => ?_)
      refine z_if_eq 68 (zdec DX10_ofHouse 20 rfl) rfl (fun h61 => ?_) (fun h61 => ?_)
      ·
        refine z_iconst 0 (zdec DX10_ofHouse 23 rfl) (by decide) ?_
        exact z_iret (zdec DX10_ofHouse 24 rfl) rfl (⟨rfl, zonly.rf, zri (by unfold zofR; rw [if_neg (by omega), if_neg (by omega), if_neg (by omega), if_pos (by omega)]; omega)⟩)
      ·
        refine z_iconst 1 (zdec DX10_ofHouse 21 rfl) (by decide) ?_
        refine z_goto 69 (zdec DX10_ofHouse 22 rfl) rfl ?_
        exact z_iret (zdec DX10_ofHouse 24 rfl) rfl (⟨rfl, zonly.rf, zri (by unfold zofR; rw [if_neg (by omega), if_neg (by omega), if_neg (by omega), if_pos (by omega)]; omega)⟩)
    | 4, hj, he =>
      cases hj
      refine ⟨70, rfl, ?_⟩
      have h1 : k = 4 := by simpa using he
      refine z_aload_n 0 (zdec DX10_ofHouse 25 rfl) rfl rfl (by decide) ?_
      refine z_iload_n 1 (zdec DX10_ofHouse 26 rfl) rfl rfl ?_
      refine z_inv mX10_neighboursOf 56 10 [.inl h] (zdec DX10_ofHouse 27 rfl) ml_SixWallsModel_143 okX10_neighboursOf rfl shp56 rfl rfl rfl rfl (Nat.le_of_ble_eq_true rfl) (Nat.le_of_ble_eq_true rfl) (b' := (0, 0)) ⟨Nat.le_refl 0, Nat.le_refl 0⟩ (Nat.le_of_ble_eq_true rfl) (cX10_neighboursOf hP hg h) (fun rv9 S9 M72 h9 => ?_)
      obtain ⟨rfl, rfl, rfl⟩ := h9
      change zW _ _ _ _ _ 75 [(0, .inr (.inr 56)), (1, .inl h), (2, .inl k)] [.inl (znb h 33)] M
      rw [znb_sidI hh.1 hh.2]
      exact z_iret (zdec DX10_ofHouse 28 rfl) rfl (⟨rfl, zonly.rf, zri (by unfold zofR; rw [if_neg (by omega), if_neg (by omega), if_neg (by omega), if_neg (by omega), if_pos h1])⟩)
    | j + 5, hj, he => exact absurd (List.getElem?_eq_some_iff.mp hj).1 (by simp)
  · refine ⟨76, rfl, ?_⟩
    refine z_aload_n 0 (zdec DX10_ofHouse 29 rfl) rfl rfl (by decide) ?_
    refine z_inv mX10_asksThick 56 10 [] (zdec DX10_ofHouse 30 rfl) ml_SixWallsModel_147 okX10_asksThick rfl shp56 rfl rfl rfl rfl (Nat.le_of_ble_eq_true rfl) (Nat.le_of_ble_eq_true rfl) (b' := (0, 0)) ⟨Nat.le_refl 0, Nat.le_refl 0⟩ (Nat.le_of_ble_eq_true rfl) (cX10_asksThick hP hg) (fun rv9 S9 M77 h9 => ?_)
    obtain ⟨rfl, rfl, x1, x2⟩ := h9
    change zW _ _ _ _ _ 80 [(0, .inr (.inr 56)), (1, .inl h), (2, .inl k)] [] M77
    refine z_aload_n 0 (zdec DX10_ofHouse 31 rfl) rfl rfl (by decide) ?_
    refine z_iload_n 1 (zdec DX10_ofHouse 32 rfl) rfl rfl ?_
    refine z_inv mX10_borne 56 10 [.inl h] (zdec DX10_ofHouse 33 rfl) ml_SixWallsModel_150 okX10_borne rfl shp56 rfl rfl rfl rfl (Nat.le_of_ble_eq_true rfl) (Nat.le_of_ble_eq_true rfl) (b' := (0, 0)) ⟨Nat.le_refl 0, Nat.le_refl 0⟩ (Nat.le_of_ble_eq_true rfl) (cX10_borne (x1.P (by decide) hP) (hg.of (x1 61 (by decide)) (x1 62 (by decide))) h (fun w h0 h1 => by rw [x2 w h0 h1]; exact (hR.2.1 w h0 h1).1)) (fun rv9 S9 M82 h9 => ?_)
    obtain ⟨rfl, rfl, rfl⟩ := h9
    change zW _ _ _ _ _ 85 [(0, .inr (.inr 56)), (1, .inl h), (2, .inl k)] [.inl (zbo (M77 73) h 33)] M77
    rw [zbo_load _ hh.1 hh.2, zload_c (T := fun w => M 57 (32 + w)) x2 h]
    exact z_iret (zdec DX10_ofHouse 34 rfl) rfl (⟨rfl, x1, zri (by unfold zofR; rw [if_neg (by omega), if_neg (by omega), if_neg (by omega), if_neg (by omega), if_neg (by omega)])⟩)
