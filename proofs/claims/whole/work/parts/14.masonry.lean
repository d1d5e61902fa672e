/-! contracts of Masonry: colours -/
def zpu (T : Int → Int) (w v : Int) : Int → Int := fun k => if k = w then v else T k
theorem zpu_s {T : Int → Int} {w v : Int} : zpu T w v w = v := if_pos rfl
theorem zpu_n {T : Int → Int} {w v k : Int} (h : k ≠ w) : zpu T w v k = T k := if_neg h
def zalIn (row : Int → Int) (h w c : Int) : Int := zfo (fun a s => if zwat (h * 6 + s) ≠ w ∧ row (zwat (h * 6 + s)) = c then a + 1 else a) 0 (zsid h)
def zalike (row : Int → Int) (w c : Int) : Int := zalIn row (zlow w) w c + zalIn row (zhigh w) w c
def zclash (row : Int → Int) : Int := zsum (fun w => zalike row w (row w)) 33 / 2
def zcalm (row : Int → Int) (w : Int) : Int := zfo (fun best i => if zalike row w (i + 1) < zalike row w best then i + 1 else best) 0 5
def zcalmed (row : Int → Int) (n : Int) : Int → Int := zfo (fun T w => zpu T w (zcalm T w)) row n
theorem zalIn_b (row : Int → Int) (h w c : Int) : 0 ≤ zalIn row h w c ∧ zalIn row h w c ≤ 6 := by
  have key : ∀ n : Nat, 0 ≤ zfold (fun (a : Int) (s : Int) => if zwat (h * 6 + s) ≠ w ∧ row (zwat (h * 6 + s)) = c then a + 1 else a) 0 n ∧ zfold (fun (a : Int) (s : Int) => if zwat (h * 6 + s) ≠ w ∧ row (zwat (h * 6 + s)) = c then a + 1 else a) 0 n ≤ n := by
    intro n
    induction n with
    | zero => exact ⟨Int.le_refl _, Int.le_refl _⟩
    | succ n ih =>
      simp only [zfold]
      split <;> omega
  have h1 := key (zsid h).toNat
  have h2 := zsid_b h
  unfold zalIn zfo
  omega
theorem zalike_b (row : Int → Int) (w c : Int) : 0 ≤ zalike row w c ∧ zalike row w c ≤ 12 := by
  have h1 := zalIn_b row (zlow w) w c
  have h2 := zalIn_b row (zhigh w) w c
  unfold zalike
  omega
theorem zalike_c {r T : Int → Int} (h : ∀ w : Int, 0 ≤ w → w < 33 → r w = T w) (w c : Int) : zalike r w c = zalike T w c := by
  have k : ∀ g : Int, zalIn r g w c = zalIn T g w c := fun g => zfo_c fun a s _ _ => by rw [h _ (zwat_b _).1 (zwat_b _).2]
  unfold zalike
  rw [k, k]
theorem zcalm_c {r T : Int → Int} (h : ∀ w : Int, 0 ≤ w → w < 33 → r w = T w) (w : Int) : zcalm r w = zcalm T w := zfo_c fun b i _ _ => by rw [zalike_c h, zalike_c h]
theorem zsum_c {f g : Int → Int} {n : Int} (h : ∀ i : Int, 0 ≤ i → i < n → f i = g i) : zsum f n = zsum g n := zfo_c fun a i h0 h1 => by rw [h i h0 h1]
theorem zclash_c {r T : Int → Int} (h : ∀ w : Int, 0 ≤ w → w < 33 → r w = T w) : zclash r = zclash T := by
  unfold zclash
  rw [zsum_c fun w h0 h1 => by rw [zalike_c h, h w h0 h1]]
theorem zcalm_b (row : Int → Int) (w : Int) : 0 ≤ zcalm row w ∧ zcalm row w ≤ 5 := by
  have key : ∀ n : Nat, n ≤ 5 → 0 ≤ zfold (fun (best : Int) (i : Int) => if zalike row w (i + 1) < zalike row w best then i + 1 else best) 0 n ∧ zfold (fun (best : Int) (i : Int) => if zalike row w (i + 1) < zalike row w best then i + 1 else best) 0 n ≤ n := by
    intro n
    induction n with
    | zero => intro _; exact ⟨Int.le_refl _, Int.le_refl _⟩
    | succ n ih =>
      intro hn
      have := ih (by omega)
      simp only [zfold]
      split <;> omega
  exact key 5 (Nat.le_refl _)
def zpots (row : Int → Int) (n : Int) : Int := zfo (fun a w => zor a (zshl 1 (row w))) 0 n
set_option maxHeartbeats 4000000 in
theorem lp_X5_alikeIn_13_6 {Q : zPost} {M : zMm} (hP : zP M) (hG : zG M) (h w c : Int) (hh : 0 ≤ h ∧ h < 16) (hx61 : ∀ (a : Int), (a = zalIn (M 13) h w c) → zW mX5_alikeIn 1 Q (0, 0) zS0 61 [(5, .inl a)] [] M) : ∀ (n : Nat) (a : Int) (s : Int), (6 - s).toNat < n → (0 ≤ s ∧ s ≤ zsid h ∧ 0 ≤ a ∧ a ≤ s ∧ a = zfo (fun a s => if zwat (h * 6 + s) ≠ w ∧ M 13 (zwat (h * 6 + s)) = c then a + 1 else a) 0 s) → zW mX5_alikeIn 1 Q (0, 0) zS0 6 [(0, .inr (.inr 27)), (1, .inl h), (2, .inl w), (3, .inl c), (4, .inr (.inr 13)), (5, .inl a), (6, .inl s)] [] M := by
  intro n
  induction n with
  | zero => intro a s hn; exact absurd hn (Nat.not_lt_zero _)
  | succ n ih =>
    intro a s hn hI
    have hs6 := zsid_b h
    have hsd := hG.sid hh.1 hh.2
    have hwb := zwat_b (h * 6 + s)
    refine z_iload 6 (zdec DX5_alikeIn 4 rfl) rfl ?_
    refine z_aload_n 0 (zdec DX5_alikeIn 5 rfl) rfl rfl (by decide) ?_
    refine z_getr (rw1 := -37) (ki := 0) (r' := 1) 27 5 (zdec DX5_alikeIn 6 rfl) rfl rfl shp27 rfl (by decide) rfl rfl fl_SixWalls_Masonry_21 (zPa hP 30 rfl) ?_
    refine z_getr (rw1 := -11) (ki := 2) (r' := 4) 1 1 (zdec DX5_alikeIn 7 rfl) rfl rfl shp1 rfl (by decide) rfl rfl fl_SixWalls_Masonry_81 (zPa hP 11 rfl) ?_
    refine z_iload_n 1 (zdec DX5_alikeIn 8 rfl) rfl rfl ?_
    refine z_iald 4 (zdec DX5_alikeIn 9 rfl) rfl shp4 ⟨by omega, by omega⟩ ?_
    refine z_icmp_ge 61 (zdec DX5_alikeIn 10 rfl) rfl (fun h17 => ?_) (fun h17 => ?_)
    ·
      refine z_weak (L' := [(5, .inl a)]) (by simp) ?_
      exact hx61 a (by have e : s = zsid h := (by omega); rw [hI.2.2.2.2, e]; rfl)
    ·
      refine z_aload_n 0 (zdec DX5_alikeIn 11 rfl) rfl rfl (by decide) ?_
      refine z_getr (rw1 := -37) (ki := 0) (r' := 1) 27 5 (zdec DX5_alikeIn 12 rfl) rfl rfl shp27 rfl (by decide) rfl rfl fl_SixWalls_Masonry_21 (zPa hP 30 rfl) ?_
      refine z_getr (rw1 := -11) (ki := 3) (r' := 5) 1 1 (zdec DX5_alikeIn 13 rfl) rfl rfl shp1 rfl (by decide) rfl rfl fl_SixWalls_Masonry_84 (zPa hP 12 rfl) ?_
      refine z_iload_n 1 (zdec DX5_alikeIn 14 rfl) rfl rfl ?_
      refine z_bipush 6 (zdec DX5_alikeIn 15 rfl) (by decide) ?_
      refine z_imul (zdec DX5_alikeIn 16 rfl) (by unfold z32; omega) ?_
      refine z_iload 6 (zdec DX5_alikeIn 17 rfl) rfl ?_
      refine z_iadd (zdec DX5_alikeIn 18 rfl) (by unfold z32; omega) ?_
      refine z_iald 5 (zdec DX5_alikeIn 19 rfl) rfl shp5 ⟨by omega, by omega⟩ ?_
      have ew := hG.wat (w := h * 6 + s) (by omega) (by omega)
      rw [ew]
      refine z_istore (L' := [(0, .inr (.inr 27)), (1, .inl h), (2, .inl w), (3, .inl c), (4, .inr (.inr 13)), (5, .inl a), (6, .inl s), (7, .inl (zwat (h * 6 + s)))]) (zdec DX5_alikeIn 20 rfl) rfl (by decide) ?_
      refine z_iload 7 (zdec DX5_alikeIn 21 rfl) rfl ?_
      refine z_iload_n 2 (zdec DX5_alikeIn 22 rfl) rfl rfl ?_
      refine z_icmp_eq 55 (zdec DX5_alikeIn 23 rfl) rfl (fun h40 => ?_) (fun h40 => ?_)
      ·
        refine z_iinc (L' := [(0, .inr (.inr 27)), (1, .inl h), (2, .inl w), (3, .inl c), (4, .inr (.inr 13)), (5, .inl a), (6, .inl (s + 1)), (7, .inl (zwat (h * 6 + s)))]) 6 (zdec DX5_alikeIn 30 rfl) rfl (by unfold z32; omega) rfl (by decide) ?_
        refine z_goto 6 (zdec DX5_alikeIn 31 rfl) rfl ?_
        refine z_weak (L' := [(0, .inr (.inr 27)), (1, .inl h), (2, .inl w), (3, .inl c), (4, .inr (.inr 13)), (5, .inl a), (6, .inl (s + 1))]) (by simp) ?_
        exact ih a (s + 1) (by omega) ⟨by omega, by omega, by omega, by omega, by rw [zfo_s _ _ (by omega), ← hI.2.2.2.2, if_neg (fun q => q.1 h40)]⟩
      ·
        refine z_aload 4 (zdec DX5_alikeIn 24 rfl) rfl (by decide) ?_
        refine z_iload 7 (zdec DX5_alikeIn 25 rfl) rfl ?_
        refine z_iald 13 (zdec DX5_alikeIn 26 rfl) rfl shp13 ⟨by omega, by omega⟩ ?_
        refine z_iload_n 3 (zdec DX5_alikeIn 27 rfl) rfl rfl ?_
        refine z_icmp_ne 55 (zdec DX5_alikeIn 28 rfl) rfl (fun h49 => ?_) (fun h49 => ?_)
        ·
          refine z_iinc (L' := [(0, .inr (.inr 27)), (1, .inl h), (2, .inl w), (3, .inl c), (4, .inr (.inr 13)), (5, .inl a), (6, .inl (s + 1)), (7, .inl (zwat (h * 6 + s)))]) 6 (zdec DX5_alikeIn 30 rfl) rfl (by unfold z32; omega) rfl (by decide) ?_
          refine z_goto 6 (zdec DX5_alikeIn 31 rfl) rfl ?_
          refine z_weak (L' := [(0, .inr (.inr 27)), (1, .inl h), (2, .inl w), (3, .inl c), (4, .inr (.inr 13)), (5, .inl a), (6, .inl (s + 1))]) (by simp) ?_
          exact ih a (s + 1) (by omega) ⟨by omega, by omega, by omega, by omega, by rw [zfo_s _ _ (by omega), ← hI.2.2.2.2, if_neg (fun q => h49 q.2)]⟩
        ·
          refine z_iinc (L' := [(0, .inr (.inr 27)), (1, .inl h), (2, .inl w), (3, .inl c), (4, .inr (.inr 13)), (5, .inl (a + 1)), (6, .inl s), (7, .inl (zwat (h * 6 + s)))]) 5 (zdec DX5_alikeIn 29 rfl) rfl (by unfold z32; omega) rfl (by decide) ?_
          refine z_iinc (L' := [(0, .inr (.inr 27)), (1, .inl h), (2, .inl w), (3, .inl c), (4, .inr (.inr 13)), (5, .inl (a + 1)), (6, .inl (s + 1)), (7, .inl (zwat (h * 6 + s)))]) 6 (zdec DX5_alikeIn 30 rfl) rfl (by unfold z32; omega) rfl (by decide) ?_
          refine z_goto 6 (zdec DX5_alikeIn 31 rfl) rfl ?_
          refine z_weak (L' := [(0, .inr (.inr 27)), (1, .inl h), (2, .inl w), (3, .inl c), (4, .inr (.inr 13)), (5, .inl (a + 1)), (6, .inl (s + 1))]) (by simp) ?_
          exact ih (a + 1) (s + 1) (by omega) ⟨by omega, by omega, by omega, by omega, by rw [zfo_s _ _ (by omega), ← hI.2.2.2.2, if_pos ⟨h40, by omega⟩]⟩
set_option maxHeartbeats 4000000 in
theorem cX5_alikeIn_13 {M : zMm} (hP : zP M) (hG : zG M) (h w c : Int) (hh : 0 ≤ h ∧ h < 16) : zW mX5_alikeIn 1 (fun rv S' M' => S' = zS0 ∧ M = M' ∧ rv = some (.inl (zalIn (M 13) h w c))) (0, 0) zS0 0 (zargs 0 [.inr (.inr 27), .inl h, .inl w, .inl c, .inr (.inr 13)]) [] M := by
  change zW _ _ _ _ _ 0 [(0, .inr (.inr 27)), (1, .inl h), (2, .inl w), (3, .inl c), (4, .inr (.inr 13))] [] M
  refine z_iconst 0 (zdec DX5_alikeIn 0 rfl) (by decide) ?_
  refine z_istore (L' := [(0, .inr (.inr 27)), (1, .inl h), (2, .inl w), (3, .inl c), (4, .inr (.inr 13)), (5, .inl 0)]) (zdec DX5_alikeIn 1 rfl) rfl (by decide) ?_
  refine z_iconst 0 (zdec DX5_alikeIn 2 rfl) (by decide) ?_
  refine z_istore (L' := [(0, .inr (.inr 27)), (1, .inl h), (2, .inl w), (3, .inl c), (4, .inr (.inr 13)), (5, .inl 0), (6, .inl 0)]) (zdec DX5_alikeIn 3 rfl) rfl (by decide) ?_
  refine lp_X5_alikeIn_13_6 hP hG h w c hh (hx61 := fun a hx => ?_) _ 0 0 (Nat.lt_succ_self _) ⟨by omega, (zsid_b h).1, by omega, by omega, rfl⟩
  refine z_iload 0 (zdec DX5_alikeIn 32 rfl) rfl ?_
  exact z_iret (zdec DX5_alikeIn 33 rfl) rfl (⟨rfl, rfl, zri hx⟩)
set_option maxHeartbeats 4000000 in
theorem cX5_alike_13 {M : zMm} (hP : zP M) (hG : zG M) (w c : Int) (hw : 0 ≤ w ∧ w < 33) : zW mX5_alike 2 (fun rv S' M' => S' = zS0 ∧ M = M' ∧ rv = some (.inl (zalike (M 13) w c))) (0, 0) zS0 0 (zargs 0 [.inr (.inr 27), .inl w, .inl c, .inr (.inr 13)]) [] M := by
  change zW _ _ _ _ _ 0 [(0, .inr (.inr 27)), (1, .inl w), (2, .inl c), (3, .inr (.inr 13))] [] M
  refine z_aload_n 0 (zdec DX5_alike 0 rfl) rfl rfl (by decide) ?_
  refine z_aload_n 0 (zdec DX5_alike 1 rfl) rfl rfl (by decide) ?_
  refine z_getr (rw1 := -37) (ki := 0) (r' := 1) 27 5 (zdec DX5_alike 2 rfl) rfl rfl shp27 rfl (by decide) rfl rfl fl_SixWalls_Masonry_21 (zPa hP 30 rfl) ?_
  refine z_getr (rw1 := -11) (ki := 0) (r' := 2) 1 1 (zdec DX5_alike 3 rfl) rfl rfl shp1 rfl (by decide) rfl rfl fl_SixWalls_Masonry_25 (zPa hP 9 rfl) ?_
  refine z_iload_n 1 (zdec DX5_alike 4 rfl) rfl rfl ?_
  refine z_iald 2 (zdec DX5_alike 5 rfl) rfl shp2 ⟨by omega, by omega⟩ ?_
  rw [hG.low hw.1 hw.2]
  refine z_iload_n 1 (zdec DX5_alike 6 rfl) rfl rfl ?_
  refine z_iload_n 2 (zdec DX5_alike 7 rfl) rfl rfl ?_
  refine z_aload_n 3 (zdec DX5_alike 8 rfl) rfl rfl (by decide) ?_
  refine z_inv mX5_alikeIn 27 5 [.inl (zlow w), .inl w, .inl c, .inr (.inr 13)] (zdec DX5_alike 9 rfl) ml_SixWalls_Masonry_77 okX5_alikeIn rfl shp27 rfl rfl rfl rfl (Nat.le_of_ble_eq_true rfl) (Nat.le_of_ble_eq_true rfl) (b' := (0, 0)) ⟨Nat.le_refl 0, Nat.le_refl 0⟩ (Nat.le_of_ble_eq_true rfl) (cX5_alikeIn_13 hP hG (zlow w) w c (zlow_b w)) (fun rv9 S9 M13 h9 => ?_)
  obtain ⟨rfl, rfl, rfl⟩ := h9
  change zW _ _ _ _ _ 16 [(0, .inr (.inr 27)), (1, .inl w), (2, .inl c), (3, .inr (.inr 13))] [.inl (zalIn (M 13) (zlow w) w c)] M
  refine z_aload_n 0 (zdec DX5_alike 10 rfl) rfl rfl (by decide) ?_
  refine z_aload_n 0 (zdec DX5_alike 11 rfl) rfl rfl (by decide) ?_
  refine z_getr (rw1 := -37) (ki := 0) (r' := 1) 27 5 (zdec DX5_alike 12 rfl) rfl rfl shp27 rfl (by decide) rfl rfl fl_SixWalls_Masonry_21 (zPa hP 30 rfl) ?_
  refine z_getr (rw1 := -11) (ki := 1) (r' := 3) 1 1 (zdec DX5_alike 13 rfl) rfl rfl shp1 rfl (by decide) rfl rfl fl_SixWalls_Masonry_30 (zPa hP 10 rfl) ?_
  refine z_iload_n 1 (zdec DX5_alike 14 rfl) rfl rfl ?_
  refine z_iald 3 (zdec DX5_alike 15 rfl) rfl shp3 ⟨by omega, by omega⟩ ?_
  rw [hG.high hw.1 hw.2]
  refine z_iload_n 1 (zdec DX5_alike 16 rfl) rfl rfl ?_
  refine z_iload_n 2 (zdec DX5_alike 17 rfl) rfl rfl ?_
  refine z_aload_n 3 (zdec DX5_alike 18 rfl) rfl rfl (by decide) ?_
  refine z_inv mX5_alikeIn 27 5 [.inl (zhigh w), .inl w, .inl c, .inr (.inr 13)] (zdec DX5_alike 19 rfl) ml_SixWalls_Masonry_77 okX5_alikeIn rfl shp27 rfl rfl rfl rfl (Nat.le_of_ble_eq_true rfl) (Nat.le_of_ble_eq_true rfl) (b' := (0, 0)) ⟨Nat.le_refl 0, Nat.le_refl 0⟩ (Nat.le_of_ble_eq_true rfl) (cX5_alikeIn_13 hP hG (zhigh w) w c (zhigh_b w)) (fun rv9 S9 M29 h9 => ?_)
  obtain ⟨rfl, rfl, rfl⟩ := h9
  change zW _ _ _ _ _ 32 [(0, .inr (.inr 27)), (1, .inl w), (2, .inl c), (3, .inr (.inr 13))] [.inl (zalIn (M 13) (zhigh w) w c), .inl (zalIn (M 13) (zlow w) w c)] M
  refine z_iadd (zdec DX5_alike 20 rfl) (by have := zalIn_b (M 13) (zlow w) w c; have := zalIn_b (M 13) (zhigh w) w c; unfold z32; omega) ?_
  exact z_iret (zdec DX5_alike 21 rfl) rfl (⟨rfl, rfl, rfl⟩)
set_option maxHeartbeats 4000000 in
theorem lp_X5_calmest_13_5 {Q : zPost} {M : zMm} (hP : zP M) (hG : zG M) (w : Int) (hw : 0 ≤ w ∧ w < 33) (hx39 : ∀ (b : Int), (b = zcalm (M 13) w) → zW mX5_calmest 3 Q (0, 0) zS0 39 [(3, .inl b)] [] M) : ∀ (n : Nat) (b : Int) (i : Int), (6 - i).toNat < n → (1 ≤ i ∧ i ≤ 6 ∧ b = zfo (fun best i => if zalike (M 13) w (i + 1) < zalike (M 13) w best then i + 1 else best) 0 (i - 1)) → zW mX5_calmest 3 Q (0, 0) zS0 5 [(0, .inr (.inr 27)), (1, .inl w), (2, .inr (.inr 13)), (3, .inl b), (4, .inl i)] [] M := by
  intro n
  induction n with
  | zero => intro b i hn; exact absurd hn (Nat.not_lt_zero _)
  | succ n ih =>
    intro b i hn hI
    refine z_iload 4 (zdec DX5_calmest 4 rfl) rfl ?_
    refine z_bipush 6 (zdec DX5_calmest 5 rfl) (by decide) ?_
    refine z_icmp_ge 39 (zdec DX5_calmest 6 rfl) rfl (fun h9 => ?_) (fun h9 => ?_)
    ·
      refine z_weak (L' := [(3, .inl b)]) (by simp) ?_
      exact hx39 b (by rw [hI.2.2, show i = 6 by omega]; rfl)
    ·
      refine z_aload_n 0 (zdec DX5_calmest 7 rfl) rfl rfl (by decide) ?_
      refine z_iload_n 1 (zdec DX5_calmest 8 rfl) rfl rfl ?_
      refine z_iload 4 (zdec DX5_calmest 9 rfl) rfl ?_
      refine z_aload_n 2 (zdec DX5_calmest 10 rfl) rfl rfl (by decide) ?_
      refine z_inv mX5_alike 27 5 [.inl w, .inl i, .inr (.inr 13)] (zdec DX5_calmest 11 rfl) ml_SixWalls_Masonry_73 okX5_alike rfl shp27 rfl rfl rfl rfl (Nat.le_of_ble_eq_true rfl) (Nat.le_of_ble_eq_true rfl) (b' := (0, 0)) ⟨Nat.le_refl 0, Nat.le_refl 0⟩ (Nat.le_of_ble_eq_true rfl) (cX5_alike_13 hP hG w i hw) (fun rv9 S9 M17 h9 => ?_)
      obtain ⟨rfl, rfl, rfl⟩ := h9
      change zW _ _ _ _ _ 20 [(0, .inr (.inr 27)), (1, .inl w), (2, .inr (.inr 13)), (3, .inl b), (4, .inl i)] [.inl (zalike (M 13) w i)] M
      refine z_aload_n 0 (zdec DX5_calmest 12 rfl) rfl rfl (by decide) ?_
      refine z_iload_n 1 (zdec DX5_calmest 13 rfl) rfl rfl ?_
      refine z_iload_n 3 (zdec DX5_calmest 14 rfl) rfl rfl ?_
      refine z_aload_n 2 (zdec DX5_calmest 15 rfl) rfl rfl (by decide) ?_
      refine z_inv mX5_alike 27 5 [.inl w, .inl b, .inr (.inr 13)] (zdec DX5_calmest 16 rfl) ml_SixWalls_Masonry_73 okX5_alike rfl shp27 rfl rfl rfl rfl (Nat.le_of_ble_eq_true rfl) (Nat.le_of_ble_eq_true rfl) (b' := (0, 0)) ⟨Nat.le_refl 0, Nat.le_refl 0⟩ (Nat.le_of_ble_eq_true rfl) (cX5_alike_13 hP hG w b hw) (fun rv9 S9 M24 h9 => ?_)
      obtain ⟨rfl, rfl, rfl⟩ := h9
      change zW _ _ _ _ _ 27 [(0, .inr (.inr 27)), (1, .inl w), (2, .inr (.inr 13)), (3, .inl b), (4, .inl i)] [.inl (zalike (M 13) w b), .inl (zalike (M 13) w i)] M
      refine z_icmp_ge 33 (zdec DX5_calmest 17 rfl) rfl (fun h27 => ?_) (fun h27 => ?_)
      ·
        refine z_iinc (L' := [(0, .inr (.inr 27)), (1, .inl w), (2, .inr (.inr 13)), (3, .inl b), (4, .inl (i + 1))]) 4 (zdec DX5_calmest 20 rfl) rfl (by unfold z32; omega) rfl (by decide) ?_
        refine z_goto 5 (zdec DX5_calmest 21 rfl) rfl ?_
        exact ih b (i + 1) (by omega) ⟨by omega, by omega, by rw [show i + 1 - 1 = (i - 1) + 1 by omega, zfo_s _ _ (by omega), ← hI.2.2, show i - 1 + 1 = i by omega, if_neg (by omega)]⟩
      ·
        refine z_iload 4 (zdec DX5_calmest 18 rfl) rfl ?_
        refine z_istore_n (L' := [(0, .inr (.inr 27)), (1, .inl w), (2, .inr (.inr 13)), (3, .inl i), (4, .inl i)]) (zdec DX5_calmest 19 rfl) rfl rfl (by decide) ?_
        refine z_iinc (L' := [(0, .inr (.inr 27)), (1, .inl w), (2, .inr (.inr 13)), (3, .inl i), (4, .inl (i + 1))]) 4 (zdec DX5_calmest 20 rfl) rfl (by unfold z32; omega) rfl (by decide) ?_
        refine z_goto 5 (zdec DX5_calmest 21 rfl) rfl ?_
        exact ih i (i + 1) (by omega) ⟨by omega, by omega, by rw [show i + 1 - 1 = (i - 1) + 1 by omega, zfo_s _ _ (by omega), ← hI.2.2, show i - 1 + 1 = i by omega, if_pos (by omega)]⟩
set_option maxHeartbeats 4000000 in
theorem cX5_calmest_13 {M : zMm} (hP : zP M) (hG : zG M) (w : Int) (hw : 0 ≤ w ∧ w < 33) : zW mX5_calmest 3 (fun rv S' M' => S' = zS0 ∧ M = M' ∧ rv = some (.inl (zcalm (M 13) w))) (0, 0) zS0 0 (zargs 0 [.inr (.inr 27), .inl w, .inr (.inr 13)]) [] M := by
  change zW _ _ _ _ _ 0 [(0, .inr (.inr 27)), (1, .inl w), (2, .inr (.inr 13))] [] M
  refine z_iconst 0 (zdec DX5_calmest 0 rfl) (by decide) ?_
  refine z_istore_n (L' := [(0, .inr (.inr 27)), (1, .inl w), (2, .inr (.inr 13)), (3, .inl 0)]) (zdec DX5_calmest 1 rfl) rfl rfl (by decide) ?_
  refine z_iconst 1 (zdec DX5_calmest 2 rfl) (by decide) ?_
  refine z_istore (L' := [(0, .inr (.inr 27)), (1, .inl w), (2, .inr (.inr 13)), (3, .inl 0), (4, .inl 1)]) (zdec DX5_calmest 3 rfl) rfl (by decide) ?_
  refine lp_X5_calmest_13_5 hP hG w hw (hx39 := fun b hx => ?_) _ 0 1 (Nat.lt_succ_self _) ⟨by omega, by omega, rfl⟩
  refine z_iload_n 0 (zdec DX5_calmest 22 rfl) rfl rfl ?_
  exact z_iret (zdec DX5_calmest 23 rfl) rfl (⟨rfl, rfl, zri hx⟩)
set_option maxHeartbeats 4000000 in
theorem lp_X5_clashesOf_13_4 {Q : zPost} {M : zMm} (hP : zP M) (hG : zG M) (hx28 : ∀ (a : Int), (0 ≤ a ∧ a = zsum (fun w => zalike (M 13) w (M 13 w)) 33) → zW mX5_clashesOf 3 Q (0, 0) zS0 28 [(2, .inl a)] [] M) : ∀ (n : Nat) (a : Int) (w : Int), (33 - w).toNat < n → (0 ≤ w ∧ w ≤ 33 ∧ 0 ≤ a ∧ a ≤ 12 * w ∧ a = zsum (fun w => zalike (M 13) w (M 13 w)) w) → zW mX5_clashesOf 3 Q (0, 0) zS0 4 [(0, .inr (.inr 27)), (1, .inr (.inr 13)), (2, .inl a), (3, .inl w)] [] M := by
  intro n
  induction n with
  | zero => intro a w hn; exact absurd hn (Nat.not_lt_zero _)
  | succ n ih =>
    intro a w hn hI
    refine z_iload_n 3 (zdec DX5_clashesOf 4 rfl) rfl rfl ?_
    refine z_bipush 33 (zdec DX5_clashesOf 5 rfl) (by decide) ?_
    refine z_icmp_ge 28 (zdec DX5_clashesOf 6 rfl) rfl (fun h7 => ?_) (fun h7 => ?_)
    ·
      refine z_weak (L' := [(2, .inl a)]) (by simp) ?_
      exact hx28 a ⟨by omega, by rw [hI.2.2.2.2, show w = 33 by omega]⟩
    ·
      refine z_iload_n 2 (zdec DX5_clashesOf 7 rfl) rfl rfl ?_
      refine z_aload_n 0 (zdec DX5_clashesOf 8 rfl) rfl rfl (by decide) ?_
      refine z_iload_n 3 (zdec DX5_clashesOf 9 rfl) rfl rfl ?_
      refine z_aload_n 1 (zdec DX5_clashesOf 10 rfl) rfl rfl (by decide) ?_
      refine z_iload_n 3 (zdec DX5_clashesOf 11 rfl) rfl rfl ?_
      refine z_iald 13 (zdec DX5_clashesOf 12 rfl) rfl shp13 ⟨by omega, by omega⟩ ?_
      refine z_aload_n 1 (zdec DX5_clashesOf 13 rfl) rfl rfl (by decide) ?_
      refine z_inv mX5_alike 27 5 [.inl w, .inl (M 13 w), .inr (.inr 13)] (zdec DX5_clashesOf 14 rfl) ml_SixWalls_Masonry_73 okX5_alike rfl shp27 rfl rfl rfl rfl (Nat.le_of_ble_eq_true rfl) (Nat.le_of_ble_eq_true rfl) (b' := (0, 0)) ⟨Nat.le_refl 0, Nat.le_refl 0⟩ (Nat.le_of_ble_eq_true rfl) (cX5_alike_13 hP hG w (M 13 w) ⟨by omega, by omega⟩) (fun rv9 S9 M17 h9 => ?_)
      obtain ⟨rfl, rfl, rfl⟩ := h9
      have hab := zalike_b (M 13) w (M 13 w)
      change zW _ _ _ _ _ 20 [(0, .inr (.inr 27)), (1, .inr (.inr 13)), (2, .inl a), (3, .inl w)] [.inl (zalike (M 13) w (M 13 w)), .inl a] M
      refine z_iadd (zdec DX5_clashesOf 15 rfl) (by unfold z32; omega) ?_
      refine z_istore_n (L' := [(0, .inr (.inr 27)), (1, .inr (.inr 13)), (2, .inl (a + (zalike (M 13) w (M 13 w)))), (3, .inl w)]) (zdec DX5_clashesOf 16 rfl) rfl rfl (by decide) ?_
      refine z_iinc (L' := [(0, .inr (.inr 27)), (1, .inr (.inr 13)), (2, .inl (a + (zalike (M 13) w (M 13 w)))), (3, .inl (w + 1))]) 3 (zdec DX5_clashesOf 17 rfl) rfl (by unfold z32; omega) rfl (by decide) ?_
      refine z_goto 4 (zdec DX5_clashesOf 18 rfl) rfl ?_
      exact ih (a + (zalike (M 13) w (M 13 w))) (w + 1) (by omega) ⟨by omega, by omega, by omega, by omega, by rw [zsum_s _ (by omega), ← hI.2.2.2.2]⟩
set_option maxHeartbeats 4000000 in
theorem cX5_clashesOf_13 {M : zMm} (hP : zP M) (hG : zG M) : zW mX5_clashesOf 3 (fun rv S' M' => S' = zS0 ∧ M = M' ∧ rv = some (.inl (zclash (M 13)))) (0, 0) zS0 0 (zargs 0 [.inr (.inr 27), .inr (.inr 13)]) [] M := by
  change zW _ _ _ _ _ 0 [(0, .inr (.inr 27)), (1, .inr (.inr 13))] [] M
  refine z_iconst 0 (zdec DX5_clashesOf 0 rfl) (by decide) ?_
  refine z_istore_n (L' := [(0, .inr (.inr 27)), (1, .inr (.inr 13)), (2, .inl 0)]) (zdec DX5_clashesOf 1 rfl) rfl rfl (by decide) ?_
  refine z_iconst 0 (zdec DX5_clashesOf 2 rfl) (by decide) ?_
  refine z_istore_n (L' := [(0, .inr (.inr 27)), (1, .inr (.inr 13)), (2, .inl 0), (3, .inl 0)]) (zdec DX5_clashesOf 3 rfl) rfl rfl (by decide) ?_
  refine lp_X5_clashesOf_13_4 hP hG (hx28 := fun a hx => ?_) _ 0 0 (Nat.lt_succ_self _) ⟨by omega, by omega, by omega, by omega, rfl⟩
  refine z_iload_n 0 (zdec DX5_clashesOf 19 rfl) rfl rfl ?_
  refine z_iconst 2 (zdec DX5_clashesOf 20 rfl) (by decide) ?_
  refine z_idivp (zdec DX5_clashesOf 21 rfl) (by omega) (by omega) ?_
  exact z_iret (zdec DX5_clashesOf 22 rfl) rfl (⟨rfl, rfl, zri (by rw [hx.2]; rfl)⟩)
set_option maxHeartbeats 4000000 in
theorem lp_X5_alikeIn_30_6 {Q : zPost} {M : zMm} (hP : zP M) (hG : zG M) (h w c : Int) (hh : 0 ≤ h ∧ h < 16) (hx61 : ∀ (a : Int), (a = zalIn (M 30) h w c) → zW mX5_alikeIn 1 Q (0, 0) zS0 61 [(5, .inl a)] [] M) : ∀ (n : Nat) (a : Int) (s : Int), (6 - s).toNat < n → (0 ≤ s ∧ s ≤ zsid h ∧ 0 ≤ a ∧ a ≤ s ∧ a = zfo (fun a s => if zwat (h * 6 + s) ≠ w ∧ M 30 (zwat (h * 6 + s)) = c then a + 1 else a) 0 s) → zW mX5_alikeIn 1 Q (0, 0) zS0 6 [(0, .inr (.inr 27)), (1, .inl h), (2, .inl w), (3, .inl c), (4, .inr (.inr 30)), (5, .inl a), (6, .inl s)] [] M := by
  intro n
  induction n with
  | zero => intro a s hn; exact absurd hn (Nat.not_lt_zero _)
  | succ n ih =>
    intro a s hn hI
    have hs6 := zsid_b h
    have hsd := hG.sid hh.1 hh.2
    have hwb := zwat_b (h * 6 + s)
    refine z_iload 6 (zdec DX5_alikeIn 4 rfl) rfl ?_
    refine z_aload_n 0 (zdec DX5_alikeIn 5 rfl) rfl rfl (by decide) ?_
    refine z_getr (rw1 := -37) (ki := 0) (r' := 1) 27 5 (zdec DX5_alikeIn 6 rfl) rfl rfl shp27 rfl (by decide) rfl rfl fl_SixWalls_Masonry_21 (zPa hP 30 rfl) ?_
    refine z_getr (rw1 := -11) (ki := 2) (r' := 4) 1 1 (zdec DX5_alikeIn 7 rfl) rfl rfl shp1 rfl (by decide) rfl rfl fl_SixWalls_Masonry_81 (zPa hP 11 rfl) ?_
    refine z_iload_n 1 (zdec DX5_alikeIn 8 rfl) rfl rfl ?_
    refine z_iald 4 (zdec DX5_alikeIn 9 rfl) rfl shp4 ⟨by omega, by omega⟩ ?_
    refine z_icmp_ge 61 (zdec DX5_alikeIn 10 rfl) rfl (fun h17 => ?_) (fun h17 => ?_)
    ·
      refine z_weak (L' := [(5, .inl a)]) (by simp) ?_
      exact hx61 a (by have e : s = zsid h := (by omega); rw [hI.2.2.2.2, e]; rfl)
    ·
      refine z_aload_n 0 (zdec DX5_alikeIn 11 rfl) rfl rfl (by decide) ?_
      refine z_getr (rw1 := -37) (ki := 0) (r' := 1) 27 5 (zdec DX5_alikeIn 12 rfl) rfl rfl shp27 rfl (by decide) rfl rfl fl_SixWalls_Masonry_21 (zPa hP 30 rfl) ?_
      refine z_getr (rw1 := -11) (ki := 3) (r' := 5) 1 1 (zdec DX5_alikeIn 13 rfl) rfl rfl shp1 rfl (by decide) rfl rfl fl_SixWalls_Masonry_84 (zPa hP 12 rfl) ?_
      refine z_iload_n 1 (zdec DX5_alikeIn 14 rfl) rfl rfl ?_
      refine z_bipush 6 (zdec DX5_alikeIn 15 rfl) (by decide) ?_
      refine z_imul (zdec DX5_alikeIn 16 rfl) (by unfold z32; omega) ?_
      refine z_iload 6 (zdec DX5_alikeIn 17 rfl) rfl ?_
      refine z_iadd (zdec DX5_alikeIn 18 rfl) (by unfold z32; omega) ?_
      refine z_iald 5 (zdec DX5_alikeIn 19 rfl) rfl shp5 ⟨by omega, by omega⟩ ?_
      have ew := hG.wat (w := h * 6 + s) (by omega) (by omega)
      rw [ew]
      refine z_istore (L' := [(0, .inr (.inr 27)), (1, .inl h), (2, .inl w), (3, .inl c), (4, .inr (.inr 30)), (5, .inl a), (6, .inl s), (7, .inl (zwat (h * 6 + s)))]) (zdec DX5_alikeIn 20 rfl) rfl (by decide) ?_
      refine z_iload 7 (zdec DX5_alikeIn 21 rfl) rfl ?_
      refine z_iload_n 2 (zdec DX5_alikeIn 22 rfl) rfl rfl ?_
      refine z_icmp_eq 55 (zdec DX5_alikeIn 23 rfl) rfl (fun h40 => ?_) (fun h40 => ?_)
      ·
        refine z_iinc (L' := [(0, .inr (.inr 27)), (1, .inl h), (2, .inl w), (3, .inl c), (4, .inr (.inr 30)), (5, .inl a), (6, .inl (s + 1)), (7, .inl (zwat (h * 6 + s)))]) 6 (zdec DX5_alikeIn 30 rfl) rfl (by unfold z32; omega) rfl (by decide) ?_
        refine z_goto 6 (zdec DX5_alikeIn 31 rfl) rfl ?_
        refine z_weak (L' := [(0, .inr (.inr 27)), (1, .inl h), (2, .inl w), (3, .inl c), (4, .inr (.inr 30)), (5, .inl a), (6, .inl (s + 1))]) (by simp) ?_
        exact ih a (s + 1) (by omega) ⟨by omega, by omega, by omega, by omega, by rw [zfo_s _ _ (by omega), ← hI.2.2.2.2, if_neg (fun q => q.1 h40)]⟩
      ·
        refine z_aload 4 (zdec DX5_alikeIn 24 rfl) rfl (by decide) ?_
        refine z_iload 7 (zdec DX5_alikeIn 25 rfl) rfl ?_
        refine z_iald 30 (zdec DX5_alikeIn 26 rfl) rfl shp30 ⟨by omega, by omega⟩ ?_
        refine z_iload_n 3 (zdec DX5_alikeIn 27 rfl) rfl rfl ?_
        refine z_icmp_ne 55 (zdec DX5_alikeIn 28 rfl) rfl (fun h49 => ?_) (fun h49 => ?_)
        ·
          refine z_iinc (L' := [(0, .inr (.inr 27)), (1, .inl h), (2, .inl w), (3, .inl c), (4, .inr (.inr 30)), (5, .inl a), (6, .inl (s + 1)), (7, .inl (zwat (h * 6 + s)))]) 6 (zdec DX5_alikeIn 30 rfl) rfl (by unfold z32; omega) rfl (by decide) ?_
          refine z_goto 6 (zdec DX5_alikeIn 31 rfl) rfl ?_
          refine z_weak (L' := [(0, .inr (.inr 27)), (1, .inl h), (2, .inl w), (3, .inl c), (4, .inr (.inr 30)), (5, .inl a), (6, .inl (s + 1))]) (by simp) ?_
          exact ih a (s + 1) (by omega) ⟨by omega, by omega, by omega, by omega, by rw [zfo_s _ _ (by omega), ← hI.2.2.2.2, if_neg (fun q => h49 q.2)]⟩
        ·
          refine z_iinc (L' := [(0, .inr (.inr 27)), (1, .inl h), (2, .inl w), (3, .inl c), (4, .inr (.inr 30)), (5, .inl (a + 1)), (6, .inl s), (7, .inl (zwat (h * 6 + s)))]) 5 (zdec DX5_alikeIn 29 rfl) rfl (by unfold z32; omega) rfl (by decide) ?_
          refine z_iinc (L' := [(0, .inr (.inr 27)), (1, .inl h), (2, .inl w), (3, .inl c), (4, .inr (.inr 30)), (5, .inl (a + 1)), (6, .inl (s + 1)), (7, .inl (zwat (h * 6 + s)))]) 6 (zdec DX5_alikeIn 30 rfl) rfl (by unfold z32; omega) rfl (by decide) ?_
          refine z_goto 6 (zdec DX5_alikeIn 31 rfl) rfl ?_
          refine z_weak (L' := [(0, .inr (.inr 27)), (1, .inl h), (2, .inl w), (3, .inl c), (4, .inr (.inr 30)), (5, .inl (a + 1)), (6, .inl (s + 1))]) (by simp) ?_
          exact ih (a + 1) (s + 1) (by omega) ⟨by omega, by omega, by omega, by omega, by rw [zfo_s _ _ (by omega), ← hI.2.2.2.2, if_pos ⟨h40, by omega⟩]⟩
set_option maxHeartbeats 4000000 in
theorem cX5_alikeIn_30 {M : zMm} (hP : zP M) (hG : zG M) (h w c : Int) (hh : 0 ≤ h ∧ h < 16) : zW mX5_alikeIn 1 (fun rv S' M' => S' = zS0 ∧ M = M' ∧ rv = some (.inl (zalIn (M 30) h w c))) (0, 0) zS0 0 (zargs 0 [.inr (.inr 27), .inl h, .inl w, .inl c, .inr (.inr 30)]) [] M := by
  change zW _ _ _ _ _ 0 [(0, .inr (.inr 27)), (1, .inl h), (2, .inl w), (3, .inl c), (4, .inr (.inr 30))] [] M
  refine z_iconst 0 (zdec DX5_alikeIn 0 rfl) (by decide) ?_
  refine z_istore (L' := [(0, .inr (.inr 27)), (1, .inl h), (2, .inl w), (3, .inl c), (4, .inr (.inr 30)), (5, .inl 0)]) (zdec DX5_alikeIn 1 rfl) rfl (by decide) ?_
  refine z_iconst 0 (zdec DX5_alikeIn 2 rfl) (by decide) ?_
  refine z_istore (L' := [(0, .inr (.inr 27)), (1, .inl h), (2, .inl w), (3, .inl c), (4, .inr (.inr 30)), (5, .inl 0), (6, .inl 0)]) (zdec DX5_alikeIn 3 rfl) rfl (by decide) ?_
  refine lp_X5_alikeIn_30_6 hP hG h w c hh (hx61 := fun a hx => ?_) _ 0 0 (Nat.lt_succ_self _) ⟨by omega, (zsid_b h).1, by omega, by omega, rfl⟩
  refine z_iload 0 (zdec DX5_alikeIn 32 rfl) rfl ?_
  exact z_iret (zdec DX5_alikeIn 33 rfl) rfl (⟨rfl, rfl, zri hx⟩)
set_option maxHeartbeats 4000000 in
theorem cX5_alike_30 {M : zMm} (hP : zP M) (hG : zG M) (w c : Int) (hw : 0 ≤ w ∧ w < 33) : zW mX5_alike 2 (fun rv S' M' => S' = zS0 ∧ M = M' ∧ rv = some (.inl (zalike (M 30) w c))) (0, 0) zS0 0 (zargs 0 [.inr (.inr 27), .inl w, .inl c, .inr (.inr 30)]) [] M := by
  change zW _ _ _ _ _ 0 [(0, .inr (.inr 27)), (1, .inl w), (2, .inl c), (3, .inr (.inr 30))] [] M
  refine z_aload_n 0 (zdec DX5_alike 0 rfl) rfl rfl (by decide) ?_
  refine z_aload_n 0 (zdec DX5_alike 1 rfl) rfl rfl (by decide) ?_
  refine z_getr (rw1 := -37) (ki := 0) (r' := 1) 27 5 (zdec DX5_alike 2 rfl) rfl rfl shp27 rfl (by decide) rfl rfl fl_SixWalls_Masonry_21 (zPa hP 30 rfl) ?_
  refine z_getr (rw1 := -11) (ki := 0) (r' := 2) 1 1 (zdec DX5_alike 3 rfl) rfl rfl shp1 rfl (by decide) rfl rfl fl_SixWalls_Masonry_25 (zPa hP 9 rfl) ?_
  refine z_iload_n 1 (zdec DX5_alike 4 rfl) rfl rfl ?_
  refine z_iald 2 (zdec DX5_alike 5 rfl) rfl shp2 ⟨by omega, by omega⟩ ?_
  rw [hG.low hw.1 hw.2]
  refine z_iload_n 1 (zdec DX5_alike 6 rfl) rfl rfl ?_
  refine z_iload_n 2 (zdec DX5_alike 7 rfl) rfl rfl ?_
  refine z_aload_n 3 (zdec DX5_alike 8 rfl) rfl rfl (by decide) ?_
  refine z_inv mX5_alikeIn 27 5 [.inl (zlow w), .inl w, .inl c, .inr (.inr 30)] (zdec DX5_alike 9 rfl) ml_SixWalls_Masonry_77 okX5_alikeIn rfl shp27 rfl rfl rfl rfl (Nat.le_of_ble_eq_true rfl) (Nat.le_of_ble_eq_true rfl) (b' := (0, 0)) ⟨Nat.le_refl 0, Nat.le_refl 0⟩ (Nat.le_of_ble_eq_true rfl) (cX5_alikeIn_30 hP hG (zlow w) w c (zlow_b w)) (fun rv9 S9 M13 h9 => ?_)
  obtain ⟨rfl, rfl, rfl⟩ := h9
  change zW _ _ _ _ _ 16 [(0, .inr (.inr 27)), (1, .inl w), (2, .inl c), (3, .inr (.inr 30))] [.inl (zalIn (M 30) (zlow w) w c)] M
  refine z_aload_n 0 (zdec DX5_alike 10 rfl) rfl rfl (by decide) ?_
  refine z_aload_n 0 (zdec DX5_alike 11 rfl) rfl rfl (by decide) ?_
  refine z_getr (rw1 := -37) (ki := 0) (r' := 1) 27 5 (zdec DX5_alike 12 rfl) rfl rfl shp27 rfl (by decide) rfl rfl fl_SixWalls_Masonry_21 (zPa hP 30 rfl) ?_
  refine z_getr (rw1 := -11) (ki := 1) (r' := 3) 1 1 (zdec DX5_alike 13 rfl) rfl rfl shp1 rfl (by decide) rfl rfl fl_SixWalls_Masonry_30 (zPa hP 10 rfl) ?_
  refine z_iload_n 1 (zdec DX5_alike 14 rfl) rfl rfl ?_
  refine z_iald 3 (zdec DX5_alike 15 rfl) rfl shp3 ⟨by omega, by omega⟩ ?_
  rw [hG.high hw.1 hw.2]
  refine z_iload_n 1 (zdec DX5_alike 16 rfl) rfl rfl ?_
  refine z_iload_n 2 (zdec DX5_alike 17 rfl) rfl rfl ?_
  refine z_aload_n 3 (zdec DX5_alike 18 rfl) rfl rfl (by decide) ?_
  refine z_inv mX5_alikeIn 27 5 [.inl (zhigh w), .inl w, .inl c, .inr (.inr 30)] (zdec DX5_alike 19 rfl) ml_SixWalls_Masonry_77 okX5_alikeIn rfl shp27 rfl rfl rfl rfl (Nat.le_of_ble_eq_true rfl) (Nat.le_of_ble_eq_true rfl) (b' := (0, 0)) ⟨Nat.le_refl 0, Nat.le_refl 0⟩ (Nat.le_of_ble_eq_true rfl) (cX5_alikeIn_30 hP hG (zhigh w) w c (zhigh_b w)) (fun rv9 S9 M29 h9 => ?_)
  obtain ⟨rfl, rfl, rfl⟩ := h9
  change zW _ _ _ _ _ 32 [(0, .inr (.inr 27)), (1, .inl w), (2, .inl c), (3, .inr (.inr 30))] [.inl (zalIn (M 30) (zhigh w) w c), .inl (zalIn (M 30) (zlow w) w c)] M
  refine z_iadd (zdec DX5_alike 20 rfl) (by have := zalIn_b (M 30) (zlow w) w c; have := zalIn_b (M 30) (zhigh w) w c; unfold z32; omega) ?_
  exact z_iret (zdec DX5_alike 21 rfl) rfl (⟨rfl, rfl, rfl⟩)
set_option maxHeartbeats 4000000 in
theorem lp_X5_calmest_30_5 {Q : zPost} {M : zMm} (hP : zP M) (hG : zG M) (w : Int) (hw : 0 ≤ w ∧ w < 33) (hx39 : ∀ (b : Int), (b = zcalm (M 30) w) → zW mX5_calmest 3 Q (0, 0) zS0 39 [(3, .inl b)] [] M) : ∀ (n : Nat) (b : Int) (i : Int), (6 - i).toNat < n → (1 ≤ i ∧ i ≤ 6 ∧ b = zfo (fun best i => if zalike (M 30) w (i + 1) < zalike (M 30) w best then i + 1 else best) 0 (i - 1)) → zW mX5_calmest 3 Q (0, 0) zS0 5 [(0, .inr (.inr 27)), (1, .inl w), (2, .inr (.inr 30)), (3, .inl b), (4, .inl i)] [] M := by
  intro n
  induction n with
  | zero => intro b i hn; exact absurd hn (Nat.not_lt_zero _)
  | succ n ih =>
    intro b i hn hI
    refine z_iload 4 (zdec DX5_calmest 4 rfl) rfl ?_
    refine z_bipush 6 (zdec DX5_calmest 5 rfl) (by decide) ?_
    refine z_icmp_ge 39 (zdec DX5_calmest 6 rfl) rfl (fun h9 => ?_) (fun h9 => ?_)
    ·
      refine z_weak (L' := [(3, .inl b)]) (by simp) ?_
      exact hx39 b (by rw [hI.2.2, show i = 6 by omega]; rfl)
    ·
      refine z_aload_n 0 (zdec DX5_calmest 7 rfl) rfl rfl (by decide) ?_
      refine z_iload_n 1 (zdec DX5_calmest 8 rfl) rfl rfl ?_
      refine z_iload 4 (zdec DX5_calmest 9 rfl) rfl ?_
      refine z_aload_n 2 (zdec DX5_calmest 10 rfl) rfl rfl (by decide) ?_
      refine z_inv mX5_alike 27 5 [.inl w, .inl i, .inr (.inr 30)] (zdec DX5_calmest 11 rfl) ml_SixWalls_Masonry_73 okX5_alike rfl shp27 rfl rfl rfl rfl (Nat.le_of_ble_eq_true rfl) (Nat.le_of_ble_eq_true rfl) (b' := (0, 0)) ⟨Nat.le_refl 0, Nat.le_refl 0⟩ (Nat.le_of_ble_eq_true rfl) (cX5_alike_30 hP hG w i hw) (fun rv9 S9 M17 h9 => ?_)
      obtain ⟨rfl, rfl, rfl⟩ := h9
      change zW _ _ _ _ _ 20 [(0, .inr (.inr 27)), (1, .inl w), (2, .inr (.inr 30)), (3, .inl b), (4, .inl i)] [.inl (zalike (M 30) w i)] M
      refine z_aload_n 0 (zdec DX5_calmest 12 rfl) rfl rfl (by decide) ?_
      refine z_iload_n 1 (zdec DX5_calmest 13 rfl) rfl rfl ?_
      refine z_iload_n 3 (zdec DX5_calmest 14 rfl) rfl rfl ?_
      refine z_aload_n 2 (zdec DX5_calmest 15 rfl) rfl rfl (by decide) ?_
      refine z_inv mX5_alike 27 5 [.inl w, .inl b, .inr (.inr 30)] (zdec DX5_calmest 16 rfl) ml_SixWalls_Masonry_73 okX5_alike rfl shp27 rfl rfl rfl rfl (Nat.le_of_ble_eq_true rfl) (Nat.le_of_ble_eq_true rfl) (b' := (0, 0)) ⟨Nat.le_refl 0, Nat.le_refl 0⟩ (Nat.le_of_ble_eq_true rfl) (cX5_alike_30 hP hG w b hw) (fun rv9 S9 M24 h9 => ?_)
      obtain ⟨rfl, rfl, rfl⟩ := h9
      change zW _ _ _ _ _ 27 [(0, .inr (.inr 27)), (1, .inl w), (2, .inr (.inr 30)), (3, .inl b), (4, .inl i)] [.inl (zalike (M 30) w b), .inl (zalike (M 30) w i)] M
      refine z_icmp_ge 33 (zdec DX5_calmest 17 rfl) rfl (fun h27 => ?_) (fun h27 => ?_)
      ·
        refine z_iinc (L' := [(0, .inr (.inr 27)), (1, .inl w), (2, .inr (.inr 30)), (3, .inl b), (4, .inl (i + 1))]) 4 (zdec DX5_calmest 20 rfl) rfl (by unfold z32; omega) rfl (by decide) ?_
        refine z_goto 5 (zdec DX5_calmest 21 rfl) rfl ?_
        exact ih b (i + 1) (by omega) ⟨by omega, by omega, by rw [show i + 1 - 1 = (i - 1) + 1 by omega, zfo_s _ _ (by omega), ← hI.2.2, show i - 1 + 1 = i by omega, if_neg (by omega)]⟩
      ·
        refine z_iload 4 (zdec DX5_calmest 18 rfl) rfl ?_
        refine z_istore_n (L' := [(0, .inr (.inr 27)), (1, .inl w), (2, .inr (.inr 30)), (3, .inl i), (4, .inl i)]) (zdec DX5_calmest 19 rfl) rfl rfl (by decide) ?_
        refine z_iinc (L' := [(0, .inr (.inr 27)), (1, .inl w), (2, .inr (.inr 30)), (3, .inl i), (4, .inl (i + 1))]) 4 (zdec DX5_calmest 20 rfl) rfl (by unfold z32; omega) rfl (by decide) ?_
        refine z_goto 5 (zdec DX5_calmest 21 rfl) rfl ?_
        exact ih i (i + 1) (by omega) ⟨by omega, by omega, by rw [show i + 1 - 1 = (i - 1) + 1 by omega, zfo_s _ _ (by omega), ← hI.2.2, show i - 1 + 1 = i by omega, if_pos (by omega)]⟩
set_option maxHeartbeats 4000000 in
theorem cX5_calmest_30 {M : zMm} (hP : zP M) (hG : zG M) (w : Int) (hw : 0 ≤ w ∧ w < 33) : zW mX5_calmest 3 (fun rv S' M' => S' = zS0 ∧ M = M' ∧ rv = some (.inl (zcalm (M 30) w))) (0, 0) zS0 0 (zargs 0 [.inr (.inr 27), .inl w, .inr (.inr 30)]) [] M := by
  change zW _ _ _ _ _ 0 [(0, .inr (.inr 27)), (1, .inl w), (2, .inr (.inr 30))] [] M
  refine z_iconst 0 (zdec DX5_calmest 0 rfl) (by decide) ?_
  refine z_istore_n (L' := [(0, .inr (.inr 27)), (1, .inl w), (2, .inr (.inr 30)), (3, .inl 0)]) (zdec DX5_calmest 1 rfl) rfl rfl (by decide) ?_
  refine z_iconst 1 (zdec DX5_calmest 2 rfl) (by decide) ?_
  refine z_istore (L' := [(0, .inr (.inr 27)), (1, .inl w), (2, .inr (.inr 30)), (3, .inl 0), (4, .inl 1)]) (zdec DX5_calmest 3 rfl) rfl (by decide) ?_
  refine lp_X5_calmest_30_5 hP hG w hw (hx39 := fun b hx => ?_) _ 0 1 (Nat.lt_succ_self _) ⟨by omega, by omega, rfl⟩
  refine z_iload_n 0 (zdec DX5_calmest 22 rfl) rfl rfl ?_
  exact z_iret (zdec DX5_calmest 23 rfl) rfl (⟨rfl, rfl, zri hx⟩)
set_option maxHeartbeats 4000000 in
theorem lp_X5_clashesOf_30_4 {Q : zPost} {M : zMm} (hP : zP M) (hG : zG M) (hx28 : ∀ (a : Int), (0 ≤ a ∧ a = zsum (fun w => zalike (M 30) w (M 30 w)) 33) → zW mX5_clashesOf 3 Q (0, 0) zS0 28 [(2, .inl a)] [] M) : ∀ (n : Nat) (a : Int) (w : Int), (33 - w).toNat < n → (0 ≤ w ∧ w ≤ 33 ∧ 0 ≤ a ∧ a ≤ 12 * w ∧ a = zsum (fun w => zalike (M 30) w (M 30 w)) w) → zW mX5_clashesOf 3 Q (0, 0) zS0 4 [(0, .inr (.inr 27)), (1, .inr (.inr 30)), (2, .inl a), (3, .inl w)] [] M := by
  intro n
  induction n with
  | zero => intro a w hn; exact absurd hn (Nat.not_lt_zero _)
  | succ n ih =>
    intro a w hn hI
    refine z_iload_n 3 (zdec DX5_clashesOf 4 rfl) rfl rfl ?_
    refine z_bipush 33 (zdec DX5_clashesOf 5 rfl) (by decide) ?_
    refine z_icmp_ge 28 (zdec DX5_clashesOf 6 rfl) rfl (fun h7 => ?_) (fun h7 => ?_)
    ·
      refine z_weak (L' := [(2, .inl a)]) (by simp) ?_
      exact hx28 a ⟨by omega, by rw [hI.2.2.2.2, show w = 33 by omega]⟩
    ·
      refine z_iload_n 2 (zdec DX5_clashesOf 7 rfl) rfl rfl ?_
      refine z_aload_n 0 (zdec DX5_clashesOf 8 rfl) rfl rfl (by decide) ?_
      refine z_iload_n 3 (zdec DX5_clashesOf 9 rfl) rfl rfl ?_
      refine z_aload_n 1 (zdec DX5_clashesOf 10 rfl) rfl rfl (by decide) ?_
      refine z_iload_n 3 (zdec DX5_clashesOf 11 rfl) rfl rfl ?_
      refine z_iald 30 (zdec DX5_clashesOf 12 rfl) rfl shp30 ⟨by omega, by omega⟩ ?_
      refine z_aload_n 1 (zdec DX5_clashesOf 13 rfl) rfl rfl (by decide) ?_
      refine z_inv mX5_alike 27 5 [.inl w, .inl (M 30 w), .inr (.inr 30)] (zdec DX5_clashesOf 14 rfl) ml_SixWalls_Masonry_73 okX5_alike rfl shp27 rfl rfl rfl rfl (Nat.le_of_ble_eq_true rfl) (Nat.le_of_ble_eq_true rfl) (b' := (0, 0)) ⟨Nat.le_refl 0, Nat.le_refl 0⟩ (Nat.le_of_ble_eq_true rfl) (cX5_alike_30 hP hG w (M 30 w) ⟨by omega, by omega⟩) (fun rv9 S9 M17 h9 => ?_)
      obtain ⟨rfl, rfl, rfl⟩ := h9
      have hab := zalike_b (M 30) w (M 30 w)
      change zW _ _ _ _ _ 20 [(0, .inr (.inr 27)), (1, .inr (.inr 30)), (2, .inl a), (3, .inl w)] [.inl (zalike (M 30) w (M 30 w)), .inl a] M
      refine z_iadd (zdec DX5_clashesOf 15 rfl) (by unfold z32; omega) ?_
      refine z_istore_n (L' := [(0, .inr (.inr 27)), (1, .inr (.inr 30)), (2, .inl (a + (zalike (M 30) w (M 30 w)))), (3, .inl w)]) (zdec DX5_clashesOf 16 rfl) rfl rfl (by decide) ?_
      refine z_iinc (L' := [(0, .inr (.inr 27)), (1, .inr (.inr 30)), (2, .inl (a + (zalike (M 30) w (M 30 w)))), (3, .inl (w + 1))]) 3 (zdec DX5_clashesOf 17 rfl) rfl (by unfold z32; omega) rfl (by decide) ?_
      refine z_goto 4 (zdec DX5_clashesOf 18 rfl) rfl ?_
      exact ih (a + (zalike (M 30) w (M 30 w))) (w + 1) (by omega) ⟨by omega, by omega, by omega, by omega, by rw [zsum_s _ (by omega), ← hI.2.2.2.2]⟩
set_option maxHeartbeats 4000000 in
theorem cX5_clashesOf_30 {M : zMm} (hP : zP M) (hG : zG M) : zW mX5_clashesOf 3 (fun rv S' M' => S' = zS0 ∧ M = M' ∧ rv = some (.inl (zclash (M 30)))) (0, 0) zS0 0 (zargs 0 [.inr (.inr 27), .inr (.inr 30)]) [] M := by
  change zW _ _ _ _ _ 0 [(0, .inr (.inr 27)), (1, .inr (.inr 30))] [] M
  refine z_iconst 0 (zdec DX5_clashesOf 0 rfl) (by decide) ?_
  refine z_istore_n (L' := [(0, .inr (.inr 27)), (1, .inr (.inr 30)), (2, .inl 0)]) (zdec DX5_clashesOf 1 rfl) rfl rfl (by decide) ?_
  refine z_iconst 0 (zdec DX5_clashesOf 2 rfl) (by decide) ?_
  refine z_istore_n (L' := [(0, .inr (.inr 27)), (1, .inr (.inr 30)), (2, .inl 0), (3, .inl 0)]) (zdec DX5_clashesOf 3 rfl) rfl rfl (by decide) ?_
  refine lp_X5_clashesOf_30_4 hP hG (hx28 := fun a hx => ?_) _ 0 0 (Nat.lt_succ_self _) ⟨by omega, by omega, by omega, by omega, rfl⟩
  refine z_iload_n 0 (zdec DX5_clashesOf 19 rfl) rfl rfl ?_
  refine z_iconst 2 (zdec DX5_clashesOf 20 rfl) (by decide) ?_
  refine z_idivp (zdec DX5_clashesOf 21 rfl) (by omega) (by omega) ?_
  exact z_iret (zdec DX5_clashesOf 22 rfl) rfl (⟨rfl, rfl, zri (by rw [hx.2]; rfl)⟩)
set_option maxHeartbeats 4000000 in
theorem cX5_clashes {M : zMm} (hP : zP M) (hG : zG M) : zW mX5_clashes 4 (fun rv S' M' => S' = zS0 ∧ M = M' ∧ rv = some (.inl (zclash (M 13)))) (0, 0) zS0 0 (zargs 0 [.inr (.inr 27)]) [] M := by
  change zW _ _ _ _ _ 0 [(0, .inr (.inr 27))] [] M
  refine z_aload_n 0 (zdec DX5_clashes 0 rfl) rfl rfl (by decide) ?_
  refine z_aload_n 0 (zdec DX5_clashes 1 rfl) rfl rfl (by decide) ?_
  refine z_getr (rw1 := -37) (ki := 0) (r' := 1) 27 5 (zdec DX5_clashes 2 rfl) rfl rfl shp27 rfl (by decide) rfl rfl fl_SixWalls_Masonry_21 (zPa hP 30 rfl) ?_
  refine z_getr (rw1 := -11) (ki := 11) (r' := 13) 1 1 (zdec DX5_clashes 3 rfl) rfl rfl shp1 rfl (by decide) rfl rfl fl_SixWalls_Masonry_66 (zPa hP 20 rfl) ?_
  refine z_inv mX5_clashesOf 27 5 [.inr (.inr 13)] (zdec DX5_clashes 4 rfl) ml_SixWalls_Masonry_69 okX5_clashesOf rfl shp27 rfl rfl rfl rfl (Nat.le_of_ble_eq_true rfl) (Nat.le_of_ble_eq_true rfl) (b' := (0, 0)) ⟨Nat.le_refl 0, Nat.le_refl 0⟩ (Nat.le_of_ble_eq_true rfl) (cX5_clashesOf_13 hP hG) (fun rv9 S9 M8 h9 => ?_)
  obtain ⟨rfl, rfl, rfl⟩ := h9
  change zW _ _ _ _ _ 11 [(0, .inr (.inr 27))] [.inl (zclash (M 13))] M
  exact z_iret (zdec DX5_clashes 5 rfl) rfl (⟨rfl, rfl, rfl⟩)
theorem zG_of {M M' : zMm} (h : zG M) (hr : ∀ c : Int, 2 ≤ c → c ≤ 6 → M' c = M c) : zG M' := by
  unfold zG
  rw [hr 2 (by omega) (by omega), hr 3 (by omega) (by omega), hr 4 (by omega) (by omega), hr 5 (by omega) (by omega), hr 6 (by omega) (by omega)]
  exact h
set_option maxHeartbeats 4000000 in
theorem lp_X5_calmed_20 {Q : zPost} {M : zMm} (hP : zP M) (hG : zG M) (hx47 : ∀ (M2 : zMm), ((∀ k : Int, 0 ≤ k → k < 33 → M2 30 k = zcalmed (M 13) 33 k) ∧ ∀ c : Int, c ≠ 30 → M2 c = M c) → zW mX5_calmed 4 Q (0, 0) zS0 47 [(0, .inr (.inr 27))] [] M2) : ∀ (n : Nat) (w : Int) (M2 : zMm), (33 - w).toNat < n → (0 ≤ w ∧ w ≤ 33 ∧ (∀ k : Int, 0 ≤ k → k < 33 → M2 30 k = zcalmed (M 13) w k) ∧ ∀ c : Int, c ≠ 30 → M2 c = M c) → zW mX5_calmed 4 Q (0, 0) zS0 20 [(0, .inr (.inr 27)), (1, .inl w)] [] M2 := by
  intro n
  induction n with
  | zero => intro w M2 hn; exact absurd hn (Nat.not_lt_zero _)
  | succ n ih =>
    intro w M2 hn hI
    have hG2 : zG M2 := zG_of hG fun c h0 h1 => hI.2.2.2 c (by omega)
    refine z_iload_n 1 (zdec DX5_calmed 11 rfl) rfl rfl ?_
    refine z_bipush 33 (zdec DX5_calmed 12 rfl) (by decide) ?_
    refine z_icmp_ge 47 (zdec DX5_calmed 13 rfl) rfl (fun h23 => ?_) (fun h23 => ?_)
    ·
      refine z_weak (L' := [(0, .inr (.inr 27))]) (by simp) ?_
      exact hx47 M2 ⟨by rw [show (33 : Int) = w by omega]; exact fun k h0 h1 => hI.2.2.1 k h0 (by omega), hI.2.2.2⟩
    ·
      refine z_aload_n 0 (zdec DX5_calmed 14 rfl) rfl rfl (by decide) ?_
      refine z_getr (rw1 := -37) (ki := 3) (r' := 30) 27 5 (zdec DX5_calmed 15 rfl) rfl rfl shp27 rfl (by decide) rfl rfl fl_SixWalls_Masonry_18 (zPa (zP_of hP fun r hr => hI.2.2.2 r (by omega)) 33 rfl) ?_
      refine z_iload_n 1 (zdec DX5_calmed 16 rfl) rfl rfl ?_
      refine z_aload_n 0 (zdec DX5_calmed 17 rfl) rfl rfl (by decide) ?_
      refine z_iload_n 1 (zdec DX5_calmed 18 rfl) rfl rfl ?_
      refine z_aload_n 0 (zdec DX5_calmed 19 rfl) rfl rfl (by decide) ?_
      refine z_getr (rw1 := -37) (ki := 3) (r' := 30) 27 5 (zdec DX5_calmed 20 rfl) rfl rfl shp27 rfl (by decide) rfl rfl fl_SixWalls_Masonry_18 (zPa (zP_of hP fun r hr => hI.2.2.2 r (by omega)) 33 rfl) ?_
      refine z_inv mX5_calmest 27 5 [.inl w, .inr (.inr 30)] (zdec DX5_calmed 21 rfl) ml_SixWalls_Masonry_87 okX5_calmest rfl shp27 rfl rfl rfl rfl (Nat.le_of_ble_eq_true rfl) (Nat.le_of_ble_eq_true rfl) (b' := (0, 0)) ⟨Nat.le_refl 0, Nat.le_refl 0⟩ (Nat.le_of_ble_eq_true rfl) (cX5_calmest_30 (zP_of hP fun r hr => hI.2.2.2 r (by omega)) hG2 w ⟨by omega, by omega⟩) (fun rv9 S9 M37 h9 => ?_)
      obtain ⟨rfl, rfl, rfl⟩ := h9
      change zW _ _ _ _ _ 40 [(0, .inr (.inr 27)), (1, .inl w)] [.inl (zcalm (M2 30) w), .inl w, .inr (.inr 30)] M2
      refine z_iast 30 (zdec DX5_calmed 22 rfl) rfl shp30 ⟨by omega, by omega⟩ ?_
      refine z_iinc (L' := [(0, .inr (.inr 27)), (1, .inl (w + 1))]) 1 (zdec DX5_calmed 23 rfl) rfl (by unfold z32; omega) rfl (by decide) ?_
      refine z_goto 20 (zdec DX5_calmed 24 rfl) rfl ?_
      exact ih (w + 1) (zup M2 30 w (zcalm (M2 30) w)) (by omega) ⟨by omega, by omega, fun k h0 h1 => (by unfold zcalmed; rw [zfo_s _ _ (by omega)]; show (zup M2 30 w (zcalm (M2 30) w)) 30 k = zpu (zcalmed (M 13) w) w (zcalm (zcalmed (M 13) w) w) k; rw [← zcalm_c hI.2.2.1]; by_cases hk : k = w; (subst hk; rw [zup_self, zpu_s]); (rw [zup_ne hk, zpu_n hk]; exact hI.2.2.1 k h0 h1)), fun c hc => (zup_row hc).trans (hI.2.2.2 c hc)⟩
set_option maxHeartbeats 4000000 in
theorem cX5_calmed {M : zMm} (hP : zP M) (hG : zG M) : zW mX5_calmed 4 (fun rv S' M' => S' = zS0 ∧ rv = some (.inl (zclash (zcalmed (M 13) 33))) ∧ ∀ c : Int, c ≠ 30 → M' c = M c) (0, 0) zS0 0 (zargs 0 [.inr (.inr 27)]) [] M := by
  change zW _ _ _ _ _ 0 [(0, .inr (.inr 27))] [] M
  refine z_aload_n 0 (zdec DX5_calmed 0 rfl) rfl rfl (by decide) ?_
  refine z_getr (rw1 := -37) (ki := 0) (r' := 1) 27 5 (zdec DX5_calmed 1 rfl) rfl rfl shp27 rfl (by decide) rfl rfl fl_SixWalls_Masonry_21 (zPa hP 30 rfl) ?_
  refine z_getr (rw1 := -11) (ki := 11) (r' := 13) 1 1 (zdec DX5_calmed 2 rfl) rfl rfl shp1 rfl (by decide) rfl rfl fl_SixWalls_Masonry_66 (zPa hP 20 rfl) ?_
  refine z_iconst 0 (zdec DX5_calmed 3 rfl) (by decide) ?_
  refine z_aload_n 0 (zdec DX5_calmed 4 rfl) rfl rfl (by decide) ?_
  refine z_getr (rw1 := -37) (ki := 3) (r' := 30) 27 5 (zdec DX5_calmed 5 rfl) rfl rfl shp27 rfl (by decide) rfl rfl fl_SixWalls_Masonry_18 (zPa hP 33 rfl) ?_
  refine z_iconst 0 (zdec DX5_calmed 6 rfl) (by decide) ?_
  refine z_bipush 33 (zdec DX5_calmed 7 rfl) (by decide) ?_
  refine z_copyi 13 30 (zdec DX5_calmed 8 rfl) ml_SixWalls_Masonry_40 zcp1 zcp2 zcp3 rfl rfl shp13 shp30 ⟨by omega, by omega, by omega⟩ ⟨by omega, by omega⟩ (by decide) rfl ?_
  refine z_iconst 0 (zdec DX5_calmed 9 rfl) (by decide) ?_
  refine z_istore_n (L' := [(0, .inr (.inr 27)), (1, .inl 0)]) (zdec DX5_calmed 10 rfl) rfl rfl (by decide) ?_
  refine lp_X5_calmed_20 hP hG (hx47 := fun M2 hx => ?_) _ 0 (zcpy M 13 0 30 0 33) (Nat.lt_succ_self _) ⟨by omega, by omega, fun k h0 h1 => (by show zcpy M 13 0 30 0 33 30 k = M 13 k; unfold zcpy; rw [if_pos ⟨rfl, by omega, by omega⟩]; congr 1; omega), fun c hc => zcpy_row hc⟩
  refine z_aload_n 0 (zdec DX5_calmed 25 rfl) rfl rfl (by decide) ?_
  refine z_aload_n 0 (zdec DX5_calmed 26 rfl) rfl rfl (by decide) ?_
  refine z_getr (rw1 := -37) (ki := 3) (r' := 30) 27 5 (zdec DX5_calmed 27 rfl) rfl rfl shp27 rfl (by decide) rfl rfl fl_SixWalls_Masonry_18 (zPa (zP_of hP fun r hr => hx.2 r (by omega)) 33 rfl) ?_
  refine z_inv mX5_clashesOf 27 5 [.inr (.inr 30)] (zdec DX5_calmed 28 rfl) ml_SixWalls_Masonry_69 okX5_clashesOf rfl shp27 rfl rfl rfl rfl (Nat.le_of_ble_eq_true rfl) (Nat.le_of_ble_eq_true rfl) (b' := (0, 0)) ⟨Nat.le_refl 0, Nat.le_refl 0⟩ (Nat.le_of_ble_eq_true rfl) (cX5_clashesOf_30 (zP_of hP fun r hr => hx.2 r (by omega)) (zG_of hG fun c h0 h1 => hx.2 c (by omega))) (fun rv9 S9 M52 h9 => ?_)
  obtain ⟨rfl, rfl, rfl⟩ := h9
  change zW _ _ _ _ _ 55 [(0, .inr (.inr 27))] [.inl (zclash (M2 30))] M2
  exact z_iret (zdec DX5_calmed 29 rfl) rfl (⟨rfl, zri (zclash_c hx.1), hx.2⟩)
def zbitc (i : Int) : Int :=
  let a := zw (i - zand (zushr i 1) 1431655765)
  let b := zw (zand a 858993459 + zand (zushr a 2) 858993459)
  let c := zand (zw (b + zushr b 4)) 252645135
  let d := zw (c + zushr c 8)
  let e := zw (d + zushr d 16)
  zand e 63
set_option maxHeartbeats 4000000 in
theorem cJ6_bitCount {M : zMm} (i : Int) : zW mJ6_bitCount_0f7a4 1 (fun rv S' M' => S' = zS0 ∧ M = M' ∧ rv = some (.inl (zbitc i))) (0, 0) zS0 0 (zargs 0 [.inl i]) [] M := by
  change zW _ _ _ _ _ 0 [(0, .inl i)] [] M
  refine z_iload_n 0 (zdec DJ6_bitCount_0f7a4 0 rfl) rfl rfl ?_
  refine z_iload_n 0 (zdec DJ6_bitCount_0f7a4 1 rfl) rfl rfl ?_
  refine z_iconst 1 (zdec DJ6_bitCount_0f7a4 2 rfl) (by decide) ?_
  refine z_iushr (zdec DJ6_bitCount_0f7a4 3 rfl) ?_
  refine z_ldcw 1431655765 (zdec DJ6_bitCount_0f7a4 4 rfl) kc_JInteger_265 rfl ⟨by decide, by decide⟩ ?_
  refine z_iand (zdec DJ6_bitCount_0f7a4 5 rfl) ?_
  refine z_isubw (zdec DJ6_bitCount_0f7a4 6 rfl) ?_
  refine z_istore_n (L' := [(0, .inl (zw (i - (zand (zushr i 1) 1431655765))))]) (zdec DJ6_bitCount_0f7a4 7 rfl) rfl rfl (by decide) ?_
  refine z_iload_n 0 (zdec DJ6_bitCount_0f7a4 8 rfl) rfl rfl ?_
  refine z_ldcw 858993459 (zdec DJ6_bitCount_0f7a4 9 rfl) kc_JInteger_266 rfl ⟨by decide, by decide⟩ ?_
  refine z_iand (zdec DJ6_bitCount_0f7a4 10 rfl) ?_
  refine z_iload_n 0 (zdec DJ6_bitCount_0f7a4 11 rfl) rfl rfl ?_
  refine z_iconst 2 (zdec DJ6_bitCount_0f7a4 12 rfl) (by decide) ?_
  refine z_iushr (zdec DJ6_bitCount_0f7a4 13 rfl) ?_
  refine z_ldcw 858993459 (zdec DJ6_bitCount_0f7a4 14 rfl) kc_JInteger_266 rfl ⟨by decide, by decide⟩ ?_
  refine z_iand (zdec DJ6_bitCount_0f7a4 15 rfl) ?_
  refine z_iaddw (zdec DJ6_bitCount_0f7a4 16 rfl) ?_
  refine z_istore_n (L' := [(0, .inl (zw ((zand (zw (i - (zand (zushr i 1) 1431655765))) 858993459) + (zand (zushr (zw (i - (zand (zushr i 1) 1431655765))) 2) 858993459))))]) (zdec DJ6_bitCount_0f7a4 17 rfl) rfl rfl (by decide) ?_
  refine z_iload_n 0 (zdec DJ6_bitCount_0f7a4 18 rfl) rfl rfl ?_
  refine z_iload_n 0 (zdec DJ6_bitCount_0f7a4 19 rfl) rfl rfl ?_
  refine z_iconst 4 (zdec DJ6_bitCount_0f7a4 20 rfl) (by decide) ?_
  refine z_iushr (zdec DJ6_bitCount_0f7a4 21 rfl) ?_
  refine z_iaddw (zdec DJ6_bitCount_0f7a4 22 rfl) ?_
  refine z_ldcw 252645135 (zdec DJ6_bitCount_0f7a4 23 rfl) kc_JInteger_267 rfl ⟨by decide, by decide⟩ ?_
  refine z_iand (zdec DJ6_bitCount_0f7a4 24 rfl) ?_
  refine z_istore_n (L' := [(0, .inl (zand (zw ((zw ((zand (zw (i - (zand (zushr i 1) 1431655765))) 858993459) + (zand (zushr (zw (i - (zand (zushr i 1) 1431655765))) 2) 858993459))) + (zushr (zw ((zand (zw (i - (zand (zushr i 1) 1431655765))) 858993459) + (zand (zushr (zw (i - (zand (zushr i 1) 1431655765))) 2) 858993459))) 4))) 252645135))]) (zdec DJ6_bitCount_0f7a4 25 rfl) rfl rfl (by decide) ?_
  refine z_iload_n 0 (zdec DJ6_bitCount_0f7a4 26 rfl) rfl rfl ?_
  refine z_iload_n 0 (zdec DJ6_bitCount_0f7a4 27 rfl) rfl rfl ?_
  refine z_bipush 8 (zdec DJ6_bitCount_0f7a4 28 rfl) (by decide) ?_
  refine z_iushr (zdec DJ6_bitCount_0f7a4 29 rfl) ?_
  refine z_iaddw (zdec DJ6_bitCount_0f7a4 30 rfl) ?_
  refine z_istore_n (L' := [(0, .inl (zw ((zand (zw ((zw ((zand (zw (i - (zand (zushr i 1) 1431655765))) 858993459) + (zand (zushr (zw (i - (zand (zushr i 1) 1431655765))) 2) 858993459))) + (zushr (zw ((zand (zw (i - (zand (zushr i 1) 1431655765))) 858993459) + (zand (zushr (zw (i - (zand (zushr i 1) 1431655765))) 2) 858993459))) 4))) 252645135) + (zushr (zand (zw ((zw ((zand (zw (i - (zand (zushr i 1) 1431655765))) 858993459) + (zand (zushr (zw (i - (zand (zushr i 1) 1431655765))) 2) 858993459))) + (zushr (zw ((zand (zw (i - (zand (zushr i 1) 1431655765))) 858993459) + (zand (zushr (zw (i - (zand (zushr i 1) 1431655765))) 2) 858993459))) 4))) 252645135) 8))))]) (zdec DJ6_bitCount_0f7a4 31 rfl) rfl rfl (by decide) ?_
  refine z_iload_n 0 (zdec DJ6_bitCount_0f7a4 32 rfl) rfl rfl ?_
  refine z_iload_n 0 (zdec DJ6_bitCount_0f7a4 33 rfl) rfl rfl ?_
  refine z_bipush 16 (zdec DJ6_bitCount_0f7a4 34 rfl) (by decide) ?_
  refine z_iushr (zdec DJ6_bitCount_0f7a4 35 rfl) ?_
  refine z_iaddw (zdec DJ6_bitCount_0f7a4 36 rfl) ?_
  refine z_istore_n (L' := [(0, .inl (zw ((zw ((zand (zw ((zw ((zand (zw (i - (zand (zushr i 1) 1431655765))) 858993459) + (zand (zushr (zw (i - (zand (zushr i 1) 1431655765))) 2) 858993459))) + (zushr (zw ((zand (zw (i - (zand (zushr i 1) 1431655765))) 858993459) + (zand (zushr (zw (i - (zand (zushr i 1) 1431655765))) 2) 858993459))) 4))) 252645135) + (zushr (zand (zw ((zw ((zand (zw (i - (zand (zushr i 1) 1431655765))) 858993459) + (zand (zushr (zw (i - (zand (zushr i 1) 1431655765))) 2) 858993459))) + (zushr (zw ((zand (zw (i - (zand (zushr i 1) 1431655765))) 858993459) + (zand (zushr (zw (i - (zand (zushr i 1) 1431655765))) 2) 858993459))) 4))) 252645135) 8))) + (zushr (zw ((zand (zw ((zw ((zand (zw (i - (zand (zushr i 1) 1431655765))) 858993459) + (zand (zushr (zw (i - (zand (zushr i 1) 1431655765))) 2) 858993459))) + (zushr (zw ((zand (zw (i - (zand (zushr i 1) 1431655765))) 858993459) + (zand (zushr (zw (i - (zand (zushr i 1) 1431655765))) 2) 858993459))) 4))) 252645135) + (zushr (zand (zw ((zw ((zand (zw (i - (zand (zushr i 1) 1431655765))) 858993459) + (zand (zushr (zw (i - (zand (zushr i 1) 1431655765))) 2) 858993459))) + (zushr (zw ((zand (zw (i - (zand (zushr i 1) 1431655765))) 858993459) + (zand (zushr (zw (i - (zand (zushr i 1) 1431655765))) 2) 858993459))) 4))) 252645135) 8))) 16))))]) (zdec DJ6_bitCount_0f7a4 37 rfl) rfl rfl (by decide) ?_
  refine z_iload_n 0 (zdec DJ6_bitCount_0f7a4 38 rfl) rfl rfl ?_
  refine z_bipush 63 (zdec DJ6_bitCount_0f7a4 39 rfl) (by decide) ?_
  refine z_iand (zdec DJ6_bitCount_0f7a4 40 rfl) ?_
  exact z_iret (zdec DJ6_bitCount_0f7a4 41 rfl) rfl (⟨rfl, rfl, rfl⟩)
set_option maxHeartbeats 4000000 in
theorem lp_X5_pots_4 {Q : zPost} {M : zMm} (hP : zP M) (hG : zG M) (hx30 : ∀ (a : Int), (a = zpots (M 13) 33) → zW mX5_pots 2 Q (0, 0) zS0 30 [(1, .inl a)] [] M) : ∀ (n : Nat) (a : Int) (w : Int), (33 - w).toNat < n → (0 ≤ w ∧ w ≤ 33 ∧ a = zpots (M 13) w) → zW mX5_pots 2 Q (0, 0) zS0 4 [(0, .inr (.inr 27)), (1, .inl a), (2, .inl w)] [] M := by
  intro n
  induction n with
  | zero => intro a w hn; exact absurd hn (Nat.not_lt_zero _)
  | succ n ih =>
    intro a w hn hI
    refine z_iload_n 2 (zdec DX5_pots 4 rfl) rfl rfl ?_
    refine z_bipush 33 (zdec DX5_pots 5 rfl) (by decide) ?_
    refine z_icmp_ge 30 (zdec DX5_pots 6 rfl) rfl (fun h7 => ?_) (fun h7 => ?_)
    ·
      refine z_weak (L' := [(1, .inl a)]) (by simp) ?_
      exact hx30 a (by rw [hI.2.2, show w = 33 by omega])
    ·
      refine z_iload_n 1 (zdec DX5_pots 7 rfl) rfl rfl ?_
      refine z_iconst 1 (zdec DX5_pots 8 rfl) (by decide) ?_
      refine z_aload_n 0 (zdec DX5_pots 9 rfl) rfl rfl (by decide) ?_
      refine z_getr (rw1 := -37) (ki := 0) (r' := 1) 27 5 (zdec DX5_pots 10 rfl) rfl rfl shp27 rfl (by decide) rfl rfl fl_SixWalls_Masonry_21 (zPa hP 30 rfl) ?_
      refine z_getr (rw1 := -11) (ki := 11) (r' := 13) 1 1 (zdec DX5_pots 11 rfl) rfl rfl shp1 rfl (by decide) rfl rfl fl_SixWalls_Masonry_66 (zPa hP 20 rfl) ?_
      refine z_iload_n 2 (zdec DX5_pots 12 rfl) rfl rfl ?_
      refine z_iald 13 (zdec DX5_pots 13 rfl) rfl shp13 ⟨by omega, by omega⟩ ?_
      refine z_ishl (zdec DX5_pots 14 rfl) ?_
      refine z_ior (zdec DX5_pots 15 rfl) ?_
      refine z_istore_n (L' := [(0, .inr (.inr 27)), (1, .inl (zor a (zshl 1 (M 13 w)))), (2, .inl w)]) (zdec DX5_pots 16 rfl) rfl rfl (by decide) ?_
      refine z_iinc (L' := [(0, .inr (.inr 27)), (1, .inl (zor a (zshl 1 (M 13 w)))), (2, .inl (w + 1))]) 2 (zdec DX5_pots 17 rfl) rfl (by unfold z32; omega) rfl (by decide) ?_
      refine z_goto 4 (zdec DX5_pots 18 rfl) rfl ?_
      exact ih (zor a (zshl 1 (M 13 w))) (w + 1) (by omega) ⟨by omega, by omega, by unfold zpots; rw [zfo_s _ _ (by omega), hI.2.2]; rfl⟩
set_option maxHeartbeats 4000000 in
theorem cX5_pots {M : zMm} (hP : zP M) (hG : zG M) : zW mX5_pots 2 (fun rv S' M' => S' = zS0 ∧ M = M' ∧ rv = some (.inl (zbitc (zpots (M 13) 33)))) (0, 0) zS0 0 (zargs 0 [.inr (.inr 27)]) [] M := by
  change zW _ _ _ _ _ 0 [(0, .inr (.inr 27))] [] M
  refine z_iconst 0 (zdec DX5_pots 0 rfl) (by decide) ?_
  refine z_istore_n (L' := [(0, .inr (.inr 27)), (1, .inl 0)]) (zdec DX5_pots 1 rfl) rfl rfl (by decide) ?_
  refine z_iconst 0 (zdec DX5_pots 2 rfl) (by decide) ?_
  refine z_istore_n (L' := [(0, .inr (.inr 27)), (1, .inl 0), (2, .inl 0)]) (zdec DX5_pots 3 rfl) rfl rfl (by decide) ?_
  refine lp_X5_pots_4 hP hG (hx30 := fun a hx => ?_) _ 0 0 (Nat.lt_succ_self _) ⟨by omega, by omega, rfl⟩
  refine z_iload_n 0 (zdec DX5_pots 19 rfl) rfl rfl ?_
  refine z_invs mJ6_bitCount_0f7a4 [.inl a] (zdec DX5_pots 20 rfl) (Or.inl ml_SixWalls_Masonry_90) okJ6_bitCount_0f7a4 rfl rfl (Nat.le_of_ble_eq_true rfl) (Nat.le_of_ble_eq_true rfl) (b' := (0, 0)) ⟨Nat.le_refl 0, Nat.le_refl 0⟩ (Nat.le_of_ble_eq_true rfl) (cJ6_bitCount a) (fun rv9 S9 M31 h9 => ?_)
  obtain ⟨rfl, rfl, rfl⟩ := h9
  change zW _ _ _ _ _ 34 [(1, .inl a)] [.inl (zbitc a)] M
  exact z_iret (zdec DX5_pots 21 rfl) rfl (⟨rfl, rfl, zri (by rw [hx])⟩)
set_option maxHeartbeats 4000000 in
theorem cJ6_compare {M : zMm} (x y : Int) : zW mJ6_compare_7cf53 1 (fun rv S' M' => S' = zS0 ∧ M = M' ∧ rv = some (.inl (if x < y then -1 else if x = y then 0 else 1))) (0, 0) zS0 0 (zargs 0 [.inl x, .inl y]) [] M := by
  change zW _ _ _ _ _ 0 [(0, .inl x), (1, .inl y)] [] M
  refine z_iload_n 0 (zdec DJ6_compare_7cf53 0 rfl) rfl rfl ?_
  refine z_iload_n 1 (zdec DJ6_compare_7cf53 1 rfl) rfl rfl ?_
  refine z_icmp_ge 9 (zdec DJ6_compare_7cf53 2 rfl) rfl (fun h2 => ?_) (fun h2 => ?_)
  ·
    refine z_iload_n 0 (zdec DJ6_compare_7cf53 5 rfl) rfl rfl ?_
    refine z_iload_n 1 (zdec DJ6_compare_7cf53 6 rfl) rfl rfl ?_
    refine z_icmp_ne 18 (zdec DJ6_compare_7cf53 7 rfl) rfl (fun h11 => ?_) (fun h11 => ?_)
    ·
      refine z_iconst 1 (zdec DJ6_compare_7cf53 10 rfl) (by decide) ?_
      exact z_iret (zdec DJ6_compare_7cf53 11 rfl) rfl (⟨rfl, rfl, zri (by (repeat (first | rw [if_pos (by omega)] | rw [if_neg (by omega)])))⟩)
    ·
      refine z_iconst 0 (zdec DJ6_compare_7cf53 8 rfl) (by decide) ?_
      refine z_goto 19 (zdec DJ6_compare_7cf53 9 rfl) rfl ?_
      exact z_iret (zdec DJ6_compare_7cf53 11 rfl) rfl (⟨rfl, rfl, zri (by (repeat (first | rw [if_pos (by omega)] | rw [if_neg (by omega)])))⟩)
  ·
    refine z_iconst (-1) (zdec DJ6_compare_7cf53 3 rfl) (by decide) ?_
    refine z_goto 19 (zdec DJ6_compare_7cf53 4 rfl) rfl ?_
    exact z_iret (zdec DJ6_compare_7cf53 11 rfl) rfl (⟨rfl, rfl, zri (by (repeat (first | rw [if_pos (by omega)] | rw [if_neg (by omega)])))⟩)
