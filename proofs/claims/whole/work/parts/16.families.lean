/-! contracts of Families; empty, takes, years, image, back of SixWalls -/
/-- the first of g 0, g 1 .. g (n - 1) with p; -1: none -/
def zff (g : Int → Int) (p : Int → Prop) [DecidablePred p] (n : Int) : Int := zfo (fun a s => if a = -1 ∧ p (g s) then g s else a) (-1) n
theorem zff_no {g : Int → Int} {p : Int → Prop} [DecidablePred p] {n : Int} (h : ∀ j : Int, 0 ≤ j → j < n → ¬ p (g j)) : zff g p n = -1 := by
  have key : ∀ k : Nat, (k : Int) ≤ n → zfold (fun (a : Int) (s : Int) => if a = -1 ∧ p (g s) then g s else a) (-1) k = -1 := by
    intro k
    induction k with
    | zero => intro _; rfl
    | succ k ih =>
      intro hk
      simp only [zfold]
      rw [ih (by omega), if_neg (fun q => h k (by omega) (by omega) q.2)]
  by_cases hn : 0 ≤ n
  · exact key n.toNat (by omega)
  · unfold zff zfo
    rw [show n.toNat = 0 by omega]
    rfl
theorem zff_hit {g : Int → Int} {p : Int → Prop} [DecidablePred p] {n s : Int} (hs : 0 ≤ s ∧ s < n) (hg : g s ≠ -1) (h : ∀ j : Int, 0 ≤ j → j < s → ¬ p (g j)) (hp : p (g s)) : zff g p n = g s := by
  have key : ∀ k : Nat, s < (k : Int) → zfold (fun (a : Int) (s : Int) => if a = -1 ∧ p (g s) then g s else a) (-1) k = g s := by
    intro k
    induction k with
    | zero => intro h; omega
    | succ k ih =>
      intro hk
      simp only [zfold]
      by_cases hk2 : s < (k : Int)
      · rw [ih hk2, if_neg (fun q => hg q.1)]
      · have e : (k : Int) = s := by omega
        have e2 : zfold (fun (a : Int) (s : Int) => if a = -1 ∧ p (g s) then g s else a) (-1) k = -1 := by
          have := zff_no (g := g) (p := p) (n := s) h
          unfold zff zfo at this
          rw [show s.toNat = k by omega] at this
          exact this
        rw [e2, e, if_pos ⟨rfl, hp⟩]
  have := key n.toNat (by omega)
  exact this
/-- lived in, fires, wants, doors -/
abbrev zB : Type := (Int → Int) × (Int → Int) × (Int → Int) × (Int → Int)
def zborn (L : Int → Int) (h : Int) : Int := zff (fun s => znat (h * 6 + s)) (fun q => L q ≠ 1) (zsid h)
def zfeud (D : Int → Int) (h : Int) : Int := zff (fun s => zwat (h * 6 + s)) (fun w => D w ≠ 0) (zsid h)
def ztk (L W : Int → Int) (h : Int) : Int := zfo (fun best s => if L (znat (h * 6 + s)) = 1 ∧ (best < 0 ∨ W best < W (znat (h * 6 + s))) then znat (h * 6 + s) else best) (-1) (zsid h)
def zbirth (b : zB) (h : Int) : zB := if zborn b.1 h < 0 then b else (zpu b.1 (zborn b.1 h) 1, b.2.1, zpu b.2.2.1 (zborn b.1 h) (b.2.2.1 h), b.2.2.2)
def zquarrel (b : zB) (h : Int) : zB := if zfeud b.2.2.2 h < 0 then b else (b.1, b.2.1, b.2.2.1, zpu b.2.2.2 (zfeud b.2.2.2 h) 0)
def zbef (b : zB) (h d : Int) : zB := if d = 0 then zbirth b h else if d = 1 then zquarrel b h else if d = 2 then (b.1, zpu b.2.1 h (if b.2.1 h + 1 < 9 then b.2.1 h + 1 else 9), b.2.2) else if d = 3 then (b.1, zpu b.2.1 h (if 0 < b.2.1 h - 1 then b.2.1 h - 1 else 0), b.2.2) else b
def zdraw (z : Int) : Int := zw (zw (z * 1103515245) + 12345)
def zyear (st : zB × Int) (h : Int) : zB × Int := if st.1.1 h = 0 then st else (zbef st.1 h (zw (Int.tmod (zushr (zdraw st.2) 8) 12)), zdraw st.2)
def zgrow (st : zB × Int) (n : Int) : zB × Int := zfo (fun st _ => zfo zyear st 16) st n
def zFam (M : zMm) : zB := (M 7, M 8, M 10, M 12)
def zFm (M M2 : zMm) (b : zB) : Prop := zFam M2 = b ∧ ∀ c : Int, c ≠ 7 → c ≠ 8 → c ≠ 10 → c ≠ 12 → M2 c = M c
def zBr (b : zB) : Prop := (∀ h : Int, 0 ≤ h → h < 16 → (0 ≤ b.1 h ∧ b.1 h ≤ 1) ∧ (0 ≤ b.2.1 h ∧ b.2.1 h ≤ 9) ∧ (0 ≤ b.2.2.1 h ∧ b.2.2.1 h ≤ 9)) ∧ ∀ w : Int, 0 ≤ w → w < 33 → 0 ≤ b.2.2.2 w ∧ b.2.2.2 w ≤ 1
theorem zFm.r7 {M M2 : zMm} {b : zB} (h : zFm M M2 b) : M2 7 = b.1 := congrArg (fun b => b.1) h.1
theorem zFm.r8 {M M2 : zMm} {b : zB} (h : zFm M M2 b) : M2 8 = b.2.1 := congrArg (fun b => b.2.1) h.1
theorem zFm.r10 {M M2 : zMm} {b : zB} (h : zFm M M2 b) : M2 10 = b.2.2.1 := congrArg (fun b => b.2.2.1) h.1
theorem zFm.r12 {M M2 : zMm} {b : zB} (h : zFm M M2 b) : M2 12 = b.2.2.2 := congrArg (fun b => b.2.2.2) h.1
theorem zup_zpu {M : zMm} {c k v : Int} : zup M c k v c = zpu (M c) k v := by
  funext k'
  unfold zup zpu
  by_cases h : k' = k <;> simp [h]
theorem zBr_of {M : zMm} (h : zRg M) : zBr (zFam M) := ⟨fun k h0 h1 => ⟨(h.1 k h0 h1).1, (h.1 k h0 h1).2.1, (h.1 k h0 h1).2.2.2⟩, fun w h0 h1 => (h.2.1 w h0 h1).2.1⟩
theorem zpu_r {T : Int → Int} {k v lo hi n : Int} (h : ∀ i : Int, 0 ≤ i → i < n → lo ≤ T i ∧ T i ≤ hi) (hv : lo ≤ v ∧ v ≤ hi) : ∀ i : Int, 0 ≤ i → i < n → lo ≤ zpu T k v i ∧ zpu T k v i ≤ hi := by
  intro i h0 h1
  by_cases hi : i = k
  · subst hi; rw [zpu_s]; exact hv
  · rw [zpu_n hi]; exact h i h0 h1
theorem zBr_bef {b : zB} (hb : zBr b) {h : Int} (hh : 0 ≤ h ∧ h < 16) (d : Int) : zBr (zbef b h d) := by
  obtain ⟨h1, h2⟩ := hb
  have a1 : ∀ k : Int, 0 ≤ k → k < 16 → 0 ≤ b.1 k ∧ b.1 k ≤ 1 := fun k p q => (h1 k p q).1
  have a2 : ∀ k : Int, 0 ≤ k → k < 16 → 0 ≤ b.2.1 k ∧ b.2.1 k ≤ 9 := fun k p q => (h1 k p q).2.1
  have a3 : ∀ k : Int, 0 ≤ k → k < 16 → 0 ≤ b.2.2.1 k ∧ b.2.2.1 k ≤ 9 := fun k p q => (h1 k p q).2.2
  have a4 := (a2 h hh.1 hh.2)
  unfold zbef
  split
  · unfold zbirth
    split
    · exact ⟨h1, h2⟩
    · exact ⟨fun k p q => ⟨zpu_r a1 (by omega) k p q, a2 k p q, zpu_r a3 (a3 h hh.1 hh.2) k p q⟩, h2⟩
  · split
    · unfold zquarrel
      split
      · exact ⟨h1, h2⟩
      · exact ⟨h1, zpu_r h2 (by omega)⟩
    · split
      · exact ⟨fun k p q => ⟨a1 k p q, zpu_r a2 (by split <;> omega) k p q, a3 k p q⟩, h2⟩
      · split
        · exact ⟨fun k p q => ⟨a1 k p q, zpu_r a2 (by split <;> omega) k p q, a3 k p q⟩, h2⟩
        · exact ⟨h1, h2⟩
theorem zBr_year {st : zB × Int} (hb : zBr st.1) {h : Int} (hh : 0 ≤ h ∧ h < 16) : zBr (zyear st h).1 := by
  unfold zyear
  split
  · exact hb
  · exact zBr_bef hb hh _
set_option maxHeartbeats 4000000 in
theorem lp_X2_taker_4 {Q : zPost} {M : zMm} (hP : zP M) (hG : zG M) (h : Int) (hh : 0 ≤ h ∧ h < 16) (hx82 : ∀ (b : Int), (b = ztk (M 7) (M 10) h) → zW mX2_taker 1 Q (0, 0) zS0 82 [(2, .inl b)] [] M) : ∀ (n : Nat) (b : Int) (s : Int), (6 - s).toNat < n → (0 ≤ s ∧ s ≤ zsid h ∧ (-1 ≤ b ∧ b < 16) ∧ b = zfo (fun best s => if M 7 (znat (h * 6 + s)) = 1 ∧ (best < 0 ∨ M 10 best < M 10 (znat (h * 6 + s))) then znat (h * 6 + s) else best) (-1) s) → zW mX2_taker 1 Q (0, 0) zS0 4 [(0, .inr (.inr 34)), (1, .inl h), (2, .inl b), (3, .inl s)] [] M := by
  intro n
  induction n with
  | zero => intro b s hn; exact absurd hn (Nat.not_lt_zero _)
  | succ n ih =>
    intro b s hn hI
    have hs6 := zsid_b h
    have hsd := hG.sid hh.1 hh.2
    refine z_iload_n 3 (zdec DX2_taker 4 rfl) rfl rfl ?_
    refine z_aload_n 0 (zdec DX2_taker 5 rfl) rfl rfl (by decide) ?_
    refine z_getr (rw1 := -44) (ki := 0) (r' := 1) 34 2 (zdec DX2_taker 6 rfl) rfl rfl shp34 rfl (by decide) rfl rfl fl_SixWalls_Families_22 (zPa hP 37 rfl) ?_
    refine z_getr (rw1 := -11) (ki := 2) (r' := 4) 1 1 (zdec DX2_taker 7 rfl) rfl rfl shp1 rfl (by decide) rfl rfl fl_SixWalls_Families_26 (zPa hP 11 rfl) ?_
    refine z_iload_n 1 (zdec DX2_taker 8 rfl) rfl rfl ?_
    refine z_iald 4 (zdec DX2_taker 9 rfl) rfl shp4 ⟨by omega, by omega⟩ ?_
    refine z_icmp_ge 82 (zdec DX2_taker 10 rfl) rfl (fun h14 => ?_) (fun h14 => ?_)
    ·
      refine z_weak (L' := [(2, .inl b)]) (by simp) ?_
      exact hx82 b (by have e : s = zsid h := (by omega); rw [hI.2.2.2, e]; rfl)
    ·
      refine z_aload_n 0 (zdec DX2_taker 11 rfl) rfl rfl (by decide) ?_
      refine z_getr (rw1 := -44) (ki := 0) (r' := 1) 34 2 (zdec DX2_taker 12 rfl) rfl rfl shp34 rfl (by decide) rfl rfl fl_SixWalls_Families_22 (zPa hP 37 rfl) ?_
      refine z_getr (rw1 := -11) (ki := 4) (r' := 6) 1 1 (zdec DX2_taker 13 rfl) rfl rfl shp1 rfl (by decide) rfl rfl fl_SixWalls_Families_31 (zPa hP 13 rfl) ?_
      refine z_iload_n 1 (zdec DX2_taker 14 rfl) rfl rfl ?_
      refine z_bipush 6 (zdec DX2_taker 15 rfl) (by decide) ?_
      refine z_imul (zdec DX2_taker 16 rfl) (by unfold z32; omega) ?_
      refine z_iload_n 3 (zdec DX2_taker 17 rfl) rfl rfl ?_
      refine z_iadd (zdec DX2_taker 18 rfl) (by unfold z32; omega) ?_
      refine z_iald 6 (zdec DX2_taker 19 rfl) rfl shp6 ⟨by omega, by omega⟩ ?_
      have en := hG.nat (w := h * 6 + s) (by omega) (by omega)
      have nb := znat_b (h * 6 + s)
      rw [en]
      refine z_istore (L' := [(0, .inr (.inr 34)), (1, .inl h), (2, .inl b), (3, .inl s), (4, .inl (znat (h * 6 + s)))]) (zdec DX2_taker 20 rfl) rfl (by decide) ?_
      refine z_aload_n 0 (zdec DX2_taker 21 rfl) rfl rfl (by decide) ?_
      refine z_getr (rw1 := -44) (ki := 0) (r' := 1) 34 2 (zdec DX2_taker 22 rfl) rfl rfl shp34 rfl (by decide) rfl rfl fl_SixWalls_Families_22 (zPa hP 37 rfl) ?_
      refine z_getr (rw1 := -11) (ki := 5) (r' := 7) 1 1 (zdec DX2_taker 23 rfl) rfl rfl shp1 rfl (by decide) rfl rfl fl_SixWalls_Families_34 (zPa hP 14 rfl) ?_
      refine z_iload 4 (zdec DX2_taker 24 rfl) rfl ?_
      refine z_iald 7 (zdec DX2_taker 25 rfl) rfl shp7 ⟨by omega, by omega⟩ ?_
      refine z_iconst 1 (zdec DX2_taker 26 rfl) (by decide) ?_
      refine z_icmp_ne 76 (zdec DX2_taker 27 rfl) rfl (fun h44 => ?_) (fun h44 => ?_)
      ·
        refine z_iinc (L' := [(0, .inr (.inr 34)), (1, .inl h), (2, .inl b), (3, .inl (s + 1)), (4, .inl (znat (h * 6 + s)))]) 3 (zdec DX2_taker 43 rfl) rfl (by unfold z32; omega) rfl (by decide) ?_
        refine z_goto 4 (zdec DX2_taker 44 rfl) rfl ?_
        refine z_weak (L' := [(0, .inr (.inr 34)), (1, .inl h), (2, .inl b), (3, .inl (s + 1))]) (by simp) ?_
        exact ih b (s + 1) (by omega) ⟨by omega, by omega, by omega, by rw [zfo_s _ _ (by omega), ← hI.2.2.2]; rw [if_neg (fun q => h44 q.1)]⟩
      ·
        refine z_iload_n 2 (zdec DX2_taker 28 rfl) rfl rfl ?_
        refine z_if_lt 73 (zdec DX2_taker 29 rfl) rfl (fun h48 => ?_) (fun h48 => ?_)
        ·
          refine z_iload 4 (zdec DX2_taker 41 rfl) rfl ?_
          refine z_istore_n (L' := [(0, .inr (.inr 34)), (1, .inl h), (2, .inl (znat (h * 6 + s))), (3, .inl s), (4, .inl (znat (h * 6 + s)))]) (zdec DX2_taker 42 rfl) rfl rfl (by decide) ?_
          refine z_iinc (L' := [(0, .inr (.inr 34)), (1, .inl h), (2, .inl (znat (h * 6 + s))), (3, .inl (s + 1)), (4, .inl (znat (h * 6 + s)))]) 3 (zdec DX2_taker 43 rfl) rfl (by unfold z32; omega) rfl (by decide) ?_
          refine z_goto 4 (zdec DX2_taker 44 rfl) rfl ?_
          refine z_weak (L' := [(0, .inr (.inr 34)), (1, .inl h), (2, .inl (znat (h * 6 + s))), (3, .inl (s + 1))]) (by simp) ?_
          exact ih (znat (h * 6 + s)) (s + 1) (by omega) ⟨by omega, by omega, by omega, by rw [zfo_s _ _ (by omega), ← hI.2.2.2]; rw [if_pos ⟨by omega, by omega⟩]⟩
        ·
          refine z_aload_n 0 (zdec DX2_taker 30 rfl) rfl rfl (by decide) ?_
          refine z_getr (rw1 := -44) (ki := 0) (r' := 1) 34 2 (zdec DX2_taker 31 rfl) rfl rfl shp34 rfl (by decide) rfl rfl fl_SixWalls_Families_22 (zPa hP 37 rfl) ?_
          refine z_getr (rw1 := -11) (ki := 8) (r' := 10) 1 1 (zdec DX2_taker 32 rfl) rfl rfl shp1 rfl (by decide) rfl rfl fl_SixWalls_Families_37 (zPa hP 17 rfl) ?_
          refine z_iload 4 (zdec DX2_taker 33 rfl) rfl ?_
          refine z_iald 10 (zdec DX2_taker 34 rfl) rfl shp10 ⟨by omega, by omega⟩ ?_
          refine z_aload_n 0 (zdec DX2_taker 35 rfl) rfl rfl (by decide) ?_
          refine z_getr (rw1 := -44) (ki := 0) (r' := 1) 34 2 (zdec DX2_taker 36 rfl) rfl rfl shp34 rfl (by decide) rfl rfl fl_SixWalls_Families_22 (zPa hP 37 rfl) ?_
          refine z_getr (rw1 := -11) (ki := 8) (r' := 10) 1 1 (zdec DX2_taker 37 rfl) rfl rfl shp1 rfl (by decide) rfl rfl fl_SixWalls_Families_37 (zPa hP 17 rfl) ?_
          refine z_iload_n 2 (zdec DX2_taker 38 rfl) rfl rfl ?_
          refine z_iald 10 (zdec DX2_taker 39 rfl) rfl shp10 ⟨by omega, by omega⟩ ?_
          refine z_icmp_le 76 (zdec DX2_taker 40 rfl) rfl (fun h70 => ?_) (fun h70 => ?_)
          ·
            refine z_iinc (L' := [(0, .inr (.inr 34)), (1, .inl h), (2, .inl b), (3, .inl (s + 1)), (4, .inl (znat (h * 6 + s)))]) 3 (zdec DX2_taker 43 rfl) rfl (by unfold z32; omega) rfl (by decide) ?_
            refine z_goto 4 (zdec DX2_taker 44 rfl) rfl ?_
            refine z_weak (L' := [(0, .inr (.inr 34)), (1, .inl h), (2, .inl b), (3, .inl (s + 1))]) (by simp) ?_
            exact ih b (s + 1) (by omega) ⟨by omega, by omega, by omega, by rw [zfo_s _ _ (by omega), ← hI.2.2.2]; rw [if_neg (by omega)]⟩
          ·
            refine z_iload 4 (zdec DX2_taker 41 rfl) rfl ?_
            refine z_istore_n (L' := [(0, .inr (.inr 34)), (1, .inl h), (2, .inl (znat (h * 6 + s))), (3, .inl s), (4, .inl (znat (h * 6 + s)))]) (zdec DX2_taker 42 rfl) rfl rfl (by decide) ?_
            refine z_iinc (L' := [(0, .inr (.inr 34)), (1, .inl h), (2, .inl (znat (h * 6 + s))), (3, .inl (s + 1)), (4, .inl (znat (h * 6 + s)))]) 3 (zdec DX2_taker 43 rfl) rfl (by unfold z32; omega) rfl (by decide) ?_
            refine z_goto 4 (zdec DX2_taker 44 rfl) rfl ?_
            refine z_weak (L' := [(0, .inr (.inr 34)), (1, .inl h), (2, .inl (znat (h * 6 + s))), (3, .inl (s + 1))]) (by simp) ?_
            exact ih (znat (h * 6 + s)) (s + 1) (by omega) ⟨by omega, by omega, by omega, by rw [zfo_s _ _ (by omega), ← hI.2.2.2]; rw [if_pos ⟨by omega, by omega⟩]⟩
set_option maxHeartbeats 4000000 in
theorem cX2_taker {M : zMm} (hP : zP M) (hG : zG M) (h : Int) (hh : 0 ≤ h ∧ h < 16) : zW mX2_taker 1 (fun rv S' M' => S' = zS0 ∧ M = M' ∧ rv = some (.inl (ztk (M 7) (M 10) h))) (0, 0) zS0 0 (zargs 0 [.inr (.inr 34), .inl h]) [] M := by
  change zW _ _ _ _ _ 0 [(0, .inr (.inr 34)), (1, .inl h)] [] M
  refine z_iconst (-1) (zdec DX2_taker 0 rfl) (by decide) ?_
  refine z_istore_n (L' := [(0, .inr (.inr 34)), (1, .inl h), (2, .inl (-1))]) (zdec DX2_taker 1 rfl) rfl rfl (by decide) ?_
  refine z_iconst 0 (zdec DX2_taker 2 rfl) (by decide) ?_
  refine z_istore_n (L' := [(0, .inr (.inr 34)), (1, .inl h), (2, .inl (-1)), (3, .inl 0)]) (zdec DX2_taker 3 rfl) rfl rfl (by decide) ?_
  refine lp_X2_taker_4 hP hG h hh (hx82 := fun b hx => ?_) _ (-1) 0 (Nat.lt_succ_self _) ⟨by omega, (zsid_b h).1, by omega, rfl⟩
  refine z_iload_n 0 (zdec DX2_taker 45 rfl) rfl rfl ?_
  exact z_iret (zdec DX2_taker 46 rfl) rfl (⟨rfl, rfl, zri hx⟩)
set_option maxHeartbeats 4000000 in
theorem lp_X2_bear_2 {M : zMm} (hP : zP M) (hG : zG M) (h : Int) (hh : 0 ≤ h ∧ h < 16) (hx81 : (zborn (M 7) h = -1) → zW mX2_bear 1 (fun rv S' M' => S' = zS0 ∧ rv = none ∧ zFm M M' (zbirth (zFam M) h)) (0, 0) zS0 81 [] [] M) : ∀ (n : Nat) (s : Int), (6 - s).toNat < n → (0 ≤ s ∧ s ≤ zsid h ∧ ∀ j : Int, 0 ≤ j → j < s → ¬ M 7 (znat (h * 6 + j)) ≠ 1) → zW mX2_bear 1 (fun rv S' M' => S' = zS0 ∧ rv = none ∧ zFm M M' (zbirth (zFam M) h)) (0, 0) zS0 2 [(0, .inr (.inr 34)), (1, .inl h), (2, .inl s)] [] M := by
  intro n
  induction n with
  | zero => intro s hn; exact absurd hn (Nat.not_lt_zero _)
  | succ n ih =>
    intro s hn hI
    have hs6 := zsid_b h
    have hsd := hG.sid hh.1 hh.2
    refine z_iload_n 2 (zdec DX2_bear 2 rfl) rfl rfl ?_
    refine z_aload_n 0 (zdec DX2_bear 3 rfl) rfl rfl (by decide) ?_
    refine z_getr (rw1 := -44) (ki := 0) (r' := 1) 34 2 (zdec DX2_bear 4 rfl) rfl rfl shp34 rfl (by decide) rfl rfl fl_SixWalls_Families_22 (zPa hP 37 rfl) ?_
    refine z_getr (rw1 := -11) (ki := 2) (r' := 4) 1 1 (zdec DX2_bear 5 rfl) rfl rfl shp1 rfl (by decide) rfl rfl fl_SixWalls_Families_26 (zPa hP 11 rfl) ?_
    refine z_iload_n 1 (zdec DX2_bear 6 rfl) rfl rfl ?_
    refine z_iald 4 (zdec DX2_bear 7 rfl) rfl shp4 ⟨by omega, by omega⟩ ?_
    refine z_icmp_ge 81 (zdec DX2_bear 8 rfl) rfl (fun h12 => ?_) (fun h12 => ?_)
    ·
      refine z_weak (L' := []) (by simp) ?_
      exact hx81  (zff_no fun j h0 h1 => hI.2.2 j h0 (by omega))
    ·
      refine z_aload_n 0 (zdec DX2_bear 9 rfl) rfl rfl (by decide) ?_
      refine z_getr (rw1 := -44) (ki := 0) (r' := 1) 34 2 (zdec DX2_bear 10 rfl) rfl rfl shp34 rfl (by decide) rfl rfl fl_SixWalls_Families_22 (zPa hP 37 rfl) ?_
      refine z_getr (rw1 := -11) (ki := 4) (r' := 6) 1 1 (zdec DX2_bear 11 rfl) rfl rfl shp1 rfl (by decide) rfl rfl fl_SixWalls_Families_31 (zPa hP 13 rfl) ?_
      refine z_iload_n 1 (zdec DX2_bear 12 rfl) rfl rfl ?_
      refine z_bipush 6 (zdec DX2_bear 13 rfl) (by decide) ?_
      refine z_imul (zdec DX2_bear 14 rfl) (by unfold z32; omega) ?_
      refine z_iload_n 2 (zdec DX2_bear 15 rfl) rfl rfl ?_
      refine z_iadd (zdec DX2_bear 16 rfl) (by unfold z32; omega) ?_
      refine z_iald 6 (zdec DX2_bear 17 rfl) rfl shp6 ⟨by omega, by omega⟩ ?_
      have en := hG.nat (w := h * 6 + s) (by omega) (by omega)
      have nb := znat_b (h * 6 + s)
      rw [en]
      refine z_istore_n (L' := [(0, .inr (.inr 34)), (1, .inl h), (2, .inl s), (3, .inl (znat (h * 6 + s)))]) (zdec DX2_bear 18 rfl) rfl rfl (by decide) ?_
      refine z_aload_n 0 (zdec DX2_bear 19 rfl) rfl rfl (by decide) ?_
      refine z_getr (rw1 := -44) (ki := 0) (r' := 1) 34 2 (zdec DX2_bear 20 rfl) rfl rfl shp34 rfl (by decide) rfl rfl fl_SixWalls_Families_22 (zPa hP 37 rfl) ?_
      refine z_getr (rw1 := -11) (ki := 5) (r' := 7) 1 1 (zdec DX2_bear 21 rfl) rfl rfl shp1 rfl (by decide) rfl rfl fl_SixWalls_Families_34 (zPa hP 14 rfl) ?_
      refine z_iload_n 3 (zdec DX2_bear 22 rfl) rfl rfl ?_
      refine z_iald 7 (zdec DX2_bear 23 rfl) rfl shp7 ⟨by omega, by omega⟩ ?_
      refine z_iconst 1 (zdec DX2_bear 24 rfl) (by decide) ?_
      refine z_icmp_ne 46 (zdec DX2_bear 25 rfl) rfl (fun h40 => ?_) (fun h40 => ?_)
      ·
        refine z_aload_n 0 (zdec DX2_bear 27 rfl) rfl rfl (by decide) ?_
        refine z_getr (rw1 := -44) (ki := 0) (r' := 1) 34 2 (zdec DX2_bear 28 rfl) rfl rfl shp34 rfl (by decide) rfl rfl fl_SixWalls_Families_22 (zPa hP 37 rfl) ?_
        refine z_getr (rw1 := -11) (ki := 5) (r' := 7) 1 1 (zdec DX2_bear 29 rfl) rfl rfl shp1 rfl (by decide) rfl rfl fl_SixWalls_Families_34 (zPa hP 14 rfl) ?_
        refine z_iload_n 3 (zdec DX2_bear 30 rfl) rfl rfl ?_
        refine z_iconst 1 (zdec DX2_bear 31 rfl) (by decide) ?_
        refine z_iast 7 (zdec DX2_bear 32 rfl) rfl shp7 ⟨by omega, by omega⟩ ?_
        refine z_aload_n 0 (zdec DX2_bear 33 rfl) rfl rfl (by decide) ?_
        refine z_getr (rw1 := -44) (ki := 0) (r' := 1) 34 2 (zdec DX2_bear 34 rfl) rfl rfl shp34 rfl (by decide) rfl rfl fl_SixWalls_Families_22 (zPa (zP_up hP (by decide)) 37 rfl) ?_
        refine z_getr (rw1 := -11) (ki := 8) (r' := 10) 1 1 (zdec DX2_bear 35 rfl) rfl rfl shp1 rfl (by decide) rfl rfl fl_SixWalls_Families_37 (zPa (zP_up hP (by decide)) 17 rfl) ?_
        refine z_iload_n 3 (zdec DX2_bear 36 rfl) rfl rfl ?_
        refine z_aload_n 0 (zdec DX2_bear 37 rfl) rfl rfl (by decide) ?_
        refine z_getr (rw1 := -44) (ki := 0) (r' := 1) 34 2 (zdec DX2_bear 38 rfl) rfl rfl shp34 rfl (by decide) rfl rfl fl_SixWalls_Families_22 (zPa (zP_up hP (by decide)) 37 rfl) ?_
        refine z_getr (rw1 := -11) (ki := 8) (r' := 10) 1 1 (zdec DX2_bear 39 rfl) rfl rfl shp1 rfl (by decide) rfl rfl fl_SixWalls_Families_37 (zPa (zP_up hP (by decide)) 17 rfl) ?_
        refine z_iload_n 1 (zdec DX2_bear 40 rfl) rfl rfl ?_
        refine z_iald 10 (zdec DX2_bear 41 rfl) rfl shp10 ⟨by omega, by omega⟩ ?_
        rw [show (zup M 7 (znat (h * 6 + s)) 1) 10 h = M 10 h from by simp [zup, zcpy]]
        refine z_iast 10 (zdec DX2_bear 42 rfl) rfl shp10 ⟨by omega, by omega⟩ ?_
        exact z_vret (zdec DX2_bear 43 rfl) rfl (⟨rfl, rfl, by have e : zborn (M 7) h = znat (h * 6 + s) := (zff_hit (g := fun s => znat (h * 6 + s)) (p := fun q => M 7 q ≠ 1) (n := zsid h) ⟨hI.1, by omega⟩ (by show znat (h * 6 + s) ≠ -1; omega) hI.2.2 (by show M 7 (znat (h * 6 + s)) ≠ 1; omega)); unfold zFam zbirth; rw [show zborn (M 7, M 8, M 10, M 12).1 h = znat (h * 6 + s) from e, if_neg (by omega)]; simp only [zup_row (show (7 : Int) ≠ 10 by decide), zup_row (show (8 : Int) ≠ 10 by decide), zup_row (show (8 : Int) ≠ 7 by decide), zup_row (show (12 : Int) ≠ 10 by decide), zup_row (show (12 : Int) ≠ 7 by decide), zup_zpu, zup_row (show (10 : Int) ≠ 7 by decide)], fun c h0 h1 h2 h3 => by rw [zup_row h2, zup_row h0]⟩)
      ·
        refine z_goto 75 (zdec DX2_bear 26 rfl) rfl ?_
        refine z_iinc (L' := [(0, .inr (.inr 34)), (1, .inl h), (2, .inl (s + 1)), (3, .inl (znat (h * 6 + s)))]) 2 (zdec DX2_bear 44 rfl) rfl (by unfold z32; omega) rfl (by decide) ?_
        refine z_goto 2 (zdec DX2_bear 45 rfl) rfl ?_
        refine z_weak (L' := [(0, .inr (.inr 34)), (1, .inl h), (2, .inl (s + 1))]) (by simp) ?_
        exact ih (s + 1) (by omega) ⟨by omega, by omega, fun j h0 h1 => (by by_cases hj : j = s; (subst hj; omega); (exact hI.2.2 j h0 (by omega)))⟩
set_option maxHeartbeats 4000000 in
theorem cX2_bear {M : zMm} (hP : zP M) (hG : zG M) (h : Int) (hh : 0 ≤ h ∧ h < 16) : zW mX2_bear 1 (fun rv S' M' => S' = zS0 ∧ rv = none ∧ zFm M M' (zbirth (zFam M) h)) (0, 0) zS0 0 (zargs 0 [.inr (.inr 34), .inl h]) [] M := by
  change zW _ _ _ _ _ 0 [(0, .inr (.inr 34)), (1, .inl h)] [] M
  refine z_iconst 0 (zdec DX2_bear 0 rfl) (by decide) ?_
  refine z_istore_n (L' := [(0, .inr (.inr 34)), (1, .inl h), (2, .inl 0)]) (zdec DX2_bear 1 rfl) rfl rfl (by decide) ?_
  refine lp_X2_bear_2 hP hG h hh (hx81 := fun hx => ?_) _ 0 (Nat.lt_succ_self _) ⟨by omega, (zsid_b h).1, fun j h0 h1 => by omega⟩
  exact z_vret (zdec DX2_bear 46 rfl) rfl (⟨rfl, rfl, by have e : zborn (M 7) h = -1 := hx; unfold zbirth; rw [show zborn (zFam M).1 h = -1 from e, if_pos (by decide)], fun _ _ _ _ _ => rfl⟩)
set_option maxHeartbeats 4000000 in
theorem lp_X2_feud_2 {M : zMm} (hP : zP M) (hG : zG M) (h : Int) (hh : 0 ≤ h ∧ h < 16) (hx62 : (zfeud (M 12) h = -1) → zW mX2_feud 1 (fun rv S' M' => S' = zS0 ∧ rv = none ∧ zFm M M' (zquarrel (zFam M) h)) (0, 0) zS0 62 [] [] M) : ∀ (n : Nat) (s : Int), (6 - s).toNat < n → (0 ≤ s ∧ s ≤ zsid h ∧ ∀ j : Int, 0 ≤ j → j < s → ¬ M 12 (zwat (h * 6 + j)) ≠ 0) → zW mX2_feud 1 (fun rv S' M' => S' = zS0 ∧ rv = none ∧ zFm M M' (zquarrel (zFam M) h)) (0, 0) zS0 2 [(0, .inr (.inr 34)), (1, .inl h), (2, .inl s)] [] M := by
  intro n
  induction n with
  | zero => intro s hn; exact absurd hn (Nat.not_lt_zero _)
  | succ n ih =>
    intro s hn hI
    have hs6 := zsid_b h
    have hsd := hG.sid hh.1 hh.2
    refine z_iload_n 2 (zdec DX2_feud 2 rfl) rfl rfl ?_
    refine z_aload_n 0 (zdec DX2_feud 3 rfl) rfl rfl (by decide) ?_
    refine z_getr (rw1 := -44) (ki := 0) (r' := 1) 34 2 (zdec DX2_feud 4 rfl) rfl rfl shp34 rfl (by decide) rfl rfl fl_SixWalls_Families_22 (zPa hP 37 rfl) ?_
    refine z_getr (rw1 := -11) (ki := 2) (r' := 4) 1 1 (zdec DX2_feud 5 rfl) rfl rfl shp1 rfl (by decide) rfl rfl fl_SixWalls_Families_26 (zPa hP 11 rfl) ?_
    refine z_iload_n 1 (zdec DX2_feud 6 rfl) rfl rfl ?_
    refine z_iald 4 (zdec DX2_feud 7 rfl) rfl shp4 ⟨by omega, by omega⟩ ?_
    refine z_icmp_ge 62 (zdec DX2_feud 8 rfl) rfl (fun h12 => ?_) (fun h12 => ?_)
    ·
      refine z_weak (L' := []) (by simp) ?_
      exact hx62  (zff_no fun j h0 h1 => hI.2.2 j h0 (by omega))
    ·
      refine z_aload_n 0 (zdec DX2_feud 9 rfl) rfl rfl (by decide) ?_
      refine z_getr (rw1 := -44) (ki := 0) (r' := 1) 34 2 (zdec DX2_feud 10 rfl) rfl rfl shp34 rfl (by decide) rfl rfl fl_SixWalls_Families_22 (zPa hP 37 rfl) ?_
      refine z_getr (rw1 := -11) (ki := 3) (r' := 5) 1 1 (zdec DX2_feud 11 rfl) rfl rfl shp1 rfl (by decide) rfl rfl fl_SixWalls_Families_70 (zPa hP 12 rfl) ?_
      refine z_iload_n 1 (zdec DX2_feud 12 rfl) rfl rfl ?_
      refine z_bipush 6 (zdec DX2_feud 13 rfl) (by decide) ?_
      refine z_imul (zdec DX2_feud 14 rfl) (by unfold z32; omega) ?_
      refine z_iload_n 2 (zdec DX2_feud 15 rfl) rfl rfl ?_
      refine z_iadd (zdec DX2_feud 16 rfl) (by unfold z32; omega) ?_
      refine z_iald 5 (zdec DX2_feud 17 rfl) rfl shp5 ⟨by omega, by omega⟩ ?_
      have en := hG.wat (w := h * 6 + s) (by omega) (by omega)
      have nb := zwat_b (h * 6 + s)
      rw [en]
      refine z_istore_n (L' := [(0, .inr (.inr 34)), (1, .inl h), (2, .inl s), (3, .inl (zwat (h * 6 + s)))]) (zdec DX2_feud 18 rfl) rfl rfl (by decide) ?_
      refine z_aload_n 0 (zdec DX2_feud 19 rfl) rfl rfl (by decide) ?_
      refine z_getr (rw1 := -44) (ki := 0) (r' := 1) 34 2 (zdec DX2_feud 20 rfl) rfl rfl shp34 rfl (by decide) rfl rfl fl_SixWalls_Families_22 (zPa hP 37 rfl) ?_
      refine z_getr (rw1 := -11) (ki := 10) (r' := 12) 1 1 (zdec DX2_feud 21 rfl) rfl rfl shp1 rfl (by decide) rfl rfl fl_SixWalls_Families_44 (zPa hP 19 rfl) ?_
      refine z_iload_n 3 (zdec DX2_feud 22 rfl) rfl rfl ?_
      refine z_iald 12 (zdec DX2_feud 23 rfl) rfl shp12 ⟨by omega, by omega⟩ ?_
      refine z_if_ne 45 (zdec DX2_feud 24 rfl) rfl (fun h39 => ?_) (fun h39 => ?_)
      ·
        refine z_aload_n 0 (zdec DX2_feud 26 rfl) rfl rfl (by decide) ?_
        refine z_getr (rw1 := -44) (ki := 0) (r' := 1) 34 2 (zdec DX2_feud 27 rfl) rfl rfl shp34 rfl (by decide) rfl rfl fl_SixWalls_Families_22 (zPa hP 37 rfl) ?_
        refine z_getr (rw1 := -11) (ki := 10) (r' := 12) 1 1 (zdec DX2_feud 28 rfl) rfl rfl shp1 rfl (by decide) rfl rfl fl_SixWalls_Families_44 (zPa hP 19 rfl) ?_
        refine z_iload_n 3 (zdec DX2_feud 29 rfl) rfl rfl ?_
        refine z_iconst 0 (zdec DX2_feud 30 rfl) (by decide) ?_
        refine z_iast 12 (zdec DX2_feud 31 rfl) rfl shp12 ⟨by omega, by omega⟩ ?_
        exact z_vret (zdec DX2_feud 32 rfl) rfl (⟨rfl, rfl, by have e : zfeud (M 12) h = zwat (h * 6 + s) := (zff_hit (g := fun s => zwat (h * 6 + s)) (p := fun q => M 12 q ≠ 0) (n := zsid h) ⟨hI.1, by omega⟩ (by show zwat (h * 6 + s) ≠ -1; omega) hI.2.2 (by show M 12 (zwat (h * 6 + s)) ≠ 0; omega)); unfold zFam zquarrel; rw [show zfeud (M 7, M 8, M 10, M 12).2.2.2 h = zwat (h * 6 + s) from e, if_neg (by omega)]; simp only [zup_row (show (7 : Int) ≠ 12 by decide), zup_row (show (8 : Int) ≠ 12 by decide), zup_row (show (10 : Int) ≠ 12 by decide), zup_zpu], fun c h0 h1 h2 h3 => by rw [zup_row h3]⟩)
      ·
        refine z_goto 56 (zdec DX2_feud 25 rfl) rfl ?_
        refine z_iinc (L' := [(0, .inr (.inr 34)), (1, .inl h), (2, .inl (s + 1)), (3, .inl (zwat (h * 6 + s)))]) 2 (zdec DX2_feud 33 rfl) rfl (by unfold z32; omega) rfl (by decide) ?_
        refine z_goto 2 (zdec DX2_feud 34 rfl) rfl ?_
        refine z_weak (L' := [(0, .inr (.inr 34)), (1, .inl h), (2, .inl (s + 1))]) (by simp) ?_
        exact ih (s + 1) (by omega) ⟨by omega, by omega, fun j h0 h1 => (by by_cases hj : j = s; (subst hj; omega); (exact hI.2.2 j h0 (by omega)))⟩
set_option maxHeartbeats 4000000 in
theorem cX2_feud {M : zMm} (hP : zP M) (hG : zG M) (h : Int) (hh : 0 ≤ h ∧ h < 16) : zW mX2_feud 1 (fun rv S' M' => S' = zS0 ∧ rv = none ∧ zFm M M' (zquarrel (zFam M) h)) (0, 0) zS0 0 (zargs 0 [.inr (.inr 34), .inl h]) [] M := by
  change zW _ _ _ _ _ 0 [(0, .inr (.inr 34)), (1, .inl h)] [] M
  refine z_iconst 0 (zdec DX2_feud 0 rfl) (by decide) ?_
  refine z_istore_n (L' := [(0, .inr (.inr 34)), (1, .inl h), (2, .inl 0)]) (zdec DX2_feud 1 rfl) rfl rfl (by decide) ?_
  refine lp_X2_feud_2 hP hG h hh (hx62 := fun hx => ?_) _ 0 (Nat.lt_succ_self _) ⟨by omega, (zsid_b h).1, fun j h0 h1 => by omega⟩
  exact z_vret (zdec DX2_feud 35 rfl) rfl (⟨rfl, rfl, by have e : zfeud (M 12) h = -1 := hx; unfold zquarrel; rw [show zfeud (zFam M).2.2.2 h = -1 from e, if_pos (by decide)], fun _ _ _ _ _ => rfl⟩)
set_option maxHeartbeats 4000000 in
theorem cX2_befall {M : zMm} (hP : zP M) (hG : zG M) (hb : zBr (zFam M)) (h d : Int) (hh : 0 ≤ h ∧ h < 16) : zW mX2_befall 2 (fun rv S' M' => S' = zS0 ∧ rv = none ∧ zFm M M' (zbef (zFam M) h d)) (0, 0) zS0 0 (zargs 0 [.inr (.inr 34), .inl h, .inl d]) [] M := by
  change zW _ _ _ _ _ 0 [(0, .inr (.inr 34)), (1, .inl h), (2, .inl d)] [] M
  have hf : 0 ≤ M 8 h ∧ M 8 h ≤ 9 := (hb.1 h hh.1 hh.2).2.1
  refine z_iload_n 2 (zdec DX2_befall 0 rfl) rfl rfl ?_
  refine z_tsw (zdec DX2_befall 1 rfl) (by decide) (fun j off hj he => ?_) (fun hd => ?_)
  · match j, hj, he with
    | 0, hj, he =>
      cases hj
      refine ⟨32, rfl, ?_⟩
      have h1 : d = 0 := by simpa using he
      refine z_aload_n 0 (zdec DX2_befall 2 rfl) rfl rfl (by decide) ?_
      refine z_iload_n 1 (zdec DX2_befall 3 rfl) rfl rfl ?_
      refine z_inv mX2_bear 34 2 [.inl h] (zdec DX2_befall 4 rfl) ml_SixWalls_Families_52 okX2_bear rfl shp34 rfl rfl rfl rfl (Nat.le_of_ble_eq_true rfl) (Nat.le_of_ble_eq_true rfl) (b' := (0, 0)) ⟨Nat.le_refl 0, Nat.le_refl 0⟩ (Nat.le_of_ble_eq_true rfl) (cX2_bear hP hG h hh) (fun rv9 S9 M9 h9 => ?_)
      obtain ⟨rfl, rfl, hc⟩ := h9
      change zW _ _ _ _ _ 37 [(0, .inr (.inr 34)), (1, .inl h), (2, .inl d)] [] M9
      refine z_goto 103 (zdec DX2_befall 5 rfl) rfl ?_
      exact z_vret (zdec DX2_befall 40 rfl) rfl (⟨rfl, rfl, by unfold zbef; rw [if_pos h1]; exact hc⟩)
    | 1, hj, he =>
      cases hj
      refine ⟨40, rfl, ?_⟩
      have h1 : d = 1 := by simpa using he
      refine z_aload_n 0 (zdec DX2_befall 6 rfl) rfl rfl (by decide) ?_
      refine z_iload_n 1 (zdec DX2_befall 7 rfl) rfl rfl ?_
      refine z_inv mX2_feud 34 2 [.inl h] (zdec DX2_befall 8 rfl) ml_SixWalls_Families_56 okX2_feud rfl shp34 rfl rfl rfl rfl (Nat.le_of_ble_eq_true rfl) (Nat.le_of_ble_eq_true rfl) (b' := (0, 0)) ⟨Nat.le_refl 0, Nat.le_refl 0⟩ (Nat.le_of_ble_eq_true rfl) (cX2_feud hP hG h hh) (fun rv9 S9 M9 h9 => ?_)
      obtain ⟨rfl, rfl, hc⟩ := h9
      change zW _ _ _ _ _ 45 [(0, .inr (.inr 34)), (1, .inl h), (2, .inl d)] [] M9
      refine z_goto 103 (zdec DX2_befall 9 rfl) rfl ?_
      exact z_vret (zdec DX2_befall 40 rfl) rfl (⟨rfl, rfl, by unfold zbef; rw [if_neg (by omega), if_pos h1]; exact hc⟩)
    | 2, hj, he =>
      cases hj
      refine ⟨48, rfl, ?_⟩
      have h1 : d = 2 := by simpa using he
      refine z_aload_n 0 (zdec DX2_befall 10 rfl) rfl rfl (by decide) ?_
      refine z_getr (rw1 := -44) (ki := 0) (r' := 1) 34 2 (zdec DX2_befall 11 rfl) rfl rfl shp34 rfl (by decide) rfl rfl fl_SixWalls_Families_22 (zPa hP 37 rfl) ?_
      refine z_getr (rw1 := -11) (ki := 6) (r' := 8) 1 1 (zdec DX2_befall 12 rfl) rfl rfl shp1 rfl (by decide) rfl rfl fl_SixWalls_Families_59 (zPa hP 15 rfl) ?_
      refine z_iload_n 1 (zdec DX2_befall 13 rfl) rfl rfl ?_
      refine z_bipush 9 (zdec DX2_befall 14 rfl) (by decide) ?_
      refine z_aload_n 0 (zdec DX2_befall 15 rfl) rfl rfl (by decide) ?_
      refine z_getr (rw1 := -44) (ki := 0) (r' := 1) 34 2 (zdec DX2_befall 16 rfl) rfl rfl shp34 rfl (by decide) rfl rfl fl_SixWalls_Families_22 (zPa hP 37 rfl) ?_
      refine z_getr (rw1 := -11) (ki := 6) (r' := 8) 1 1 (zdec DX2_befall 17 rfl) rfl rfl shp1 rfl (by decide) rfl rfl fl_SixWalls_Families_59 (zPa hP 15 rfl) ?_
      refine z_iload_n 1 (zdec DX2_befall 18 rfl) rfl rfl ?_
      refine z_iald 8 (zdec DX2_befall 19 rfl) rfl shp8 ⟨by omega, by omega⟩ ?_
      refine z_iconst 1 (zdec DX2_befall 20 rfl) (by decide) ?_
      refine z_iadd (zdec DX2_befall 21 rfl) (by unfold z32; omega) ?_
      refine z_mmin (zdec DX2_befall 22 rfl) ml_SixWalls_Families_62 (by decide) (Nat.le_of_ble_eq_true rfl) ?_
      refine z_iast 8 (zdec DX2_befall 23 rfl) rfl shp8 ⟨by omega, by omega⟩ ?_
      refine z_goto 103 (zdec DX2_befall 24 rfl) rfl ?_
      exact z_vret (zdec DX2_befall 40 rfl) rfl (⟨rfl, rfl, by unfold zbef; rw [if_neg (show ¬ d = 0 by omega), if_neg (show ¬ d = 1 by omega), if_pos h1]; unfold zFam; simp only [zup_row (show (7 : Int) ≠ 8 by decide), zup_row (show (12 : Int) ≠ 8 by decide), zup_row (show (10 : Int) ≠ 8 by decide), zup_zpu], fun c h0 h1 h2 h3 => by rw [zup_row h1]⟩)
    | 3, hj, he =>
      cases hj
      refine ⟨76, rfl, ?_⟩
      have h1 : d = 3 := by simpa using he
      refine z_aload_n 0 (zdec DX2_befall 25 rfl) rfl rfl (by decide) ?_
      refine z_getr (rw1 := -44) (ki := 0) (r' := 1) 34 2 (zdec DX2_befall 26 rfl) rfl rfl shp34 rfl (by decide) rfl rfl fl_SixWalls_Families_22 (zPa hP 37 rfl) ?_
      refine z_getr (rw1 := -11) (ki := 6) (r' := 8) 1 1 (zdec DX2_befall 27 rfl) rfl rfl shp1 rfl (by decide) rfl rfl fl_SixWalls_Families_59 (zPa hP 15 rfl) ?_
      refine z_iload_n 1 (zdec DX2_befall 28 rfl) rfl rfl ?_
      refine z_iconst 0 (zdec DX2_befall 29 rfl) (by decide) ?_
      refine z_aload_n 0 (zdec DX2_befall 30 rfl) rfl rfl (by decide) ?_
      refine z_getr (rw1 := -44) (ki := 0) (r' := 1) 34 2 (zdec DX2_befall 31 rfl) rfl rfl shp34 rfl (by decide) rfl rfl fl_SixWalls_Families_22 (zPa hP 37 rfl) ?_
      refine z_getr (rw1 := -11) (ki := 6) (r' := 8) 1 1 (zdec DX2_befall 32 rfl) rfl rfl shp1 rfl (by decide) rfl rfl fl_SixWalls_Families_59 (zPa hP 15 rfl) ?_
      refine z_iload_n 1 (zdec DX2_befall 33 rfl) rfl rfl ?_
      refine z_iald 8 (zdec DX2_befall 34 rfl) rfl shp8 ⟨by omega, by omega⟩ ?_
      refine z_iconst 1 (zdec DX2_befall 35 rfl) (by decide) ?_
      refine z_isub (zdec DX2_befall 36 rfl) (by unfold z32; omega) ?_
      refine z_mmax (zdec DX2_befall 37 rfl) ml_SixWalls_Families_67 (by decide) (Nat.le_of_ble_eq_true rfl) ?_
      refine z_iast 8 (zdec DX2_befall 38 rfl) rfl shp8 ⟨by omega, by omega⟩ ?_
      refine z_goto 103 (zdec DX2_befall 39 rfl) rfl ?_
      exact z_vret (zdec DX2_befall 40 rfl) rfl (⟨rfl, rfl, by unfold zbef; rw [if_neg (show ¬ d = 0 by omega), if_neg (show ¬ d = 1 by omega), if_neg (show ¬ d = 2 by omega), if_pos h1]; unfold zFam; simp only [zup_row (show (7 : Int) ≠ 8 by decide), zup_row (show (12 : Int) ≠ 8 by decide), zup_row (show (10 : Int) ≠ 8 by decide), zup_zpu], fun c h0 h1 h2 h3 => by rw [zup_row h1]⟩)
    | j + 4, hj, he => exact absurd (List.getElem?_eq_some_iff.mp hj).1 (by simp)
  · refine ⟨103, rfl, ?_⟩
    exact z_vret (zdec DX2_befall 40 rfl) rfl (⟨rfl, rfl, by unfold zbef; rw [if_neg (by omega), if_neg (by omega), if_neg (by omega), if_neg (by omega)], fun _ _ _ _ _ => rfl⟩)
theorem zFm_tr {M M1 M2 : zMm} {b : zB} (h : ∀ c : Int, c ≠ 7 → c ≠ 8 → c ≠ 10 → c ≠ 12 → M1 c = M c) (h2 : zFm M1 M2 b) : ∀ c : Int, c ≠ 7 → c ≠ 8 → c ≠ 10 → c ≠ 12 → M2 c = M c := fun c h0 h1 h3 h4 => (h2.2 c h0 h1 h3 h4).trans (h c h0 h1 h3 h4)
set_option maxHeartbeats 4000000 in
theorem lp_X2_grow_14 {Q : zPost} {M M2 : zMm} (hP : zP M) (hG : zG M) (x0 ny y : Int) (hP2 : zP M2) (hG2 : zG M2) (hB : zBr (zFam M2)) (hF : ∀ c : Int, c ≠ 7 → c ≠ 8 → c ≠ 10 → c ≠ 12 → M2 c = M c) (hx65 : ∀ (x1 : Int) (M3 : zMm), ((zFam M3, x1) = zfo zyear (zFam M2, x0) 16 ∧ zBr (zFam M3) ∧ ∀ c : Int, c ≠ 7 → c ≠ 8 → c ≠ 10 → c ≠ 12 → M3 c = M c) → zW mX2_grow 3 Q (0, 0) zS0 65 [(0, .inr (.inr 34)), (2, .inl ny), (3, .inl x1), (4, .inl y)] [] M3) : ∀ (n : Nat) (x : Int) (h : Int) (M3 : zMm), (16 - h).toNat < n → (0 ≤ h ∧ h ≤ 16 ∧ (zFam M3, x) = zfo zyear (zFam M2, x0) h ∧ zBr (zFam M3) ∧ ∀ c : Int, c ≠ 7 → c ≠ 8 → c ≠ 10 → c ≠ 12 → M3 c = M c) → zW mX2_grow 3 Q (0, 0) zS0 14 [(0, .inr (.inr 34)), (2, .inl ny), (3, .inl x), (4, .inl y), (5, .inl h)] [] M3 := by
  intro n
  induction n with
  | zero => intro x h M3 hn; exact absurd hn (Nat.not_lt_zero _)
  | succ n ih =>
    intro x h M3 hn hI
    obtain ⟨hI1, hI2, hq1, hq4, hq5⟩ := hI
    have hq3 : zFam M3 = zFam M3 := rfl
    have hP2 : zP M3 := zP_of hP fun r hr => hq5 r (by omega) (by omega) (by omega) (by omega)
    have hG2 : zG M3 := zG_of hG fun c h0 h1 => hq5 c (by omega) (by omega) (by omega) (by omega)
    refine z_iload 4 (zdec DX2_grow 9 rfl) rfl ?_
    refine z_bipush 16 (zdec DX2_grow 10 rfl) (by decide) ?_
    refine z_icmp_ge 65 (zdec DX2_grow 11 rfl) rfl (fun h18 => ?_) (fun h18 => ?_)
    ·
      refine z_weak (L' := [(0, .inr (.inr 34)), (2, .inl ny), (3, .inl x), (4, .inl y)]) (by simp) ?_
      exact hx65 x M3 ⟨by rw [show (16 : Int) = h by omega]; exact hq1, hq4, hq5⟩
    ·
      refine z_aload_n 0 (zdec DX2_grow 12 rfl) rfl rfl (by decide) ?_
      refine z_getr (rw1 := -44) (ki := 0) (r' := 1) 34 2 (zdec DX2_grow 13 rfl) rfl rfl shp34 rfl (by decide) rfl rfl fl_SixWalls_Families_22 (zPa hP2 37 rfl) ?_
      refine z_getr (rw1 := -11) (ki := 5) (r' := 7) 1 1 (zdec DX2_grow 14 rfl) rfl rfl shp1 rfl (by decide) rfl rfl fl_SixWalls_Families_34 (zPa hP2 14 rfl) ?_
      refine z_iload 4 (zdec DX2_grow 15 rfl) rfl ?_
      refine z_iald 7 (zdec DX2_grow 16 rfl) rfl shp7 ⟨by omega, by omega⟩ ?_
      refine z_if_ne 37 (zdec DX2_grow 17 rfl) rfl (fun h31 => ?_) (fun h31 => ?_)
      ·
        refine z_iload_n 2 (zdec DX2_grow 19 rfl) rfl rfl ?_
        refine z_ldc 1103515245 (zdec DX2_grow 20 rfl) kc_SixWalls_Families_47 rfl ⟨by decide, by decide⟩ ?_
        refine z_imulw (zdec DX2_grow 21 rfl) ?_
        refine z_sipush 12345 (zdec DX2_grow 22 rfl) (by decide) ?_
        refine z_iaddw (zdec DX2_grow 23 rfl) ?_
        refine z_istore_n (L' := [(0, .inr (.inr 34)), (2, .inl ny), (3, .inl (zw ((zw (x * 1103515245)) + 12345))), (4, .inl y), (5, .inl h)]) (zdec DX2_grow 24 rfl) rfl rfl (by decide) ?_
        refine z_aload_n 0 (zdec DX2_grow 25 rfl) rfl rfl (by decide) ?_
        refine z_iload 4 (zdec DX2_grow 26 rfl) rfl ?_
        refine z_iload_n 2 (zdec DX2_grow 27 rfl) rfl rfl ?_
        refine z_bipush 8 (zdec DX2_grow 28 rfl) (by decide) ?_
        refine z_iushr (zdec DX2_grow 29 rfl) ?_
        refine z_bipush 12 (zdec DX2_grow 30 rfl) (by decide) ?_
        refine z_iremw (zdec DX2_grow 31 rfl) (by decide) ?_
        refine z_inv mX2_befall 34 2 [.inl h, .inl (zw (Int.tmod (zushr (zw ((zw (x * 1103515245)) + 12345)) 8) 12))] (zdec DX2_grow 32 rfl) ml_SixWalls_Families_48 okX2_befall rfl shp34 rfl rfl rfl rfl (Nat.le_of_ble_eq_true rfl) (Nat.le_of_ble_eq_true rfl) (b' := (0, 0)) ⟨Nat.le_refl 0, Nat.le_refl 0⟩ (Nat.le_of_ble_eq_true rfl) (cX2_befall hP2 hG2 (by rw [hq3]; exact hq4) h (zw (Int.tmod (zushr (zw ((zw (x * 1103515245)) + 12345)) 8) 12)) ⟨by omega, by omega⟩) (fun rv9 S9 M56 h9 => ?_)
        obtain ⟨rfl, rfl, hc⟩ := h9
        change zW _ _ _ _ _ 59 [(0, .inr (.inr 34)), (2, .inl ny), (3, .inl (zw ((zw (x * 1103515245)) + 12345))), (4, .inl y), (5, .inl h)] [] M56
        refine z_iinc (L' := [(0, .inr (.inr 34)), (2, .inl ny), (3, .inl (zw ((zw (x * 1103515245)) + 12345))), (4, .inl y), (5, .inl (h + 1))]) 4 (zdec DX2_grow 33 rfl) rfl (by unfold z32; omega) rfl (by decide) ?_
        refine z_goto 14 (zdec DX2_grow 34 rfl) rfl ?_
        exact ih (zw ((zw (x * 1103515245)) + 12345)) (h + 1) M56 (by omega) ⟨by omega, by omega, by rw [zfo_s _ _ (by omega), ← hq1]; unfold zyear; rw [if_neg (show ¬ (zFam M3, x).1.1 h = 0 from (by show ¬ M3 7 h = 0; omega)), hc.1]; rfl, by rw [hc.1]; exact zBr_bef hq4 ⟨by omega, by omega⟩ _, zFm_tr hq5 hc⟩
      ·
        refine z_goto 59 (zdec DX2_grow 18 rfl) rfl ?_
        refine z_iinc (L' := [(0, .inr (.inr 34)), (2, .inl ny), (3, .inl x), (4, .inl y), (5, .inl (h + 1))]) 4 (zdec DX2_grow 33 rfl) rfl (by unfold z32; omega) rfl (by decide) ?_
        refine z_goto 14 (zdec DX2_grow 34 rfl) rfl ?_
        exact ih x (h + 1) M3 (by omega) ⟨by omega, by omega, by rw [zfo_s _ _ (by omega), ← hq1]; unfold zyear; rw [if_pos (show (zFam M3, x).1.1 h = 0 from (by show M3 7 h = 0; omega))], hq4, hq5⟩
set_option maxHeartbeats 4000000 in
theorem lp_X2_grow_5 {Q : zPost} {M : zMm} (hP : zP M) (hG : zG M) (hR : zRg M) (z ny : Int) (hny : ny ≤ 20) (hx71 : ∀ (M2 : zMm), (zFm M M2 (zgrow (zFam M, z) ny).1 ∧ zBr (zgrow (zFam M, z) ny).1) → zW mX2_grow 3 Q (0, 0) zS0 71 [] [] M2) : ∀ (n : Nat) (x : Int) (y : Int) (M2 : zMm), (ny - y).toNat < n → ((0 ≤ y ∧ (y ≤ ny ∨ y = 0)) ∧ (zFam M2, x) = zgrow (zFam M, z) y ∧ zBr (zFam M2) ∧ True ∧ ∀ c : Int, c ≠ 7 → c ≠ 8 → c ≠ 10 → c ≠ 12 → M2 c = M c) → zW mX2_grow 3 Q (0, 0) zS0 5 [(0, .inr (.inr 34)), (2, .inl ny), (3, .inl x), (4, .inl y)] [] M2 := by
  intro n
  induction n with
  | zero => intro x y M2 hn; exact absurd hn (Nat.not_lt_zero _)
  | succ n ih =>
    intro x y M2 hn hI
    obtain ⟨hI1, hI2, hI3, hI4, hI5⟩ := hI
    have hP2 : zP M2 := zP_of hP fun r hr => hI5 r (by omega) (by omega) (by omega) (by omega)
    have hG2 : zG M2 := zG_of hG fun c h0 h1 => hI5 c (by omega) (by omega) (by omega) (by omega)
    refine z_iload 3 (zdec DX2_grow 4 rfl) rfl ?_
    refine z_iload_n 1 (zdec DX2_grow 5 rfl) rfl rfl ?_
    refine z_icmp_ge 71 (zdec DX2_grow 6 rfl) rfl (fun h8 => ?_) (fun h8 => ?_)
    ·
      refine z_weak (L' := []) (by simp) ?_
      exact hx71 M2 (by have e : (zgrow (zFam M, z) ny) = (zFam M2, x) := (by rw [hI2]; by_cases hy : y = ny; (rw [hy]); (have : y = 0 := (by omega); unfold zgrow zfo; rw [show ny.toNat = y.toNat by omega])); rw [e]; exact ⟨⟨rfl, hI5⟩, hI3⟩)
    ·
      refine z_iconst 0 (zdec DX2_grow 7 rfl) (by decide) ?_
      refine z_istore (L' := [(0, .inr (.inr 34)), (2, .inl ny), (3, .inl x), (4, .inl y), (5, .inl 0)]) (zdec DX2_grow 8 rfl) rfl (by decide) ?_
      refine lp_X2_grow_14 hP hG x ny y hP2 hG2 hI3 hI5 (hx65 := fun x1 M3 hx => ?_) _ x 0 M2 (Nat.lt_succ_self _) ⟨by omega, by omega, rfl, hI3, hI5⟩
      refine z_iinc (L' := [(0, .inr (.inr 34)), (2, .inl ny), (3, .inl x1), (4, .inl (y + 1))]) 3 (zdec DX2_grow 35 rfl) rfl (by unfold z32; omega) rfl (by decide) ?_
      refine z_goto 5 (zdec DX2_grow 36 rfl) rfl ?_
      exact ih x1 (y + 1) M3 (by omega) ⟨by omega, by rw [hx.1]; unfold zgrow; rw [zfo_s _ _ (by omega)]; show _ = zfo zyear (zgrow (zFam M, z) y) 16; rw [← hI2], hx.2.1, trivial, hx.2.2⟩
set_option maxHeartbeats 4000000 in
theorem cX2_grow {M : zMm} (hP : zP M) (hG : zG M) (hR : zRg M) (z ny : Int) (hny : ny ≤ 20) : zW mX2_grow 3 (fun rv S' M' => S' = zS0 ∧ rv = none ∧ zFm M M' (zgrow (zFam M, z) ny).1 ∧ zBr (zgrow (zFam M, z) ny).1) (0, 0) zS0 0 (zargs 0 [.inr (.inr 34), .inl z, .inl ny]) [] M := by
  change zW _ _ _ _ _ 0 [(0, .inr (.inr 34)), (1, .inl z), (2, .inl ny)] [] M
  refine z_iload_n 1 (zdec DX2_grow 0 rfl) rfl rfl ?_
  refine z_istore_n (L' := [(0, .inr (.inr 34)), (1, .inl z), (2, .inl ny), (3, .inl z)]) (zdec DX2_grow 1 rfl) rfl rfl (by decide) ?_
  refine z_iconst 0 (zdec DX2_grow 2 rfl) (by decide) ?_
  refine z_istore (L' := [(0, .inr (.inr 34)), (1, .inl z), (2, .inl ny), (3, .inl z), (4, .inl 0)]) (zdec DX2_grow 3 rfl) rfl (by decide) ?_
  refine z_weak (L' := [(0, .inr (.inr 34)), (2, .inl ny), (3, .inl z), (4, .inl 0)]) (by simp) ?_
  refine lp_X2_grow_5 hP hG hR z ny hny (hx71 := fun M2 hx => ?_) _ z 0 M (Nat.lt_succ_self _) ⟨by omega, rfl, zBr_of hR, trivial, fun _ _ _ _ _ => rfl⟩
  exact z_vret (zdec DX2_grow 37 rfl) rfl (⟨rfl, rfl, hx.1, hx.2⟩)
theorem zwb_lt (a b : Int) : zwb a b < 33 := by
  unfold zwb
  split
  · rename_i w hw
    have := List.mem_range.mp (List.mem_of_find?_eq_some hw)
    omega
  · decide
set_option maxHeartbeats 4000000 in
theorem cX2_takeIn {M : zMm} (hP : zP M) (hG : zG M) (h q : Int) (hh : 0 ≤ h ∧ h < 16) (hq : 0 ≤ q ∧ q < 16) : zW mX2_takeIn 2 (fun rv S' M' => S' = zS0 ∧ rv = none ∧ zFm M M' (zpu (M 7) h 1, M 8, zpu (M 10) h (M 10 q), if 0 ≤ zwb h q then zpu (M 12) (zwb h q) 1 else M 12)) (0, 0) zS0 0 (zargs 0 [.inr (.inr 34), .inl h, .inl q]) [] M := by
  change zW _ _ _ _ _ 0 [(0, .inr (.inr 34)), (1, .inl h), (2, .inl q)] [] M
  refine z_aload_n 0 (zdec DX2_takeIn 0 rfl) rfl rfl (by decide) ?_
  refine z_getr (rw1 := -44) (ki := 0) (r' := 1) 34 2 (zdec DX2_takeIn 1 rfl) rfl rfl shp34 rfl (by decide) rfl rfl fl_SixWalls_Families_22 (zPa hP 37 rfl) ?_
  refine z_getr (rw1 := -11) (ki := 5) (r' := 7) 1 1 (zdec DX2_takeIn 2 rfl) rfl rfl shp1 rfl (by decide) rfl rfl fl_SixWalls_Families_34 (zPa hP 14 rfl) ?_
  refine z_iload_n 1 (zdec DX2_takeIn 3 rfl) rfl rfl ?_
  refine z_iconst 1 (zdec DX2_takeIn 4 rfl) (by decide) ?_
  refine z_iast 7 (zdec DX2_takeIn 5 rfl) rfl shp7 ⟨by omega, by omega⟩ ?_
  refine z_aload_n 0 (zdec DX2_takeIn 6 rfl) rfl rfl (by decide) ?_
  refine z_getr (rw1 := -44) (ki := 0) (r' := 1) 34 2 (zdec DX2_takeIn 7 rfl) rfl rfl shp34 rfl (by decide) rfl rfl fl_SixWalls_Families_22 (zPa (zP_up hP (by decide)) 37 rfl) ?_
  refine z_getr (rw1 := -11) (ki := 8) (r' := 10) 1 1 (zdec DX2_takeIn 8 rfl) rfl rfl shp1 rfl (by decide) rfl rfl fl_SixWalls_Families_37 (zPa (zP_up hP (by decide)) 17 rfl) ?_
  refine z_iload_n 1 (zdec DX2_takeIn 9 rfl) rfl rfl ?_
  refine z_aload_n 0 (zdec DX2_takeIn 10 rfl) rfl rfl (by decide) ?_
  refine z_getr (rw1 := -44) (ki := 0) (r' := 1) 34 2 (zdec DX2_takeIn 11 rfl) rfl rfl shp34 rfl (by decide) rfl rfl fl_SixWalls_Families_22 (zPa (zP_up hP (by decide)) 37 rfl) ?_
  refine z_getr (rw1 := -11) (ki := 8) (r' := 10) 1 1 (zdec DX2_takeIn 12 rfl) rfl rfl shp1 rfl (by decide) rfl rfl fl_SixWalls_Families_37 (zPa (zP_up hP (by decide)) 17 rfl) ?_
  refine z_iload_n 2 (zdec DX2_takeIn 13 rfl) rfl rfl ?_
  refine z_iald 10 (zdec DX2_takeIn 14 rfl) rfl shp10 ⟨by omega, by omega⟩ ?_
  rw [show (zup M 7 h 1) 10 q = M 10 q from by simp [zup, zcpy]]
  refine z_iast 10 (zdec DX2_takeIn 15 rfl) rfl shp10 ⟨by omega, by omega⟩ ?_
  refine z_aload_n 0 (zdec DX2_takeIn 16 rfl) rfl rfl (by decide) ?_
  refine z_getr (rw1 := -44) (ki := 0) (r' := 1) 34 2 (zdec DX2_takeIn 17 rfl) rfl rfl shp34 rfl (by decide) rfl rfl fl_SixWalls_Families_22 (zPa (zP_up (zP_up hP (by decide)) (by decide)) 37 rfl) ?_
  refine z_iload_n 1 (zdec DX2_takeIn 18 rfl) rfl rfl ?_
  refine z_iload_n 2 (zdec DX2_takeIn 19 rfl) rfl rfl ?_
  refine z_inv mX1_wallBetween 1 1 [.inl h, .inl q] (zdec DX2_takeIn 20 rfl) ml_SixWalls_Families_40 okX1_wallBetween rfl shp1 rfl rfl rfl rfl (Nat.le_of_ble_eq_true rfl) (Nat.le_of_ble_eq_true rfl) (b' := (0, 0)) ⟨Nat.le_refl 0, Nat.le_refl 0⟩ (Nat.le_of_ble_eq_true rfl) (cX1_wallBetween (zP_up (zP_up hP (by decide)) (by decide)) (zG_of hG fun c h0 h1 => by rw [zup_row (by omega), zup_row (by omega)]) h q hh hq) (fun rv9 S9 M34 h9 => ?_)
  obtain ⟨rfl, e34, rfl⟩ := h9
  subst e34
  change zW _ _ _ _ _ 37 [(0, .inr (.inr 34)), (1, .inl h), (2, .inl q)] [.inl (zwb h q)] (zup (zup M 7 h 1) 10 h (M 10 q))
  refine z_istore_n (L' := [(0, .inr (.inr 34)), (1, .inl h), (2, .inl q), (3, .inl (zwb h q))]) (zdec DX2_takeIn 21 rfl) rfl rfl (by decide) ?_
  refine z_iload_n 3 (zdec DX2_takeIn 22 rfl) rfl rfl ?_
  refine z_if_lt 52 (zdec DX2_takeIn 23 rfl) rfl (fun h39 => ?_) (fun h39 => ?_)
  ·
    exact z_vret (zdec DX2_takeIn 30 rfl) rfl (⟨rfl, rfl, by unfold zFam; rw [if_neg (by omega)]; simp only [zup_row (show (7 : Int) ≠ 10 by decide), zup_row (show (8 : Int) ≠ 10 by decide), zup_row (show (8 : Int) ≠ 7 by decide), zup_row (show (12 : Int) ≠ 10 by decide), zup_row (show (12 : Int) ≠ 7 by decide), zup_zpu, zup_row (show (10 : Int) ≠ 7 by decide)], fun c h0 h1 h2 h3 => by rw [zup_row h2, zup_row h0]⟩)
  ·
    refine z_aload_n 0 (zdec DX2_takeIn 24 rfl) rfl rfl (by decide) ?_
    refine z_getr (rw1 := -44) (ki := 0) (r' := 1) 34 2 (zdec DX2_takeIn 25 rfl) rfl rfl shp34 rfl (by decide) rfl rfl fl_SixWalls_Families_22 (zPa (zP_up (zP_up hP (by decide)) (by decide)) 37 rfl) ?_
    refine z_getr (rw1 := -11) (ki := 10) (r' := 12) 1 1 (zdec DX2_takeIn 26 rfl) rfl rfl shp1 rfl (by decide) rfl rfl fl_SixWalls_Families_44 (zPa (zP_up (zP_up hP (by decide)) (by decide)) 19 rfl) ?_
    have hwb : 0 ≤ zwb h q ∧ zwb h q < 33 := ⟨by omega, zwb_lt h q⟩
    refine z_iload_n 3 (zdec DX2_takeIn 27 rfl) rfl rfl ?_
    refine z_iconst 1 (zdec DX2_takeIn 28 rfl) (by decide) ?_
    refine z_iast 12 (zdec DX2_takeIn 29 rfl) rfl shp12 ⟨by omega, by omega⟩ ?_
    exact z_vret (zdec DX2_takeIn 30 rfl) rfl (⟨rfl, rfl, by unfold zFam; rw [if_pos (by omega)]; simp only [zup_row (show (7 : Int) ≠ 12 by decide), zup_row (show (8 : Int) ≠ 12 by decide), zup_row (show (10 : Int) ≠ 12 by decide), zup_row (show (7 : Int) ≠ 10 by decide), zup_row (show (8 : Int) ≠ 10 by decide), zup_row (show (8 : Int) ≠ 7 by decide), zup_row (show (12 : Int) ≠ 10 by decide), zup_row (show (12 : Int) ≠ 7 by decide), zup_zpu, zup_row (show (10 : Int) ≠ 7 by decide)], fun c h0 h1 h2 h3 => by rw [zup_row h3, zup_row h2, zup_row h0]⟩)
set_option maxHeartbeats 4000000 in
theorem cX2_keepImage {M : zMm} (hP : zP M) : zW mX2_keepImage 1 (fun rv S' M' => S' = zS0 ∧ rv = none ∧ M' = zup (zcpy (zcpy M 9 0 35 0 16) 7 0 36 0 16) 34 3 1) (0, 0) zS0 0 (zargs 0 [.inr (.inr 34)]) [] M := by
  change zW _ _ _ _ _ 0 [(0, .inr (.inr 34))] [] M
  refine z_aload_n 0 (zdec DX2_keepImage 0 rfl) rfl rfl (by decide) ?_
  refine z_getr (rw1 := -44) (ki := 0) (r' := 1) 34 2 (zdec DX2_keepImage 1 rfl) rfl rfl shp34 rfl (by decide) rfl rfl fl_SixWalls_Families_22 (zPa hP 37 rfl) ?_
  refine z_getr (rw1 := -11) (ki := 7) (r' := 9) 1 1 (zdec DX2_keepImage 2 rfl) rfl rfl shp1 rfl (by decide) rfl rfl fl_SixWalls_Families_73 (zPa hP 16 rfl) ?_
  refine z_iconst 0 (zdec DX2_keepImage 3 rfl) (by decide) ?_
  refine z_aload_n 0 (zdec DX2_keepImage 4 rfl) rfl rfl (by decide) ?_
  refine z_getr (rw1 := -44) (ki := 1) (r' := 35) 34 2 (zdec DX2_keepImage 5 rfl) rfl rfl shp34 rfl (by decide) rfl rfl fl_SixWalls_Families_9 (zPa hP 38 rfl) ?_
  refine z_iconst 0 (zdec DX2_keepImage 6 rfl) (by decide) ?_
  refine z_bipush 16 (zdec DX2_keepImage 7 rfl) (by decide) ?_
  refine z_copyi 9 35 (zdec DX2_keepImage 8 rfl) ml_SixWalls_Families_76 zcp1 zcp2 zcp3 rfl rfl shp9 shp35 ⟨by omega, by omega, by omega⟩ ⟨by omega, by omega⟩ (by decide) rfl ?_
  refine z_aload_n 0 (zdec DX2_keepImage 9 rfl) rfl rfl (by decide) ?_
  refine z_getr (rw1 := -44) (ki := 0) (r' := 1) 34 2 (zdec DX2_keepImage 10 rfl) rfl rfl shp34 rfl (by decide) rfl rfl fl_SixWalls_Families_22 (zPa (zP_cpy hP (by decide)) 37 rfl) ?_
  refine z_getr (rw1 := -11) (ki := 5) (r' := 7) 1 1 (zdec DX2_keepImage 11 rfl) rfl rfl shp1 rfl (by decide) rfl rfl fl_SixWalls_Families_34 (zPa (zP_cpy hP (by decide)) 14 rfl) ?_
  refine z_iconst 0 (zdec DX2_keepImage 12 rfl) (by decide) ?_
  refine z_aload_n 0 (zdec DX2_keepImage 13 rfl) rfl rfl (by decide) ?_
  refine z_getr (rw1 := -44) (ki := 2) (r' := 36) 34 2 (zdec DX2_keepImage 14 rfl) rfl rfl shp34 rfl (by decide) rfl rfl fl_SixWalls_Families_15 (zPa (zP_cpy hP (by decide)) 39 rfl) ?_
  refine z_iconst 0 (zdec DX2_keepImage 15 rfl) (by decide) ?_
  refine z_bipush 16 (zdec DX2_keepImage 16 rfl) (by decide) ?_
  refine z_copyi 7 36 (zdec DX2_keepImage 17 rfl) ml_SixWalls_Families_76 zcp1 zcp2 zcp3 rfl rfl shp7 shp36 ⟨by omega, by omega, by omega⟩ ⟨by omega, by omega⟩ (by decide) rfl ?_
  refine z_aload_n 0 (zdec DX2_keepImage 18 rfl) rfl rfl (by decide) ?_
  refine z_iconst 1 (zdec DX2_keepImage 19 rfl) (by decide) ?_
  refine z_putz (ki := 3) 34 2 (zdec DX2_keepImage 20 rfl) rfl shp34 rfl (by decide) rfl rfl fl_SixWalls_Families_18 (Or.inl rfl) (by omega) ?_
  exact z_vret (zdec DX2_keepImage 21 rfl) rfl (⟨rfl, rfl, rfl⟩)
set_option maxHeartbeats 4000000 in
theorem cX2_layBack {M : zMm} (hP : zP M) : zW mX2_layBack 1 (fun rv S' M' => S' = zS0 ∧ ((M 34 3 = 0 ∧ rv = some (.inl 0) ∧ M = M') ∨ (M 34 3 ≠ 0 ∧ rv = some (.inl 1) ∧ M' = zcpy (zcpy M 35 0 9 0 16) 36 0 7 0 16))) (0, 0) zS0 0 (zargs 0 [.inr (.inr 34)]) [] M := by
  change zW _ _ _ _ _ 0 [(0, .inr (.inr 34))] [] M
  refine z_aload_n 0 (zdec DX2_layBack 0 rfl) rfl rfl (by decide) ?_
  refine z_geti (ki := 3) 34 2 (zdec DX2_layBack 1 rfl) rfl shp34 rfl (by decide) rfl rfl fl_SixWalls_Families_18 ?_
  refine z_if_ne 9 (zdec DX2_layBack 2 rfl) rfl (fun h4 => ?_) (fun h4 => ?_)
  ·
    refine z_aload_n 0 (zdec DX2_layBack 5 rfl) rfl rfl (by decide) ?_
    refine z_getr (rw1 := -44) (ki := 1) (r' := 35) 34 2 (zdec DX2_layBack 6 rfl) rfl rfl shp34 rfl (by decide) rfl rfl fl_SixWalls_Families_9 (zPa hP 38 rfl) ?_
    refine z_iconst 0 (zdec DX2_layBack 7 rfl) (by decide) ?_
    refine z_aload_n 0 (zdec DX2_layBack 8 rfl) rfl rfl (by decide) ?_
    refine z_getr (rw1 := -44) (ki := 0) (r' := 1) 34 2 (zdec DX2_layBack 9 rfl) rfl rfl shp34 rfl (by decide) rfl rfl fl_SixWalls_Families_22 (zPa hP 37 rfl) ?_
    refine z_getr (rw1 := -11) (ki := 7) (r' := 9) 1 1 (zdec DX2_layBack 10 rfl) rfl rfl shp1 rfl (by decide) rfl rfl fl_SixWalls_Families_73 (zPa hP 16 rfl) ?_
    refine z_iconst 0 (zdec DX2_layBack 11 rfl) (by decide) ?_
    refine z_bipush 16 (zdec DX2_layBack 12 rfl) (by decide) ?_
    refine z_copyi 35 9 (zdec DX2_layBack 13 rfl) ml_SixWalls_Families_76 zcp1 zcp2 zcp3 rfl rfl shp35 shp9 ⟨by omega, by omega, by omega⟩ ⟨by omega, by omega⟩ (by decide) rfl ?_
    refine z_aload_n 0 (zdec DX2_layBack 14 rfl) rfl rfl (by decide) ?_
    refine z_getr (rw1 := -44) (ki := 2) (r' := 36) 34 2 (zdec DX2_layBack 15 rfl) rfl rfl shp34 rfl (by decide) rfl rfl fl_SixWalls_Families_15 (zPa (zP_cpy hP (by decide)) 39 rfl) ?_
    refine z_iconst 0 (zdec DX2_layBack 16 rfl) (by decide) ?_
    refine z_aload_n 0 (zdec DX2_layBack 17 rfl) rfl rfl (by decide) ?_
    refine z_getr (rw1 := -44) (ki := 0) (r' := 1) 34 2 (zdec DX2_layBack 18 rfl) rfl rfl shp34 rfl (by decide) rfl rfl fl_SixWalls_Families_22 (zPa (zP_cpy hP (by decide)) 37 rfl) ?_
    refine z_getr (rw1 := -11) (ki := 5) (r' := 7) 1 1 (zdec DX2_layBack 19 rfl) rfl rfl shp1 rfl (by decide) rfl rfl fl_SixWalls_Families_34 (zPa (zP_cpy hP (by decide)) 14 rfl) ?_
    refine z_iconst 0 (zdec DX2_layBack 20 rfl) (by decide) ?_
    refine z_bipush 16 (zdec DX2_layBack 21 rfl) (by decide) ?_
    refine z_copyi 36 7 (zdec DX2_layBack 22 rfl) ml_SixWalls_Families_76 zcp1 zcp2 zcp3 rfl rfl shp36 shp7 ⟨by omega, by omega, by omega⟩ ⟨by omega, by omega⟩ (by decide) rfl ?_
    refine z_iconst 1 (zdec DX2_layBack 23 rfl) (by decide) ?_
    exact z_zret (zdec DX2_layBack 24 rfl) rfl (by omega) (⟨rfl, Or.inr ⟨h4, rfl, rfl⟩⟩)
  ·
    refine z_iconst 0 (zdec DX2_layBack 3 rfl) (by decide) ?_
    exact z_zret (zdec DX2_layBack 4 rfl) rfl (by omega) (⟨rfl, Or.inl ⟨by omega, rfl, rfl⟩⟩)
theorem zsum7 {T : Int → Int} (h : ∀ i : Int, 0 ≤ i → i < 16 → 0 ≤ T i ∧ T i ≤ 1) (k : Int) : ∀ i : Int, 0 ≤ i → i < 16 → 0 ≤ zpu T k 0 i ∧ zpu T k 0 i ≤ 1 := zpu_r h (by omega)
set_option maxHeartbeats 4000000 in
theorem cX9_empty {M : zMm} (hP : zP M) (hR : zRg M) (h : Int) : zW mX9_empty 3 (fun rv S' M' => S' = zS0 ∧ ((¬ (0 ≤ h ∧ h < 16) ∧ rv = some (.inl (-1)) ∧ M = M') ∨ ((0 ≤ h ∧ h < 16) ∧ M 7 h = 0 ∧ rv = some (.inl (-5)) ∧ M = M') ∨ ((0 ≤ h ∧ h < 16) ∧ M 7 h ≠ 0 ∧ rv = some (.inl (zsum (zpu (M 7) h 0) 16)) ∧ M' = zup (zup M 7 h 0) 8 h 0))) (0, 0) zS0 0 (zargs 0 [.inr (.inr 0), .inl h]) [] M := by
  change zW _ _ _ _ _ 0 [(0, .inr (.inr 0)), (1, .inl h)] [] M
  refine z_iload_n 1 (zdec DX9_empty 0 rfl) rfl rfl ?_
  refine z_invs mX9_isHouse [.inl h] (zdec DX9_empty 1 rfl) (Or.inl ml_SixWalls_80) okX9_isHouse rfl rfl (Nat.le_of_ble_eq_true rfl) (Nat.le_of_ble_eq_true rfl) (b' := (0, 0)) ⟨Nat.le_refl 0, Nat.le_refl 0⟩ (Nat.le_of_ble_eq_true rfl) (cX9_isHouse h) (fun rv9 S9 M1 h9 => ?_)
  obtain ⟨rfl, rfl, rfl⟩ := h9
  change zW _ _ _ _ _ 4 [(0, .inr (.inr 0)), (1, .inl h)] [.inl (zb (0 ≤ h ∧ h < 16))] M
  refine z_if_ne 9 (zdec DX9_empty 2 rfl) rfl (fun h4 => ?_) (fun h4 => ?_)
  ·
    rw [zb_ne0] at h4
    refine z_aload_n 0 (zdec DX9_empty 5 rfl) rfl rfl (by decide) ?_
    refine z_getr (rw1 := -10) (ki := 0) (r' := 1) 0 9 (zdec DX9_empty 6 rfl) rfl rfl shp0 rfl (by decide) rfl rfl fl_SixWalls_10 (zPa hP 0 rfl) ?_
    refine z_getr (rw1 := -11) (ki := 5) (r' := 7) 1 1 (zdec DX9_empty 7 rfl) rfl rfl shp1 rfl (by decide) rfl rfl fl_SixWalls_132 (zPa hP 14 rfl) ?_
    refine z_iload_n 1 (zdec DX9_empty 8 rfl) rfl rfl ?_
    refine z_iald 7 (zdec DX9_empty 9 rfl) rfl shp7 ⟨by omega, by omega⟩ ?_
    refine z_if_ne 24 (zdec DX9_empty 10 rfl) rfl (fun h18 => ?_) (fun h18 => ?_)
    ·
      refine z_aload_n 0 (zdec DX9_empty 13 rfl) rfl rfl (by decide) ?_
      refine z_getr (rw1 := -10) (ki := 0) (r' := 1) 0 9 (zdec DX9_empty 14 rfl) rfl rfl shp0 rfl (by decide) rfl rfl fl_SixWalls_10 (zPa hP 0 rfl) ?_
      refine z_getr (rw1 := -11) (ki := 5) (r' := 7) 1 1 (zdec DX9_empty 15 rfl) rfl rfl shp1 rfl (by decide) rfl rfl fl_SixWalls_132 (zPa hP 14 rfl) ?_
      refine z_iload_n 1 (zdec DX9_empty 16 rfl) rfl rfl ?_
      refine z_iconst 0 (zdec DX9_empty 17 rfl) (by decide) ?_
      refine z_iast 7 (zdec DX9_empty 18 rfl) rfl shp7 ⟨by omega, by omega⟩ ?_
      refine z_aload_n 0 (zdec DX9_empty 19 rfl) rfl rfl (by decide) ?_
      refine z_getr (rw1 := -10) (ki := 0) (r' := 1) 0 9 (zdec DX9_empty 20 rfl) rfl rfl shp0 rfl (by decide) rfl rfl fl_SixWalls_10 (zPa (zP_up hP (by decide)) 0 rfl) ?_
      refine z_getr (rw1 := -11) (ki := 6) (r' := 8) 1 1 (zdec DX9_empty 21 rfl) rfl rfl shp1 rfl (by decide) rfl rfl fl_SixWalls_122 (zPa (zP_up hP (by decide)) 15 rfl) ?_
      refine z_iload_n 1 (zdec DX9_empty 22 rfl) rfl rfl ?_
      refine z_iconst 0 (zdec DX9_empty 23 rfl) (by decide) ?_
      refine z_iast 8 (zdec DX9_empty 24 rfl) rfl shp8 ⟨by omega, by omega⟩ ?_
      refine z_aload_n 0 (zdec DX9_empty 25 rfl) rfl rfl (by decide) ?_
      refine z_getr (rw1 := -10) (ki := 0) (r' := 1) 0 9 (zdec DX9_empty 26 rfl) rfl rfl shp0 rfl (by decide) rfl rfl fl_SixWalls_10 (zPa (zP_up (zP_up hP (by decide)) (by decide)) 0 rfl) ?_
      refine z_getr (rw1 := -11) (ki := 5) (r' := 7) 1 1 (zdec DX9_empty 27 rfl) rfl rfl shp1 rfl (by decide) rfl rfl fl_SixWalls_132 (zPa (zP_up (zP_up hP (by decide)) (by decide)) 14 rfl) ?_
      refine z_invs mX9_sum [.inr (.inr 7)] (zdec DX9_empty 28 rfl) (Or.inl ml_SixWalls_204) okX9_sum rfl rfl (Nat.le_of_ble_eq_true rfl) (Nat.le_of_ble_eq_true rfl) (b' := (0, 0)) ⟨Nat.le_refl 0, Nat.le_refl 0⟩ (Nat.le_of_ble_eq_true rfl) (cX9_sum_7 (by rw [zup_row (by decide), zup_zpu]; exact zsum7 (fun i h0 h1 => (hR.1 i h0 h1).1) h)) (fun rv9 S9 M51 h9 => ?_)
      obtain ⟨rfl, e51, rfl⟩ := h9
      subst e51
      change zW _ _ _ _ _ 54 [(0, .inr (.inr 0)), (1, .inl h)] [.inl (zsum (zup (zup M 7 h 0) 8 h 0 7) 16)] (zup (zup M 7 h 0) 8 h 0)
      exact z_iret (zdec DX9_empty 29 rfl) rfl (⟨rfl, Or.inr (Or.inr ⟨h4, h18, by rw [zup_row (show (7 : Int) ≠ 8 by decide), zup_zpu], rfl⟩)⟩)
    ·
      refine z_bipush (-5) (zdec DX9_empty 11 rfl) (by decide) ?_
      exact z_iret (zdec DX9_empty 12 rfl) rfl (⟨rfl, Or.inr (Or.inl ⟨h4, by omega, rfl, rfl⟩)⟩)
  ·
    refine z_iconst (-1) (zdec DX9_empty 3 rfl) (by decide) ?_
    exact z_iret (zdec DX9_empty 4 rfl) rfl (⟨rfl, Or.inl ⟨fun q => h4 (zb_ne0.mpr q), rfl, rfl⟩⟩)
theorem ztk_b (L W : Int → Int) (h : Int) : -1 ≤ ztk L W h ∧ ztk L W h < 16 := by
  have key : ∀ n : Nat, -1 ≤ zfold (fun (best : Int) (s : Int) => if L (znat (h * 6 + s)) = 1 ∧ (best < 0 ∨ W best < W (znat (h * 6 + s))) then znat (h * 6 + s) else best) (-1) n ∧ zfold (fun (best : Int) (s : Int) => if L (znat (h * 6 + s)) = 1 ∧ (best < 0 ∨ W best < W (znat (h * 6 + s))) then znat (h * 6 + s) else best) (-1) n < 16 := by
    intro n
    induction n with
    | zero => exact ⟨show (-1 : Int) ≤ -1 by decide, show (-1 : Int) < 16 by decide⟩
    | succ n ih =>
      simp only [zfold]
      have := znat_b (h * 6 + (n : Int))
      split <;> omega
  exact key (zsid h).toNat
set_option maxHeartbeats 4000000 in
theorem cX9_takes {M : zMm} (hP : zP M) (hG : zG M) (h w : Int) : zW mX9_takes 3 (fun rv S' M' => S' = zS0 ∧ ((¬ ((0 ≤ h ∧ h < 16) ∧ 0 ≤ w ∧ w ≤ 1) ∧ rv = some (.inl (-1)) ∧ M = M') ∨ (((0 ≤ h ∧ h < 16) ∧ 0 ≤ w ∧ w ≤ 1) ∧ M 7 h = 1 ∧ rv = some (.inl (-5)) ∧ M = M') ∨ (((0 ≤ h ∧ h < 16) ∧ 0 ≤ w ∧ w ≤ 1) ∧ M 7 h ≠ 1 ∧ ztk (M 7) (M 10) h < 0 ∧ rv = some (.inl (-2)) ∧ M = M') ∨ (((0 ≤ h ∧ h < 16) ∧ 0 ≤ w ∧ w ≤ 1) ∧ M 7 h ≠ 1 ∧ 0 ≤ ztk (M 7) (M 10) h ∧ rv = some (.inl (ztk (M 7) (M 10) h)) ∧ ((w = 0 ∧ M = M') ∨ (w = 1 ∧ zFm M M' (zpu (M 7) h 1, M 8, zpu (M 10) h (M 10 (ztk (M 7) (M 10) h)), if 0 ≤ zwb h (ztk (M 7) (M 10) h) then zpu (M 12) (zwb h (ztk (M 7) (M 10) h)) 1 else M 12)))))) (0, 0) zS0 0 (zargs 0 [.inr (.inr 0), .inl h, .inl w]) [] M := by
  change zW _ _ _ _ _ 0 [(0, .inr (.inr 0)), (1, .inl h), (2, .inl w)] [] M
  refine z_iload_n 1 (zdec DX9_takes 0 rfl) rfl rfl ?_
  refine z_invs mX9_isHouse [.inl h] (zdec DX9_takes 1 rfl) (Or.inl ml_SixWalls_80) okX9_isHouse rfl rfl (Nat.le_of_ble_eq_true rfl) (Nat.le_of_ble_eq_true rfl) (b' := (0, 0)) ⟨Nat.le_refl 0, Nat.le_refl 0⟩ (Nat.le_of_ble_eq_true rfl) (cX9_isHouse h) (fun rv9 S9 M1 h9 => ?_)
  obtain ⟨rfl, rfl, rfl⟩ := h9
  change zW _ _ _ _ _ 4 [(0, .inr (.inr 0)), (1, .inl h), (2, .inl w)] [.inl (zb (0 ≤ h ∧ h < 16))] M
  refine z_if_eq 16 (zdec DX9_takes 2 rfl) rfl (fun h4 => ?_) (fun h4 => ?_)
  ·
    refine z_iconst (-1) (zdec DX9_takes 8 rfl) (by decide) ?_
    exact z_iret (zdec DX9_takes 9 rfl) rfl (⟨rfl, Or.inl ⟨fun q => (zb_eq0.mp h4) q.1, rfl, rfl⟩⟩)
  ·
    rw [zb_eq0, Classical.not_not] at h4
    refine z_iload_n 2 (zdec DX9_takes 3 rfl) rfl rfl ?_
    refine z_iconst 0 (zdec DX9_takes 4 rfl) (by decide) ?_
    refine z_iconst 1 (zdec DX9_takes 5 rfl) (by decide) ?_
    refine z_invs mX9_within [.inl w, .inl 0, .inl 1] (zdec DX9_takes 6 rfl) (Or.inl ml_SixWalls_76) okX9_within rfl rfl (Nat.le_of_ble_eq_true rfl) (Nat.le_of_ble_eq_true rfl) (b' := (0, 0)) ⟨Nat.le_refl 0, Nat.le_refl 0⟩ (Nat.le_of_ble_eq_true rfl) (cX9_within w 0 1) (fun rv9 S9 M10 h9 => ?_)
    obtain ⟨rfl, rfl, rfl⟩ := h9
    change zW _ _ _ _ _ 13 [(0, .inr (.inr 0)), (1, .inl h), (2, .inl w)] [.inl (zb (0 ≤ w ∧ w ≤ 1))] M
    refine z_if_ne 18 (zdec DX9_takes 7 rfl) rfl (fun h13 => ?_) (fun h13 => ?_)
    ·
      rw [zb_ne0] at h13
      refine z_aload_n 0 (zdec DX9_takes 10 rfl) rfl rfl (by decide) ?_
      refine z_getr (rw1 := -10) (ki := 0) (r' := 1) 0 9 (zdec DX9_takes 11 rfl) rfl rfl shp0 rfl (by decide) rfl rfl fl_SixWalls_10 (zPa hP 0 rfl) ?_
      refine z_getr (rw1 := -11) (ki := 5) (r' := 7) 1 1 (zdec DX9_takes 12 rfl) rfl rfl shp1 rfl (by decide) rfl rfl fl_SixWalls_132 (zPa hP 14 rfl) ?_
      refine z_iload_n 1 (zdec DX9_takes 13 rfl) rfl rfl ?_
      refine z_iald 7 (zdec DX9_takes 14 rfl) rfl shp7 ⟨by omega, by omega⟩ ?_
      refine z_iconst 1 (zdec DX9_takes 15 rfl) (by decide) ?_
      refine z_icmp_ne 34 (zdec DX9_takes 16 rfl) rfl (fun h28 => ?_) (fun h28 => ?_)
      ·
        refine z_aload_n 0 (zdec DX9_takes 19 rfl) rfl rfl (by decide) ?_
        refine z_getr (rw1 := -10) (ki := 5) (r' := 34) 0 9 (zdec DX9_takes 20 rfl) rfl rfl shp0 rfl (by decide) rfl rfl fl_SixWalls_51 (zPa hP 5 rfl) ?_
        refine z_iload_n 1 (zdec DX9_takes 21 rfl) rfl rfl ?_
        refine z_inv mX2_taker 34 2 [.inl h] (zdec DX9_takes 22 rfl) ml_SixWalls_274 okX2_taker rfl shp34 rfl rfl rfl rfl (Nat.le_of_ble_eq_true rfl) (Nat.le_of_ble_eq_true rfl) (b' := (0, 0)) ⟨Nat.le_refl 0, Nat.le_refl 0⟩ (Nat.le_of_ble_eq_true rfl) (cX2_taker hP hG h h4) (fun rv9 S9 M39 h9 => ?_)
        obtain ⟨rfl, rfl, rfl⟩ := h9
        change zW _ _ _ _ _ 42 [(0, .inr (.inr 0)), (1, .inl h), (2, .inl w)] [.inl (ztk (M 7) (M 10) h)] M
        refine z_istore_n (L' := [(0, .inr (.inr 0)), (1, .inl h), (2, .inl w), (3, .inl (ztk (M 7) (M 10) h))]) (zdec DX9_takes 23 rfl) rfl rfl (by decide) ?_
        refine z_iload_n 3 (zdec DX9_takes 24 rfl) rfl rfl ?_
        refine z_if_ge 50 (zdec DX9_takes 25 rfl) rfl (fun h44 => ?_) (fun h44 => ?_)
        ·
          refine z_iload_n 2 (zdec DX9_takes 28 rfl) rfl rfl ?_
          refine z_iconst 1 (zdec DX9_takes 29 rfl) (by decide) ?_
          refine z_icmp_ne 64 (zdec DX9_takes 30 rfl) rfl (fun h52 => ?_) (fun h52 => ?_)
          ·
            refine z_iload_n 3 (zdec DX9_takes 36 rfl) rfl rfl ?_
            exact z_iret (zdec DX9_takes 37 rfl) rfl (⟨rfl, Or.inr (Or.inr (Or.inr ⟨⟨h4, h13⟩, h28, h44, rfl, Or.inl ⟨by omega, rfl⟩⟩))⟩)
          ·
            refine z_aload_n 0 (zdec DX9_takes 31 rfl) rfl rfl (by decide) ?_
            refine z_getr (rw1 := -10) (ki := 5) (r' := 34) 0 9 (zdec DX9_takes 32 rfl) rfl rfl shp0 rfl (by decide) rfl rfl fl_SixWalls_51 (zPa hP 5 rfl) ?_
            refine z_iload_n 1 (zdec DX9_takes 33 rfl) rfl rfl ?_
            refine z_iload_n 3 (zdec DX9_takes 34 rfl) rfl rfl ?_
            refine z_inv mX2_takeIn 34 2 [.inl h, .inl (ztk (M 7) (M 10) h)] (zdec DX9_takes 35 rfl) ml_SixWalls_277 okX2_takeIn rfl shp34 rfl rfl rfl rfl (Nat.le_of_ble_eq_true rfl) (Nat.le_of_ble_eq_true rfl) (b' := (0, 0)) ⟨Nat.le_refl 0, Nat.le_refl 0⟩ (Nat.le_of_ble_eq_true rfl) (cX2_takeIn hP hG h (ztk (M 7) (M 10) h) h4 ⟨by omega, (ztk_b _ _ _).2⟩) (fun rv9 S9 M61 h9 => ?_)
            obtain ⟨rfl, rfl, hc⟩ := h9
            change zW _ _ _ _ _ 64 [(0, .inr (.inr 0)), (1, .inl h), (2, .inl w), (3, .inl (ztk (M 7) (M 10) h))] [] M61
            refine z_iload_n 3 (zdec DX9_takes 36 rfl) rfl rfl ?_
            exact z_iret (zdec DX9_takes 37 rfl) rfl (⟨rfl, Or.inr (Or.inr (Or.inr ⟨⟨h4, h13⟩, h28, h44, rfl, Or.inr ⟨by omega, hc⟩⟩))⟩)
        ·
          refine z_bipush (-2) (zdec DX9_takes 26 rfl) (by decide) ?_
          exact z_iret (zdec DX9_takes 27 rfl) rfl (⟨rfl, Or.inr (Or.inr (Or.inl ⟨⟨h4, h13⟩, h28, by omega, rfl, rfl⟩))⟩)
      ·
        refine z_bipush (-5) (zdec DX9_takes 17 rfl) (by decide) ?_
        exact z_iret (zdec DX9_takes 18 rfl) rfl (⟨rfl, Or.inr (Or.inl ⟨⟨h4, h13⟩, by omega, rfl, rfl⟩)⟩)
    ·
      refine z_iconst (-1) (zdec DX9_takes 8 rfl) (by decide) ?_
      exact z_iret (zdec DX9_takes 9 rfl) rfl (⟨rfl, Or.inl ⟨fun q => h13 (zb_ne0.mpr q.2), rfl, rfl⟩⟩)
set_option maxHeartbeats 4000000 in
theorem cX9_years {M : zMm} (hP : zP M) (hG : zG M) (hR : zRg M) (z n : Int) : zW mX9_years 4 (fun rv S' M' => S' = zS0 ∧ ((¬ (1 ≤ n ∧ n ≤ 20) ∧ rv = some (.inl (-1)) ∧ M = M') ∨ ((1 ≤ n ∧ n ≤ 20) ∧ rv = some (.inl (zsum (zgrow (zFam M, z) n).1.1 16)) ∧ zFm M M' (zgrow (zFam M, z) n).1 ∧ zBr (zgrow (zFam M, z) n).1))) (0, 0) zS0 0 (zargs 0 [.inr (.inr 0), .inl z, .inl n]) [] M := by
  change zW _ _ _ _ _ 0 [(0, .inr (.inr 0)), (1, .inl z), (2, .inl n)] [] M
  refine z_iload_n 2 (zdec DX9_years 0 rfl) rfl rfl ?_
  refine z_iconst 1 (zdec DX9_years 1 rfl) (by decide) ?_
  refine z_bipush 20 (zdec DX9_years 2 rfl) (by decide) ?_
  refine z_invs mX9_within [.inl n, .inl 1, .inl 20] (zdec DX9_years 3 rfl) (Or.inl ml_SixWalls_76) okX9_within rfl rfl (Nat.le_of_ble_eq_true rfl) (Nat.le_of_ble_eq_true rfl) (b' := (0, 0)) ⟨Nat.le_refl 0, Nat.le_refl 0⟩ (Nat.le_of_ble_eq_true rfl) (cX9_within n 1 20) (fun rv9 S9 M4 h9 => ?_)
  obtain ⟨rfl, rfl, rfl⟩ := h9
  change zW _ _ _ _ _ 7 [(0, .inr (.inr 0)), (1, .inl z), (2, .inl n)] [.inl (zb (1 ≤ n ∧ n ≤ 20))] M
  refine z_if_ne 12 (zdec DX9_years 4 rfl) rfl (fun h7 => ?_) (fun h7 => ?_)
  ·
    rw [zb_ne0] at h7
    refine z_aload_n 0 (zdec DX9_years 7 rfl) rfl rfl (by decide) ?_
    refine z_getr (rw1 := -10) (ki := 5) (r' := 34) 0 9 (zdec DX9_years 8 rfl) rfl rfl shp0 rfl (by decide) rfl rfl fl_SixWalls_51 (zPa hP 5 rfl) ?_
    refine z_iload_n 1 (zdec DX9_years 9 rfl) rfl rfl ?_
    refine z_iload_n 2 (zdec DX9_years 10 rfl) rfl rfl ?_
    refine z_inv mX2_grow 34 2 [.inl z, .inl n] (zdec DX9_years 11 rfl) ml_SixWalls_281 okX2_grow rfl shp34 rfl rfl rfl rfl (Nat.le_of_ble_eq_true rfl) (Nat.le_of_ble_eq_true rfl) (b' := (0, 0)) ⟨Nat.le_refl 0, Nat.le_refl 0⟩ (Nat.le_of_ble_eq_true rfl) (cX2_grow hP hG hR z n h7.2) (fun rv9 S9 M18 h9 => ?_)
    obtain ⟨rfl, rfl, hc, hb⟩ := h9
    have hPM18 : zP M18 := zP_of hP fun r hr => hc.2 r (by omega) (by omega) (by omega) (by omega)
    change zW _ _ _ _ _ 21 [(0, .inr (.inr 0)), (1, .inl z), (2, .inl n)] [] M18
    refine z_aload_n 0 (zdec DX9_years 12 rfl) rfl rfl (by decide) ?_
    refine z_getr (rw1 := -10) (ki := 0) (r' := 1) 0 9 (zdec DX9_years 13 rfl) rfl rfl shp0 rfl (by decide) rfl rfl fl_SixWalls_10 (zPa hPM18 0 rfl) ?_
    refine z_getr (rw1 := -11) (ki := 5) (r' := 7) 1 1 (zdec DX9_years 14 rfl) rfl rfl shp1 rfl (by decide) rfl rfl fl_SixWalls_132 (zPa hPM18 14 rfl) ?_
    refine z_invs mX9_sum [.inr (.inr 7)] (zdec DX9_years 15 rfl) (Or.inl ml_SixWalls_204) okX9_sum rfl rfl (Nat.le_of_ble_eq_true rfl) (Nat.le_of_ble_eq_true rfl) (b' := (0, 0)) ⟨Nat.le_refl 0, Nat.le_refl 0⟩ (Nat.le_of_ble_eq_true rfl) (cX9_sum_7 (by rw [hc.r7]; exact fun i h0 h1 => (hb.1 i h0 h1).1)) (fun rv9 S9 M28 h9 => ?_)
    obtain ⟨rfl, e28, rfl⟩ := h9
    subst e28
    change zW _ _ _ _ _ 31 [(0, .inr (.inr 0)), (1, .inl z), (2, .inl n)] [.inl (zsum (M18 7) 16)] M18
    exact z_iret (zdec DX9_years 16 rfl) rfl (⟨rfl, Or.inr ⟨h7, by rw [hc.r7], hc, hb⟩⟩)
  ·
    refine z_iconst (-1) (zdec DX9_years 5 rfl) (by decide) ?_
    exact z_iret (zdec DX9_years 6 rfl) rfl (⟨rfl, Or.inl ⟨fun q => h7 (zb_ne0.mpr q), rfl, rfl⟩⟩)
theorem zki_9 {M : zMm} : (zup (zcpy (zcpy M 9 0 35 0 16) 7 0 36 0 16) 34 3 1) 9 = M 9 := by rw [zup_row (by decide), zcpy_row (by decide), zcpy_row (by decide)]
set_option maxHeartbeats 4000000 in
theorem cX9_image {M : zMm} (hP : zP M) (hR : zRg M) : zW mX9_image 3 (fun rv S' M' => S' = zS0 ∧ rv = some (.inl (zsum (M 9) 16)) ∧ M' = zup (zcpy (zcpy M 9 0 35 0 16) 7 0 36 0 16) 34 3 1) (0, 0) zS0 0 (zargs 0 [.inr (.inr 0)]) [] M := by
  change zW _ _ _ _ _ 0 [(0, .inr (.inr 0))] [] M
  refine z_aload_n 0 (zdec DX9_image 0 rfl) rfl rfl (by decide) ?_
  refine z_getr (rw1 := -10) (ki := 5) (r' := 34) 0 9 (zdec DX9_image 1 rfl) rfl rfl shp0 rfl (by decide) rfl rfl fl_SixWalls_51 (zPa hP 5 rfl) ?_
  refine z_inv mX2_keepImage 34 2 [] (zdec DX9_image 2 rfl) ml_SixWalls_284 okX2_keepImage rfl shp34 rfl rfl rfl rfl (Nat.le_of_ble_eq_true rfl) (Nat.le_of_ble_eq_true rfl) (b' := (0, 0)) ⟨Nat.le_refl 0, Nat.le_refl 0⟩ (Nat.le_of_ble_eq_true rfl) (cX2_keepImage hP) (fun rv9 S9 M4 h9 => ?_)
  obtain ⟨rfl, rfl, e4⟩ := h9
  have hPM4 : zP M4 := by rw [e4]; exact zP_up (zP_cpy (zP_cpy hP (by decide)) (by decide)) (by decide)
  change zW _ _ _ _ _ 7 [(0, .inr (.inr 0))] [] M4
  refine z_aload_n 0 (zdec DX9_image 3 rfl) rfl rfl (by decide) ?_
  refine z_getr (rw1 := -10) (ki := 0) (r' := 1) 0 9 (zdec DX9_image 4 rfl) rfl rfl shp0 rfl (by decide) rfl rfl fl_SixWalls_10 (zPa hPM4 0 rfl) ?_
  refine z_getr (rw1 := -11) (ki := 7) (r' := 9) 1 1 (zdec DX9_image 5 rfl) rfl rfl shp1 rfl (by decide) rfl rfl fl_SixWalls_129 (zPa hPM4 16 rfl) ?_
  refine z_invs mX9_sum [.inr (.inr 9)] (zdec DX9_image 6 rfl) (Or.inl ml_SixWalls_204) okX9_sum rfl rfl (Nat.le_of_ble_eq_true rfl) (Nat.le_of_ble_eq_true rfl) (b' := (0, 0)) ⟨Nat.le_refl 0, Nat.le_refl 0⟩ (Nat.le_of_ble_eq_true rfl) (cX9_sum_9 (by rw [e4, zki_9]; exact fun i h0 h1 => (hR.1 i h0 h1).2.2.1)) (fun rv9 S9 M14 h9 => ?_)
  obtain ⟨rfl, e14, rfl⟩ := h9
  subst e14
  change zW _ _ _ _ _ 17 [(0, .inr (.inr 0))] [.inl (zsum (M4 9) 16)] M4
  exact z_iret (zdec DX9_image 7 rfl) rfl (⟨rfl, zri (by rw [e4, zki_9]), e4⟩)
/-- the image, in its bounds -/
def zImB (M : zMm) : Prop := ∀ h : Int, 0 ≤ h → h < 16 → (0 ≤ M 35 h ∧ M 35 h ≤ 99) ∧ (0 ≤ M 36 h ∧ M 36 h ≤ 1)
theorem zlb_9 {M : zMm} {i : Int} (h0 : 0 ≤ i) (h1 : i < 16) : (zcpy (zcpy M 35 0 9 0 16) 36 0 7 0 16) 9 i = M 35 i := by
  rw [zcpy_row (by decide)]
  unfold zcpy
  rw [if_pos ⟨rfl, by omega, by omega⟩, show 0 + (i - 0) = i by omega]
set_option maxHeartbeats 4000000 in
theorem cX9_back {M : zMm} (hP : zP M) (hB : zImB M) : zW mX9_back 3 (fun rv S' M' => S' = zS0 ∧ ((M 34 3 = 0 ∧ rv = some (.inl (-5)) ∧ M = M') ∨ (M 34 3 ≠ 0 ∧ rv = some (.inl (zsum (M 35) 16)) ∧ M' = zcpy (zcpy M 35 0 9 0 16) 36 0 7 0 16))) (0, 0) zS0 0 (zargs 0 [.inr (.inr 0)]) [] M := by
  change zW _ _ _ _ _ 0 [(0, .inr (.inr 0))] [] M
  refine z_aload_n 0 (zdec DX9_back 0 rfl) rfl rfl (by decide) ?_
  refine z_getr (rw1 := -10) (ki := 5) (r' := 34) 0 9 (zdec DX9_back 1 rfl) rfl rfl shp0 rfl (by decide) rfl rfl fl_SixWalls_51 (zPa hP 5 rfl) ?_
  refine z_inv mX2_layBack 34 2 [] (zdec DX9_back 2 rfl) ml_SixWalls_287 okX2_layBack rfl shp34 rfl rfl rfl rfl (Nat.le_of_ble_eq_true rfl) (Nat.le_of_ble_eq_true rfl) (b' := (0, 0)) ⟨Nat.le_refl 0, Nat.le_refl 0⟩ (Nat.le_of_ble_eq_true rfl) (cX2_layBack hP) (fun rv9 S9 M4 h9 => ?_)
  obtain ⟨rfl, h4⟩ := h9
  obtain ⟨r4, rfl⟩ : ∃ r, rv9 = some (.inl r) := by rcases h4 with h | h <;> exact ⟨_, h.2.1⟩
  change zW _ _ _ _ _ 7 [(0, .inr (.inr 0))] [.inl r4] M4
  refine z_if_eq 23 (zdec DX9_back 3 rfl) rfl (fun h7 => ?_) (fun h7 => ?_)
  ·
    refine z_bipush (-5) (zdec DX9_back 9 rfl) (by decide) ?_
    exact z_iret (zdec DX9_back 10 rfl) rfl (⟨rfl, by rcases h4 with ⟨h, _, e⟩ | ⟨h, h2, e⟩; exact Or.inl ⟨h, rfl, e⟩; (exfalso; have h3 : r4 = 1 := by simpa using h2); omega⟩)
  ·
    have hz : M 34 3 ≠ 0 ∧ M4 = zcpy (zcpy M 35 0 9 0 16) 36 0 7 0 16 := by rcases h4 with ⟨_, h, _⟩ | ⟨h, _, e⟩; (exfalso; apply h7; simpa using h); exact ⟨h, e⟩
    obtain ⟨hz, e4⟩ := hz
    have hP4 : zP M4 := by rw [e4]; exact zP_cpy (zP_cpy hP (by decide)) (by decide)
    refine z_aload_n 0 (zdec DX9_back 4 rfl) rfl rfl (by decide) ?_
    refine z_getr (rw1 := -10) (ki := 0) (r' := 1) 0 9 (zdec DX9_back 5 rfl) rfl rfl shp0 rfl (by decide) rfl rfl fl_SixWalls_10 (zPa hP4 0 rfl) ?_
    refine z_getr (rw1 := -11) (ki := 7) (r' := 9) 1 1 (zdec DX9_back 6 rfl) rfl rfl shp1 rfl (by decide) rfl rfl fl_SixWalls_129 (zPa hP4 16 rfl) ?_
    refine z_invs mX9_sum [.inr (.inr 9)] (zdec DX9_back 7 rfl) (Or.inl ml_SixWalls_204) okX9_sum rfl rfl (Nat.le_of_ble_eq_true rfl) (Nat.le_of_ble_eq_true rfl) (b' := (0, 0)) ⟨Nat.le_refl 0, Nat.le_refl 0⟩ (Nat.le_of_ble_eq_true rfl) (cX9_sum_9 (by rw [e4]; exact fun i h0 h1 => by rw [zlb_9 h0 h1]; exact (hB i h0 h1).1)) (fun rv9 S9 M17 h9 => ?_)
    obtain ⟨rfl, e14, rfl⟩ := h9
    subst e14
    change zW _ _ _ _ _ 20 [(0, .inr (.inr 0))] [.inl (zsum (M4 9) 16)] M4
    refine z_goto 25 (zdec DX9_back 8 rfl) rfl ?_
    exact z_iret (zdec DX9_back 10 rfl) rfl (⟨rfl, Or.inr ⟨hz, by rw [e4, zsum_c fun i h0 h1 => zlb_9 h0 h1], e4⟩⟩)
