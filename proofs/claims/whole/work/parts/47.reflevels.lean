/-! the reference: levels of the law, worked out as they are read -/
theorem zpL_s {t : Int → Int} {n : Int} {f : Nat} {l o p : Int} (h : l < 5) : zpL t n (f + 1) l o p = zpLp t n (zpL t n f (l + 1) o) l (if l = 2 then 1 else 120) (zpL t n f (l + 1) o p) := if_neg (by omega)
theorem zpR.y {M M2 : zMm} {o p : Int} {v : Int → Int} {r : zPr} {x : Int} (hr : zpR M o v r M2 x) (hy : zRy M o p) (hG : zpG (M 56 17) p r) : zP M2 ∧ zRb M2 ∧ ztx M2 = ztx M ∧ M2 56 17 = M 56 17 ∧ zvn M2 = zvn M ∧ (M2 56 18 < 0 → r.2.1 = false) := by
  have tx := hr.1.tx
  have hb := hy.2.1
  have hb2 := hb.2
  have hp := hy.2.2.1
  have g1 := hG.1
  have g2 := hG.2.1
  have e16 := hr.2.1
  refine ⟨hr.1.P hy.1, ⟨by rw [tx.2.2]; exact hb.1, by rw [tx.2.1, e16]; omega⟩, tx.1, tx.2.1, ?_, fun q => ?_⟩
  · funext g
    unfold zvn
    rw [hr.1.1 67 (by decide)]
  · cases e : r.2.1 with
    | false => rfl
    | true => have := (hr.2.2.1 e).1; omega
theorem zRy_of {M M8 : zMm} {o o' p p' : Int} (hy : zRy M o p) (h : zoT M M8) (h16 : M8 56 16 = p') (h18 : M8 56 18 = -1) (h19 : M8 56 19 = o') (h0 : 0 ≤ p') (h1 : p' ≤ M 56 17) (h2 : 0 ≤ o') (h3 : o' ≤ 6) : zRy M8 o' p' := by
  have tx := h.tx
  have hb := hy.2.1
  have hb2 := hb.2
  exact ⟨h.P hy.1, ⟨by rw [tx.2.2]; exact hb.1, by rw [tx.2.1, h16]; omega⟩, h16, h18, h19, h2, h3⟩
theorem zvn_of {M M8 : zMm} (h : zoT M M8) : zvn M8 = zvn M := by
  funext g
  unfold zvn
  rw [h.1 67 (by decide)]
/-- a sign of the level, and what comes behind it -/
theorem zlv_go {M M2 M8 : zMm} {o p l c v : Int} {f k : Nat} {r A : zPr} (hy : zRy M o p) (hr : zpR M o (zvn M) r M2 v) (hG : zpG (M 56 17) p r) (he : A = zpLp (ztx M) (M 56 17) (zpL (ztx M) (M 56 17) f (l + 1) o) l k r) (hl : 0 ≤ l ∧ l < 5) (hc : zlev c = l) (hc0 : 0 < c) (hf : (6 - o) * 6 + (5 - (l + 1)) + 1 ≤ f) (hk : M 56 17 - r.1 ≤ k ∨ 0 < k) (q8 : M2 56 18 < 0 ∧ zby M2 = c) (e8 : M8 = zup M2 56 16 (M2 56 16 + 1)) :
    zRy M8 o (r.1 + 1) ∧ ((6 - o) * 6 + (5 - (l + 1)) + 1 ≤ f ∧ r.1 < M 56 17) ∧ ∀ (M15 : zMm) (w x : Int), zpR M8 o (zvn M8) (zpL (ztx M8) (M8 56 17) f (l + 1) o (r.1 + 1)) M15 w → x = zjoi c v w → ∃ r' : zPr, A = zpLp (ztx M) (M 56 17) (zpL (ztx M) (M 56 17) f (l + 1) o) l (k - 1) r' ∧ zpR M o (zvn M) r' M15 x ∧ zpG (M 56 17) p r' ∧ r.1 < r'.1 := by
  have y := hr.y hy hG
  have hb : r.2.1 = false := y.2.2.2.2.2 q8.1
  have hv := (zby_v y.2.1 hc0).mp q8.2
  rw [y.2.2.1, y.2.2.2.1, hr.2.1] at hv
  have hlt : r.1 < M 56 17 := zpx_lt (t := ztx M) (by omega)
  have hr3 := hr.2.2.2 hb
  have g1 := hG.1
  have hp := hy.2.2.1
  have hb2 := hy.2.1.2
  have o8 : zoT M M8 := by rw [e8]; exact hr.1.up (Or.inl rfl)
  have tx := o8.tx
  have hy8 : zRy M8 o (r.1 + 1) := zRy_of hy o8 (by rw [e8, zup_self, hr.2.1]) (by rw [e8, zup_ne (by decide)]; exact hr3.1) (by rw [e8, zup_ne (by decide)]; exact hr3.2.1) (by omega) (by omega) hy.2.2.2.2.2.1 hy.2.2.2.2.2.2
  refine ⟨hy8, ⟨hf, hlt⟩, fun M15 w x z hx => ?_⟩
  rw [tx.1, tx.2.1, zvn_of o8] at z
  have hs := zpL_G (t := ztx M) (n := M 56 17) f (l + 1) o (r.1 + 1) (by omega) (by omega) hy.2.2.2.2.2.1 hy.2.2.2.2.2.2 hf (by omega) (by omega)
  have go := zpLp_go (t := ztx M) (n := M 56 17) (R := zpL (ztx M) (M 56 17) f (l + 1) o) (l := l) (k := k) hb (by rw [hv]; exact hc) (by omega)
  rw [go, hv] at he
  refine ⟨_, he, ⟨o8.tr z.1, z.2.1, fun e => z.2.2.1 e, fun e => ?_⟩, ⟨by have := hs.1; dsimp only; omega, hs.2.1, fun e => ?_⟩, by have := hs.1; dsimp only; omega⟩
  · have z3 := z.2.2.2 e
    refine ⟨z3.1, z3.2.1, ?_⟩
    rw [hx]
    exact zsl_bin hr3.2.2 z3.2.2 (by omega)
  · have h1 := hG.2.2 hb
    have h2 := hs.2.2 e
    dsimp only
    rw [List.length_append, List.length_append, List.length_singleton]
    omega
theorem zlv_end {M M2 : zMm} {o l v : Int} {f k : Nat} {r A : zPr} (hr : zpR M o (zvn M) r M2 v) (he : A = zpLp (ztx M) (M 56 17) (zpL (ztx M) (M 56 17) f (l + 1) o) l k r) (h : r.2.1 = true ∨ zlev (zpx (ztx M) (M 56 17) r.1) ≠ l) : zpR M o (zvn M) A M2 v := by
  rw [he, zpLp_st h]
  exact hr
theorem zlv_no {M M2 : zMm} {o p v : Int} {r : zPr} (hy : zRy M o p) (hr : zpR M o (zvn M) r M2 v) (hG : zpG (M 56 17) p r) {l : Int} (hl : 0 ≤ l) (q : ¬ (M2 56 18 < 0 ∧ zlev (zby M2) = l)) : r.2.1 = true ∨ zlev (zpx (ztx M) (M 56 17) r.1) ≠ l := by
  have y := hr.y hy hG
  cases e : r.2.1 with
  | true => exact Or.inl rfl
  | false =>
    right
    intro h
    have h1 := (hr.2.2.2 e).1
    have hc : 0 < zpx (ztx M) (M 56 17) r.1 := by
      unfold zlev at h
      repeat' split at h
      all_goals omega
    have hz := (zby_v y.2.1 hc).mpr (by rw [y.2.2.1, y.2.2.2.1, hr.2.1])
    exact q ⟨by omega, by rw [hz]; exact h⟩
set_option maxHeartbeats 4000000 in
theorem lp_X10_either_5 {Q : zPost} (f : Nat) (hN : ∀ (M : zMm) (o p : Int), zRy M o p → (6 - o) * 6 + (5 - 1) + 1 ≤ f → zW mX10_both (f + 3) (fun rv S' M' => S' = zS0 ∧ ∃ x, rv = some (.inl x) ∧ zpR M o (zvn M) (zpL (ztx M) (M 56 17) (f) 1 o p) M' x) (0, 0) zS0 0 (zargs 0 [.inr (.inr 56)]) [] M) {M : zMm} (o p : Int) (hy : zRy M o p) (hf : (6 - o) * 6 + (5 - 0) + 1 ≤ f + 1) (hx36 : ∀ (v : Int) (M2 : zMm), (zpR M o (zvn M) (zpL (ztx M) (M 56 17) (f + 1) 0 o p) M2 v) → zW mX10_either (f + 4) Q (0, 0) zS0 36 [(1, .inl v)] [] M2) : ∀ (n : Nat) (v : Int) (M2 : zMm), (M 56 17 - M2 56 16).toNat < n → (∃ (k : Nat) (r : zPr), zpL (ztx M) (M 56 17) (f + 1) 0 o p = zpLp (ztx M) (M 56 17) (zpL (ztx M) (M 56 17) f (0 + 1) o) 0 k r ∧ zpR M o (zvn M) r M2 v ∧ zpG (M 56 17) p r ∧ (r.2.1 = false → M 56 17 - r.1 ≤ k)) → zW mX10_either (f + 4) Q (0, 0) zS0 5 [(0, .inr (.inr 56)), (1, .inl v)] [] M2 := by
  intro n
  induction n with
  | zero => intro v M2 hn; exact absurd hn (Nat.not_lt_zero _)
  | succ n ih =>
    intro v M2 hn hI
    obtain ⟨k, r, he, hr, hG, hk⟩ := hI
    have hp := hy.2.2.1
    have hb2 := hy.2.1.2
    obtain ⟨hP2, hRb2, -, -, -, hbad⟩ := hr.y hy hG
    have e16 := hr.2.1
    have gg := hG.2.1
    refine z_aload_n 0 (zdec DX10_either 3 rfl) rfl rfl (by decide) ?_
    refine z_bipush 124 (zdec DX10_either 4 rfl) (by decide) ?_
    refine z_inv mX10_takesByte 56 10 [.inl 124] (zdec DX10_either 5 rfl) ml_SixWallsModel_204 okX10_takesByte rfl shp56 rfl rfl rfl rfl (Nat.le_of_ble_eq_true rfl) (by omega) (b' := (0, 0)) ⟨Nat.le_refl 0, Nat.le_refl 0⟩ (Nat.le_of_ble_eq_true rfl) (cX10_takesByte hP2 hRb2 124) (fun rv9 S9 M8 h9 => ?_)
    obtain ⟨rfl, r8, rfl, y8⟩ := h9
    change zW _ _ _ _ _ 11 [(0, .inr (.inr 56)), (1, .inl v)] [.inl r8] M8
    refine z_if_eq 36 (zdec DX10_either 6 rfl) rfl (fun h11 => ?_) (fun h11 => ?_)
    ·
      obtain ⟨-, q8, e8⟩ := y8.resolve_right (fun h => absurd h.1 (by omega))
      refine z_weak (L' := [(1, .inl v)]) (by simp) ?_
      exact hx36 v M8 (by rw [e8]; exact zlv_end hr he (zlv_no hy hr hG (by decide) (fun q => q8 ⟨q.1, (by have q2 := q.2; unfold zlev at q2; (repeat' split at q2) <;> omega)⟩)))
    ·
      obtain ⟨-, q8, e8⟩ := y8.resolve_left (fun h => h11 h.1)
      have go := zlv_go (c := 124) hy hr hG he ⟨by decide, by decide⟩ (by decide) (by decide) (by omega) (Or.inl (hk (hbad q8.1))) q8 e8
      refine z_aload_n 0 (zdec DX10_either 7 rfl) rfl rfl (by decide) ?_
      refine z_inv mX10_both 56 10 [] (zdec DX10_either 8 rfl) ml_SixWallsModel_201 okX10_both rfl shp56 rfl rfl rfl rfl (Nat.le_of_ble_eq_true rfl) (by omega) (b' := (0, 0)) ⟨Nat.le_refl 0, Nat.le_refl 0⟩ (Nat.le_of_ble_eq_true rfl) (hN _ _ _ go.1 (by have := go.2.1.1; omega)) (fun rv9 S9 M15 h9 => ?_)
      obtain ⟨rfl, w, rfl, z2⟩ := h9
      have e15 := z2.2.1
      have gg2 := zpL_G (t := ztx M8) (n := M8 56 17) f 1 o (r.1 + 1) (by decide) (by decide) hy.2.2.2.2.2.1 hy.2.2.2.2.2.2 (by omega) (by have := hG.1; omega) (by have := go.1.2.1.2; have := go.1.2.2.1; omega)
      have gg3 := gg2.1
      have gg4 := go.2.1
      change zW _ _ _ _ _ 18 [(0, .inr (.inr 56)), (1, .inl v)] [.inl w] M15
      refine z_istore_n (L' := [(0, .inr (.inr 56)), (1, .inl v), (2, .inl w)]) (zdec DX10_either 9 rfl) rfl rfl (by decide) ?_
      refine z_iload_n 1 (zdec DX10_either 10 rfl) rfl rfl ?_
      refine z_if_ne 27 (zdec DX10_either 11 rfl) rfl (fun h20 => ?_) (fun h20 => ?_)
      ·
        refine z_iconst 1 (zdec DX10_either 14 rfl) (by decide) ?_
        refine z_goto 32 (zdec DX10_either 15 rfl) rfl ?_
        refine z_istore_n (L' := [(0, .inr (.inr 56)), (1, .inl 1), (2, .inl w)]) (zdec DX10_either 17 rfl) rfl rfl (by decide) ?_
        refine z_goto 5 (zdec DX10_either 18 rfl) rfl ?_
        refine z_weak (L' := [(0, .inr (.inr 56)), (1, .inl 1)]) (by simp) ?_
        exact ih 1 M15 (by omega) (by obtain ⟨r2, u1, u2, u3, u4⟩ := go.2.2 M15 w (1) z2 (by unfold zjoi; first | (rw [if_pos (by decide)]; unfold zb; first | (rw [if_pos (by omega)]; done) | (rw [if_neg (by omega)]; done)) | (rw [if_neg (by decide), if_pos (by decide)]; unfold zb; first | (rw [if_pos ⟨by omega, by omega⟩]; done) | (rw [if_neg (by omega)]; done))); exact ⟨k - 1, r2, u1, u2, u3, fun _ => (by have := hk (hbad q8.1); omega)⟩)
      ·
        refine z_iload_n 2 (zdec DX10_either 12 rfl) rfl rfl ?_
        refine z_if_eq 31 (zdec DX10_either 13 rfl) rfl (fun h24 => ?_) (fun h24 => ?_)
        ·
          refine z_iconst 0 (zdec DX10_either 16 rfl) (by decide) ?_
          refine z_istore_n (L' := [(0, .inr (.inr 56)), (1, .inl 0), (2, .inl w)]) (zdec DX10_either 17 rfl) rfl rfl (by decide) ?_
          refine z_goto 5 (zdec DX10_either 18 rfl) rfl ?_
          refine z_weak (L' := [(0, .inr (.inr 56)), (1, .inl 0)]) (by simp) ?_
          exact ih 0 M15 (by omega) (by obtain ⟨r2, u1, u2, u3, u4⟩ := go.2.2 M15 w (0) z2 (by unfold zjoi; first | (rw [if_pos (by decide)]; unfold zb; first | (rw [if_pos (by omega)]; done) | (rw [if_neg (by omega)]; done)) | (rw [if_neg (by decide), if_pos (by decide)]; unfold zb; first | (rw [if_pos ⟨by omega, by omega⟩]; done) | (rw [if_neg (by omega)]; done))); exact ⟨k - 1, r2, u1, u2, u3, fun _ => (by have := hk (hbad q8.1); omega)⟩)
        ·
          refine z_iconst 1 (zdec DX10_either 14 rfl) (by decide) ?_
          refine z_goto 32 (zdec DX10_either 15 rfl) rfl ?_
          refine z_istore_n (L' := [(0, .inr (.inr 56)), (1, .inl 1), (2, .inl w)]) (zdec DX10_either 17 rfl) rfl rfl (by decide) ?_
          refine z_goto 5 (zdec DX10_either 18 rfl) rfl ?_
          refine z_weak (L' := [(0, .inr (.inr 56)), (1, .inl 1)]) (by simp) ?_
          exact ih 1 M15 (by omega) (by obtain ⟨r2, u1, u2, u3, u4⟩ := go.2.2 M15 w (1) z2 (by unfold zjoi; first | (rw [if_pos (by decide)]; unfold zb; first | (rw [if_pos (by omega)]; done) | (rw [if_neg (by omega)]; done)) | (rw [if_neg (by decide), if_pos (by decide)]; unfold zb; first | (rw [if_pos ⟨by omega, by omega⟩]; done) | (rw [if_neg (by omega)]; done))); exact ⟨k - 1, r2, u1, u2, u3, fun _ => (by have := hk (hbad q8.1); omega)⟩)
set_option maxHeartbeats 4000000 in
theorem cX10_either (f : Nat) (hN : ∀ (M : zMm) (o p : Int), zRy M o p → (6 - o) * 6 + (5 - 1) + 1 ≤ f → zW mX10_both (f + 3) (fun rv S' M' => S' = zS0 ∧ ∃ x, rv = some (.inl x) ∧ zpR M o (zvn M) (zpL (ztx M) (M 56 17) (f) 1 o p) M' x) (0, 0) zS0 0 (zargs 0 [.inr (.inr 56)]) [] M) {M : zMm} (o p : Int) (hy : zRy M o p) (hf : (6 - o) * 6 + (5 - 0) + 1 ≤ f + 1) : zW mX10_either (f + 4) (fun rv S' M' => S' = zS0 ∧ ∃ x, rv = some (.inl x) ∧ zpR M o (zvn M) (zpL (ztx M) (M 56 17) (f + 1) 0 o p) M' x) (0, 0) zS0 0 (zargs 0 [.inr (.inr 56)]) [] M := by
  change zW _ _ _ _ _ 0 [(0, .inr (.inr 56))] [] M
  have hb2 := hy.2.1.2
  have hp := hy.2.2.1
  refine z_aload_n 0 (zdec DX10_either 0 rfl) rfl rfl (by decide) ?_
  refine z_inv mX10_both 56 10 [] (zdec DX10_either 1 rfl) ml_SixWallsModel_201 okX10_both rfl shp56 rfl rfl rfl rfl (Nat.le_of_ble_eq_true rfl) (by omega) (b' := (0, 0)) ⟨Nat.le_refl 0, Nat.le_refl 0⟩ (Nat.le_of_ble_eq_true rfl) (hN M o p hy (by omega)) (fun rv9 S9 M1 h9 => ?_)
  obtain ⟨rfl, v, rfl, z1⟩ := h9
  have g1 := zpL_G (t := ztx M) (n := M 56 17) f 1 o p (by decide) (by decide) hy.2.2.2.2.2.1 hy.2.2.2.2.2.2 (by omega) (by omega) (by omega)
  change zW _ _ _ _ _ 4 [(0, .inr (.inr 56))] [.inl v] M1
  refine z_istore_n (L' := [(0, .inr (.inr 56)), (1, .inl v)]) (zdec DX10_either 2 rfl) rfl rfl (by decide) ?_
  refine lp_X10_either_5 f hN o p hy hf (hx36 := fun v M2 hx => ?_) _ v M1 (Nat.lt_succ_self _) ⟨120, zpL (ztx M) (M 56 17) f 1 o p, zpL_s (by decide), z1, g1, fun _ => by have := g1.1; omega⟩
  refine z_iload_n 0 (zdec DX10_either 19 rfl) rfl rfl ?_
  exact z_iret (zdec DX10_either 20 rfl) rfl (⟨rfl, v, rfl, hx⟩)
set_option maxHeartbeats 4000000 in
theorem lp_X10_both_5 {Q : zPost} (f : Nat) (hN : ∀ (M : zMm) (o p : Int), zRy M o p → (6 - o) * 6 + (5 - 2) + 1 ≤ f → zW mX10_compared (f + 3) (fun rv S' M' => S' = zS0 ∧ ∃ x, rv = some (.inl x) ∧ zpR M o (zvn M) (zpL (ztx M) (M 56 17) (f) 2 o p) M' x) (0, 0) zS0 0 (zargs 0 [.inr (.inr 56)]) [] M) {M : zMm} (o p : Int) (hy : zRy M o p) (hf : (6 - o) * 6 + (5 - 1) + 1 ≤ f + 1) (hx36 : ∀ (v : Int) (M2 : zMm), (zpR M o (zvn M) (zpL (ztx M) (M 56 17) (f + 1) 1 o p) M2 v) → zW mX10_both (f + 4) Q (0, 0) zS0 36 [(1, .inl v)] [] M2) : ∀ (n : Nat) (v : Int) (M2 : zMm), (M 56 17 - M2 56 16).toNat < n → (∃ (k : Nat) (r : zPr), zpL (ztx M) (M 56 17) (f + 1) 1 o p = zpLp (ztx M) (M 56 17) (zpL (ztx M) (M 56 17) f (1 + 1) o) 1 k r ∧ zpR M o (zvn M) r M2 v ∧ zpG (M 56 17) p r ∧ (r.2.1 = false → M 56 17 - r.1 ≤ k)) → zW mX10_both (f + 4) Q (0, 0) zS0 5 [(0, .inr (.inr 56)), (1, .inl v)] [] M2 := by
  intro n
  induction n with
  | zero => intro v M2 hn; exact absurd hn (Nat.not_lt_zero _)
  | succ n ih =>
    intro v M2 hn hI
    obtain ⟨k, r, he, hr, hG, hk⟩ := hI
    have hp := hy.2.2.1
    have hb2 := hy.2.1.2
    obtain ⟨hP2, hRb2, -, -, -, hbad⟩ := hr.y hy hG
    have e16 := hr.2.1
    have gg := hG.2.1
    refine z_aload_n 0 (zdec DX10_both 3 rfl) rfl rfl (by decide) ?_
    refine z_bipush 38 (zdec DX10_both 4 rfl) (by decide) ?_
    refine z_inv mX10_takesByte 56 10 [.inl 38] (zdec DX10_both 5 rfl) ml_SixWallsModel_204 okX10_takesByte rfl shp56 rfl rfl rfl rfl (Nat.le_of_ble_eq_true rfl) (by omega) (b' := (0, 0)) ⟨Nat.le_refl 0, Nat.le_refl 0⟩ (Nat.le_of_ble_eq_true rfl) (cX10_takesByte hP2 hRb2 38) (fun rv9 S9 M8 h9 => ?_)
    obtain ⟨rfl, r8, rfl, y8⟩ := h9
    change zW _ _ _ _ _ 11 [(0, .inr (.inr 56)), (1, .inl v)] [.inl r8] M8
    refine z_if_eq 36 (zdec DX10_both 6 rfl) rfl (fun h11 => ?_) (fun h11 => ?_)
    ·
      obtain ⟨-, q8, e8⟩ := y8.resolve_right (fun h => absurd h.1 (by omega))
      refine z_weak (L' := [(1, .inl v)]) (by simp) ?_
      exact hx36 v M8 (by rw [e8]; exact zlv_end hr he (zlv_no hy hr hG (by decide) (fun q => q8 ⟨q.1, (by have q2 := q.2; unfold zlev at q2; (repeat' split at q2) <;> omega)⟩)))
    ·
      obtain ⟨-, q8, e8⟩ := y8.resolve_left (fun h => h11 h.1)
      have go := zlv_go (c := 38) hy hr hG he ⟨by decide, by decide⟩ (by decide) (by decide) (by omega) (Or.inl (hk (hbad q8.1))) q8 e8
      refine z_aload_n 0 (zdec DX10_both 7 rfl) rfl rfl (by decide) ?_
      refine z_inv mX10_compared 56 10 [] (zdec DX10_both 8 rfl) ml_SixWallsModel_207 okX10_compared rfl shp56 rfl rfl rfl rfl (Nat.le_of_ble_eq_true rfl) (by omega) (b' := (0, 0)) ⟨Nat.le_refl 0, Nat.le_refl 0⟩ (Nat.le_of_ble_eq_true rfl) (hN _ _ _ go.1 (by have := go.2.1.1; omega)) (fun rv9 S9 M15 h9 => ?_)
      obtain ⟨rfl, w, rfl, z2⟩ := h9
      have e15 := z2.2.1
      have gg2 := zpL_G (t := ztx M8) (n := M8 56 17) f 2 o (r.1 + 1) (by decide) (by decide) hy.2.2.2.2.2.1 hy.2.2.2.2.2.2 (by omega) (by have := hG.1; omega) (by have := go.1.2.1.2; have := go.1.2.2.1; omega)
      have gg3 := gg2.1
      have gg4 := go.2.1
      change zW _ _ _ _ _ 18 [(0, .inr (.inr 56)), (1, .inl v)] [.inl w] M15
      refine z_istore_n (L' := [(0, .inr (.inr 56)), (1, .inl v), (2, .inl w)]) (zdec DX10_both 9 rfl) rfl rfl (by decide) ?_
      refine z_iload_n 1 (zdec DX10_both 10 rfl) rfl rfl ?_
      refine z_if_eq 31 (zdec DX10_both 11 rfl) rfl (fun h20 => ?_) (fun h20 => ?_)
      ·
        refine z_iconst 0 (zdec DX10_both 16 rfl) (by decide) ?_
        refine z_istore_n (L' := [(0, .inr (.inr 56)), (1, .inl 0), (2, .inl w)]) (zdec DX10_both 17 rfl) rfl rfl (by decide) ?_
        refine z_goto 5 (zdec DX10_both 18 rfl) rfl ?_
        refine z_weak (L' := [(0, .inr (.inr 56)), (1, .inl 0)]) (by simp) ?_
        exact ih 0 M15 (by omega) (by obtain ⟨r2, u1, u2, u3, u4⟩ := go.2.2 M15 w (0) z2 (by unfold zjoi; first | (rw [if_pos (by decide)]; unfold zb; first | (rw [if_pos (by omega)]; done) | (rw [if_neg (by omega)]; done)) | (rw [if_neg (by decide), if_pos (by decide)]; unfold zb; first | (rw [if_pos ⟨by omega, by omega⟩]; done) | (rw [if_neg (by omega)]; done))); exact ⟨k - 1, r2, u1, u2, u3, fun _ => (by have := hk (hbad q8.1); omega)⟩)
      ·
        refine z_iload_n 2 (zdec DX10_both 12 rfl) rfl rfl ?_
        refine z_if_eq 31 (zdec DX10_both 13 rfl) rfl (fun h24 => ?_) (fun h24 => ?_)
        ·
          refine z_iconst 0 (zdec DX10_both 16 rfl) (by decide) ?_
          refine z_istore_n (L' := [(0, .inr (.inr 56)), (1, .inl 0), (2, .inl w)]) (zdec DX10_both 17 rfl) rfl rfl (by decide) ?_
          refine z_goto 5 (zdec DX10_both 18 rfl) rfl ?_
          refine z_weak (L' := [(0, .inr (.inr 56)), (1, .inl 0)]) (by simp) ?_
          exact ih 0 M15 (by omega) (by obtain ⟨r2, u1, u2, u3, u4⟩ := go.2.2 M15 w (0) z2 (by unfold zjoi; first | (rw [if_pos (by decide)]; unfold zb; first | (rw [if_pos (by omega)]; done) | (rw [if_neg (by omega)]; done)) | (rw [if_neg (by decide), if_pos (by decide)]; unfold zb; first | (rw [if_pos ⟨by omega, by omega⟩]; done) | (rw [if_neg (by omega)]; done))); exact ⟨k - 1, r2, u1, u2, u3, fun _ => (by have := hk (hbad q8.1); omega)⟩)
        ·
          refine z_iconst 1 (zdec DX10_both 14 rfl) (by decide) ?_
          refine z_goto 32 (zdec DX10_both 15 rfl) rfl ?_
          refine z_istore_n (L' := [(0, .inr (.inr 56)), (1, .inl 1), (2, .inl w)]) (zdec DX10_both 17 rfl) rfl rfl (by decide) ?_
          refine z_goto 5 (zdec DX10_both 18 rfl) rfl ?_
          refine z_weak (L' := [(0, .inr (.inr 56)), (1, .inl 1)]) (by simp) ?_
          exact ih 1 M15 (by omega) (by obtain ⟨r2, u1, u2, u3, u4⟩ := go.2.2 M15 w (1) z2 (by unfold zjoi; first | (rw [if_pos (by decide)]; unfold zb; first | (rw [if_pos (by omega)]; done) | (rw [if_neg (by omega)]; done)) | (rw [if_neg (by decide), if_pos (by decide)]; unfold zb; first | (rw [if_pos ⟨by omega, by omega⟩]; done) | (rw [if_neg (by omega)]; done))); exact ⟨k - 1, r2, u1, u2, u3, fun _ => (by have := hk (hbad q8.1); omega)⟩)
set_option maxHeartbeats 4000000 in
theorem cX10_both (f : Nat) (hN : ∀ (M : zMm) (o p : Int), zRy M o p → (6 - o) * 6 + (5 - 2) + 1 ≤ f → zW mX10_compared (f + 3) (fun rv S' M' => S' = zS0 ∧ ∃ x, rv = some (.inl x) ∧ zpR M o (zvn M) (zpL (ztx M) (M 56 17) (f) 2 o p) M' x) (0, 0) zS0 0 (zargs 0 [.inr (.inr 56)]) [] M) {M : zMm} (o p : Int) (hy : zRy M o p) (hf : (6 - o) * 6 + (5 - 1) + 1 ≤ f + 1) : zW mX10_both (f + 4) (fun rv S' M' => S' = zS0 ∧ ∃ x, rv = some (.inl x) ∧ zpR M o (zvn M) (zpL (ztx M) (M 56 17) (f + 1) 1 o p) M' x) (0, 0) zS0 0 (zargs 0 [.inr (.inr 56)]) [] M := by
  change zW _ _ _ _ _ 0 [(0, .inr (.inr 56))] [] M
  have hb2 := hy.2.1.2
  have hp := hy.2.2.1
  refine z_aload_n 0 (zdec DX10_both 0 rfl) rfl rfl (by decide) ?_
  refine z_inv mX10_compared 56 10 [] (zdec DX10_both 1 rfl) ml_SixWallsModel_207 okX10_compared rfl shp56 rfl rfl rfl rfl (Nat.le_of_ble_eq_true rfl) (by omega) (b' := (0, 0)) ⟨Nat.le_refl 0, Nat.le_refl 0⟩ (Nat.le_of_ble_eq_true rfl) (hN M o p hy (by omega)) (fun rv9 S9 M1 h9 => ?_)
  obtain ⟨rfl, v, rfl, z1⟩ := h9
  have g1 := zpL_G (t := ztx M) (n := M 56 17) f 2 o p (by decide) (by decide) hy.2.2.2.2.2.1 hy.2.2.2.2.2.2 (by omega) (by omega) (by omega)
  change zW _ _ _ _ _ 4 [(0, .inr (.inr 56))] [.inl v] M1
  refine z_istore_n (L' := [(0, .inr (.inr 56)), (1, .inl v)]) (zdec DX10_both 2 rfl) rfl rfl (by decide) ?_
  refine lp_X10_both_5 f hN o p hy hf (hx36 := fun v M2 hx => ?_) _ v M1 (Nat.lt_succ_self _) ⟨120, zpL (ztx M) (M 56 17) f 2 o p, zpL_s (by decide), z1, g1, fun _ => by have := g1.1; omega⟩
  refine z_iload_n 0 (zdec DX10_both 19 rfl) rfl rfl ?_
  exact z_iret (zdec DX10_both 20 rfl) rfl (⟨rfl, v, rfl, hx⟩)
set_option maxHeartbeats 4000000 in
theorem cX10_compared (f : Nat) (hN : ∀ (M : zMm) (o p : Int), zRy M o p → (6 - o) * 6 + (5 - 3) + 1 ≤ f → zW mX10_sums (f + 3) (fun rv S' M' => S' = zS0 ∧ ∃ x, rv = some (.inl x) ∧ zpR M o (zvn M) (zpL (ztx M) (M 56 17) (f) 3 o p) M' x) (0, 0) zS0 0 (zargs 0 [.inr (.inr 56)]) [] M) {M : zMm} (o p : Int) (hy : zRy M o p) (hf : (6 - o) * 6 + (5 - 2) + 1 ≤ f + 1) : zW mX10_compared (f + 4) (fun rv S' M' => S' = zS0 ∧ ∃ x, rv = some (.inl x) ∧ zpR M o (zvn M) (zpL (ztx M) (M 56 17) (f + 1) 2 o p) M' x) (0, 0) zS0 0 (zargs 0 [.inr (.inr 56)]) [] M := by
  change zW _ _ _ _ _ 0 [(0, .inr (.inr 56))] [] M
  have hb2 := hy.2.1.2
  have hp := hy.2.2.1
  refine z_aload_n 0 (zdec DX10_compared 0 rfl) rfl rfl (by decide) ?_
  refine z_inv mX10_sums 56 10 [] (zdec DX10_compared 1 rfl) ml_SixWallsModel_210 okX10_sums rfl shp56 rfl rfl rfl rfl (Nat.le_of_ble_eq_true rfl) (by omega) (b' := (0, 0)) ⟨Nat.le_refl 0, Nat.le_refl 0⟩ (Nat.le_of_ble_eq_true rfl) (hN M o p hy (by omega)) (fun rv9 S9 M1 h9 => ?_)
  obtain ⟨rfl, v, rfl, z1⟩ := h9
  have g1 := zpL_G (t := ztx M) (n := M 56 17) f 3 o p (by decide) (by decide) hy.2.2.2.2.2.1 hy.2.2.2.2.2.2 (by omega) (by omega) (by omega)
  obtain ⟨hP1, hRb1, -, -, -, hbad⟩ := z1.y hy g1
  have hRb3 := hRb1.2
  have e16 := z1.2.1
  have hA : zpL (ztx M) (M 56 17) (f + 1) 2 o p = zpLp (ztx M) (M 56 17) (zpL (ztx M) (M 56 17) f (2 + 1) o) 2 1 (zpL (ztx M) (M 56 17) f 3 o p) := zpL_s (by decide)
  change zW _ _ _ _ _ 4 [(0, .inr (.inr 56))] [.inl v] M1
  refine z_istore_n (L' := [(0, .inr (.inr 56)), (1, .inl v)]) (zdec DX10_compared 2 rfl) rfl rfl (by decide) ?_
  refine z_aload_n 0 (zdec DX10_compared 3 rfl) rfl rfl (by decide) ?_
  refine z_inv mX10_byteAt 56 10 [] (zdec DX10_compared 4 rfl) ml_SixWallsModel_197 okX10_byteAt rfl shp56 rfl rfl rfl rfl (Nat.le_of_ble_eq_true rfl) (by omega) (b' := (0, 0)) ⟨Nat.le_refl 0, Nat.le_refl 0⟩ (Nat.le_of_ble_eq_true rfl) (cX10_byteAt hP1 hRb1) (fun rv9 S9 M6 h9 => ?_)
  obtain ⟨rfl, rfl, rfl⟩ := h9
  obtain ⟨c, ec⟩ : ∃ c, c = zby M1 := ⟨_, rfl⟩
  rw [← ec]
  change zW _ _ _ _ _ 9 [(0, .inr (.inr 56)), (1, .inl v)] [.inl c] M1
  skip
  refine z_istore_n (L' := [(0, .inr (.inr 56)), (1, .inl v), (2, .inl c)]) (zdec DX10_compared 5 rfl) rfl rfl (by decide) ?_
  refine z_aload_n 0 (zdec DX10_compared 6 rfl) rfl rfl (by decide) ?_
  refine z_geti (ki := 18) 56 10 (zdec DX10_compared 7 rfl) rfl shp56 rfl (by decide) rfl rfl fl_SixWallsModel_194 ?_
  refine z_if_ge 35 (zdec DX10_compared 8 rfl) rfl (fun h14 => ?_) (fun h14 => ?_)
  ·
    refine z_iload_n 1 (zdec DX10_compared 18 rfl) rfl rfl ?_
    exact z_iret (zdec DX10_compared 19 rfl) rfl (⟨rfl, v, rfl, zlv_end z1 hA (zlv_no hy z1 g1 (by decide) (fun q => by have q2 := q.2; rw [← ec] at q2; unfold zlev at q2; (repeat' split at q2) <;> omega))⟩)
  ·
    refine z_iload_n 2 (zdec DX10_compared 9 rfl) rfl rfl ?_
    refine z_bipush 60 (zdec DX10_compared 10 rfl) (by decide) ?_
    refine z_icmp_eq 37 (zdec DX10_compared 11 rfl) rfl (fun h20 => ?_) (fun h20 => ?_)
    ·
      have go := zlv_go (c := 60) hy z1 g1 hA ⟨by decide, by decide⟩ (by decide) (by decide) (by omega) (Or.inr (by decide)) ⟨by omega, by omega⟩ (rfl : zup M1 56 16 (M1 56 16 + 1) = _)
      refine z_aload_n 0 (zdec DX10_compared 20 rfl) rfl rfl (by decide) ?_
      refine z_dup (zdec DX10_compared 21 rfl) rfl ?_
      refine z_geti (ki := 16) 56 10 (zdec DX10_compared 22 rfl) rfl shp56 rfl (by decide) rfl rfl fl_SixWallsModel_185 ?_
      refine z_iconst 1 (zdec DX10_compared 23 rfl) (by decide) ?_
      refine z_iadd (zdec DX10_compared 24 rfl) (by unfold z32; omega) ?_
      refine z_puti (ki := 16) 56 10 (zdec DX10_compared 25 rfl) rfl shp56 rfl (by decide) rfl rfl fl_SixWallsModel_185 (Or.inl rfl) ?_
      refine z_aload_n 0 (zdec DX10_compared 26 rfl) rfl rfl (by decide) ?_
      refine z_inv mX10_sums 56 10 [] (zdec DX10_compared 27 rfl) ml_SixWallsModel_210 okX10_sums rfl shp56 rfl rfl rfl rfl (Nat.le_of_ble_eq_true rfl) (by omega) (b' := (0, 0)) ⟨Nat.le_refl 0, Nat.le_refl 0⟩ (Nat.le_of_ble_eq_true rfl) (hN _ _ _ go.1 (by have := go.2.1.1; omega)) (fun rv9 S9 M48 h9 => ?_)
      obtain ⟨rfl, w, rfl, z2⟩ := h9
      change zW _ _ _ _ _ 51 [(0, .inr (.inr 56)), (1, .inl v), (2, .inl c)] [.inl w] M48
      refine z_istore_n (L' := [(0, .inr (.inr 56)), (1, .inl v), (2, .inl c), (3, .inl w)]) (zdec DX10_compared 28 rfl) rfl rfl (by decide) ?_
      refine z_iload_n 2 (zdec DX10_compared 29 rfl) rfl rfl ?_
      refine z_bipush 60 (zdec DX10_compared 30 rfl) (by decide) ?_
      refine z_icmp_ne 66 (zdec DX10_compared 31 rfl) rfl (fun h55 => ?_) (fun h55 => ?_)
      ·
        refine z_iload_n 2 (zdec DX10_compared 36 rfl) rfl rfl ?_
        refine z_bipush 61 (zdec DX10_compared 37 rfl) (by decide) ?_
        refine z_icmp_ne 80 (zdec DX10_compared 38 rfl) rfl (fun h69 => ?_) (fun h69 => ?_)
        ·
          refine z_iload_n 1 (zdec DX10_compared 43 rfl) rfl rfl ?_
          refine z_iload_n 3 (zdec DX10_compared 44 rfl) rfl rfl ?_
          refine z_icmp_le 89 (zdec DX10_compared 45 rfl) rfl (fun h82 => ?_) (fun h82 => ?_)
          ·
            refine z_iconst 0 (zdec DX10_compared 48 rfl) (by decide) ?_
            exact z_iret (zdec DX10_compared 49 rfl) rfl (by obtain ⟨r2, u1, u2, u3, u4⟩ := go.2.2 M48 w (0) z2 (by unfold zjoi zb; rw [if_neg (by decide), if_neg (by decide)]; first | (rw [if_pos (by decide)]; first | (rw [if_pos (by omega)]; done) | (rw [if_neg (by omega)]; done)) | (rw [if_neg (by decide), if_pos (by decide)]; first | (rw [if_pos (by omega)]; done) | (rw [if_neg (by omega)]; done)) | (rw [if_neg (by decide), if_neg (by decide), if_pos (by decide)]; first | (rw [if_pos (by omega)]; done) | (rw [if_neg (by omega)]; done))); have u5 : zpL (ztx M) (M 56 17) (f + 1) 2 o p = r2 := u1; refine ⟨rfl, _, rfl, ?_⟩; rw [u5]; exact u2)
          ·
            refine z_iconst 1 (zdec DX10_compared 46 rfl) (by decide) ?_
            refine z_goto 90 (zdec DX10_compared 47 rfl) rfl ?_
            exact z_iret (zdec DX10_compared 49 rfl) rfl (by obtain ⟨r2, u1, u2, u3, u4⟩ := go.2.2 M48 w (1) z2 (by unfold zjoi zb; rw [if_neg (by decide), if_neg (by decide)]; first | (rw [if_pos (by decide)]; first | (rw [if_pos (by omega)]; done) | (rw [if_neg (by omega)]; done)) | (rw [if_neg (by decide), if_pos (by decide)]; first | (rw [if_pos (by omega)]; done) | (rw [if_neg (by omega)]; done)) | (rw [if_neg (by decide), if_neg (by decide), if_pos (by decide)]; first | (rw [if_pos (by omega)]; done) | (rw [if_neg (by omega)]; done))); have u5 : zpL (ztx M) (M 56 17) (f + 1) 2 o p = r2 := u1; refine ⟨rfl, _, rfl, ?_⟩; rw [u5]; exact u2)
        ·
          refine z_iload_n 1 (zdec DX10_compared 39 rfl) rfl rfl ?_
          refine z_iload_n 3 (zdec DX10_compared 40 rfl) rfl rfl ?_
          refine z_icmp_ne 89 (zdec DX10_compared 41 rfl) rfl (fun h74 => ?_) (fun h74 => ?_)
          ·
            refine z_iconst 0 (zdec DX10_compared 48 rfl) (by decide) ?_
            exact z_iret (zdec DX10_compared 49 rfl) rfl (by obtain ⟨r2, u1, u2, u3, u4⟩ := go.2.2 M48 w (0) z2 (by unfold zjoi zb; rw [if_neg (by decide), if_neg (by decide)]; first | (rw [if_pos (by decide)]; first | (rw [if_pos (by omega)]; done) | (rw [if_neg (by omega)]; done)) | (rw [if_neg (by decide), if_pos (by decide)]; first | (rw [if_pos (by omega)]; done) | (rw [if_neg (by omega)]; done)) | (rw [if_neg (by decide), if_neg (by decide), if_pos (by decide)]; first | (rw [if_pos (by omega)]; done) | (rw [if_neg (by omega)]; done))); have u5 : zpL (ztx M) (M 56 17) (f + 1) 2 o p = r2 := u1; refine ⟨rfl, _, rfl, ?_⟩; rw [u5]; exact u2)
          ·
            refine z_goto 85 (zdec DX10_compared 42 rfl) rfl ?_
            refine z_iconst 1 (zdec DX10_compared 46 rfl) (by decide) ?_
            refine z_goto 90 (zdec DX10_compared 47 rfl) rfl ?_
            exact z_iret (zdec DX10_compared 49 rfl) rfl (by obtain ⟨r2, u1, u2, u3, u4⟩ := go.2.2 M48 w (1) z2 (by unfold zjoi zb; rw [if_neg (by decide), if_neg (by decide)]; first | (rw [if_pos (by decide)]; first | (rw [if_pos (by omega)]; done) | (rw [if_neg (by omega)]; done)) | (rw [if_neg (by decide), if_pos (by decide)]; first | (rw [if_pos (by omega)]; done) | (rw [if_neg (by omega)]; done)) | (rw [if_neg (by decide), if_neg (by decide), if_pos (by decide)]; first | (rw [if_pos (by omega)]; done) | (rw [if_neg (by omega)]; done))); have u5 : zpL (ztx M) (M 56 17) (f + 1) 2 o p = r2 := u1; refine ⟨rfl, _, rfl, ?_⟩; rw [u5]; exact u2)
      ·
        refine z_iload_n 1 (zdec DX10_compared 32 rfl) rfl rfl ?_
        refine z_iload_n 3 (zdec DX10_compared 33 rfl) rfl rfl ?_
        refine z_icmp_ge 89 (zdec DX10_compared 34 rfl) rfl (fun h60 => ?_) (fun h60 => ?_)
        ·
          refine z_iconst 0 (zdec DX10_compared 48 rfl) (by decide) ?_
          exact z_iret (zdec DX10_compared 49 rfl) rfl (by obtain ⟨r2, u1, u2, u3, u4⟩ := go.2.2 M48 w (0) z2 (by unfold zjoi zb; rw [if_neg (by decide), if_neg (by decide)]; first | (rw [if_pos (by decide)]; first | (rw [if_pos (by omega)]; done) | (rw [if_neg (by omega)]; done)) | (rw [if_neg (by decide), if_pos (by decide)]; first | (rw [if_pos (by omega)]; done) | (rw [if_neg (by omega)]; done)) | (rw [if_neg (by decide), if_neg (by decide), if_pos (by decide)]; first | (rw [if_pos (by omega)]; done) | (rw [if_neg (by omega)]; done))); have u5 : zpL (ztx M) (M 56 17) (f + 1) 2 o p = r2 := u1; refine ⟨rfl, _, rfl, ?_⟩; rw [u5]; exact u2)
        ·
          refine z_goto 85 (zdec DX10_compared 35 rfl) rfl ?_
          refine z_iconst 1 (zdec DX10_compared 46 rfl) (by decide) ?_
          refine z_goto 90 (zdec DX10_compared 47 rfl) rfl ?_
          exact z_iret (zdec DX10_compared 49 rfl) rfl (by obtain ⟨r2, u1, u2, u3, u4⟩ := go.2.2 M48 w (1) z2 (by unfold zjoi zb; rw [if_neg (by decide), if_neg (by decide)]; first | (rw [if_pos (by decide)]; first | (rw [if_pos (by omega)]; done) | (rw [if_neg (by omega)]; done)) | (rw [if_neg (by decide), if_pos (by decide)]; first | (rw [if_pos (by omega)]; done) | (rw [if_neg (by omega)]; done)) | (rw [if_neg (by decide), if_neg (by decide), if_pos (by decide)]; first | (rw [if_pos (by omega)]; done) | (rw [if_neg (by omega)]; done))); have u5 : zpL (ztx M) (M 56 17) (f + 1) 2 o p = r2 := u1; refine ⟨rfl, _, rfl, ?_⟩; rw [u5]; exact u2)
    ·
      refine z_iload_n 2 (zdec DX10_compared 12 rfl) rfl rfl ?_
      refine z_bipush 61 (zdec DX10_compared 13 rfl) (by decide) ?_
      refine z_icmp_eq 37 (zdec DX10_compared 14 rfl) rfl (fun h26 => ?_) (fun h26 => ?_)
      ·
        have go := zlv_go (c := 61) hy z1 g1 hA ⟨by decide, by decide⟩ (by decide) (by decide) (by omega) (Or.inr (by decide)) ⟨by omega, by omega⟩ (rfl : zup M1 56 16 (M1 56 16 + 1) = _)
        refine z_aload_n 0 (zdec DX10_compared 20 rfl) rfl rfl (by decide) ?_
        refine z_dup (zdec DX10_compared 21 rfl) rfl ?_
        refine z_geti (ki := 16) 56 10 (zdec DX10_compared 22 rfl) rfl shp56 rfl (by decide) rfl rfl fl_SixWallsModel_185 ?_
        refine z_iconst 1 (zdec DX10_compared 23 rfl) (by decide) ?_
        refine z_iadd (zdec DX10_compared 24 rfl) (by unfold z32; omega) ?_
        refine z_puti (ki := 16) 56 10 (zdec DX10_compared 25 rfl) rfl shp56 rfl (by decide) rfl rfl fl_SixWallsModel_185 (Or.inl rfl) ?_
        refine z_aload_n 0 (zdec DX10_compared 26 rfl) rfl rfl (by decide) ?_
        refine z_inv mX10_sums 56 10 [] (zdec DX10_compared 27 rfl) ml_SixWallsModel_210 okX10_sums rfl shp56 rfl rfl rfl rfl (Nat.le_of_ble_eq_true rfl) (by omega) (b' := (0, 0)) ⟨Nat.le_refl 0, Nat.le_refl 0⟩ (Nat.le_of_ble_eq_true rfl) (hN _ _ _ go.1 (by have := go.2.1.1; omega)) (fun rv9 S9 M48 h9 => ?_)
        obtain ⟨rfl, w, rfl, z2⟩ := h9
        change zW _ _ _ _ _ 51 [(0, .inr (.inr 56)), (1, .inl v), (2, .inl c)] [.inl w] M48
        refine z_istore_n (L' := [(0, .inr (.inr 56)), (1, .inl v), (2, .inl c), (3, .inl w)]) (zdec DX10_compared 28 rfl) rfl rfl (by decide) ?_
        refine z_iload_n 2 (zdec DX10_compared 29 rfl) rfl rfl ?_
        refine z_bipush 60 (zdec DX10_compared 30 rfl) (by decide) ?_
        refine z_icmp_ne 66 (zdec DX10_compared 31 rfl) rfl (fun h55 => ?_) (fun h55 => ?_)
        ·
          refine z_iload_n 2 (zdec DX10_compared 36 rfl) rfl rfl ?_
          refine z_bipush 61 (zdec DX10_compared 37 rfl) (by decide) ?_
          refine z_icmp_ne 80 (zdec DX10_compared 38 rfl) rfl (fun h69 => ?_) (fun h69 => ?_)
          ·
            refine z_iload_n 1 (zdec DX10_compared 43 rfl) rfl rfl ?_
            refine z_iload_n 3 (zdec DX10_compared 44 rfl) rfl rfl ?_
            refine z_icmp_le 89 (zdec DX10_compared 45 rfl) rfl (fun h82 => ?_) (fun h82 => ?_)
            ·
              refine z_iconst 0 (zdec DX10_compared 48 rfl) (by decide) ?_
              exact z_iret (zdec DX10_compared 49 rfl) rfl (by obtain ⟨r2, u1, u2, u3, u4⟩ := go.2.2 M48 w (0) z2 (by unfold zjoi zb; rw [if_neg (by decide), if_neg (by decide)]; first | (rw [if_pos (by decide)]; first | (rw [if_pos (by omega)]; done) | (rw [if_neg (by omega)]; done)) | (rw [if_neg (by decide), if_pos (by decide)]; first | (rw [if_pos (by omega)]; done) | (rw [if_neg (by omega)]; done)) | (rw [if_neg (by decide), if_neg (by decide), if_pos (by decide)]; first | (rw [if_pos (by omega)]; done) | (rw [if_neg (by omega)]; done))); have u5 : zpL (ztx M) (M 56 17) (f + 1) 2 o p = r2 := u1; refine ⟨rfl, _, rfl, ?_⟩; rw [u5]; exact u2)
            ·
              refine z_iconst 1 (zdec DX10_compared 46 rfl) (by decide) ?_
              refine z_goto 90 (zdec DX10_compared 47 rfl) rfl ?_
              exact z_iret (zdec DX10_compared 49 rfl) rfl (by obtain ⟨r2, u1, u2, u3, u4⟩ := go.2.2 M48 w (1) z2 (by unfold zjoi zb; rw [if_neg (by decide), if_neg (by decide)]; first | (rw [if_pos (by decide)]; first | (rw [if_pos (by omega)]; done) | (rw [if_neg (by omega)]; done)) | (rw [if_neg (by decide), if_pos (by decide)]; first | (rw [if_pos (by omega)]; done) | (rw [if_neg (by omega)]; done)) | (rw [if_neg (by decide), if_neg (by decide), if_pos (by decide)]; first | (rw [if_pos (by omega)]; done) | (rw [if_neg (by omega)]; done))); have u5 : zpL (ztx M) (M 56 17) (f + 1) 2 o p = r2 := u1; refine ⟨rfl, _, rfl, ?_⟩; rw [u5]; exact u2)
          ·
            refine z_iload_n 1 (zdec DX10_compared 39 rfl) rfl rfl ?_
            refine z_iload_n 3 (zdec DX10_compared 40 rfl) rfl rfl ?_
            refine z_icmp_ne 89 (zdec DX10_compared 41 rfl) rfl (fun h74 => ?_) (fun h74 => ?_)
            ·
              refine z_iconst 0 (zdec DX10_compared 48 rfl) (by decide) ?_
              exact z_iret (zdec DX10_compared 49 rfl) rfl (by obtain ⟨r2, u1, u2, u3, u4⟩ := go.2.2 M48 w (0) z2 (by unfold zjoi zb; rw [if_neg (by decide), if_neg (by decide)]; first | (rw [if_pos (by decide)]; first | (rw [if_pos (by omega)]; done) | (rw [if_neg (by omega)]; done)) | (rw [if_neg (by decide), if_pos (by decide)]; first | (rw [if_pos (by omega)]; done) | (rw [if_neg (by omega)]; done)) | (rw [if_neg (by decide), if_neg (by decide), if_pos (by decide)]; first | (rw [if_pos (by omega)]; done) | (rw [if_neg (by omega)]; done))); have u5 : zpL (ztx M) (M 56 17) (f + 1) 2 o p = r2 := u1; refine ⟨rfl, _, rfl, ?_⟩; rw [u5]; exact u2)
            ·
              refine z_goto 85 (zdec DX10_compared 42 rfl) rfl ?_
              refine z_iconst 1 (zdec DX10_compared 46 rfl) (by decide) ?_
              refine z_goto 90 (zdec DX10_compared 47 rfl) rfl ?_
              exact z_iret (zdec DX10_compared 49 rfl) rfl (by obtain ⟨r2, u1, u2, u3, u4⟩ := go.2.2 M48 w (1) z2 (by unfold zjoi zb; rw [if_neg (by decide), if_neg (by decide)]; first | (rw [if_pos (by decide)]; first | (rw [if_pos (by omega)]; done) | (rw [if_neg (by omega)]; done)) | (rw [if_neg (by decide), if_pos (by decide)]; first | (rw [if_pos (by omega)]; done) | (rw [if_neg (by omega)]; done)) | (rw [if_neg (by decide), if_neg (by decide), if_pos (by decide)]; first | (rw [if_pos (by omega)]; done) | (rw [if_neg (by omega)]; done))); have u5 : zpL (ztx M) (M 56 17) (f + 1) 2 o p = r2 := u1; refine ⟨rfl, _, rfl, ?_⟩; rw [u5]; exact u2)
        ·
          refine z_iload_n 1 (zdec DX10_compared 32 rfl) rfl rfl ?_
          refine z_iload_n 3 (zdec DX10_compared 33 rfl) rfl rfl ?_
          refine z_icmp_ge 89 (zdec DX10_compared 34 rfl) rfl (fun h60 => ?_) (fun h60 => ?_)
          ·
            refine z_iconst 0 (zdec DX10_compared 48 rfl) (by decide) ?_
            exact z_iret (zdec DX10_compared 49 rfl) rfl (by obtain ⟨r2, u1, u2, u3, u4⟩ := go.2.2 M48 w (0) z2 (by unfold zjoi zb; rw [if_neg (by decide), if_neg (by decide)]; first | (rw [if_pos (by decide)]; first | (rw [if_pos (by omega)]; done) | (rw [if_neg (by omega)]; done)) | (rw [if_neg (by decide), if_pos (by decide)]; first | (rw [if_pos (by omega)]; done) | (rw [if_neg (by omega)]; done)) | (rw [if_neg (by decide), if_neg (by decide), if_pos (by decide)]; first | (rw [if_pos (by omega)]; done) | (rw [if_neg (by omega)]; done))); have u5 : zpL (ztx M) (M 56 17) (f + 1) 2 o p = r2 := u1; refine ⟨rfl, _, rfl, ?_⟩; rw [u5]; exact u2)
          ·
            refine z_goto 85 (zdec DX10_compared 35 rfl) rfl ?_
            refine z_iconst 1 (zdec DX10_compared 46 rfl) (by decide) ?_
            refine z_goto 90 (zdec DX10_compared 47 rfl) rfl ?_
            exact z_iret (zdec DX10_compared 49 rfl) rfl (by obtain ⟨r2, u1, u2, u3, u4⟩ := go.2.2 M48 w (1) z2 (by unfold zjoi zb; rw [if_neg (by decide), if_neg (by decide)]; first | (rw [if_pos (by decide)]; first | (rw [if_pos (by omega)]; done) | (rw [if_neg (by omega)]; done)) | (rw [if_neg (by decide), if_pos (by decide)]; first | (rw [if_pos (by omega)]; done) | (rw [if_neg (by omega)]; done)) | (rw [if_neg (by decide), if_neg (by decide), if_pos (by decide)]; first | (rw [if_pos (by omega)]; done) | (rw [if_neg (by omega)]; done))); have u5 : zpL (ztx M) (M 56 17) (f + 1) 2 o p = r2 := u1; refine ⟨rfl, _, rfl, ?_⟩; rw [u5]; exact u2)
      ·
        refine z_iload_n 2 (zdec DX10_compared 15 rfl) rfl rfl ?_
        refine z_bipush 62 (zdec DX10_compared 16 rfl) (by decide) ?_
        refine z_icmp_eq 37 (zdec DX10_compared 17 rfl) rfl (fun h32 => ?_) (fun h32 => ?_)
        ·
          have go := zlv_go (c := 62) hy z1 g1 hA ⟨by decide, by decide⟩ (by decide) (by decide) (by omega) (Or.inr (by decide)) ⟨by omega, by omega⟩ (rfl : zup M1 56 16 (M1 56 16 + 1) = _)
          refine z_aload_n 0 (zdec DX10_compared 20 rfl) rfl rfl (by decide) ?_
          refine z_dup (zdec DX10_compared 21 rfl) rfl ?_
          refine z_geti (ki := 16) 56 10 (zdec DX10_compared 22 rfl) rfl shp56 rfl (by decide) rfl rfl fl_SixWallsModel_185 ?_
          refine z_iconst 1 (zdec DX10_compared 23 rfl) (by decide) ?_
          refine z_iadd (zdec DX10_compared 24 rfl) (by unfold z32; omega) ?_
          refine z_puti (ki := 16) 56 10 (zdec DX10_compared 25 rfl) rfl shp56 rfl (by decide) rfl rfl fl_SixWallsModel_185 (Or.inl rfl) ?_
          refine z_aload_n 0 (zdec DX10_compared 26 rfl) rfl rfl (by decide) ?_
          refine z_inv mX10_sums 56 10 [] (zdec DX10_compared 27 rfl) ml_SixWallsModel_210 okX10_sums rfl shp56 rfl rfl rfl rfl (Nat.le_of_ble_eq_true rfl) (by omega) (b' := (0, 0)) ⟨Nat.le_refl 0, Nat.le_refl 0⟩ (Nat.le_of_ble_eq_true rfl) (hN _ _ _ go.1 (by have := go.2.1.1; omega)) (fun rv9 S9 M48 h9 => ?_)
          obtain ⟨rfl, w, rfl, z2⟩ := h9
          change zW _ _ _ _ _ 51 [(0, .inr (.inr 56)), (1, .inl v), (2, .inl c)] [.inl w] M48
          refine z_istore_n (L' := [(0, .inr (.inr 56)), (1, .inl v), (2, .inl c), (3, .inl w)]) (zdec DX10_compared 28 rfl) rfl rfl (by decide) ?_
          refine z_iload_n 2 (zdec DX10_compared 29 rfl) rfl rfl ?_
          refine z_bipush 60 (zdec DX10_compared 30 rfl) (by decide) ?_
          refine z_icmp_ne 66 (zdec DX10_compared 31 rfl) rfl (fun h55 => ?_) (fun h55 => ?_)
          ·
            refine z_iload_n 2 (zdec DX10_compared 36 rfl) rfl rfl ?_
            refine z_bipush 61 (zdec DX10_compared 37 rfl) (by decide) ?_
            refine z_icmp_ne 80 (zdec DX10_compared 38 rfl) rfl (fun h69 => ?_) (fun h69 => ?_)
            ·
              refine z_iload_n 1 (zdec DX10_compared 43 rfl) rfl rfl ?_
              refine z_iload_n 3 (zdec DX10_compared 44 rfl) rfl rfl ?_
              refine z_icmp_le 89 (zdec DX10_compared 45 rfl) rfl (fun h82 => ?_) (fun h82 => ?_)
              ·
                refine z_iconst 0 (zdec DX10_compared 48 rfl) (by decide) ?_
                exact z_iret (zdec DX10_compared 49 rfl) rfl (by obtain ⟨r2, u1, u2, u3, u4⟩ := go.2.2 M48 w (0) z2 (by unfold zjoi zb; rw [if_neg (by decide), if_neg (by decide)]; first | (rw [if_pos (by decide)]; first | (rw [if_pos (by omega)]; done) | (rw [if_neg (by omega)]; done)) | (rw [if_neg (by decide), if_pos (by decide)]; first | (rw [if_pos (by omega)]; done) | (rw [if_neg (by omega)]; done)) | (rw [if_neg (by decide), if_neg (by decide), if_pos (by decide)]; first | (rw [if_pos (by omega)]; done) | (rw [if_neg (by omega)]; done))); have u5 : zpL (ztx M) (M 56 17) (f + 1) 2 o p = r2 := u1; refine ⟨rfl, _, rfl, ?_⟩; rw [u5]; exact u2)
              ·
                refine z_iconst 1 (zdec DX10_compared 46 rfl) (by decide) ?_
                refine z_goto 90 (zdec DX10_compared 47 rfl) rfl ?_
                exact z_iret (zdec DX10_compared 49 rfl) rfl (by obtain ⟨r2, u1, u2, u3, u4⟩ := go.2.2 M48 w (1) z2 (by unfold zjoi zb; rw [if_neg (by decide), if_neg (by decide)]; first | (rw [if_pos (by decide)]; first | (rw [if_pos (by omega)]; done) | (rw [if_neg (by omega)]; done)) | (rw [if_neg (by decide), if_pos (by decide)]; first | (rw [if_pos (by omega)]; done) | (rw [if_neg (by omega)]; done)) | (rw [if_neg (by decide), if_neg (by decide), if_pos (by decide)]; first | (rw [if_pos (by omega)]; done) | (rw [if_neg (by omega)]; done))); have u5 : zpL (ztx M) (M 56 17) (f + 1) 2 o p = r2 := u1; refine ⟨rfl, _, rfl, ?_⟩; rw [u5]; exact u2)
            ·
              refine z_iload_n 1 (zdec DX10_compared 39 rfl) rfl rfl ?_
              refine z_iload_n 3 (zdec DX10_compared 40 rfl) rfl rfl ?_
              refine z_icmp_ne 89 (zdec DX10_compared 41 rfl) rfl (fun h74 => ?_) (fun h74 => ?_)
              ·
                refine z_iconst 0 (zdec DX10_compared 48 rfl) (by decide) ?_
                exact z_iret (zdec DX10_compared 49 rfl) rfl (by obtain ⟨r2, u1, u2, u3, u4⟩ := go.2.2 M48 w (0) z2 (by unfold zjoi zb; rw [if_neg (by decide), if_neg (by decide)]; first | (rw [if_pos (by decide)]; first | (rw [if_pos (by omega)]; done) | (rw [if_neg (by omega)]; done)) | (rw [if_neg (by decide), if_pos (by decide)]; first | (rw [if_pos (by omega)]; done) | (rw [if_neg (by omega)]; done)) | (rw [if_neg (by decide), if_neg (by decide), if_pos (by decide)]; first | (rw [if_pos (by omega)]; done) | (rw [if_neg (by omega)]; done))); have u5 : zpL (ztx M) (M 56 17) (f + 1) 2 o p = r2 := u1; refine ⟨rfl, _, rfl, ?_⟩; rw [u5]; exact u2)
              ·
                refine z_goto 85 (zdec DX10_compared 42 rfl) rfl ?_
                refine z_iconst 1 (zdec DX10_compared 46 rfl) (by decide) ?_
                refine z_goto 90 (zdec DX10_compared 47 rfl) rfl ?_
                exact z_iret (zdec DX10_compared 49 rfl) rfl (by obtain ⟨r2, u1, u2, u3, u4⟩ := go.2.2 M48 w (1) z2 (by unfold zjoi zb; rw [if_neg (by decide), if_neg (by decide)]; first | (rw [if_pos (by decide)]; first | (rw [if_pos (by omega)]; done) | (rw [if_neg (by omega)]; done)) | (rw [if_neg (by decide), if_pos (by decide)]; first | (rw [if_pos (by omega)]; done) | (rw [if_neg (by omega)]; done)) | (rw [if_neg (by decide), if_neg (by decide), if_pos (by decide)]; first | (rw [if_pos (by omega)]; done) | (rw [if_neg (by omega)]; done))); have u5 : zpL (ztx M) (M 56 17) (f + 1) 2 o p = r2 := u1; refine ⟨rfl, _, rfl, ?_⟩; rw [u5]; exact u2)
          ·
            refine z_iload_n 1 (zdec DX10_compared 32 rfl) rfl rfl ?_
            refine z_iload_n 3 (zdec DX10_compared 33 rfl) rfl rfl ?_
            refine z_icmp_ge 89 (zdec DX10_compared 34 rfl) rfl (fun h60 => ?_) (fun h60 => ?_)
            ·
              refine z_iconst 0 (zdec DX10_compared 48 rfl) (by decide) ?_
              exact z_iret (zdec DX10_compared 49 rfl) rfl (by obtain ⟨r2, u1, u2, u3, u4⟩ := go.2.2 M48 w (0) z2 (by unfold zjoi zb; rw [if_neg (by decide), if_neg (by decide)]; first | (rw [if_pos (by decide)]; first | (rw [if_pos (by omega)]; done) | (rw [if_neg (by omega)]; done)) | (rw [if_neg (by decide), if_pos (by decide)]; first | (rw [if_pos (by omega)]; done) | (rw [if_neg (by omega)]; done)) | (rw [if_neg (by decide), if_neg (by decide), if_pos (by decide)]; first | (rw [if_pos (by omega)]; done) | (rw [if_neg (by omega)]; done))); have u5 : zpL (ztx M) (M 56 17) (f + 1) 2 o p = r2 := u1; refine ⟨rfl, _, rfl, ?_⟩; rw [u5]; exact u2)
            ·
              refine z_goto 85 (zdec DX10_compared 35 rfl) rfl ?_
              refine z_iconst 1 (zdec DX10_compared 46 rfl) (by decide) ?_
              refine z_goto 90 (zdec DX10_compared 47 rfl) rfl ?_
              exact z_iret (zdec DX10_compared 49 rfl) rfl (by obtain ⟨r2, u1, u2, u3, u4⟩ := go.2.2 M48 w (1) z2 (by unfold zjoi zb; rw [if_neg (by decide), if_neg (by decide)]; first | (rw [if_pos (by decide)]; first | (rw [if_pos (by omega)]; done) | (rw [if_neg (by omega)]; done)) | (rw [if_neg (by decide), if_pos (by decide)]; first | (rw [if_pos (by omega)]; done) | (rw [if_neg (by omega)]; done)) | (rw [if_neg (by decide), if_neg (by decide), if_pos (by decide)]; first | (rw [if_pos (by omega)]; done) | (rw [if_neg (by omega)]; done))); have u5 : zpL (ztx M) (M 56 17) (f + 1) 2 o p = r2 := u1; refine ⟨rfl, _, rfl, ?_⟩; rw [u5]; exact u2)
        ·
          refine z_iload_n 1 (zdec DX10_compared 18 rfl) rfl rfl ?_
          exact z_iret (zdec DX10_compared 19 rfl) rfl (⟨rfl, v, rfl, zlv_end z1 hA (zlv_no hy z1 g1 (by decide) (fun q => by have q2 := q.2; rw [← ec] at q2; unfold zlev at q2; (repeat' split at q2) <;> omega))⟩)
set_option maxHeartbeats 4000000 in
theorem lp_X10_sums_5 {Q : zPost} (f : Nat) (hN : ∀ (M : zMm) (o p : Int), zRy M o p → (6 - o) * 6 + (5 - 4) + 1 ≤ f → zW mX10_product (f + 3) (fun rv S' M' => S' = zS0 ∧ ∃ x, rv = some (.inl x) ∧ zpR M o (zvn M) (zpL (ztx M) (M 56 17) (f) 4 o p) M' x) (0, 0) zS0 0 (zargs 0 [.inr (.inr 56)]) [] M) {M : zMm} (o p : Int) (hy : zRy M o p) (hf : (6 - o) * 6 + (5 - 3) + 1 ≤ f + 1) (hx77 : ∀ (v : Int) (M2 : zMm), (zpR M o (zvn M) (zpL (ztx M) (M 56 17) (f + 1) 3 o p) M2 v) → zW mX10_sums (f + 4) Q (0, 0) zS0 77 [(1, .inl v)] [] M2) : ∀ (n : Nat) (v : Int) (M2 : zMm), (M 56 17 - M2 56 16).toNat < n → (∃ (k : Nat) (r : zPr), zpL (ztx M) (M 56 17) (f + 1) 3 o p = zpLp (ztx M) (M 56 17) (zpL (ztx M) (M 56 17) f (3 + 1) o) 3 k r ∧ zpR M o (zvn M) r M2 v ∧ zpG (M 56 17) p r ∧ (r.2.1 = false → M 56 17 - r.1 ≤ k)) → zW mX10_sums (f + 4) Q (0, 0) zS0 5 [(0, .inr (.inr 56)), (1, .inl v)] [] M2 := by
  intro n
  induction n with
  | zero => intro v M2 hn; exact absurd hn (Nat.not_lt_zero _)
  | succ n ih =>
    intro v M2 hn hI
    obtain ⟨k, r, he, hr, hG, hk⟩ := hI
    have hp := hy.2.2.1
    have hb2 := hy.2.1.2
    obtain ⟨hP2, hRb2, -, -, -, hbad⟩ := hr.y hy hG
    have e16 := hr.2.1
    have gg := hG.2.1
    have hRb3 := hRb2.2
    refine z_aload_n 0 (zdec DX10_sums 3 rfl) rfl rfl (by decide) ?_
    refine z_geti (ki := 18) 56 10 (zdec DX10_sums 4 rfl) rfl shp56 rfl (by decide) rfl rfl fl_SixWallsModel_194 ?_
    refine z_if_ge 77 (zdec DX10_sums 5 rfl) rfl (fun h9 => ?_) (fun h9 => ?_)
    ·
      refine z_weak (L' := [(1, .inl v)]) (by simp) ?_
      exact hx77 v M2 (zlv_end hr he (zlv_no hy hr hG (by decide) (fun q => by have q2 := q.2; unfold zlev at q2; (repeat' split at q2) <;> omega)))
    ·
      refine z_aload_n 0 (zdec DX10_sums 6 rfl) rfl rfl (by decide) ?_
      refine z_inv mX10_byteAt 56 10 [] (zdec DX10_sums 7 rfl) ml_SixWallsModel_197 okX10_byteAt rfl shp56 rfl rfl rfl rfl (Nat.le_of_ble_eq_true rfl) (by omega) (b' := (0, 0)) ⟨Nat.le_refl 0, Nat.le_refl 0⟩ (Nat.le_of_ble_eq_true rfl) (cX10_byteAt hP2 hRb2) (fun rv9 S9 M13 h9 => ?_)
      obtain ⟨rfl, rfl, rfl⟩ := h9
      change zW _ _ _ _ _ 16 [(0, .inr (.inr 56)), (1, .inl v)] [.inl (zby M2)] M2
      refine z_bipush 43 (zdec DX10_sums 8 rfl) (by decide) ?_
      refine z_icmp_eq 30 (zdec DX10_sums 9 rfl) rfl (fun h18 => ?_) (fun h18 => ?_)
      ·
        refine z_aload_n 0 (zdec DX10_sums 14 rfl) rfl rfl (by decide) ?_
        refine z_inv mX10_byteAt 56 10 [] (zdec DX10_sums 15 rfl) ml_SixWallsModel_197 okX10_byteAt rfl shp56 rfl rfl rfl rfl (Nat.le_of_ble_eq_true rfl) (by omega) (b' := (0, 0)) ⟨Nat.le_refl 0, Nat.le_refl 0⟩ (Nat.le_of_ble_eq_true rfl) (cX10_byteAt hP2 hRb2) (fun rv9 S9 M31 h9 => ?_)
        obtain ⟨rfl, rfl, rfl⟩ := h9
        change zW _ _ _ _ _ 34 [(0, .inr (.inr 56)), (1, .inl v)] [.inl (zby M2)] M2
        refine z_bipush 43 (zdec DX10_sums 16 rfl) (by decide) ?_
        refine z_icmp_ne 43 (zdec DX10_sums 17 rfl) rfl (fun h36 => ?_) (fun h36 => ?_)
        ·
          have go := zlv_go (c := 45) hy hr hG he ⟨by decide, by decide⟩ (by decide) (by decide) (by omega) (Or.inl (hk (hbad (by omega)))) ⟨by omega, by omega⟩ (rfl : zup M2 56 16 (M2 56 16 + 1) = _)
          refine z_iconst 0 (zdec DX10_sums 20 rfl) (by decide) ?_
          refine z_istore_n (L' := [(0, .inr (.inr 56)), (1, .inl v), (2, .inl 0)]) (zdec DX10_sums 21 rfl) rfl rfl (by decide) ?_
          refine z_aload_n 0 (zdec DX10_sums 22 rfl) rfl rfl (by decide) ?_
          refine z_dup (zdec DX10_sums 23 rfl) rfl ?_
          refine z_geti (ki := 16) 56 10 (zdec DX10_sums 24 rfl) rfl shp56 rfl (by decide) rfl rfl fl_SixWallsModel_185 ?_
          refine z_iconst 1 (zdec DX10_sums 25 rfl) (by decide) ?_
          refine z_iadd (zdec DX10_sums 26 rfl) (by unfold z32; omega) ?_
          refine z_puti (ki := 16) 56 10 (zdec DX10_sums 27 rfl) rfl shp56 rfl (by decide) rfl rfl fl_SixWallsModel_185 (Or.inl rfl) ?_
          refine z_aload_n 0 (zdec DX10_sums 28 rfl) rfl rfl (by decide) ?_
          refine z_inv mX10_product 56 10 [] (zdec DX10_sums 29 rfl) ml_SixWallsModel_213 okX10_product rfl shp56 rfl rfl rfl rfl (Nat.le_of_ble_eq_true rfl) (by omega) (b' := (0, 0)) ⟨Nat.le_refl 0, Nat.le_refl 0⟩ (Nat.le_of_ble_eq_true rfl) (hN _ _ _ go.1 (by have := go.2.1.1; omega)) (fun rv9 S9 M56 h9 => ?_)
          obtain ⟨rfl, w, rfl, z2⟩ := h9
          have e56 := z2.2.1
          have gg2 := zpL_G (t := ztx (zup M2 56 16 (M2 56 16 + 1))) (n := zup M2 56 16 (M2 56 16 + 1) 56 17) f 4 o (r.1 + 1) (by decide) (by decide) hy.2.2.2.2.2.1 hy.2.2.2.2.2.2 (by omega) (by have := hG.1; omega) (by have := go.1.2.1.2; have := go.1.2.2.1; omega)
          have gg3 := gg2.1
          have gg4 := go.2.1
          change zW _ _ _ _ _ 59 [(0, .inr (.inr 56)), (1, .inl v), (2, .inl 0)] [.inl w] M56
          refine z_istore_n (L' := [(0, .inr (.inr 56)), (1, .inl v), (2, .inl 0), (3, .inl w)]) (zdec DX10_sums 30 rfl) rfl rfl (by decide) ?_
          refine z_iload_n 2 (zdec DX10_sums 31 rfl) rfl rfl ?_
          refine z_if_eq 70 (zdec DX10_sums 32 rfl) rfl (fun _ => ?_) (fun h => absurd h (by decide))
          refine z_iload_n 1 (zdec DX10_sums 37 rfl) rfl rfl ?_
          refine z_iload_n 3 (zdec DX10_sums 38 rfl) rfl rfl ?_
          refine z_isubw (zdec DX10_sums 39 rfl) ?_
          refine z_istore_n (L' := [(0, .inr (.inr 56)), (1, .inl (zw (v - w))), (2, .inl 0), (3, .inl w)]) (zdec DX10_sums 40 rfl) rfl rfl (by decide) ?_
          refine z_goto 5 (zdec DX10_sums 41 rfl) rfl ?_
          refine z_weak (L' := [(0, .inr (.inr 56)), (1, .inl (zw (v - w)))]) (by simp) ?_
          exact ih (zw (v - w)) M56 (by omega) (by obtain ⟨r2, u1, u2, u3, u4⟩ := go.2.2 M56 w ((zw (v - w))) z2 (by unfold zjoi; first | (rw [if_neg (by decide), if_neg (by decide), if_neg (by decide), if_neg (by decide), if_neg (by decide), if_pos (by decide)]; done) | (rw [if_neg (by decide), if_neg (by decide), if_neg (by decide), if_neg (by decide), if_neg (by decide), if_neg (by decide), if_pos (by decide)]; done)); exact ⟨k - 1, r2, u1, u2, u3, fun _ => (by have := hk (hbad (by omega)); omega)⟩)
        ·
          have go := zlv_go (c := 43) hy hr hG he ⟨by decide, by decide⟩ (by decide) (by decide) (by omega) (Or.inl (hk (hbad (by omega)))) ⟨by omega, by omega⟩ (rfl : zup M2 56 16 (M2 56 16 + 1) = _)
          refine z_iconst 1 (zdec DX10_sums 18 rfl) (by decide) ?_
          refine z_goto 44 (zdec DX10_sums 19 rfl) rfl ?_
          refine z_istore_n (L' := [(0, .inr (.inr 56)), (1, .inl v), (2, .inl 1)]) (zdec DX10_sums 21 rfl) rfl rfl (by decide) ?_
          refine z_aload_n 0 (zdec DX10_sums 22 rfl) rfl rfl (by decide) ?_
          refine z_dup (zdec DX10_sums 23 rfl) rfl ?_
          refine z_geti (ki := 16) 56 10 (zdec DX10_sums 24 rfl) rfl shp56 rfl (by decide) rfl rfl fl_SixWallsModel_185 ?_
          refine z_iconst 1 (zdec DX10_sums 25 rfl) (by decide) ?_
          refine z_iadd (zdec DX10_sums 26 rfl) (by unfold z32; omega) ?_
          refine z_puti (ki := 16) 56 10 (zdec DX10_sums 27 rfl) rfl shp56 rfl (by decide) rfl rfl fl_SixWallsModel_185 (Or.inl rfl) ?_
          refine z_aload_n 0 (zdec DX10_sums 28 rfl) rfl rfl (by decide) ?_
          refine z_inv mX10_product 56 10 [] (zdec DX10_sums 29 rfl) ml_SixWallsModel_213 okX10_product rfl shp56 rfl rfl rfl rfl (Nat.le_of_ble_eq_true rfl) (by omega) (b' := (0, 0)) ⟨Nat.le_refl 0, Nat.le_refl 0⟩ (Nat.le_of_ble_eq_true rfl) (hN _ _ _ go.1 (by have := go.2.1.1; omega)) (fun rv9 S9 M56 h9 => ?_)
          obtain ⟨rfl, w, rfl, z2⟩ := h9
          have e56 := z2.2.1
          have gg2 := zpL_G (t := ztx (zup M2 56 16 (M2 56 16 + 1))) (n := zup M2 56 16 (M2 56 16 + 1) 56 17) f 4 o (r.1 + 1) (by decide) (by decide) hy.2.2.2.2.2.1 hy.2.2.2.2.2.2 (by omega) (by have := hG.1; omega) (by have := go.1.2.1.2; have := go.1.2.2.1; omega)
          have gg3 := gg2.1
          have gg4 := go.2.1
          change zW _ _ _ _ _ 59 [(0, .inr (.inr 56)), (1, .inl v), (2, .inl 1)] [.inl w] M56
          refine z_istore_n (L' := [(0, .inr (.inr 56)), (1, .inl v), (2, .inl 1), (3, .inl w)]) (zdec DX10_sums 30 rfl) rfl rfl (by decide) ?_
          refine z_iload_n 2 (zdec DX10_sums 31 rfl) rfl rfl ?_
          refine z_if_eq 70 (zdec DX10_sums 32 rfl) rfl (fun h => absurd h (by decide)) (fun _ => ?_)
          refine z_iload_n 1 (zdec DX10_sums 33 rfl) rfl rfl ?_
          refine z_iload_n 3 (zdec DX10_sums 34 rfl) rfl rfl ?_
          refine z_iaddw (zdec DX10_sums 35 rfl) ?_
          refine z_goto 73 (zdec DX10_sums 36 rfl) rfl ?_
          refine z_istore_n (L' := [(0, .inr (.inr 56)), (1, .inl (zw (v + w))), (2, .inl 1), (3, .inl w)]) (zdec DX10_sums 40 rfl) rfl rfl (by decide) ?_
          refine z_goto 5 (zdec DX10_sums 41 rfl) rfl ?_
          refine z_weak (L' := [(0, .inr (.inr 56)), (1, .inl (zw (v + w)))]) (by simp) ?_
          exact ih (zw (v + w)) M56 (by omega) (by obtain ⟨r2, u1, u2, u3, u4⟩ := go.2.2 M56 w ((zw (v + w))) z2 (by unfold zjoi; first | (rw [if_neg (by decide), if_neg (by decide), if_neg (by decide), if_neg (by decide), if_neg (by decide), if_pos (by decide)]; done) | (rw [if_neg (by decide), if_neg (by decide), if_neg (by decide), if_neg (by decide), if_neg (by decide), if_neg (by decide), if_pos (by decide)]; done)); exact ⟨k - 1, r2, u1, u2, u3, fun _ => (by have := hk (hbad (by omega)); omega)⟩)
      ·
        refine z_aload_n 0 (zdec DX10_sums 10 rfl) rfl rfl (by decide) ?_
        refine z_inv mX10_byteAt 56 10 [] (zdec DX10_sums 11 rfl) ml_SixWallsModel_197 okX10_byteAt rfl shp56 rfl rfl rfl rfl (Nat.le_of_ble_eq_true rfl) (by omega) (b' := (0, 0)) ⟨Nat.le_refl 0, Nat.le_refl 0⟩ (Nat.le_of_ble_eq_true rfl) (cX10_byteAt hP2 hRb2) (fun rv9 S9 M22 h9 => ?_)
        obtain ⟨rfl, rfl, rfl⟩ := h9
        change zW _ _ _ _ _ 25 [(0, .inr (.inr 56)), (1, .inl v)] [.inl (zby M2)] M2
        refine z_bipush 45 (zdec DX10_sums 12 rfl) (by decide) ?_
        refine z_icmp_ne 77 (zdec DX10_sums 13 rfl) rfl (fun h27 => ?_) (fun h27 => ?_)
        ·
          refine z_weak (L' := [(1, .inl v)]) (by simp) ?_
          exact hx77 v M2 (zlv_end hr he (zlv_no hy hr hG (by decide) (fun q => by have q2 := q.2; unfold zlev at q2; (repeat' split at q2) <;> omega)))
        ·
          refine z_aload_n 0 (zdec DX10_sums 14 rfl) rfl rfl (by decide) ?_
          refine z_inv mX10_byteAt 56 10 [] (zdec DX10_sums 15 rfl) ml_SixWallsModel_197 okX10_byteAt rfl shp56 rfl rfl rfl rfl (Nat.le_of_ble_eq_true rfl) (by omega) (b' := (0, 0)) ⟨Nat.le_refl 0, Nat.le_refl 0⟩ (Nat.le_of_ble_eq_true rfl) (cX10_byteAt hP2 hRb2) (fun rv9 S9 M31 h9 => ?_)
          obtain ⟨rfl, rfl, rfl⟩ := h9
          change zW _ _ _ _ _ 34 [(0, .inr (.inr 56)), (1, .inl v)] [.inl (zby M2)] M2
          refine z_bipush 43 (zdec DX10_sums 16 rfl) (by decide) ?_
          refine z_icmp_ne 43 (zdec DX10_sums 17 rfl) rfl (fun h36 => ?_) (fun h36 => ?_)
          ·
            have go := zlv_go (c := 45) hy hr hG he ⟨by decide, by decide⟩ (by decide) (by decide) (by omega) (Or.inl (hk (hbad (by omega)))) ⟨by omega, by omega⟩ (rfl : zup M2 56 16 (M2 56 16 + 1) = _)
            refine z_iconst 0 (zdec DX10_sums 20 rfl) (by decide) ?_
            refine z_istore_n (L' := [(0, .inr (.inr 56)), (1, .inl v), (2, .inl 0)]) (zdec DX10_sums 21 rfl) rfl rfl (by decide) ?_
            refine z_aload_n 0 (zdec DX10_sums 22 rfl) rfl rfl (by decide) ?_
            refine z_dup (zdec DX10_sums 23 rfl) rfl ?_
            refine z_geti (ki := 16) 56 10 (zdec DX10_sums 24 rfl) rfl shp56 rfl (by decide) rfl rfl fl_SixWallsModel_185 ?_
            refine z_iconst 1 (zdec DX10_sums 25 rfl) (by decide) ?_
            refine z_iadd (zdec DX10_sums 26 rfl) (by unfold z32; omega) ?_
            refine z_puti (ki := 16) 56 10 (zdec DX10_sums 27 rfl) rfl shp56 rfl (by decide) rfl rfl fl_SixWallsModel_185 (Or.inl rfl) ?_
            refine z_aload_n 0 (zdec DX10_sums 28 rfl) rfl rfl (by decide) ?_
            refine z_inv mX10_product 56 10 [] (zdec DX10_sums 29 rfl) ml_SixWallsModel_213 okX10_product rfl shp56 rfl rfl rfl rfl (Nat.le_of_ble_eq_true rfl) (by omega) (b' := (0, 0)) ⟨Nat.le_refl 0, Nat.le_refl 0⟩ (Nat.le_of_ble_eq_true rfl) (hN _ _ _ go.1 (by have := go.2.1.1; omega)) (fun rv9 S9 M56 h9 => ?_)
            obtain ⟨rfl, w, rfl, z2⟩ := h9
            have e56 := z2.2.1
            have gg2 := zpL_G (t := ztx (zup M2 56 16 (M2 56 16 + 1))) (n := zup M2 56 16 (M2 56 16 + 1) 56 17) f 4 o (r.1 + 1) (by decide) (by decide) hy.2.2.2.2.2.1 hy.2.2.2.2.2.2 (by omega) (by have := hG.1; omega) (by have := go.1.2.1.2; have := go.1.2.2.1; omega)
            have gg3 := gg2.1
            have gg4 := go.2.1
            change zW _ _ _ _ _ 59 [(0, .inr (.inr 56)), (1, .inl v), (2, .inl 0)] [.inl w] M56
            refine z_istore_n (L' := [(0, .inr (.inr 56)), (1, .inl v), (2, .inl 0), (3, .inl w)]) (zdec DX10_sums 30 rfl) rfl rfl (by decide) ?_
            refine z_iload_n 2 (zdec DX10_sums 31 rfl) rfl rfl ?_
            refine z_if_eq 70 (zdec DX10_sums 32 rfl) rfl (fun _ => ?_) (fun h => absurd h (by decide))
            refine z_iload_n 1 (zdec DX10_sums 37 rfl) rfl rfl ?_
            refine z_iload_n 3 (zdec DX10_sums 38 rfl) rfl rfl ?_
            refine z_isubw (zdec DX10_sums 39 rfl) ?_
            refine z_istore_n (L' := [(0, .inr (.inr 56)), (1, .inl (zw (v - w))), (2, .inl 0), (3, .inl w)]) (zdec DX10_sums 40 rfl) rfl rfl (by decide) ?_
            refine z_goto 5 (zdec DX10_sums 41 rfl) rfl ?_
            refine z_weak (L' := [(0, .inr (.inr 56)), (1, .inl (zw (v - w)))]) (by simp) ?_
            exact ih (zw (v - w)) M56 (by omega) (by obtain ⟨r2, u1, u2, u3, u4⟩ := go.2.2 M56 w ((zw (v - w))) z2 (by unfold zjoi; first | (rw [if_neg (by decide), if_neg (by decide), if_neg (by decide), if_neg (by decide), if_neg (by decide), if_pos (by decide)]; done) | (rw [if_neg (by decide), if_neg (by decide), if_neg (by decide), if_neg (by decide), if_neg (by decide), if_neg (by decide), if_pos (by decide)]; done)); exact ⟨k - 1, r2, u1, u2, u3, fun _ => (by have := hk (hbad (by omega)); omega)⟩)
          ·
            have go := zlv_go (c := 43) hy hr hG he ⟨by decide, by decide⟩ (by decide) (by decide) (by omega) (Or.inl (hk (hbad (by omega)))) ⟨by omega, by omega⟩ (rfl : zup M2 56 16 (M2 56 16 + 1) = _)
            refine z_iconst 1 (zdec DX10_sums 18 rfl) (by decide) ?_
            refine z_goto 44 (zdec DX10_sums 19 rfl) rfl ?_
            refine z_istore_n (L' := [(0, .inr (.inr 56)), (1, .inl v), (2, .inl 1)]) (zdec DX10_sums 21 rfl) rfl rfl (by decide) ?_
            refine z_aload_n 0 (zdec DX10_sums 22 rfl) rfl rfl (by decide) ?_
            refine z_dup (zdec DX10_sums 23 rfl) rfl ?_
            refine z_geti (ki := 16) 56 10 (zdec DX10_sums 24 rfl) rfl shp56 rfl (by decide) rfl rfl fl_SixWallsModel_185 ?_
            refine z_iconst 1 (zdec DX10_sums 25 rfl) (by decide) ?_
            refine z_iadd (zdec DX10_sums 26 rfl) (by unfold z32; omega) ?_
            refine z_puti (ki := 16) 56 10 (zdec DX10_sums 27 rfl) rfl shp56 rfl (by decide) rfl rfl fl_SixWallsModel_185 (Or.inl rfl) ?_
            refine z_aload_n 0 (zdec DX10_sums 28 rfl) rfl rfl (by decide) ?_
            refine z_inv mX10_product 56 10 [] (zdec DX10_sums 29 rfl) ml_SixWallsModel_213 okX10_product rfl shp56 rfl rfl rfl rfl (Nat.le_of_ble_eq_true rfl) (by omega) (b' := (0, 0)) ⟨Nat.le_refl 0, Nat.le_refl 0⟩ (Nat.le_of_ble_eq_true rfl) (hN _ _ _ go.1 (by have := go.2.1.1; omega)) (fun rv9 S9 M56 h9 => ?_)
            obtain ⟨rfl, w, rfl, z2⟩ := h9
            have e56 := z2.2.1
            have gg2 := zpL_G (t := ztx (zup M2 56 16 (M2 56 16 + 1))) (n := zup M2 56 16 (M2 56 16 + 1) 56 17) f 4 o (r.1 + 1) (by decide) (by decide) hy.2.2.2.2.2.1 hy.2.2.2.2.2.2 (by omega) (by have := hG.1; omega) (by have := go.1.2.1.2; have := go.1.2.2.1; omega)
            have gg3 := gg2.1
            have gg4 := go.2.1
            change zW _ _ _ _ _ 59 [(0, .inr (.inr 56)), (1, .inl v), (2, .inl 1)] [.inl w] M56
            refine z_istore_n (L' := [(0, .inr (.inr 56)), (1, .inl v), (2, .inl 1), (3, .inl w)]) (zdec DX10_sums 30 rfl) rfl rfl (by decide) ?_
            refine z_iload_n 2 (zdec DX10_sums 31 rfl) rfl rfl ?_
            refine z_if_eq 70 (zdec DX10_sums 32 rfl) rfl (fun h => absurd h (by decide)) (fun _ => ?_)
            refine z_iload_n 1 (zdec DX10_sums 33 rfl) rfl rfl ?_
            refine z_iload_n 3 (zdec DX10_sums 34 rfl) rfl rfl ?_
            refine z_iaddw (zdec DX10_sums 35 rfl) ?_
            refine z_goto 73 (zdec DX10_sums 36 rfl) rfl ?_
            refine z_istore_n (L' := [(0, .inr (.inr 56)), (1, .inl (zw (v + w))), (2, .inl 1), (3, .inl w)]) (zdec DX10_sums 40 rfl) rfl rfl (by decide) ?_
            refine z_goto 5 (zdec DX10_sums 41 rfl) rfl ?_
            refine z_weak (L' := [(0, .inr (.inr 56)), (1, .inl (zw (v + w)))]) (by simp) ?_
            exact ih (zw (v + w)) M56 (by omega) (by obtain ⟨r2, u1, u2, u3, u4⟩ := go.2.2 M56 w ((zw (v + w))) z2 (by unfold zjoi; first | (rw [if_neg (by decide), if_neg (by decide), if_neg (by decide), if_neg (by decide), if_neg (by decide), if_pos (by decide)]; done) | (rw [if_neg (by decide), if_neg (by decide), if_neg (by decide), if_neg (by decide), if_neg (by decide), if_neg (by decide), if_pos (by decide)]; done)); exact ⟨k - 1, r2, u1, u2, u3, fun _ => (by have := hk (hbad (by omega)); omega)⟩)
set_option maxHeartbeats 4000000 in
theorem cX10_sums (f : Nat) (hN : ∀ (M : zMm) (o p : Int), zRy M o p → (6 - o) * 6 + (5 - 4) + 1 ≤ f → zW mX10_product (f + 3) (fun rv S' M' => S' = zS0 ∧ ∃ x, rv = some (.inl x) ∧ zpR M o (zvn M) (zpL (ztx M) (M 56 17) (f) 4 o p) M' x) (0, 0) zS0 0 (zargs 0 [.inr (.inr 56)]) [] M) {M : zMm} (o p : Int) (hy : zRy M o p) (hf : (6 - o) * 6 + (5 - 3) + 1 ≤ f + 1) : zW mX10_sums (f + 4) (fun rv S' M' => S' = zS0 ∧ ∃ x, rv = some (.inl x) ∧ zpR M o (zvn M) (zpL (ztx M) (M 56 17) (f + 1) 3 o p) M' x) (0, 0) zS0 0 (zargs 0 [.inr (.inr 56)]) [] M := by
  change zW _ _ _ _ _ 0 [(0, .inr (.inr 56))] [] M
  have hb2 := hy.2.1.2
  have hp := hy.2.2.1
  refine z_aload_n 0 (zdec DX10_sums 0 rfl) rfl rfl (by decide) ?_
  refine z_inv mX10_product 56 10 [] (zdec DX10_sums 1 rfl) ml_SixWallsModel_213 okX10_product rfl shp56 rfl rfl rfl rfl (Nat.le_of_ble_eq_true rfl) (by omega) (b' := (0, 0)) ⟨Nat.le_refl 0, Nat.le_refl 0⟩ (Nat.le_of_ble_eq_true rfl) (hN M o p hy (by omega)) (fun rv9 S9 M1 h9 => ?_)
  obtain ⟨rfl, v, rfl, z1⟩ := h9
  have g1 := zpL_G (t := ztx M) (n := M 56 17) f 4 o p (by decide) (by decide) hy.2.2.2.2.2.1 hy.2.2.2.2.2.2 (by omega) (by omega) (by omega)
  change zW _ _ _ _ _ 4 [(0, .inr (.inr 56))] [.inl v] M1
  refine z_istore_n (L' := [(0, .inr (.inr 56)), (1, .inl v)]) (zdec DX10_sums 2 rfl) rfl rfl (by decide) ?_
  refine lp_X10_sums_5 f hN o p hy hf (hx77 := fun v M2 hx => ?_) _ v M1 (Nat.lt_succ_self _) ⟨120, zpL (ztx M) (M 56 17) f 4 o p, zpL_s (by decide), z1, g1, fun _ => by have := g1.1; omega⟩
  refine z_iload_n 0 (zdec DX10_sums 42 rfl) rfl rfl ?_
  exact z_iret (zdec DX10_sums 43 rfl) rfl (⟨rfl, v, rfl, hx⟩)
set_option maxHeartbeats 4000000 in
theorem lp_X10_product_10 {Q : zPost} (f : Nat) (hN : ∀ (M : zMm) (o p : Int), zRy M o p → (6 - o) * 6 + (5 - 5) + 1 ≤ f → zW mX10_oneOf (f + 3) (fun rv S' M' => S' = zS0 ∧ ∃ x, rv = some (.inl x) ∧ zpR M o (zvn M) (zpL (ztx M) (M 56 17) (f) 5 o p) M' x) (0, 0) zS0 0 (zargs 0 [.inr (.inr 56)]) [] M) {M : zMm} (o p : Int) (hy : zRy M o p) (hf : (6 - o) * 6 + (5 - 4) + 1 ≤ f + 1) (hx94 : ∀ (v : Int) (M2 : zMm), (zpR M o (zvn M) (zpL (ztx M) (M 56 17) (f + 1) 4 o p) M2 v) → zW mX10_product (f + 4) Q (0, 0) zS0 94 [(1, .inl v)] [] M2) : ∀ (n : Nat) (v : Int) (c : Int) (M2 : zMm), (M 56 17 - M2 56 16).toNat < n → (c = zby M2 ∧ ∃ (k : Nat) (r : zPr), zpL (ztx M) (M 56 17) (f + 1) 4 o p = zpLp (ztx M) (M 56 17) (zpL (ztx M) (M 56 17) f (4 + 1) o) 4 k r ∧ zpR M o (zvn M) r M2 v ∧ zpG (M 56 17) p r ∧ (r.2.1 = false → M 56 17 - r.1 ≤ k)) → zW mX10_product (f + 4) Q (0, 0) zS0 10 [(0, .inr (.inr 56)), (1, .inl v), (2, .inl c)] [] M2 := by
  intro n
  induction n with
  | zero => intro v c M2 hn; exact absurd hn (Nat.not_lt_zero _)
  | succ n ih =>
    intro v c M2 hn hI
    obtain ⟨ec, hI⟩ := hI
    obtain ⟨k, r, he, hr, hG, hk⟩ := hI
    have hp := hy.2.2.1
    have hb2 := hy.2.1.2
    obtain ⟨hP2, hRb2, -, -, -, hbad⟩ := hr.y hy hG
    have e16 := hr.2.1
    have gg := hG.2.1
    have hRb3 := hRb2.2
    refine z_aload_n 0 (zdec DX10_product 6 rfl) rfl rfl (by decide) ?_
    refine z_geti (ki := 18) 56 10 (zdec DX10_product 7 rfl) rfl shp56 rfl (by decide) rfl rfl fl_SixWallsModel_194 ?_
    refine z_if_ge 94 (zdec DX10_product 8 rfl) rfl (fun h14 => ?_) (fun h14 => ?_)
    ·
      refine z_weak (L' := [(1, .inl v)]) (by simp) ?_
      exact hx94 v M2 (zlv_end hr he (zlv_no hy hr hG (by decide) (fun q => by have q2 := q.2; rw [← ec] at q2; unfold zlev at q2; (repeat' split at q2) <;> omega)))
    ·
      refine z_iload_n 2 (zdec DX10_product 9 rfl) rfl rfl ?_
      refine z_bipush 42 (zdec DX10_product 10 rfl) (by decide) ?_
      refine z_icmp_eq 35 (zdec DX10_product 11 rfl) rfl (fun h20 => ?_) (fun h20 => ?_)
      ·
        have go := zlv_go (c := 42) hy hr hG he ⟨by decide, by decide⟩ (by decide) (by decide) (by omega) (Or.inl (hk (hbad (by omega)))) ⟨by omega, by omega⟩ (rfl : zup M2 56 16 (M2 56 16 + 1) = _)
        refine z_aload_n 0 (zdec DX10_product 18 rfl) rfl rfl (by decide) ?_
        refine z_dup (zdec DX10_product 19 rfl) rfl ?_
        refine z_geti (ki := 16) 56 10 (zdec DX10_product 20 rfl) rfl shp56 rfl (by decide) rfl rfl fl_SixWallsModel_185 ?_
        refine z_iconst 1 (zdec DX10_product 21 rfl) (by decide) ?_
        refine z_iadd (zdec DX10_product 22 rfl) (by unfold z32; omega) ?_
        refine z_puti (ki := 16) 56 10 (zdec DX10_product 23 rfl) rfl shp56 rfl (by decide) rfl rfl fl_SixWallsModel_185 (Or.inl rfl) ?_
        refine z_aload_n 0 (zdec DX10_product 24 rfl) rfl rfl (by decide) ?_
        refine z_inv mX10_oneOf 56 10 [] (zdec DX10_product 25 rfl) ml_SixWallsModel_216 okX10_oneOf rfl shp56 rfl rfl rfl rfl (Nat.le_of_ble_eq_true rfl) (by omega) (b' := (0, 0)) ⟨Nat.le_refl 0, Nat.le_refl 0⟩ (Nat.le_of_ble_eq_true rfl) (hN _ _ _ go.1 (by have := go.2.1.1; omega)) (fun rv9 S9 M46 h9 => ?_)
        obtain ⟨rfl, w, rfl, z2⟩ := h9
        have e46 := z2.2.1
        have gg2 := zpL_G (t := ztx (zup M2 56 16 (M2 56 16 + 1))) (n := zup M2 56 16 (M2 56 16 + 1) 56 17) f 5 o (r.1 + 1) (by decide) (by decide) hy.2.2.2.2.2.1 hy.2.2.2.2.2.2 (by omega) (by have := hG.1; omega) (by have := go.1.2.1.2; have := go.1.2.2.1; omega)
        have gg3 := gg2.1
        have gg4 := go.2.1
        change zW _ _ _ _ _ 49 [(0, .inr (.inr 56)), (1, .inl v), (2, .inl c)] [.inl w] M46
        refine z_istore_n (L' := [(0, .inr (.inr 56)), (1, .inl v), (2, .inl c), (3, .inl w)]) (zdec DX10_product 26 rfl) rfl rfl (by decide) ?_
        refine z_iload_n 2 (zdec DX10_product 27 rfl) rfl rfl ?_
        refine z_bipush 42 (zdec DX10_product 28 rfl) (by decide) ?_
        refine z_icmp_ne 62 (zdec DX10_product 29 rfl) rfl (fun h53 => ?_) (fun h53 => ?_)
        ·
          refine z_iload_n 3 (zdec DX10_product 34 rfl) rfl rfl ?_
          refine z_if_ne 70 (zdec DX10_product 35 rfl) rfl (fun h63 => ?_) (fun h63 => ?_)
          ·
            refine z_iload_n 2 (zdec DX10_product 38 rfl) rfl rfl ?_
            refine z_bipush 47 (zdec DX10_product 39 rfl) (by decide) ?_
            refine z_icmp_ne 82 (zdec DX10_product 40 rfl) rfl (fun h73 => ?_) (fun h73 => ?_)
            ·
              refine z_iload_n 1 (zdec DX10_product 45 rfl) rfl rfl ?_
              refine z_iload_n 3 (zdec DX10_product 46 rfl) rfl rfl ?_
              refine z_iremw (zdec DX10_product 47 rfl) (by omega) ?_
              refine z_istore_n (L' := [(0, .inr (.inr 56)), (1, .inl (zw (Int.tmod v w))), (2, .inl c), (3, .inl w)]) (zdec DX10_product 48 rfl) rfl rfl (by decide) ?_
              obtain ⟨r2, u1, u2, u3, u4⟩ := go.2.2 M46 w ((zw (Int.tmod v w))) z2 (by unfold zjoi; first | (rw [if_neg (by decide), if_neg (by decide), if_neg (by decide), if_neg (by decide), if_neg (by decide), if_neg (by decide), if_neg (by decide), if_pos (by decide)]; done) | (rw [if_neg (by decide), if_neg (by decide), if_neg (by decide), if_neg (by decide), if_neg (by decide), if_neg (by decide), if_neg (by decide), if_neg (by decide), if_pos (by decide)]; first | (rw [if_pos (by omega)]; done) | (rw [if_neg (by omega)]; done)) | (rw [if_neg (by decide), if_neg (by decide), if_neg (by decide), if_neg (by decide), if_neg (by decide), if_neg (by decide), if_neg (by decide), if_neg (by decide), if_neg (by decide)]; first | (rw [if_pos (by omega)]; done) | (rw [if_neg (by omega)]; done)) | (exfalso; omega))
              refine z_aload_n 0 (zdec DX10_product 49 rfl) rfl rfl (by decide) ?_
              refine z_inv mX10_byteAt 56 10 [] (zdec DX10_product 50 rfl) ml_SixWallsModel_197 okX10_byteAt rfl shp56 rfl rfl rfl rfl (Nat.le_of_ble_eq_true rfl) (by omega) (b' := (0, 0)) ⟨Nat.le_refl 0, Nat.le_refl 0⟩ (Nat.le_of_ble_eq_true rfl) (cX10_byteAt (z2.1.P go.1.1) (z2.y go.1 gg2).2.1) (fun rv9 S9 M87 h9 => ?_)
              obtain ⟨rfl, rfl, rfl⟩ := h9
              change zW _ _ _ _ _ 90 [(0, .inr (.inr 56)), (1, .inl (zw (Int.tmod v w))), (2, .inl c), (3, .inl w)] [.inl (zby M46)] M46
              refine z_istore_n (L' := [(0, .inr (.inr 56)), (1, .inl (zw (Int.tmod v w))), (2, .inl (zby M46)), (3, .inl w)]) (zdec DX10_product 51 rfl) rfl rfl (by decide) ?_
              refine z_goto 10 (zdec DX10_product 52 rfl) rfl ?_
              refine z_weak (L' := [(0, .inr (.inr 56)), (1, .inl (zw (Int.tmod v w))), (2, .inl (zby M46))]) (by simp) ?_
              exact ih (zw (Int.tmod v w)) (zby M46) M46 (by omega) (by exact ⟨rfl, k - 1, r2, u1, u2, u3, fun _ => (by have := hk (hbad (by omega)); omega)⟩)
            ·
              refine z_iload_n 1 (zdec DX10_product 41 rfl) rfl rfl ?_
              refine z_iload_n 3 (zdec DX10_product 42 rfl) rfl rfl ?_
              refine z_idivw (zdec DX10_product 43 rfl) (by omega) ?_
              refine z_goto 85 (zdec DX10_product 44 rfl) rfl ?_
              refine z_istore_n (L' := [(0, .inr (.inr 56)), (1, .inl (zw (Int.tdiv v w))), (2, .inl c), (3, .inl w)]) (zdec DX10_product 48 rfl) rfl rfl (by decide) ?_
              obtain ⟨r2, u1, u2, u3, u4⟩ := go.2.2 M46 w ((zw (Int.tdiv v w))) z2 (by unfold zjoi; first | (rw [if_neg (by decide), if_neg (by decide), if_neg (by decide), if_neg (by decide), if_neg (by decide), if_neg (by decide), if_neg (by decide), if_pos (by decide)]; done) | (rw [if_neg (by decide), if_neg (by decide), if_neg (by decide), if_neg (by decide), if_neg (by decide), if_neg (by decide), if_neg (by decide), if_neg (by decide), if_pos (by decide)]; first | (rw [if_pos (by omega)]; done) | (rw [if_neg (by omega)]; done)) | (rw [if_neg (by decide), if_neg (by decide), if_neg (by decide), if_neg (by decide), if_neg (by decide), if_neg (by decide), if_neg (by decide), if_neg (by decide), if_neg (by decide)]; first | (rw [if_pos (by omega)]; done) | (rw [if_neg (by omega)]; done)) | (exfalso; omega))
              refine z_aload_n 0 (zdec DX10_product 49 rfl) rfl rfl (by decide) ?_
              refine z_inv mX10_byteAt 56 10 [] (zdec DX10_product 50 rfl) ml_SixWallsModel_197 okX10_byteAt rfl shp56 rfl rfl rfl rfl (Nat.le_of_ble_eq_true rfl) (by omega) (b' := (0, 0)) ⟨Nat.le_refl 0, Nat.le_refl 0⟩ (Nat.le_of_ble_eq_true rfl) (cX10_byteAt (z2.1.P go.1.1) (z2.y go.1 gg2).2.1) (fun rv9 S9 M87 h9 => ?_)
              obtain ⟨rfl, rfl, rfl⟩ := h9
              change zW _ _ _ _ _ 90 [(0, .inr (.inr 56)), (1, .inl (zw (Int.tdiv v w))), (2, .inl c), (3, .inl w)] [.inl (zby M46)] M46
              refine z_istore_n (L' := [(0, .inr (.inr 56)), (1, .inl (zw (Int.tdiv v w))), (2, .inl (zby M46)), (3, .inl w)]) (zdec DX10_product 51 rfl) rfl rfl (by decide) ?_
              refine z_goto 10 (zdec DX10_product 52 rfl) rfl ?_
              refine z_weak (L' := [(0, .inr (.inr 56)), (1, .inl (zw (Int.tdiv v w))), (2, .inl (zby M46))]) (by simp) ?_
              exact ih (zw (Int.tdiv v w)) (zby M46) M46 (by omega) (by exact ⟨rfl, k - 1, r2, u1, u2, u3, fun _ => (by have := hk (hbad (by omega)); omega)⟩)
          ·
            refine z_iconst 0 (zdec DX10_product 36 rfl) (by decide) ?_
            refine z_goto 85 (zdec DX10_product 37 rfl) rfl ?_
            refine z_istore_n (L' := [(0, .inr (.inr 56)), (1, .inl 0), (2, .inl c), (3, .inl w)]) (zdec DX10_product 48 rfl) rfl rfl (by decide) ?_
            obtain ⟨r2, u1, u2, u3, u4⟩ := go.2.2 M46 w (0) z2 (by unfold zjoi; first | (rw [if_neg (by decide), if_neg (by decide), if_neg (by decide), if_neg (by decide), if_neg (by decide), if_neg (by decide), if_neg (by decide), if_pos (by decide)]; done) | (rw [if_neg (by decide), if_neg (by decide), if_neg (by decide), if_neg (by decide), if_neg (by decide), if_neg (by decide), if_neg (by decide), if_neg (by decide), if_pos (by decide)]; first | (rw [if_pos (by omega)]; done) | (rw [if_neg (by omega)]; done)) | (rw [if_neg (by decide), if_neg (by decide), if_neg (by decide), if_neg (by decide), if_neg (by decide), if_neg (by decide), if_neg (by decide), if_neg (by decide), if_neg (by decide)]; first | (rw [if_pos (by omega)]; done) | (rw [if_neg (by omega)]; done)) | (exfalso; omega))
            refine z_aload_n 0 (zdec DX10_product 49 rfl) rfl rfl (by decide) ?_
            refine z_inv mX10_byteAt 56 10 [] (zdec DX10_product 50 rfl) ml_SixWallsModel_197 okX10_byteAt rfl shp56 rfl rfl rfl rfl (Nat.le_of_ble_eq_true rfl) (by omega) (b' := (0, 0)) ⟨Nat.le_refl 0, Nat.le_refl 0⟩ (Nat.le_of_ble_eq_true rfl) (cX10_byteAt (z2.1.P go.1.1) (z2.y go.1 gg2).2.1) (fun rv9 S9 M87 h9 => ?_)
            obtain ⟨rfl, rfl, rfl⟩ := h9
            change zW _ _ _ _ _ 90 [(0, .inr (.inr 56)), (1, .inl 0), (2, .inl c), (3, .inl w)] [.inl (zby M46)] M46
            refine z_istore_n (L' := [(0, .inr (.inr 56)), (1, .inl 0), (2, .inl (zby M46)), (3, .inl w)]) (zdec DX10_product 51 rfl) rfl rfl (by decide) ?_
            refine z_goto 10 (zdec DX10_product 52 rfl) rfl ?_
            refine z_weak (L' := [(0, .inr (.inr 56)), (1, .inl 0), (2, .inl (zby M46))]) (by simp) ?_
            exact ih 0 (zby M46) M46 (by omega) (by exact ⟨rfl, k - 1, r2, u1, u2, u3, fun _ => (by have := hk (hbad (by omega)); omega)⟩)
        ·
          refine z_iload_n 1 (zdec DX10_product 30 rfl) rfl rfl ?_
          refine z_iload_n 3 (zdec DX10_product 31 rfl) rfl rfl ?_
          refine z_imulw (zdec DX10_product 32 rfl) ?_
          refine z_goto 85 (zdec DX10_product 33 rfl) rfl ?_
          refine z_istore_n (L' := [(0, .inr (.inr 56)), (1, .inl (zw (v * w))), (2, .inl c), (3, .inl w)]) (zdec DX10_product 48 rfl) rfl rfl (by decide) ?_
          obtain ⟨r2, u1, u2, u3, u4⟩ := go.2.2 M46 w ((zw (v * w))) z2 (by unfold zjoi; first | (rw [if_neg (by decide), if_neg (by decide), if_neg (by decide), if_neg (by decide), if_neg (by decide), if_neg (by decide), if_neg (by decide), if_pos (by decide)]; done) | (rw [if_neg (by decide), if_neg (by decide), if_neg (by decide), if_neg (by decide), if_neg (by decide), if_neg (by decide), if_neg (by decide), if_neg (by decide), if_pos (by decide)]; first | (rw [if_pos (by omega)]; done) | (rw [if_neg (by omega)]; done)) | (rw [if_neg (by decide), if_neg (by decide), if_neg (by decide), if_neg (by decide), if_neg (by decide), if_neg (by decide), if_neg (by decide), if_neg (by decide), if_neg (by decide)]; first | (rw [if_pos (by omega)]; done) | (rw [if_neg (by omega)]; done)) | (exfalso; omega))
          refine z_aload_n 0 (zdec DX10_product 49 rfl) rfl rfl (by decide) ?_
          refine z_inv mX10_byteAt 56 10 [] (zdec DX10_product 50 rfl) ml_SixWallsModel_197 okX10_byteAt rfl shp56 rfl rfl rfl rfl (Nat.le_of_ble_eq_true rfl) (by omega) (b' := (0, 0)) ⟨Nat.le_refl 0, Nat.le_refl 0⟩ (Nat.le_of_ble_eq_true rfl) (cX10_byteAt (z2.1.P go.1.1) (z2.y go.1 gg2).2.1) (fun rv9 S9 M87 h9 => ?_)
          obtain ⟨rfl, rfl, rfl⟩ := h9
          change zW _ _ _ _ _ 90 [(0, .inr (.inr 56)), (1, .inl (zw (v * w))), (2, .inl c), (3, .inl w)] [.inl (zby M46)] M46
          refine z_istore_n (L' := [(0, .inr (.inr 56)), (1, .inl (zw (v * w))), (2, .inl (zby M46)), (3, .inl w)]) (zdec DX10_product 51 rfl) rfl rfl (by decide) ?_
          refine z_goto 10 (zdec DX10_product 52 rfl) rfl ?_
          refine z_weak (L' := [(0, .inr (.inr 56)), (1, .inl (zw (v * w))), (2, .inl (zby M46))]) (by simp) ?_
          exact ih (zw (v * w)) (zby M46) M46 (by omega) (by exact ⟨rfl, k - 1, r2, u1, u2, u3, fun _ => (by have := hk (hbad (by omega)); omega)⟩)
      ·
        refine z_iload_n 2 (zdec DX10_product 12 rfl) rfl rfl ?_
        refine z_bipush 47 (zdec DX10_product 13 rfl) (by decide) ?_
        refine z_icmp_eq 35 (zdec DX10_product 14 rfl) rfl (fun h26 => ?_) (fun h26 => ?_)
        ·
          have go := zlv_go (c := 47) hy hr hG he ⟨by decide, by decide⟩ (by decide) (by decide) (by omega) (Or.inl (hk (hbad (by omega)))) ⟨by omega, by omega⟩ (rfl : zup M2 56 16 (M2 56 16 + 1) = _)
          refine z_aload_n 0 (zdec DX10_product 18 rfl) rfl rfl (by decide) ?_
          refine z_dup (zdec DX10_product 19 rfl) rfl ?_
          refine z_geti (ki := 16) 56 10 (zdec DX10_product 20 rfl) rfl shp56 rfl (by decide) rfl rfl fl_SixWallsModel_185 ?_
          refine z_iconst 1 (zdec DX10_product 21 rfl) (by decide) ?_
          refine z_iadd (zdec DX10_product 22 rfl) (by unfold z32; omega) ?_
          refine z_puti (ki := 16) 56 10 (zdec DX10_product 23 rfl) rfl shp56 rfl (by decide) rfl rfl fl_SixWallsModel_185 (Or.inl rfl) ?_
          refine z_aload_n 0 (zdec DX10_product 24 rfl) rfl rfl (by decide) ?_
          refine z_inv mX10_oneOf 56 10 [] (zdec DX10_product 25 rfl) ml_SixWallsModel_216 okX10_oneOf rfl shp56 rfl rfl rfl rfl (Nat.le_of_ble_eq_true rfl) (by omega) (b' := (0, 0)) ⟨Nat.le_refl 0, Nat.le_refl 0⟩ (Nat.le_of_ble_eq_true rfl) (hN _ _ _ go.1 (by have := go.2.1.1; omega)) (fun rv9 S9 M46 h9 => ?_)
          obtain ⟨rfl, w, rfl, z2⟩ := h9
          have e46 := z2.2.1
          have gg2 := zpL_G (t := ztx (zup M2 56 16 (M2 56 16 + 1))) (n := zup M2 56 16 (M2 56 16 + 1) 56 17) f 5 o (r.1 + 1) (by decide) (by decide) hy.2.2.2.2.2.1 hy.2.2.2.2.2.2 (by omega) (by have := hG.1; omega) (by have := go.1.2.1.2; have := go.1.2.2.1; omega)
          have gg3 := gg2.1
          have gg4 := go.2.1
          change zW _ _ _ _ _ 49 [(0, .inr (.inr 56)), (1, .inl v), (2, .inl c)] [.inl w] M46
          refine z_istore_n (L' := [(0, .inr (.inr 56)), (1, .inl v), (2, .inl c), (3, .inl w)]) (zdec DX10_product 26 rfl) rfl rfl (by decide) ?_
          refine z_iload_n 2 (zdec DX10_product 27 rfl) rfl rfl ?_
          refine z_bipush 42 (zdec DX10_product 28 rfl) (by decide) ?_
          refine z_icmp_ne 62 (zdec DX10_product 29 rfl) rfl (fun h53 => ?_) (fun h53 => ?_)
          ·
            refine z_iload_n 3 (zdec DX10_product 34 rfl) rfl rfl ?_
            refine z_if_ne 70 (zdec DX10_product 35 rfl) rfl (fun h63 => ?_) (fun h63 => ?_)
            ·
              refine z_iload_n 2 (zdec DX10_product 38 rfl) rfl rfl ?_
              refine z_bipush 47 (zdec DX10_product 39 rfl) (by decide) ?_
              refine z_icmp_ne 82 (zdec DX10_product 40 rfl) rfl (fun h73 => ?_) (fun h73 => ?_)
              ·
                refine z_iload_n 1 (zdec DX10_product 45 rfl) rfl rfl ?_
                refine z_iload_n 3 (zdec DX10_product 46 rfl) rfl rfl ?_
                refine z_iremw (zdec DX10_product 47 rfl) (by omega) ?_
                refine z_istore_n (L' := [(0, .inr (.inr 56)), (1, .inl (zw (Int.tmod v w))), (2, .inl c), (3, .inl w)]) (zdec DX10_product 48 rfl) rfl rfl (by decide) ?_
                obtain ⟨r2, u1, u2, u3, u4⟩ := go.2.2 M46 w ((zw (Int.tmod v w))) z2 (by unfold zjoi; first | (rw [if_neg (by decide), if_neg (by decide), if_neg (by decide), if_neg (by decide), if_neg (by decide), if_neg (by decide), if_neg (by decide), if_pos (by decide)]; done) | (rw [if_neg (by decide), if_neg (by decide), if_neg (by decide), if_neg (by decide), if_neg (by decide), if_neg (by decide), if_neg (by decide), if_neg (by decide), if_pos (by decide)]; first | (rw [if_pos (by omega)]; done) | (rw [if_neg (by omega)]; done)) | (rw [if_neg (by decide), if_neg (by decide), if_neg (by decide), if_neg (by decide), if_neg (by decide), if_neg (by decide), if_neg (by decide), if_neg (by decide), if_neg (by decide)]; first | (rw [if_pos (by omega)]; done) | (rw [if_neg (by omega)]; done)) | (exfalso; omega))
                refine z_aload_n 0 (zdec DX10_product 49 rfl) rfl rfl (by decide) ?_
                refine z_inv mX10_byteAt 56 10 [] (zdec DX10_product 50 rfl) ml_SixWallsModel_197 okX10_byteAt rfl shp56 rfl rfl rfl rfl (Nat.le_of_ble_eq_true rfl) (by omega) (b' := (0, 0)) ⟨Nat.le_refl 0, Nat.le_refl 0⟩ (Nat.le_of_ble_eq_true rfl) (cX10_byteAt (z2.1.P go.1.1) (z2.y go.1 gg2).2.1) (fun rv9 S9 M87 h9 => ?_)
                obtain ⟨rfl, rfl, rfl⟩ := h9
                change zW _ _ _ _ _ 90 [(0, .inr (.inr 56)), (1, .inl (zw (Int.tmod v w))), (2, .inl c), (3, .inl w)] [.inl (zby M46)] M46
                refine z_istore_n (L' := [(0, .inr (.inr 56)), (1, .inl (zw (Int.tmod v w))), (2, .inl (zby M46)), (3, .inl w)]) (zdec DX10_product 51 rfl) rfl rfl (by decide) ?_
                refine z_goto 10 (zdec DX10_product 52 rfl) rfl ?_
                refine z_weak (L' := [(0, .inr (.inr 56)), (1, .inl (zw (Int.tmod v w))), (2, .inl (zby M46))]) (by simp) ?_
                exact ih (zw (Int.tmod v w)) (zby M46) M46 (by omega) (by exact ⟨rfl, k - 1, r2, u1, u2, u3, fun _ => (by have := hk (hbad (by omega)); omega)⟩)
              ·
                refine z_iload_n 1 (zdec DX10_product 41 rfl) rfl rfl ?_
                refine z_iload_n 3 (zdec DX10_product 42 rfl) rfl rfl ?_
                refine z_idivw (zdec DX10_product 43 rfl) (by omega) ?_
                refine z_goto 85 (zdec DX10_product 44 rfl) rfl ?_
                refine z_istore_n (L' := [(0, .inr (.inr 56)), (1, .inl (zw (Int.tdiv v w))), (2, .inl c), (3, .inl w)]) (zdec DX10_product 48 rfl) rfl rfl (by decide) ?_
                obtain ⟨r2, u1, u2, u3, u4⟩ := go.2.2 M46 w ((zw (Int.tdiv v w))) z2 (by unfold zjoi; first | (rw [if_neg (by decide), if_neg (by decide), if_neg (by decide), if_neg (by decide), if_neg (by decide), if_neg (by decide), if_neg (by decide), if_pos (by decide)]; done) | (rw [if_neg (by decide), if_neg (by decide), if_neg (by decide), if_neg (by decide), if_neg (by decide), if_neg (by decide), if_neg (by decide), if_neg (by decide), if_pos (by decide)]; first | (rw [if_pos (by omega)]; done) | (rw [if_neg (by omega)]; done)) | (rw [if_neg (by decide), if_neg (by decide), if_neg (by decide), if_neg (by decide), if_neg (by decide), if_neg (by decide), if_neg (by decide), if_neg (by decide), if_neg (by decide)]; first | (rw [if_pos (by omega)]; done) | (rw [if_neg (by omega)]; done)) | (exfalso; omega))
                refine z_aload_n 0 (zdec DX10_product 49 rfl) rfl rfl (by decide) ?_
                refine z_inv mX10_byteAt 56 10 [] (zdec DX10_product 50 rfl) ml_SixWallsModel_197 okX10_byteAt rfl shp56 rfl rfl rfl rfl (Nat.le_of_ble_eq_true rfl) (by omega) (b' := (0, 0)) ⟨Nat.le_refl 0, Nat.le_refl 0⟩ (Nat.le_of_ble_eq_true rfl) (cX10_byteAt (z2.1.P go.1.1) (z2.y go.1 gg2).2.1) (fun rv9 S9 M87 h9 => ?_)
                obtain ⟨rfl, rfl, rfl⟩ := h9
                change zW _ _ _ _ _ 90 [(0, .inr (.inr 56)), (1, .inl (zw (Int.tdiv v w))), (2, .inl c), (3, .inl w)] [.inl (zby M46)] M46
                refine z_istore_n (L' := [(0, .inr (.inr 56)), (1, .inl (zw (Int.tdiv v w))), (2, .inl (zby M46)), (3, .inl w)]) (zdec DX10_product 51 rfl) rfl rfl (by decide) ?_
                refine z_goto 10 (zdec DX10_product 52 rfl) rfl ?_
                refine z_weak (L' := [(0, .inr (.inr 56)), (1, .inl (zw (Int.tdiv v w))), (2, .inl (zby M46))]) (by simp) ?_
                exact ih (zw (Int.tdiv v w)) (zby M46) M46 (by omega) (by exact ⟨rfl, k - 1, r2, u1, u2, u3, fun _ => (by have := hk (hbad (by omega)); omega)⟩)
            ·
              refine z_iconst 0 (zdec DX10_product 36 rfl) (by decide) ?_
              refine z_goto 85 (zdec DX10_product 37 rfl) rfl ?_
              refine z_istore_n (L' := [(0, .inr (.inr 56)), (1, .inl 0), (2, .inl c), (3, .inl w)]) (zdec DX10_product 48 rfl) rfl rfl (by decide) ?_
              obtain ⟨r2, u1, u2, u3, u4⟩ := go.2.2 M46 w (0) z2 (by unfold zjoi; first | (rw [if_neg (by decide), if_neg (by decide), if_neg (by decide), if_neg (by decide), if_neg (by decide), if_neg (by decide), if_neg (by decide), if_pos (by decide)]; done) | (rw [if_neg (by decide), if_neg (by decide), if_neg (by decide), if_neg (by decide), if_neg (by decide), if_neg (by decide), if_neg (by decide), if_neg (by decide), if_pos (by decide)]; first | (rw [if_pos (by omega)]; done) | (rw [if_neg (by omega)]; done)) | (rw [if_neg (by decide), if_neg (by decide), if_neg (by decide), if_neg (by decide), if_neg (by decide), if_neg (by decide), if_neg (by decide), if_neg (by decide), if_neg (by decide)]; first | (rw [if_pos (by omega)]; done) | (rw [if_neg (by omega)]; done)) | (exfalso; omega))
              refine z_aload_n 0 (zdec DX10_product 49 rfl) rfl rfl (by decide) ?_
              refine z_inv mX10_byteAt 56 10 [] (zdec DX10_product 50 rfl) ml_SixWallsModel_197 okX10_byteAt rfl shp56 rfl rfl rfl rfl (Nat.le_of_ble_eq_true rfl) (by omega) (b' := (0, 0)) ⟨Nat.le_refl 0, Nat.le_refl 0⟩ (Nat.le_of_ble_eq_true rfl) (cX10_byteAt (z2.1.P go.1.1) (z2.y go.1 gg2).2.1) (fun rv9 S9 M87 h9 => ?_)
              obtain ⟨rfl, rfl, rfl⟩ := h9
              change zW _ _ _ _ _ 90 [(0, .inr (.inr 56)), (1, .inl 0), (2, .inl c), (3, .inl w)] [.inl (zby M46)] M46
              refine z_istore_n (L' := [(0, .inr (.inr 56)), (1, .inl 0), (2, .inl (zby M46)), (3, .inl w)]) (zdec DX10_product 51 rfl) rfl rfl (by decide) ?_
              refine z_goto 10 (zdec DX10_product 52 rfl) rfl ?_
              refine z_weak (L' := [(0, .inr (.inr 56)), (1, .inl 0), (2, .inl (zby M46))]) (by simp) ?_
              exact ih 0 (zby M46) M46 (by omega) (by exact ⟨rfl, k - 1, r2, u1, u2, u3, fun _ => (by have := hk (hbad (by omega)); omega)⟩)
          ·
            refine z_iload_n 1 (zdec DX10_product 30 rfl) rfl rfl ?_
            refine z_iload_n 3 (zdec DX10_product 31 rfl) rfl rfl ?_
            refine z_imulw (zdec DX10_product 32 rfl) ?_
            refine z_goto 85 (zdec DX10_product 33 rfl) rfl ?_
            refine z_istore_n (L' := [(0, .inr (.inr 56)), (1, .inl (zw (v * w))), (2, .inl c), (3, .inl w)]) (zdec DX10_product 48 rfl) rfl rfl (by decide) ?_
            obtain ⟨r2, u1, u2, u3, u4⟩ := go.2.2 M46 w ((zw (v * w))) z2 (by unfold zjoi; first | (rw [if_neg (by decide), if_neg (by decide), if_neg (by decide), if_neg (by decide), if_neg (by decide), if_neg (by decide), if_neg (by decide), if_pos (by decide)]; done) | (rw [if_neg (by decide), if_neg (by decide), if_neg (by decide), if_neg (by decide), if_neg (by decide), if_neg (by decide), if_neg (by decide), if_neg (by decide), if_pos (by decide)]; first | (rw [if_pos (by omega)]; done) | (rw [if_neg (by omega)]; done)) | (rw [if_neg (by decide), if_neg (by decide), if_neg (by decide), if_neg (by decide), if_neg (by decide), if_neg (by decide), if_neg (by decide), if_neg (by decide), if_neg (by decide)]; first | (rw [if_pos (by omega)]; done) | (rw [if_neg (by omega)]; done)) | (exfalso; omega))
            refine z_aload_n 0 (zdec DX10_product 49 rfl) rfl rfl (by decide) ?_
            refine z_inv mX10_byteAt 56 10 [] (zdec DX10_product 50 rfl) ml_SixWallsModel_197 okX10_byteAt rfl shp56 rfl rfl rfl rfl (Nat.le_of_ble_eq_true rfl) (by omega) (b' := (0, 0)) ⟨Nat.le_refl 0, Nat.le_refl 0⟩ (Nat.le_of_ble_eq_true rfl) (cX10_byteAt (z2.1.P go.1.1) (z2.y go.1 gg2).2.1) (fun rv9 S9 M87 h9 => ?_)
            obtain ⟨rfl, rfl, rfl⟩ := h9
            change zW _ _ _ _ _ 90 [(0, .inr (.inr 56)), (1, .inl (zw (v * w))), (2, .inl c), (3, .inl w)] [.inl (zby M46)] M46
            refine z_istore_n (L' := [(0, .inr (.inr 56)), (1, .inl (zw (v * w))), (2, .inl (zby M46)), (3, .inl w)]) (zdec DX10_product 51 rfl) rfl rfl (by decide) ?_
            refine z_goto 10 (zdec DX10_product 52 rfl) rfl ?_
            refine z_weak (L' := [(0, .inr (.inr 56)), (1, .inl (zw (v * w))), (2, .inl (zby M46))]) (by simp) ?_
            exact ih (zw (v * w)) (zby M46) M46 (by omega) (by exact ⟨rfl, k - 1, r2, u1, u2, u3, fun _ => (by have := hk (hbad (by omega)); omega)⟩)
        ·
          refine z_iload_n 2 (zdec DX10_product 15 rfl) rfl rfl ?_
          refine z_bipush 37 (zdec DX10_product 16 rfl) (by decide) ?_
          refine z_icmp_ne 94 (zdec DX10_product 17 rfl) rfl (fun h32 => ?_) (fun h32 => ?_)
          ·
            refine z_weak (L' := [(1, .inl v)]) (by simp) ?_
            exact hx94 v M2 (zlv_end hr he (zlv_no hy hr hG (by decide) (fun q => by have q2 := q.2; rw [← ec] at q2; unfold zlev at q2; (repeat' split at q2) <;> omega)))
          ·
            have go := zlv_go (c := 37) hy hr hG he ⟨by decide, by decide⟩ (by decide) (by decide) (by omega) (Or.inl (hk (hbad (by omega)))) ⟨by omega, by omega⟩ (rfl : zup M2 56 16 (M2 56 16 + 1) = _)
            refine z_aload_n 0 (zdec DX10_product 18 rfl) rfl rfl (by decide) ?_
            refine z_dup (zdec DX10_product 19 rfl) rfl ?_
            refine z_geti (ki := 16) 56 10 (zdec DX10_product 20 rfl) rfl shp56 rfl (by decide) rfl rfl fl_SixWallsModel_185 ?_
            refine z_iconst 1 (zdec DX10_product 21 rfl) (by decide) ?_
            refine z_iadd (zdec DX10_product 22 rfl) (by unfold z32; omega) ?_
            refine z_puti (ki := 16) 56 10 (zdec DX10_product 23 rfl) rfl shp56 rfl (by decide) rfl rfl fl_SixWallsModel_185 (Or.inl rfl) ?_
            refine z_aload_n 0 (zdec DX10_product 24 rfl) rfl rfl (by decide) ?_
            refine z_inv mX10_oneOf 56 10 [] (zdec DX10_product 25 rfl) ml_SixWallsModel_216 okX10_oneOf rfl shp56 rfl rfl rfl rfl (Nat.le_of_ble_eq_true rfl) (by omega) (b' := (0, 0)) ⟨Nat.le_refl 0, Nat.le_refl 0⟩ (Nat.le_of_ble_eq_true rfl) (hN _ _ _ go.1 (by have := go.2.1.1; omega)) (fun rv9 S9 M46 h9 => ?_)
            obtain ⟨rfl, w, rfl, z2⟩ := h9
            have e46 := z2.2.1
            have gg2 := zpL_G (t := ztx (zup M2 56 16 (M2 56 16 + 1))) (n := zup M2 56 16 (M2 56 16 + 1) 56 17) f 5 o (r.1 + 1) (by decide) (by decide) hy.2.2.2.2.2.1 hy.2.2.2.2.2.2 (by omega) (by have := hG.1; omega) (by have := go.1.2.1.2; have := go.1.2.2.1; omega)
            have gg3 := gg2.1
            have gg4 := go.2.1
            change zW _ _ _ _ _ 49 [(0, .inr (.inr 56)), (1, .inl v), (2, .inl c)] [.inl w] M46
            refine z_istore_n (L' := [(0, .inr (.inr 56)), (1, .inl v), (2, .inl c), (3, .inl w)]) (zdec DX10_product 26 rfl) rfl rfl (by decide) ?_
            refine z_iload_n 2 (zdec DX10_product 27 rfl) rfl rfl ?_
            refine z_bipush 42 (zdec DX10_product 28 rfl) (by decide) ?_
            refine z_icmp_ne 62 (zdec DX10_product 29 rfl) rfl (fun h53 => ?_) (fun h53 => ?_)
            ·
              refine z_iload_n 3 (zdec DX10_product 34 rfl) rfl rfl ?_
              refine z_if_ne 70 (zdec DX10_product 35 rfl) rfl (fun h63 => ?_) (fun h63 => ?_)
              ·
                refine z_iload_n 2 (zdec DX10_product 38 rfl) rfl rfl ?_
                refine z_bipush 47 (zdec DX10_product 39 rfl) (by decide) ?_
                refine z_icmp_ne 82 (zdec DX10_product 40 rfl) rfl (fun h73 => ?_) (fun h73 => ?_)
                ·
                  refine z_iload_n 1 (zdec DX10_product 45 rfl) rfl rfl ?_
                  refine z_iload_n 3 (zdec DX10_product 46 rfl) rfl rfl ?_
                  refine z_iremw (zdec DX10_product 47 rfl) (by omega) ?_
                  refine z_istore_n (L' := [(0, .inr (.inr 56)), (1, .inl (zw (Int.tmod v w))), (2, .inl c), (3, .inl w)]) (zdec DX10_product 48 rfl) rfl rfl (by decide) ?_
                  obtain ⟨r2, u1, u2, u3, u4⟩ := go.2.2 M46 w ((zw (Int.tmod v w))) z2 (by unfold zjoi; first | (rw [if_neg (by decide), if_neg (by decide), if_neg (by decide), if_neg (by decide), if_neg (by decide), if_neg (by decide), if_neg (by decide), if_pos (by decide)]; done) | (rw [if_neg (by decide), if_neg (by decide), if_neg (by decide), if_neg (by decide), if_neg (by decide), if_neg (by decide), if_neg (by decide), if_neg (by decide), if_pos (by decide)]; first | (rw [if_pos (by omega)]; done) | (rw [if_neg (by omega)]; done)) | (rw [if_neg (by decide), if_neg (by decide), if_neg (by decide), if_neg (by decide), if_neg (by decide), if_neg (by decide), if_neg (by decide), if_neg (by decide), if_neg (by decide)]; first | (rw [if_pos (by omega)]; done) | (rw [if_neg (by omega)]; done)) | (exfalso; omega))
                  refine z_aload_n 0 (zdec DX10_product 49 rfl) rfl rfl (by decide) ?_
                  refine z_inv mX10_byteAt 56 10 [] (zdec DX10_product 50 rfl) ml_SixWallsModel_197 okX10_byteAt rfl shp56 rfl rfl rfl rfl (Nat.le_of_ble_eq_true rfl) (by omega) (b' := (0, 0)) ⟨Nat.le_refl 0, Nat.le_refl 0⟩ (Nat.le_of_ble_eq_true rfl) (cX10_byteAt (z2.1.P go.1.1) (z2.y go.1 gg2).2.1) (fun rv9 S9 M87 h9 => ?_)
                  obtain ⟨rfl, rfl, rfl⟩ := h9
                  change zW _ _ _ _ _ 90 [(0, .inr (.inr 56)), (1, .inl (zw (Int.tmod v w))), (2, .inl c), (3, .inl w)] [.inl (zby M46)] M46
                  refine z_istore_n (L' := [(0, .inr (.inr 56)), (1, .inl (zw (Int.tmod v w))), (2, .inl (zby M46)), (3, .inl w)]) (zdec DX10_product 51 rfl) rfl rfl (by decide) ?_
                  refine z_goto 10 (zdec DX10_product 52 rfl) rfl ?_
                  refine z_weak (L' := [(0, .inr (.inr 56)), (1, .inl (zw (Int.tmod v w))), (2, .inl (zby M46))]) (by simp) ?_
                  exact ih (zw (Int.tmod v w)) (zby M46) M46 (by omega) (by exact ⟨rfl, k - 1, r2, u1, u2, u3, fun _ => (by have := hk (hbad (by omega)); omega)⟩)
                ·
                  refine z_iload_n 1 (zdec DX10_product 41 rfl) rfl rfl ?_
                  refine z_iload_n 3 (zdec DX10_product 42 rfl) rfl rfl ?_
                  refine z_idivw (zdec DX10_product 43 rfl) (by omega) ?_
                  refine z_goto 85 (zdec DX10_product 44 rfl) rfl ?_
                  refine z_istore_n (L' := [(0, .inr (.inr 56)), (1, .inl (zw (Int.tdiv v w))), (2, .inl c), (3, .inl w)]) (zdec DX10_product 48 rfl) rfl rfl (by decide) ?_
                  obtain ⟨r2, u1, u2, u3, u4⟩ := go.2.2 M46 w ((zw (Int.tdiv v w))) z2 (by unfold zjoi; first | (rw [if_neg (by decide), if_neg (by decide), if_neg (by decide), if_neg (by decide), if_neg (by decide), if_neg (by decide), if_neg (by decide), if_pos (by decide)]; done) | (rw [if_neg (by decide), if_neg (by decide), if_neg (by decide), if_neg (by decide), if_neg (by decide), if_neg (by decide), if_neg (by decide), if_neg (by decide), if_pos (by decide)]; first | (rw [if_pos (by omega)]; done) | (rw [if_neg (by omega)]; done)) | (rw [if_neg (by decide), if_neg (by decide), if_neg (by decide), if_neg (by decide), if_neg (by decide), if_neg (by decide), if_neg (by decide), if_neg (by decide), if_neg (by decide)]; first | (rw [if_pos (by omega)]; done) | (rw [if_neg (by omega)]; done)) | (exfalso; omega))
                  refine z_aload_n 0 (zdec DX10_product 49 rfl) rfl rfl (by decide) ?_
                  refine z_inv mX10_byteAt 56 10 [] (zdec DX10_product 50 rfl) ml_SixWallsModel_197 okX10_byteAt rfl shp56 rfl rfl rfl rfl (Nat.le_of_ble_eq_true rfl) (by omega) (b' := (0, 0)) ⟨Nat.le_refl 0, Nat.le_refl 0⟩ (Nat.le_of_ble_eq_true rfl) (cX10_byteAt (z2.1.P go.1.1) (z2.y go.1 gg2).2.1) (fun rv9 S9 M87 h9 => ?_)
                  obtain ⟨rfl, rfl, rfl⟩ := h9
                  change zW _ _ _ _ _ 90 [(0, .inr (.inr 56)), (1, .inl (zw (Int.tdiv v w))), (2, .inl c), (3, .inl w)] [.inl (zby M46)] M46
                  refine z_istore_n (L' := [(0, .inr (.inr 56)), (1, .inl (zw (Int.tdiv v w))), (2, .inl (zby M46)), (3, .inl w)]) (zdec DX10_product 51 rfl) rfl rfl (by decide) ?_
                  refine z_goto 10 (zdec DX10_product 52 rfl) rfl ?_
                  refine z_weak (L' := [(0, .inr (.inr 56)), (1, .inl (zw (Int.tdiv v w))), (2, .inl (zby M46))]) (by simp) ?_
                  exact ih (zw (Int.tdiv v w)) (zby M46) M46 (by omega) (by exact ⟨rfl, k - 1, r2, u1, u2, u3, fun _ => (by have := hk (hbad (by omega)); omega)⟩)
              ·
                refine z_iconst 0 (zdec DX10_product 36 rfl) (by decide) ?_
                refine z_goto 85 (zdec DX10_product 37 rfl) rfl ?_
                refine z_istore_n (L' := [(0, .inr (.inr 56)), (1, .inl 0), (2, .inl c), (3, .inl w)]) (zdec DX10_product 48 rfl) rfl rfl (by decide) ?_
                obtain ⟨r2, u1, u2, u3, u4⟩ := go.2.2 M46 w (0) z2 (by unfold zjoi; first | (rw [if_neg (by decide), if_neg (by decide), if_neg (by decide), if_neg (by decide), if_neg (by decide), if_neg (by decide), if_neg (by decide), if_pos (by decide)]; done) | (rw [if_neg (by decide), if_neg (by decide), if_neg (by decide), if_neg (by decide), if_neg (by decide), if_neg (by decide), if_neg (by decide), if_neg (by decide), if_pos (by decide)]; first | (rw [if_pos (by omega)]; done) | (rw [if_neg (by omega)]; done)) | (rw [if_neg (by decide), if_neg (by decide), if_neg (by decide), if_neg (by decide), if_neg (by decide), if_neg (by decide), if_neg (by decide), if_neg (by decide), if_neg (by decide)]; first | (rw [if_pos (by omega)]; done) | (rw [if_neg (by omega)]; done)) | (exfalso; omega))
                refine z_aload_n 0 (zdec DX10_product 49 rfl) rfl rfl (by decide) ?_
                refine z_inv mX10_byteAt 56 10 [] (zdec DX10_product 50 rfl) ml_SixWallsModel_197 okX10_byteAt rfl shp56 rfl rfl rfl rfl (Nat.le_of_ble_eq_true rfl) (by omega) (b' := (0, 0)) ⟨Nat.le_refl 0, Nat.le_refl 0⟩ (Nat.le_of_ble_eq_true rfl) (cX10_byteAt (z2.1.P go.1.1) (z2.y go.1 gg2).2.1) (fun rv9 S9 M87 h9 => ?_)
                obtain ⟨rfl, rfl, rfl⟩ := h9
                change zW _ _ _ _ _ 90 [(0, .inr (.inr 56)), (1, .inl 0), (2, .inl c), (3, .inl w)] [.inl (zby M46)] M46
                refine z_istore_n (L' := [(0, .inr (.inr 56)), (1, .inl 0), (2, .inl (zby M46)), (3, .inl w)]) (zdec DX10_product 51 rfl) rfl rfl (by decide) ?_
                refine z_goto 10 (zdec DX10_product 52 rfl) rfl ?_
                refine z_weak (L' := [(0, .inr (.inr 56)), (1, .inl 0), (2, .inl (zby M46))]) (by simp) ?_
                exact ih 0 (zby M46) M46 (by omega) (by exact ⟨rfl, k - 1, r2, u1, u2, u3, fun _ => (by have := hk (hbad (by omega)); omega)⟩)
            ·
              refine z_iload_n 1 (zdec DX10_product 30 rfl) rfl rfl ?_
              refine z_iload_n 3 (zdec DX10_product 31 rfl) rfl rfl ?_
              refine z_imulw (zdec DX10_product 32 rfl) ?_
              refine z_goto 85 (zdec DX10_product 33 rfl) rfl ?_
              refine z_istore_n (L' := [(0, .inr (.inr 56)), (1, .inl (zw (v * w))), (2, .inl c), (3, .inl w)]) (zdec DX10_product 48 rfl) rfl rfl (by decide) ?_
              obtain ⟨r2, u1, u2, u3, u4⟩ := go.2.2 M46 w ((zw (v * w))) z2 (by unfold zjoi; first | (rw [if_neg (by decide), if_neg (by decide), if_neg (by decide), if_neg (by decide), if_neg (by decide), if_neg (by decide), if_neg (by decide), if_pos (by decide)]; done) | (rw [if_neg (by decide), if_neg (by decide), if_neg (by decide), if_neg (by decide), if_neg (by decide), if_neg (by decide), if_neg (by decide), if_neg (by decide), if_pos (by decide)]; first | (rw [if_pos (by omega)]; done) | (rw [if_neg (by omega)]; done)) | (rw [if_neg (by decide), if_neg (by decide), if_neg (by decide), if_neg (by decide), if_neg (by decide), if_neg (by decide), if_neg (by decide), if_neg (by decide), if_neg (by decide)]; first | (rw [if_pos (by omega)]; done) | (rw [if_neg (by omega)]; done)) | (exfalso; omega))
              refine z_aload_n 0 (zdec DX10_product 49 rfl) rfl rfl (by decide) ?_
              refine z_inv mX10_byteAt 56 10 [] (zdec DX10_product 50 rfl) ml_SixWallsModel_197 okX10_byteAt rfl shp56 rfl rfl rfl rfl (Nat.le_of_ble_eq_true rfl) (by omega) (b' := (0, 0)) ⟨Nat.le_refl 0, Nat.le_refl 0⟩ (Nat.le_of_ble_eq_true rfl) (cX10_byteAt (z2.1.P go.1.1) (z2.y go.1 gg2).2.1) (fun rv9 S9 M87 h9 => ?_)
              obtain ⟨rfl, rfl, rfl⟩ := h9
              change zW _ _ _ _ _ 90 [(0, .inr (.inr 56)), (1, .inl (zw (v * w))), (2, .inl c), (3, .inl w)] [.inl (zby M46)] M46
              refine z_istore_n (L' := [(0, .inr (.inr 56)), (1, .inl (zw (v * w))), (2, .inl (zby M46)), (3, .inl w)]) (zdec DX10_product 51 rfl) rfl rfl (by decide) ?_
              refine z_goto 10 (zdec DX10_product 52 rfl) rfl ?_
              refine z_weak (L' := [(0, .inr (.inr 56)), (1, .inl (zw (v * w))), (2, .inl (zby M46))]) (by simp) ?_
              exact ih (zw (v * w)) (zby M46) M46 (by omega) (by exact ⟨rfl, k - 1, r2, u1, u2, u3, fun _ => (by have := hk (hbad (by omega)); omega)⟩)
set_option maxHeartbeats 4000000 in
theorem cX10_product (f : Nat) (hN : ∀ (M : zMm) (o p : Int), zRy M o p → (6 - o) * 6 + (5 - 5) + 1 ≤ f → zW mX10_oneOf (f + 3) (fun rv S' M' => S' = zS0 ∧ ∃ x, rv = some (.inl x) ∧ zpR M o (zvn M) (zpL (ztx M) (M 56 17) (f) 5 o p) M' x) (0, 0) zS0 0 (zargs 0 [.inr (.inr 56)]) [] M) {M : zMm} (o p : Int) (hy : zRy M o p) (hf : (6 - o) * 6 + (5 - 4) + 1 ≤ f + 1) : zW mX10_product (f + 4) (fun rv S' M' => S' = zS0 ∧ ∃ x, rv = some (.inl x) ∧ zpR M o (zvn M) (zpL (ztx M) (M 56 17) (f + 1) 4 o p) M' x) (0, 0) zS0 0 (zargs 0 [.inr (.inr 56)]) [] M := by
  change zW _ _ _ _ _ 0 [(0, .inr (.inr 56))] [] M
  have hb2 := hy.2.1.2
  have hp := hy.2.2.1
  refine z_aload_n 0 (zdec DX10_product 0 rfl) rfl rfl (by decide) ?_
  refine z_inv mX10_oneOf 56 10 [] (zdec DX10_product 1 rfl) ml_SixWallsModel_216 okX10_oneOf rfl shp56 rfl rfl rfl rfl (Nat.le_of_ble_eq_true rfl) (by omega) (b' := (0, 0)) ⟨Nat.le_refl 0, Nat.le_refl 0⟩ (Nat.le_of_ble_eq_true rfl) (hN M o p hy (by omega)) (fun rv9 S9 M1 h9 => ?_)
  obtain ⟨rfl, v, rfl, z1⟩ := h9
  have g1 := zpL_G (t := ztx M) (n := M 56 17) f 5 o p (by decide) (by decide) hy.2.2.2.2.2.1 hy.2.2.2.2.2.2 (by omega) (by omega) (by omega)
  obtain ⟨hP1, hRb1, -, -, -, -⟩ := z1.y hy g1
  change zW _ _ _ _ _ 4 [(0, .inr (.inr 56))] [.inl v] M1
  refine z_istore_n (L' := [(0, .inr (.inr 56)), (1, .inl v)]) (zdec DX10_product 2 rfl) rfl rfl (by decide) ?_
  refine z_aload_n 0 (zdec DX10_product 3 rfl) rfl rfl (by decide) ?_
  refine z_inv mX10_byteAt 56 10 [] (zdec DX10_product 4 rfl) ml_SixWallsModel_197 okX10_byteAt rfl shp56 rfl rfl rfl rfl (Nat.le_of_ble_eq_true rfl) (by omega) (b' := (0, 0)) ⟨Nat.le_refl 0, Nat.le_refl 0⟩ (Nat.le_of_ble_eq_true rfl) (cX10_byteAt hP1 hRb1) (fun rv9 S9 M6 h9 => ?_)
  obtain ⟨rfl, rfl, rfl⟩ := h9
  change zW _ _ _ _ _ 9 [(0, .inr (.inr 56)), (1, .inl v)] [.inl (zby M1)] M1
  refine z_istore_n (L' := [(0, .inr (.inr 56)), (1, .inl v), (2, .inl (zby M1))]) (zdec DX10_product 5 rfl) rfl rfl (by decide) ?_
  refine lp_X10_product_10 f hN o p hy hf (hx94 := fun v M2 hx => ?_) _ v (zby M1) M1 (Nat.lt_succ_self _) ⟨rfl, 120, zpL (ztx M) (M 56 17) f 5 o p, zpL_s (by decide), z1, g1, fun _ => by have := g1.1; omega⟩
  refine z_iload_n 0 (zdec DX10_product 53 rfl) rfl rfl ?_
  exact z_iret (zdec DX10_product 54 rfl) rfl (⟨rfl, v, rfl, hx⟩)
