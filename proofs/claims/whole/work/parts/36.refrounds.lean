/-! the reference: rounds of masonry -/
/-- walls where nobody lives stay as they are -/
def zSty (s : zMm) (T : Int → Int) : Prop := ∀ w : Int, 0 ≤ w → w < 33 → s 7 (zlow w) ≠ 1 → s 7 (zhigh w) ≠ 1 → T w = s 11 w
theorem zSty.ag {s : zMm} {T : Int → Int} (h : zSty s T) {w : Int} (hw : 0 ≤ w ∧ w < 33) : zagree s w (s 11 w) = zagree s w (T w) := by
  have k := h w hw.1 hw.2
  unfold zagree
  repeat' split
  all_goals first | rfl | omega
theorem zSty.rd {s : zMm} {p : (Int → Int) × Int} (h : zSty s p.1) {w : Int} (hw : 0 ≤ w ∧ w < 33) : zSty s (zrd s p w).1 := by
  intro k h0 h1 h2 h3
  show zpu p.1 w (p.1 w + zstp s p.1 w) k = _
  by_cases hk : k = w
  · subst hk
    rw [zpu_s]
    have e : zagree s k (p.1 k) = p.1 k := by unfold zagree; rw [if_neg (by omega), if_neg (by omega), if_neg (by omega)]
    have e2 : zstp s p.1 k = 0 := by unfold zstp; rw [e, if_neg (by omega), if_neg (by omega)]
    rw [e2, Int.add_zero]
    exact h k h0 h1 h2 h3
  · rw [zpu_n hk]
    exact h k h0 h1 h2 h3
theorem zround_s (s : zMm) (T : Int → Int) {w : Int} (h : 0 ≤ w) : zround s T (w + 1) = zrd s (zround s T w) w := zfo_s _ _ h
def zW33 (f g : Int → Int) : Prop := ∀ w : Int, 0 ≤ w → w < 33 → f w = g w
/-- in a round, at a wall; changed or not -/
def zIr (M : zMm) (T : Int → Int) (w ch : Int) (M2 : zMm) : Prop := zTh9 (zround (zvw M) T w).1 ∧ zSty (zvw M) (zround (zvw M) T w).1 ∧ ch = (zround (zvw M) T w).2 ∧ zonly 73 M M2 ∧ zW33 (M2 73) (zround (zvw M) T w).1
theorem zIr.go {M M2 M3 : zMm} {T : Int → Int} {w ch ch2 st : Int} (hR : zRr M) (hw : 0 ≤ w ∧ w < 33) (h : zIr M T w ch M2) (hst : st = zstp (zvw M) (zround (zvw M) T w).1 w) (hc : ch2 = if st = 0 then ch else 1) (hM : M3 = zup M2 73 w (M2 73 w + st) ∨ (st = 0 ∧ M3 = M2)) : zIr M T (w + 1) ch2 M3 := by
  obtain ⟨h1, h2, h3, h4, h5⟩ := h
  unfold zIr
  rw [zround_s _ _ hw.1]
  generalize zround (zvw M) T w = p at h1 h2 h3 h5 hst ⊢
  refine ⟨zrd_9 hR.v h1 hw, h2.rd hw, ?_, ?_, fun k h0 h6 => ?_⟩
  · show ch2 = if zstp (zvw M) p.1 w = 0 then p.2 else 1
    rw [hc, hst, h3]
  · rcases hM with rfl | ⟨-, rfl⟩
    · exact h4.up
    · exact h4
  · show M3 73 k = zpu p.1 w (p.1 w + zstp (zvw M) p.1 w) k
    have e := h5 w hw.1 hw.2
    by_cases hk : k = w
    · subst hk
      rw [zpu_s, ← hst, ← e]
      rcases hM with rfl | ⟨q, rfl⟩
      · exact zup_self _ _ _ _
      · omega
    · rw [zpu_n hk]
      rcases hM with rfl | ⟨-, rfl⟩
      · rw [zup_ne hk]; exact h5 k h0 h6
      · exact h5 k h0 h6
theorem zstp_d {s : zMm} {T : Int → Int} {w u st : Int} (hd : u = zagree s w (T w)) (h1 : u < T w ∧ st = -1 ∨ u = T w ∧ st = 0) : st = zstp s T w := by
  unfold zstp
  rw [← hd]
  rcases h1 with ⟨a, b⟩ | ⟨a, b⟩
  · rw [if_neg (by omega), if_pos a, b]
  · rw [if_neg (by omega), if_neg (by omega), b]
theorem zstp_u {s : zMm} {T : Int → Int} {w u st : Int} (hd : u = zagree s w (T w)) (h1 : T w < u) (h2 : (zload T (zlow w) < s 1 13 ∧ zload T (zhigh w) < s 1 13) ∧ st = 1 ∨ ¬ (zload T (zlow w) < s 1 13 ∧ zload T (zhigh w) < s 1 13) ∧ st = 0) : st = zstp s T w := by
  unfold zstp
  rw [← hd, if_pos h1]
  rcases h2 with ⟨a, b⟩ | ⟨a, b⟩
  · rw [if_pos a, b]
  · rw [if_neg a, b]
set_option maxHeartbeats 4000000 in
theorem lp_X10_roundGoes_4 {Q : zPost} {s : zMm} (hP : zP s) (hg : zGr s) (hR : zRr s) (T : Int → Int) (hx111 : ∀ (ch : Int) (M2 : zMm), (zIr s T 33 ch M2) → zW mX10_roundGoes 2 Q (0, 0) zS0 111 [(1, .inl ch)] [] M2) : ∀ (n : Nat) (ch : Int) (w : Int) (M2 : zMm), (33 - w).toNat < n → (0 ≤ w ∧ w ≤ 33 ∧ zIr s T w ch M2) → zW mX10_roundGoes 2 Q (0, 0) zS0 4 [(0, .inr (.inr 56)), (1, .inl ch), (2, .inl w)] [] M2 := by
  intro n
  induction n with
  | zero => intro ch w M2 hn; exact absurd hn (Nat.not_lt_zero _)
  | succ n ih =>
    intro ch w M2 hn hI
    have hg2 : zGr M2 := hg.of (hI.2.2.2.2.2.1 61 (by decide)) (hI.2.2.2.2.2.1 62 (by decide))
    have hR2 : zRr M2 := hR.of (hI.2.2.2.2.2.1 57 (by decide)) (hI.2.2.2.2.2.1 63 (by decide)) (hI.2.2.2.2.2.1 64 (by decide))
    have r57 : M2 57 = s 57 := hI.2.2.2.2.2.1 57 (by decide)
    have r64 : M2 64 = s 64 := hI.2.2.2.2.2.1 64 (by decide)
    have lb := zlow_b w
    have lh := zhigh_b w
    have hbT : ∀ k : Int, 0 ≤ k → k < 33 → 0 ≤ M2 73 k ∧ M2 73 k ≤ 9 := fun k h0 h1 => by rw [hI.2.2.2.2.2.2 k h0 h1]; exact hI.2.2.1 k h0 h1
    have hbw := hbT w hI.1
    have ew := hI.2.2.2.2.2.2 w hI.1
    refine z_iload_n 2 (zdec DX10_roundGoes 4 rfl) rfl rfl ?_
    refine z_bipush 33 (zdec DX10_roundGoes 5 rfl) (by decide) ?_
    refine z_icmp_ge 111 (zdec DX10_roundGoes 6 rfl) rfl (fun h7 => ?_) (fun h7 => ?_)
    ·
      refine z_weak (L' := [(1, .inl ch)]) (by simp) ?_
      exact hx111 ch M2 (by have e : w = 33 := (by omega); subst e; exact hI.2.2)
    ·
      refine z_aload_n 0 (zdec DX10_roundGoes 7 rfl) rfl rfl (by decide) ?_
      refine z_iload_n 2 (zdec DX10_roundGoes 8 rfl) rfl rfl ?_
      refine z_inv mX10_agreedOf 56 10 [.inl w] (zdec DX10_roundGoes 9 rfl) ml_SixWallsModel_153 okX10_agreedOf rfl shp56 rfl rfl rfl rfl (Nat.le_of_ble_eq_true rfl) (Nat.le_of_ble_eq_true rfl) (b' := (0, 0)) ⟨Nat.le_refl 0, Nat.le_refl 0⟩ (Nat.le_of_ble_eq_true rfl) (cX10_agreedOf (hI.2.2.2.2.2.1.P (by decide) hP) hg2 hR2 w ⟨by omega, by omega⟩) (fun rv9 S9 M12 h9 => ?_)
      obtain ⟨rfl, rfl, rfl⟩ := h9
      obtain ⟨u, eu⟩ : ∃ u, u = zagree (zvw M2) w (M2 57 (32 + w)) := ⟨_, rfl⟩
      have hd : u = zagree (zvw s) w ((zround (zvw s) T w).1 w) := by
        rw [eu, ← hI.2.2.2.1.ag ⟨hI.1, by omega⟩]
        have e7 : ∀ k : Int, zvw M2 7 k = zvw s 7 k := fun k => congrFun r64 k
        have e10 : ∀ k : Int, zvw M2 10 k = zvw s 10 k := fun k => congrFun r57 (16 + k)
        unfold zagree
        rw [e7, e7, e10, e10, r57]
        rfl
      rw [← eu]
      change zW _ _ _ _ _ 15 [(0, .inr (.inr 56)), (1, .inl ch), (2, .inl w)] [.inl u] M2
      refine z_istore_n (L' := [(0, .inr (.inr 56)), (1, .inl ch), (2, .inl w), (3, .inl u)]) (zdec DX10_roundGoes 10 rfl) rfl rfl (by decide) ?_
      refine z_aload_n 0 (zdec DX10_roundGoes 11 rfl) rfl rfl (by decide) ?_
      refine z_getr (rw1 := -66) (ki := 27) (r' := 73) 56 10 (zdec DX10_roundGoes 12 rfl) rfl rfl shp56 rfl (by decide) rfl rfl fl_SixWallsModel_59 (zPa (hI.2.2.2.2.2.1.P (by decide) hP) 73 rfl) ?_
      refine z_iload_n 2 (zdec DX10_roundGoes 13 rfl) rfl rfl ?_
      refine z_iald 73 (zdec DX10_roundGoes 14 rfl) rfl shp73 ⟨by omega, by omega⟩ ?_
      refine z_iload_n 3 (zdec DX10_roundGoes 15 rfl) rfl rfl ?_
      refine z_icmp_le 41 (zdec DX10_roundGoes 16 rfl) rfl (fun h23 => ?_) (fun h23 => ?_)
      ·
        refine z_aload_n 0 (zdec DX10_roundGoes 28 rfl) rfl rfl (by decide) ?_
        refine z_getr (rw1 := -66) (ki := 27) (r' := 73) 56 10 (zdec DX10_roundGoes 29 rfl) rfl rfl shp56 rfl (by decide) rfl rfl fl_SixWallsModel_59 (zPa (hI.2.2.2.2.2.1.P (by decide) hP) 73 rfl) ?_
        refine z_iload_n 2 (zdec DX10_roundGoes 30 rfl) rfl rfl ?_
        refine z_iald 73 (zdec DX10_roundGoes 31 rfl) rfl shp73 ⟨by omega, by omega⟩ ?_
        refine z_iload_n 3 (zdec DX10_roundGoes 32 rfl) rfl rfl ?_
        refine z_icmp_ge 105 (zdec DX10_roundGoes 33 rfl) rfl (fun h48 => ?_) (fun h48 => ?_)
        ·
          refine z_iinc (L' := [(0, .inr (.inr 56)), (1, .inl ch), (2, .inl (w + 1)), (3, .inl u)]) 2 (zdec DX10_roundGoes 66 rfl) rfl (by unfold z32; omega) rfl (by decide) ?_
          refine z_goto 4 (zdec DX10_roundGoes 67 rfl) rfl ?_
          refine z_weak (L' := [(0, .inr (.inr 56)), (1, .inl ch), (2, .inl (w + 1))]) (by simp) ?_
          exact ih ch (w + 1) M2 (by omega) ⟨by omega, by omega, (show zIr s T w ch M2 from hI.2.2).go hR ⟨hI.1, by omega⟩ (st := 0) (zstp_d hd (Or.inr ⟨by omega, rfl⟩)) (by first | exact (if_pos rfl).symm | exact (if_neg (by decide)).symm) (Or.inr ⟨rfl, rfl⟩)⟩
        ·
          refine z_aload_n 0 (zdec DX10_roundGoes 34 rfl) rfl rfl (by decide) ?_
          refine z_aload_n 0 (zdec DX10_roundGoes 35 rfl) rfl rfl (by decide) ?_
          refine z_getr (rw1 := -66) (ki := 7) (r' := 61) 56 10 (zdec DX10_roundGoes 36 rfl) rfl rfl shp56 rfl (by decide) rfl rfl fl_SixWallsModel_22 (zPa (hI.2.2.2.2.2.1.P (by decide) hP) 61 rfl) ?_
          refine z_iload_n 2 (zdec DX10_roundGoes 37 rfl) rfl rfl ?_
          refine z_iald 61 (zdec DX10_roundGoes 38 rfl) rfl shp61 ⟨by omega, by omega⟩ ?_
          rw [(hg2 w hI.1 (by omega)).1]
          refine z_inv mX10_borne 56 10 [.inl (zlow w)] (zdec DX10_roundGoes 39 rfl) ml_SixWallsModel_150 okX10_borne rfl shp56 rfl rfl rfl rfl (Nat.le_of_ble_eq_true rfl) (Nat.le_of_ble_eq_true rfl) (b' := (0, 0)) ⟨Nat.le_refl 0, Nat.le_refl 0⟩ (Nat.le_of_ble_eq_true rfl) (cX10_borne (hI.2.2.2.2.2.1.P (by decide) hP) hg2 (zlow w) hbT) (fun rv9 S9 M58 h9 => ?_)
          obtain ⟨rfl, rfl, rfl⟩ := h9
          change zW _ _ _ _ _ 61 [(0, .inr (.inr 56)), (1, .inl ch), (2, .inl w), (3, .inl u)] [.inl (zbo (M2 73) (zlow w) 33)] M2
          rw [zbo_load _ lb.1 lb.2, zload_c hI.2.2.2.2.2.2 (zlow w)]
          refine z_aload_n 0 (zdec DX10_roundGoes 40 rfl) rfl rfl (by decide) ?_
          refine z_getr (rw1 := -66) (ki := 0) (r' := 57) 56 10 (zdec DX10_roundGoes 41 rfl) rfl rfl shp56 rfl (by decide) rfl rfl fl_SixWallsModel_9 (zPa (hI.2.2.2.2.2.1.P (by decide) hP) 57 rfl) ?_
          refine z_sipush 132 (zdec DX10_roundGoes 42 rfl) (by decide) ?_
          refine z_iald 57 (zdec DX10_roundGoes 43 rfl) rfl shp57 ⟨by omega, by omega⟩ ?_
          refine z_icmp_ge 105 (zdec DX10_roundGoes 44 rfl) rfl (fun h69 => ?_) (fun h69 => ?_)
          ·
            refine z_iinc (L' := [(0, .inr (.inr 56)), (1, .inl ch), (2, .inl (w + 1)), (3, .inl u)]) 2 (zdec DX10_roundGoes 66 rfl) rfl (by unfold z32; omega) rfl (by decide) ?_
            refine z_goto 4 (zdec DX10_roundGoes 67 rfl) rfl ?_
            refine z_weak (L' := [(0, .inr (.inr 56)), (1, .inl ch), (2, .inl (w + 1))]) (by simp) ?_
            exact ih ch (w + 1) M2 (by omega) ⟨by omega, by omega, (show zIr s T w ch M2 from hI.2.2).go hR ⟨hI.1, by omega⟩ (st := 0) (zstp_u hd (by omega) (Or.inr ⟨(by show ¬ (_ < s 57 132 ∧ _); rw [← r57]; omega), rfl⟩)) (by first | exact (if_pos rfl).symm | exact (if_neg (by decide)).symm) (Or.inr ⟨rfl, rfl⟩)⟩
          ·
            refine z_aload_n 0 (zdec DX10_roundGoes 45 rfl) rfl rfl (by decide) ?_
            refine z_aload_n 0 (zdec DX10_roundGoes 46 rfl) rfl rfl (by decide) ?_
            refine z_getr (rw1 := -66) (ki := 8) (r' := 62) 56 10 (zdec DX10_roundGoes 47 rfl) rfl rfl shp56 rfl (by decide) rfl rfl fl_SixWallsModel_25 (zPa (hI.2.2.2.2.2.1.P (by decide) hP) 62 rfl) ?_
            refine z_iload_n 2 (zdec DX10_roundGoes 48 rfl) rfl rfl ?_
            refine z_iald 62 (zdec DX10_roundGoes 49 rfl) rfl shp62 ⟨by omega, by omega⟩ ?_
            rw [(hg2 w hI.1 (by omega)).2]
            refine z_inv mX10_borne 56 10 [.inl (zhigh w)] (zdec DX10_roundGoes 50 rfl) ml_SixWallsModel_150 okX10_borne rfl shp56 rfl rfl rfl rfl (Nat.le_of_ble_eq_true rfl) (Nat.le_of_ble_eq_true rfl) (b' := (0, 0)) ⟨Nat.le_refl 0, Nat.le_refl 0⟩ (Nat.le_of_ble_eq_true rfl) (cX10_borne (hI.2.2.2.2.2.1.P (by decide) hP) hg2 (zhigh w) hbT) (fun rv9 S9 M79 h9 => ?_)
            obtain ⟨rfl, rfl, rfl⟩ := h9
            change zW _ _ _ _ _ 82 [(0, .inr (.inr 56)), (1, .inl ch), (2, .inl w), (3, .inl u)] [.inl (zbo (M2 73) (zhigh w) 33)] M2
            rw [zbo_load _ lh.1 lh.2, zload_c hI.2.2.2.2.2.2 (zhigh w)]
            refine z_aload_n 0 (zdec DX10_roundGoes 51 rfl) rfl rfl (by decide) ?_
            refine z_getr (rw1 := -66) (ki := 0) (r' := 57) 56 10 (zdec DX10_roundGoes 52 rfl) rfl rfl shp56 rfl (by decide) rfl rfl fl_SixWallsModel_9 (zPa (hI.2.2.2.2.2.1.P (by decide) hP) 57 rfl) ?_
            refine z_sipush 132 (zdec DX10_roundGoes 53 rfl) (by decide) ?_
            refine z_iald 57 (zdec DX10_roundGoes 54 rfl) rfl shp57 ⟨by omega, by omega⟩ ?_
            refine z_icmp_ge 105 (zdec DX10_roundGoes 55 rfl) rfl (fun h90 => ?_) (fun h90 => ?_)
            ·
              refine z_iinc (L' := [(0, .inr (.inr 56)), (1, .inl ch), (2, .inl (w + 1)), (3, .inl u)]) 2 (zdec DX10_roundGoes 66 rfl) rfl (by unfold z32; omega) rfl (by decide) ?_
              refine z_goto 4 (zdec DX10_roundGoes 67 rfl) rfl ?_
              refine z_weak (L' := [(0, .inr (.inr 56)), (1, .inl ch), (2, .inl (w + 1))]) (by simp) ?_
              exact ih ch (w + 1) M2 (by omega) ⟨by omega, by omega, (show zIr s T w ch M2 from hI.2.2).go hR ⟨hI.1, by omega⟩ (st := 0) (zstp_u hd (by omega) (Or.inr ⟨(by show ¬ (_ < s 57 132 ∧ _ < s 57 132); rw [← r57]; omega), rfl⟩)) (by first | exact (if_pos rfl).symm | exact (if_neg (by decide)).symm) (Or.inr ⟨rfl, rfl⟩)⟩
            ·
              refine z_aload_n 0 (zdec DX10_roundGoes 56 rfl) rfl rfl (by decide) ?_
              refine z_getr (rw1 := -66) (ki := 27) (r' := 73) 56 10 (zdec DX10_roundGoes 57 rfl) rfl rfl shp56 rfl (by decide) rfl rfl fl_SixWallsModel_59 (zPa (hI.2.2.2.2.2.1.P (by decide) hP) 73 rfl) ?_
              refine z_iload_n 2 (zdec DX10_roundGoes 58 rfl) rfl rfl ?_
              refine z_dup2 (zdec DX10_roundGoes 59 rfl) rfl rfl ?_
              refine z_iald 73 (zdec DX10_roundGoes 60 rfl) rfl shp73 ⟨by omega, by omega⟩ ?_
              refine z_iconst 1 (zdec DX10_roundGoes 61 rfl) (by decide) ?_
              refine z_iadd (zdec DX10_roundGoes 62 rfl) (by unfold z32; omega) ?_
              refine z_iast 73 (zdec DX10_roundGoes 63 rfl) rfl shp73 ⟨by omega, by omega⟩ ?_
              refine z_iconst 1 (zdec DX10_roundGoes 64 rfl) (by decide) ?_
              refine z_istore_n (L' := [(0, .inr (.inr 56)), (1, .inl 1), (2, .inl w), (3, .inl u)]) (zdec DX10_roundGoes 65 rfl) rfl rfl (by decide) ?_
              refine z_iinc (L' := [(0, .inr (.inr 56)), (1, .inl 1), (2, .inl (w + 1)), (3, .inl u)]) 2 (zdec DX10_roundGoes 66 rfl) rfl (by unfold z32; omega) rfl (by decide) ?_
              refine z_goto 4 (zdec DX10_roundGoes 67 rfl) rfl ?_
              refine z_weak (L' := [(0, .inr (.inr 56)), (1, .inl 1), (2, .inl (w + 1))]) (by simp) ?_
              exact ih 1 (w + 1) (zup M2 73 w ((M2 73 w) + 1)) (by omega) ⟨by omega, by omega, (show zIr s T w ch M2 from hI.2.2).go hR ⟨hI.1, by omega⟩ (st := 1) (zstp_u hd (by omega) (Or.inl ⟨(by show _ < s 57 132 ∧ _ < s 57 132; rw [← r57]; omega), rfl⟩)) (by first | exact (if_pos rfl).symm | exact (if_neg (by decide)).symm) (Or.inl rfl)⟩
      ·
        refine z_aload_n 0 (zdec DX10_roundGoes 17 rfl) rfl rfl (by decide) ?_
        refine z_getr (rw1 := -66) (ki := 27) (r' := 73) 56 10 (zdec DX10_roundGoes 18 rfl) rfl rfl shp56 rfl (by decide) rfl rfl fl_SixWallsModel_59 (zPa (hI.2.2.2.2.2.1.P (by decide) hP) 73 rfl) ?_
        refine z_iload_n 2 (zdec DX10_roundGoes 19 rfl) rfl rfl ?_
        refine z_dup2 (zdec DX10_roundGoes 20 rfl) rfl rfl ?_
        refine z_iald 73 (zdec DX10_roundGoes 21 rfl) rfl shp73 ⟨by omega, by omega⟩ ?_
        refine z_iconst 1 (zdec DX10_roundGoes 22 rfl) (by decide) ?_
        refine z_isub (zdec DX10_roundGoes 23 rfl) (by unfold z32; omega) ?_
        refine z_iast 73 (zdec DX10_roundGoes 24 rfl) rfl shp73 ⟨by omega, by omega⟩ ?_
        refine z_iconst 1 (zdec DX10_roundGoes 25 rfl) (by decide) ?_
        refine z_istore_n (L' := [(0, .inr (.inr 56)), (1, .inl 1), (2, .inl w), (3, .inl u)]) (zdec DX10_roundGoes 26 rfl) rfl rfl (by decide) ?_
        refine z_goto 105 (zdec DX10_roundGoes 27 rfl) rfl ?_
        refine z_iinc (L' := [(0, .inr (.inr 56)), (1, .inl 1), (2, .inl (w + 1)), (3, .inl u)]) 2 (zdec DX10_roundGoes 66 rfl) rfl (by unfold z32; omega) rfl (by decide) ?_
        refine z_goto 4 (zdec DX10_roundGoes 67 rfl) rfl ?_
        refine z_weak (L' := [(0, .inr (.inr 56)), (1, .inl 1), (2, .inl (w + 1))]) (by simp) ?_
        exact ih 1 (w + 1) (zup M2 73 w ((M2 73 w) - 1)) (by omega) ⟨by omega, by omega, (show zIr s T w ch M2 from hI.2.2).go hR ⟨hI.1, by omega⟩ (st := -1) (zstp_d hd (Or.inl ⟨by omega, rfl⟩)) (by first | exact (if_pos rfl).symm | exact (if_neg (by decide)).symm) (Or.inl rfl)⟩
set_option maxHeartbeats 4000000 in
theorem cX10_roundGoes {s : zMm} (hP : zP s) (hg : zGr s) (hR : zRr s) (T : Int → Int) (hT : zTh9 T) (hS : zSty (zvw s) T) {M : zMm} (h1 : zonly 73 s M) (h2 : zW33 (M 73) T) : zW mX10_roundGoes 2 (fun rv S' M' => S' = zS0 ∧ rv = some (.inl (zround (zvw s) T 33).2) ∧ zTh9 (zround (zvw s) T 33).1 ∧ zSty (zvw s) (zround (zvw s) T 33).1 ∧ zonly 73 s M' ∧ zW33 (M' 73) (zround (zvw s) T 33).1) (0, 0) zS0 0 (zargs 0 [.inr (.inr 56)]) [] M := by
  change zW _ _ _ _ _ 0 [(0, .inr (.inr 56))] [] M
  refine z_iconst 0 (zdec DX10_roundGoes 0 rfl) (by decide) ?_
  refine z_istore_n (L' := [(0, .inr (.inr 56)), (1, .inl 0)]) (zdec DX10_roundGoes 1 rfl) rfl rfl (by decide) ?_
  refine z_iconst 0 (zdec DX10_roundGoes 2 rfl) (by decide) ?_
  refine z_istore_n (L' := [(0, .inr (.inr 56)), (1, .inl 0), (2, .inl 0)]) (zdec DX10_roundGoes 3 rfl) rfl rfl (by decide) ?_
  refine lp_X10_roundGoes_4 hP hg hR T (hx111 := fun ch M2 hx => ?_) _ 0 0 M (Nat.lt_succ_self _) ⟨by omega, by omega, hT, hS, rfl, h1, h2⟩
  refine z_iload_n 0 (zdec DX10_roundGoes 68 rfl) rfl rfl ?_
  exact z_zret (zdec DX10_roundGoes 69 rfl) rfl (by rw [hx.2.2.1]; exact zround_ch _ _ _) (⟨rfl, zri hx.2.2.1, hx.1, hx.2.1, hx.2.2.2.1, hx.2.2.2.2⟩)
set_option maxHeartbeats 4000000 in
theorem lp_X10_rounds_20 {Q : zPost} {M : zMm} (hP : zP M) (hg : zGr M) (hR : zRr M) (w : Int) (hx39 : ∀ (i : Int) (M2 : zMm), ((zset (zvw M) 100 0 (zvw M 11)).1 = (if i ≤ 99 then i else -2) ∧ zonly 73 M M2 ∧ zW33 (M2 73) (zset (zvw M) 100 0 (zvw M 11)).2 ∧ 0 ≤ i) → zW mX10_rounds 3 Q (0, 0) zS0 39 [(0, .inr (.inr 56)), (1, .inl w), (2, .inl i)] [] M2) : ∀ (n : Nat) (i : Int) (M2 : zMm), (100 - i).toNat < n → (∃ T : Int → Int, (0 ≤ i ∧ i ≤ 100) ∧ zset (zvw M) 100 0 (zvw M 11) = zset (zvw M) (100 - i).toNat i T ∧ zTh9 T ∧ zSty (zvw M) T ∧ zonly 73 M M2 ∧ zW33 (M2 73) T) → zW mX10_rounds 3 Q (0, 0) zS0 20 [(0, .inr (.inr 56)), (1, .inl w), (2, .inl i)] [] M2 := by
  intro n
  induction n with
  | zero => intro i M2 hn; exact absurd hn (Nat.not_lt_zero _)
  | succ n ih =>
    intro i M2 hn hI
    obtain ⟨T, hI⟩ := hI
    refine z_iload_n 2 (zdec DX10_rounds 12 rfl) rfl rfl ?_
    refine z_bipush 99 (zdec DX10_rounds 13 rfl) (by decide) ?_
    refine z_icmp_gt 39 (zdec DX10_rounds 14 rfl) rfl (fun h23 => ?_) (fun h23 => ?_)
    ·
      exact hx39 i M2 (by first | (have e := hI.2.1.trans (zset_stop ⟨by omega, by omega⟩ h30); exact ⟨by rw [e, if_pos (by omega)], y3, by rw [e]; exact y4, hI.1.1⟩) | (have e := hI.2.1; rw [show i = 100 by omega] at e; have e2 : zset (zvw M) 100 0 (zvw M 11) = (-2, T) := e; exact ⟨by rw [e2, if_neg (by omega)], hI.2.2.2.2.1, by rw [e2]; exact hI.2.2.2.2.2, hI.1.1⟩))
    ·
      refine z_aload_n 0 (zdec DX10_rounds 15 rfl) rfl rfl (by decide) ?_
      refine z_inv mX10_roundGoes 56 10 [] (zdec DX10_rounds 16 rfl) ml_SixWallsModel_256 okX10_roundGoes rfl shp56 rfl rfl rfl rfl (Nat.le_of_ble_eq_true rfl) (Nat.le_of_ble_eq_true rfl) (b' := (0, 0)) ⟨Nat.le_refl 0, Nat.le_refl 0⟩ (Nat.le_of_ble_eq_true rfl) (cX10_roundGoes hP hg hR T hI.2.2.1 hI.2.2.2.1 hI.2.2.2.2.1 hI.2.2.2.2.2) (fun rv9 S9 M27 h9 => ?_)
      obtain ⟨rfl, rfl, y1, y2, y3, y4⟩ := h9
      change zW _ _ _ _ _ 30 [(0, .inr (.inr 56)), (1, .inl w), (2, .inl i)] [.inl ((zround (zvw M) T 33).2)] M27
      refine z_if_eq 39 (zdec DX10_rounds 17 rfl) rfl (fun h30 => ?_) (fun h30 => ?_)
      ·
        skip
        exact hx39 i M27 (by first | (have e := hI.2.1.trans (zset_stop ⟨by omega, by omega⟩ h30); exact ⟨by rw [e, if_pos (by omega)], y3, by rw [e]; exact y4, hI.1.1⟩) | (have e := hI.2.1; rw [show i = 100 by omega] at e; have e2 : zset (zvw M) 100 0 (zvw M 11) = (-2, T) := e; exact ⟨by rw [e2, if_neg (by omega)], hI.2.2.2.2.1, by rw [e2]; exact hI.2.2.2.2.2, hI.1.1⟩))
      ·
        skip
        refine z_iinc (L' := [(0, .inr (.inr 56)), (1, .inl w), (2, .inl (i + 1))]) 2 (zdec DX10_rounds 18 rfl) rfl (by unfold z32; omega) rfl (by decide) ?_
        refine z_goto 20 (zdec DX10_rounds 19 rfl) rfl ?_
        exact ih (i + 1) M27 (by omega) ⟨(zround (zvw M) T 33).1, ⟨by omega, by omega⟩, hI.2.1.trans (zset_go ⟨by omega, by omega⟩ h30), y1, y2, y3, y4⟩
set_option maxHeartbeats 4000000 in
theorem cX10_rounds {M : zMm} (hP : zP M) (hg : zGr M) (hR : zRr M) (w : Int) : zW mX10_rounds 3 (fun rv S' M' => S' = zS0 ∧ rv = some (.inl (if w = -1 then (zset (zvw M) 100 0 (zvw M 11)).1 else if 0 ≤ w ∧ w < 33 then (zset (zvw M) 100 0 (zvw M 11)).2 w else -1)) ∧ zonly 73 M M') (0, 0) zS0 0 (zargs 0 [.inr (.inr 56), .inl w]) [] M := by
  change zW _ _ _ _ _ 0 [(0, .inr (.inr 56)), (1, .inl w)] [] M
  refine z_iload_n 1 (zdec DX10_rounds 0 rfl) rfl rfl ?_
  refine z_iconst (-1) (zdec DX10_rounds 1 rfl) (by decide) ?_
  refine z_icmp_eq 14 (zdec DX10_rounds 2 rfl) rfl (fun h2 => ?_) (fun h2 => ?_)
  ·
    refine z_aload_n 0 (zdec DX10_rounds 8 rfl) rfl rfl (by decide) ?_
    refine z_inv mX10_asksThick 56 10 [] (zdec DX10_rounds 9 rfl) ml_SixWallsModel_147 okX10_asksThick rfl shp56 rfl rfl rfl rfl (Nat.le_of_ble_eq_true rfl) (Nat.le_of_ble_eq_true rfl) (b' := (0, 0)) ⟨Nat.le_refl 0, Nat.le_refl 0⟩ (Nat.le_of_ble_eq_true rfl) (cX10_asksThick hP hg) (fun rv9 S9 M15 h9 => ?_)
    obtain ⟨rfl, rfl, x1, x2⟩ := h9
    change zW _ _ _ _ _ 18 [(0, .inr (.inr 56)), (1, .inl w)] [] M15
    refine z_iconst 0 (zdec DX10_rounds 10 rfl) (by decide) ?_
    refine z_istore_n (L' := [(0, .inr (.inr 56)), (1, .inl w), (2, .inl 0)]) (zdec DX10_rounds 11 rfl) rfl rfl (by decide) ?_
    refine lp_X10_rounds_20 hP hg hR w (hx39 := fun i M2 hx => ?_) _ 0 M15 (Nat.lt_succ_self _) ⟨zvw M 11, ⟨by omega, by omega⟩, rfl, fun k h0 h1 => (hR.2.1 k h0 h1).1, fun k h0 h1 _ _ => rfl, x1, x2⟩
    refine z_iload_n 1 (zdec DX10_rounds 20 rfl) rfl rfl ?_
    refine z_if_lt 52 (zdec DX10_rounds 21 rfl) rfl (fun h40 => ?_) (fun h40 => ?_)
    ·
      refine z_iload_n 2 (zdec DX10_rounds 27 rfl) rfl rfl ?_
      refine z_bipush 99 (zdec DX10_rounds 28 rfl) (by decide) ?_
      refine z_icmp_le 63 (zdec DX10_rounds 29 rfl) rfl (fun h55 => ?_) (fun h55 => ?_)
      ·
        refine z_iload_n 2 (zdec DX10_rounds 32 rfl) rfl rfl ?_
        exact z_iret (zdec DX10_rounds 33 rfl) rfl (⟨rfl, zri (by first | (rw [if_pos (by omega), hx.1]; first | (rw [if_pos (by omega)]; done) | (rw [if_neg (by omega)]; done)) | (rw [if_neg (by omega), if_pos (by omega)]; exact hx.2.2.1 w (by omega) (by omega))), hx.2.1⟩)
      ·
        refine z_bipush (-2) (zdec DX10_rounds 30 rfl) (by decide) ?_
        refine z_goto 64 (zdec DX10_rounds 31 rfl) rfl ?_
        exact z_iret (zdec DX10_rounds 33 rfl) rfl (⟨rfl, zri (by first | (rw [if_pos (by omega), hx.1]; first | (rw [if_pos (by omega)]; done) | (rw [if_neg (by omega)]; done)) | (rw [if_neg (by omega), if_pos (by omega)]; exact hx.2.2.1 w (by omega) (by omega))), hx.2.1⟩)
    ·
      refine z_aload_n 0 (zdec DX10_rounds 22 rfl) rfl rfl (by decide) ?_
      refine z_getr (rw1 := -66) (ki := 27) (r' := 73) 56 10 (zdec DX10_rounds 23 rfl) rfl rfl shp56 rfl (by decide) rfl rfl fl_SixWallsModel_59 (zPa (hx.2.1.P (by decide) hP) 73 rfl) ?_
      refine z_iload_n 1 (zdec DX10_rounds 24 rfl) rfl rfl ?_
      refine z_iald 73 (zdec DX10_rounds 25 rfl) rfl shp73 ⟨by omega, by omega⟩ ?_
      refine z_goto 64 (zdec DX10_rounds 26 rfl) rfl ?_
      exact z_iret (zdec DX10_rounds 33 rfl) rfl (⟨rfl, zri (by first | (rw [if_pos (by omega), hx.1]; first | (rw [if_pos (by omega)]; done) | (rw [if_neg (by omega)]; done)) | (rw [if_neg (by omega), if_pos (by omega)]; exact hx.2.2.1 w (by omega) (by omega))), hx.2.1⟩)
  ·
    refine z_iload_n 1 (zdec DX10_rounds 3 rfl) rfl rfl ?_
    refine z_invs mX10_isWall [.inl w] (zdec DX10_rounds 4 rfl) (Or.inl ml_SixWallsModel_134) okX10_isWall rfl rfl (Nat.le_of_ble_eq_true rfl) (Nat.le_of_ble_eq_true rfl) (b' := (0, 0)) ⟨Nat.le_refl 0, Nat.le_refl 0⟩ (Nat.le_of_ble_eq_true rfl) (cX10_isWall w) (fun rv9 S9 M6 h9 => ?_)
    obtain ⟨rfl, rfl, rfl⟩ := h9
    change zW _ _ _ _ _ 9 [(0, .inr (.inr 56)), (1, .inl w)] [.inl (zb (0 ≤ w ∧ w < 33))] M
    refine z_if_ne 14 (zdec DX10_rounds 5 rfl) rfl (fun h9 => ?_) (fun h9 => ?_)
    ·
      have q9 := zb_ne0.mp h9
      refine z_aload_n 0 (zdec DX10_rounds 8 rfl) rfl rfl (by decide) ?_
      refine z_inv mX10_asksThick 56 10 [] (zdec DX10_rounds 9 rfl) ml_SixWallsModel_147 okX10_asksThick rfl shp56 rfl rfl rfl rfl (Nat.le_of_ble_eq_true rfl) (Nat.le_of_ble_eq_true rfl) (b' := (0, 0)) ⟨Nat.le_refl 0, Nat.le_refl 0⟩ (Nat.le_of_ble_eq_true rfl) (cX10_asksThick hP hg) (fun rv9 S9 M15 h9 => ?_)
      obtain ⟨rfl, rfl, x1, x2⟩ := h9
      change zW _ _ _ _ _ 18 [(0, .inr (.inr 56)), (1, .inl w)] [] M15
      refine z_iconst 0 (zdec DX10_rounds 10 rfl) (by decide) ?_
      refine z_istore_n (L' := [(0, .inr (.inr 56)), (1, .inl w), (2, .inl 0)]) (zdec DX10_rounds 11 rfl) rfl rfl (by decide) ?_
      refine lp_X10_rounds_20 hP hg hR w (hx39 := fun i M2 hx => ?_) _ 0 M15 (Nat.lt_succ_self _) ⟨zvw M 11, ⟨by omega, by omega⟩, rfl, fun k h0 h1 => (hR.2.1 k h0 h1).1, fun k h0 h1 _ _ => rfl, x1, x2⟩
      refine z_iload_n 1 (zdec DX10_rounds 20 rfl) rfl rfl ?_
      refine z_if_lt 52 (zdec DX10_rounds 21 rfl) rfl (fun h40 => ?_) (fun h40 => ?_)
      ·
        refine z_iload_n 2 (zdec DX10_rounds 27 rfl) rfl rfl ?_
        refine z_bipush 99 (zdec DX10_rounds 28 rfl) (by decide) ?_
        refine z_icmp_le 63 (zdec DX10_rounds 29 rfl) rfl (fun h55 => ?_) (fun h55 => ?_)
        ·
          refine z_iload_n 2 (zdec DX10_rounds 32 rfl) rfl rfl ?_
          exact z_iret (zdec DX10_rounds 33 rfl) rfl (⟨rfl, zri (by first | (rw [if_pos (by omega), hx.1]; first | (rw [if_pos (by omega)]; done) | (rw [if_neg (by omega)]; done)) | (rw [if_neg (by omega), if_pos (by omega)]; exact hx.2.2.1 w (by omega) (by omega))), hx.2.1⟩)
        ·
          refine z_bipush (-2) (zdec DX10_rounds 30 rfl) (by decide) ?_
          refine z_goto 64 (zdec DX10_rounds 31 rfl) rfl ?_
          exact z_iret (zdec DX10_rounds 33 rfl) rfl (⟨rfl, zri (by first | (rw [if_pos (by omega), hx.1]; first | (rw [if_pos (by omega)]; done) | (rw [if_neg (by omega)]; done)) | (rw [if_neg (by omega), if_pos (by omega)]; exact hx.2.2.1 w (by omega) (by omega))), hx.2.1⟩)
      ·
        refine z_aload_n 0 (zdec DX10_rounds 22 rfl) rfl rfl (by decide) ?_
        refine z_getr (rw1 := -66) (ki := 27) (r' := 73) 56 10 (zdec DX10_rounds 23 rfl) rfl rfl shp56 rfl (by decide) rfl rfl fl_SixWallsModel_59 (zPa (hx.2.1.P (by decide) hP) 73 rfl) ?_
        refine z_iload_n 1 (zdec DX10_rounds 24 rfl) rfl rfl ?_
        refine z_iald 73 (zdec DX10_rounds 25 rfl) rfl shp73 ⟨by omega, by omega⟩ ?_
        refine z_goto 64 (zdec DX10_rounds 26 rfl) rfl ?_
        exact z_iret (zdec DX10_rounds 33 rfl) rfl (⟨rfl, zri (by first | (rw [if_pos (by omega), hx.1]; first | (rw [if_pos (by omega)]; done) | (rw [if_neg (by omega)]; done)) | (rw [if_neg (by omega), if_pos (by omega)]; exact hx.2.2.1 w (by omega) (by omega))), hx.2.1⟩)
    ·
      have q9 : ¬ (0 ≤ w ∧ w < 33) := fun e => h9 (zb_ne0.mpr e)
      refine z_iconst (-1) (zdec DX10_rounds 6 rfl) (by decide) ?_
      exact z_iret (zdec DX10_rounds 7 rfl) rfl (⟨rfl, zri (by rw [if_neg (by omega), if_neg q9]), zonly.rf⟩)
