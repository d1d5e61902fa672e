/-! the reference: one operand of the law; all levels -/
theorem zpN_s {t : Int → Int} {n : Int} {f : Nat} {v p : Int} : zpN t n (f + 1) v p = if 48 ≤ zpx t n p ∧ zpx t n p ≤ 57 then zpN t n f (v * 10 + zpx t n p - 48) (p + 1) else (v, p) := rfl
theorem zpL_5 {t : Int → Int} {n : Int} {f : Nat} {o p : Int} : zpL t n (f + 1) 5 o p = zpOp t n (zpL t n f) o p := if_pos (by decide)
theorem zpR_bad {M M2 : zMm} {o : Int} {v : Int → Int} {r : zPr} (h : zoT M M2) (h16 : M2 56 16 = r.1) (h18 : M2 56 18 = -1 ∨ M2 56 18 = r.1) (h19 : o ≤ M2 56 19 ∧ M2 56 19 ≤ 6) (hb : r.2.1 = true) : zpR M o v r (zup M2 56 18 (if M2 56 18 < 0 then M2 56 16 else M2 56 18)) 0 := by
  refine ⟨h.up (by omega), by rw [zup_ne (by decide)]; exact h16, fun _ => ⟨?_, ?_, ?_⟩, fun e => by rw [hb] at e; cases e⟩
  · rw [zup_self]; split <;> omega
  · rw [zup_ne (by decide)]; exact h19.1
  · rw [zup_ne (by decide)]; exact h19.2
theorem zOn_num {M M2 : zMm} {o p x q : Int} {f : Nat} (h : zoT M M2) (h16 : M2 56 16 = q) (h18 : M2 56 18 = -1) (h19 : M2 56 19 = o) (hd : 48 ≤ zpx (ztx M) (M 56 17) p ∧ zpx (ztx M) (M 56 17) p ≤ 57) (hn : zpN (ztx M) (M 56 17) 4 0 p = (x, q)) : zpR M o (zvn M) (zpL (ztx M) (M 56 17) (f + 1) 5 o p) M2 x := by
  have e : zpL (ztx M) (M 56 17) (f + 1) 5 o p = (q, false, [(110, x)]) := by rw [zpL_5]; unfold zpOp; rw [if_pos hd, hn]
  rw [e]
  exact ⟨h, h16, fun e => (by cases e), fun _ => ⟨h18, h19, zsl_num _ _⟩⟩
theorem zOn_nam {M : zMm} {o p g : Int} {f : Nat} (hy : zRy M o p) (eg : g = zpx (ztx M) (M 56 17) p) (hg : g = 100 ∨ g = 116 ∨ g = 111 ∨ g = 97 ∨ g = 98) : zpR M o (zvn M) (zpL (ztx M) (M 56 17) (f + 1) 5 o p) (zup M 56 16 (M 56 16 + 1)) (zvn M g) := by
  have e : zpL (ztx M) (M 56 17) (f + 1) 5 o p = (p + 1, false, [(g, 0)]) := by rw [zpL_5]; unfold zpOp; rw [← eg, if_neg (by omega), if_pos hg]
  rw [e]
  have h1 := hy.2.2.1
  exact ⟨zoT.rf.up (by omega), by rw [zup_self, h1], fun e => (by cases e), fun _ => ⟨by rw [zup_ne (by decide)]; exact hy.2.2.2.1, by rw [zup_ne (by decide)]; exact hy.2.2.2.2.1, zsl_nam _ hg⟩⟩
theorem zOn_bad {M : zMm} {o p g : Int} {f : Nat} (hy : zRy M o p) (eg : g = zpx (ztx M) (M 56 17) p) (hd : ¬ (48 ≤ g ∧ g ≤ 57)) (hn : ¬ (g = 100 ∨ g = 116 ∨ g = 111 ∨ g = 97 ∨ g = 98)) (hb : 6 ≤ o ∨ (g ≠ 40 ∧ g ≠ 33 ∧ g ≠ 45)) {M2 : zMm} (h2 : zoT M M2) (h16 : M2 56 16 = p) (h18 : M2 56 18 = -1) (h19 : M2 56 19 = o) : zpR M o (zvn M) (zpL (ztx M) (M 56 17) (f + 1) 5 o p) (zup M2 56 18 (if M2 56 18 < 0 then M2 56 16 else M2 56 18)) 0 := by
  have e : zpL (ztx M) (M 56 17) (f + 1) 5 o p = (p, true, []) := by rw [zpL_5]; unfold zpOp; rw [← eg, if_neg hd, if_neg hn, if_pos hb]
  rw [e]
  have := hy.2.2.2.2.2.2
  exact zpR_bad h2 h16 (Or.inl h18) ⟨by omega, by omega⟩ rfl
theorem zOn_par {M : zMm} {o p g : Int} {f : Nat} (ho : o < 6) (eg : g = zpx (ztx M) (M 56 17) p) (h40 : g = 40) : zpL (ztx M) (M 56 17) (f + 1) 5 o p = if (zpL (ztx M) (M 56 17) f 0 (o + 1) (p + 1)).2.1 = true ∨ zpx (ztx M) (M 56 17) (zpL (ztx M) (M 56 17) f 0 (o + 1) (p + 1)).1 ≠ 41 then ((zpL (ztx M) (M 56 17) f 0 (o + 1) (p + 1)).1, true, (zpL (ztx M) (M 56 17) f 0 (o + 1) (p + 1)).2.2) else ((zpL (ztx M) (M 56 17) f 0 (o + 1) (p + 1)).1 + 1, false, (zpL (ztx M) (M 56 17) f 0 (o + 1) (p + 1)).2.2) := by
  rw [zpL_5]
  unfold zpOp
  rw [← eg, if_neg (by omega), if_neg (by omega), if_neg (by omega), if_pos h40]
theorem zOn_un {M : zMm} {o p g : Int} {f : Nat} (ho : o < 6) (eg : g = zpx (ztx M) (M 56 17) p) (hg : g = 33 ∨ g = 45) : zpL (ztx M) (M 56 17) (f + 1) 5 o p = ((zpL (ztx M) (M 56 17) f 5 (o + 1) (p + 1)).1, (zpL (ztx M) (M 56 17) f 5 (o + 1) (p + 1)).2.1, (zpL (ztx M) (M 56 17) f 5 (o + 1) (p + 1)).2.2 ++ [(if g = 45 then 109 else g, 0)]) := by
  rw [zpL_5]
  unfold zpOp
  rw [← eg, if_neg (by omega), if_neg (by omega), if_neg (by omega), if_neg (by omega)]
theorem zOn_un2 {M M3 M80 : zMm} {o p g w x : Int} {f : Nat} (ho : o < 6) (eg : g = zpx (ztx M) (M 56 17) p) (hg : g = 33 ∨ g = 45) (o3 : zoT M M3) (z : zpR M3 (o + 1) (zvn M3) (zpL (ztx M3) (M3 56 17) f 5 (o + 1) (p + 1)) M80 w) (hx : x = if g = 33 then zb (w = 0) else zw (-w)) : zpR M o (zvn M) (zpL (ztx M) (M 56 17) (f + 1) 5 o p) (zup M80 56 19 (M80 56 19 - 1)) x := by
  have tx := o3.tx
  rw [tx.1, tx.2.1, zvn_of o3] at z
  rw [zOn_un ho eg hg]
  refine ⟨(o3.tr z.1).up (by omega), by rw [zup_ne (by decide)]; exact z.2.1, fun e => ?_, fun e => ?_⟩
  · have := z.2.2.1 e
    rw [zup_ne (by decide), zup_self]
    exact ⟨this.1, by omega, by omega⟩
  · have h := z.2.2.2 e
    rw [zup_ne (by decide), zup_self]
    refine ⟨h.1, by omega, ?_⟩
    rw [hx]
    rcases hg with q | q
    · rw [if_neg (by omega), if_pos q, q]
      exact zsl_un h.2.2 (g := 33) (Or.inr rfl)
    · rw [if_pos q, if_neg (by omega)]
      exact zsl_un h.2.2 (g := 109) (Or.inl rfl)
theorem zOn_ok {M M3 M73 : zMm} {o p g w : Int} {f : Nat} (ho : o < 6) (eg : g = zpx (ztx M) (M 56 17) p) (hg : g = 40) (o3 : zoT M M3) (z : zpR M3 (o + 1) (zvn M3) (zpL (ztx M3) (M3 56 17) f 0 (o + 1) (p + 1)) M73 w) (hR : zRb M73) (q : M73 56 18 < 0 ∧ zby M73 = 41) (hpos : 0 ≤ (zpL (ztx M3) (M3 56 17) f 0 (o + 1) (p + 1)).1) : zpR M o (zvn M) (zpL (ztx M) (M 56 17) (f + 1) 5 o p) (zup (zup M73 56 16 (M73 56 16 + 1)) 56 19 (M73 56 19 - 1)) w := by
  have tx := o3.tx
  have tz := z.1.tx
  have h41 := (zby_v hR (by decide)).mp q.2
  rw [tz.1, tz.2.1, z.2.1] at h41
  rw [tx.1, tx.2.1] at h41 hpos
  rw [tx.1, tx.2.1, zvn_of o3] at z
  have hb : (zpL (ztx M) (M 56 17) f 0 (o + 1) (p + 1)).2.1 = false := by
    cases e : (zpL (ztx M) (M 56 17) f 0 (o + 1) (p + 1)).2.1 with
    | false => rfl
    | true => have := (z.2.2.1 e).1; omega
  rw [zOn_par ho eg hg, if_neg (by rw [hb, h41]; simp)]
  have h := z.2.2.2 hb
  refine ⟨((o3.tr z.1).up (by omega)).up (by omega), by rw [zup_ne (by decide), zup_self, z.2.1], fun e => (by cases e), fun _ => ⟨?_, ?_, h.2.2⟩⟩
  · rw [zup_ne (by decide), zup_ne (by decide)]; exact h.1
  · rw [zup_self]; omega
theorem zOn_mis {M M3 M73 : zMm} {o p g w : Int} {f : Nat} (ho : o < 6) (eg : g = zpx (ztx M) (M 56 17) p) (hg : g = 40) (o3 : zoT M M3) (z : zpR M3 (o + 1) (zvn M3) (zpL (ztx M3) (M3 56 17) f 0 (o + 1) (p + 1)) M73 w) (hR : zRb M73) (q : ¬ (M73 56 18 < 0 ∧ zby M73 = 41)) : zpR M o (zvn M) (zpL (ztx M) (M 56 17) (f + 1) 5 o p) (zup M73 56 18 (if M73 56 18 < 0 then M73 56 16 else M73 56 18)) 0 := by
  have tx := o3.tx
  have tz := z.1.tx
  have h41 := zby_v hR (c := 41) (by decide)
  rw [tz.1, tz.2.1, z.2.1] at h41
  rw [tx.1, tx.2.1] at h41
  rw [tx.1, tx.2.1, zvn_of o3] at z
  have hc : (zpL (ztx M) (M 56 17) f 0 (o + 1) (p + 1)).2.1 = true ∨ zpx (ztx M) (M 56 17) (zpL (ztx M) (M 56 17) f 0 (o + 1) (p + 1)).1 ≠ 41 := by
    cases e : (zpL (ztx M) (M 56 17) f 0 (o + 1) (p + 1)).2.1 with
    | true => exact Or.inl rfl
    | false => exact Or.inr fun e2 => q ⟨by have := (z.2.2.2 e).1; omega, h41.mpr e2⟩
  rw [zOn_par ho eg hg, if_pos hc]
  refine zpR_bad (o3.tr z.1) z.2.1 ?_ ?_ rfl
  · cases e : (zpL (ztx M) (M 56 17) f 0 (o + 1) (p + 1)).2.1 with
    | true => exact Or.inr (z.2.2.1 e).1
    | false => exact Or.inl (z.2.2.2 e).1
  · cases e : (zpL (ztx M) (M 56 17) f 0 (o + 1) (p + 1)).2.1 with
    | true => have := z.2.2.1 e; omega
    | false => have := z.2.2.2 e; omega
set_option maxHeartbeats 4000000 in
theorem lp_X10_oneOf_176 {Q : zPost} {M : zMm} {o p : Int} (f : Nat) (hy : zRy M o p) (hx229 : ∀ (v : Int) (dg : Int) (M2 : zMm), (zoT M M2 ∧ M2 56 18 = -1 ∧ M2 56 19 = o ∧ (0 < dg → (48 ≤ zpx (ztx M) (M 56 17) p ∧ zpx (ztx M) (M 56 17) p ≤ 57) ∧ zpN (ztx M) (M 56 17) 4 0 p = (v, M2 56 16)) ∧ (¬ 0 < dg → dg = 0 ∧ M2 56 16 = p ∧ ¬ (48 ≤ zpx (ztx M) (M 56 17) p ∧ zpx (ztx M) (M 56 17) p ≤ 57)) ∧ zRb M2) → zW mX10_oneOf (f + 4) Q (0, 0) zS0 229 [(0, .inr (.inr 56)), (3, .inl v), (4, .inl dg)] [] M2) : ∀ (n : Nat) (v : Int) (dg : Int) (M2 : zMm), (4 - dg).toNat < n → ((0 ≤ dg ∧ dg ≤ 4) ∧ zoT M M2 ∧ (p ≤ M2 56 16 ∧ M2 56 16 ≤ M 56 17) ∧ M2 56 18 = -1 ∧ M2 56 19 = o ∧ zpN (ztx M) (M 56 17) 4 0 p = zpN (ztx M) (M 56 17) (4 - dg).toNat v (M2 56 16) ∧ (0 ≤ v ∧ (dg = 0 → v = 0 ∧ M2 56 16 = p) ∧ (dg = 1 → v ≤ 9) ∧ (dg = 2 → v ≤ 99) ∧ (dg = 3 → v ≤ 999) ∧ (dg = 4 → v ≤ 9999)) ∧ (0 < dg → 48 ≤ zpx (ztx M) (M 56 17) p ∧ zpx (ztx M) (M 56 17) p ≤ 57)) → zW mX10_oneOf (f + 4) Q (0, 0) zS0 176 [(0, .inr (.inr 56)), (3, .inl v), (4, .inl dg)] [] M2 := by
  intro n
  induction n with
  | zero => intro v dg M2 hn; exact absurd hn (Nat.not_lt_zero _)
  | succ n ih =>
    intro v dg M2 hn hI
    have hRb := hy.2.1
    have e16 := hy.2.2.1
    have hb2 := hRb.2
    have tx2 := hI.2.1.tx
    have hRb2 : zRb M2 := ⟨by rw [tx2.2.2]; exact hRb.1, by rw [tx2.2.1]; omega⟩
    have dq := zby_d hRb2 48 57 (by decide)
    rw [tx2.1, tx2.2.1] at dq
    have hb22 := hRb2.2
    refine z_iload 2 (zdec DX10_oneOf 98 rfl) rfl ?_
    refine z_iconst 4 (zdec DX10_oneOf 99 rfl) (by decide) ?_
    refine z_icmp_ge 229 (zdec DX10_oneOf 100 rfl) rfl (fun h179 => ?_) (fun h179 => ?_)
    ·
      exact hx229 v dg M2 ⟨hI.2.1, hI.2.2.2.1, hI.2.2.2.2.1, fun h => ⟨hI.2.2.2.2.2.2.2 h, (by rw [hI.2.2.2.2.2.1]; by_cases e4 : dg = 4; (rw [show (4 - dg).toNat = 0 by omega]; rfl); (rw [show (4 - dg).toNat = (3 - dg).toNat + 1 by omega, zpN_s, if_neg (fun u => by have := dq.mpr u; omega)]))⟩, fun h => ⟨by omega, (hI.2.2.2.2.2.2.1.2.1 (by omega)).2, fun u => (by have u1 := (hI.2.2.2.2.2.2.1.2.1 (by omega)).2; rw [← u1] at u; have := dq.mpr u; omega)⟩, hRb2⟩
    ·
      refine z_aload_n 0 (zdec DX10_oneOf 101 rfl) rfl rfl (by decide) ?_
      refine z_inv mX10_byteAt 56 10 [] (zdec DX10_oneOf 102 rfl) ml_SixWallsModel_197 okX10_byteAt rfl shp56 rfl rfl rfl rfl (Nat.le_of_ble_eq_true rfl) (by omega) (b' := (0, 0)) ⟨Nat.le_refl 0, Nat.le_refl 0⟩ (Nat.le_of_ble_eq_true rfl) (cX10_byteAt (hI.2.1.P hy.1) hRb2) (fun rv9 S9 M183 h9 => ?_)
      obtain ⟨rfl, rfl, rfl⟩ := h9
      change zW _ _ _ _ _ 186 [(0, .inr (.inr 56)), (3, .inl v), (4, .inl dg)] [.inl (zby M2)] M2
      refine z_bipush 48 (zdec DX10_oneOf 103 rfl) (by decide) ?_
      refine z_icmp_lt 229 (zdec DX10_oneOf 104 rfl) rfl (fun h188 => ?_) (fun h188 => ?_)
      ·
        exact hx229 v dg M2 ⟨hI.2.1, hI.2.2.2.1, hI.2.2.2.2.1, fun h => ⟨hI.2.2.2.2.2.2.2 h, (by rw [hI.2.2.2.2.2.1]; by_cases e4 : dg = 4; (rw [show (4 - dg).toNat = 0 by omega]; rfl); (rw [show (4 - dg).toNat = (3 - dg).toNat + 1 by omega, zpN_s, if_neg (fun u => by have := dq.mpr u; omega)]))⟩, fun h => ⟨by omega, (hI.2.2.2.2.2.2.1.2.1 (by omega)).2, fun u => (by have u1 := (hI.2.2.2.2.2.2.1.2.1 (by omega)).2; rw [← u1] at u; have := dq.mpr u; omega)⟩, hRb2⟩
      ·
        refine z_aload_n 0 (zdec DX10_oneOf 105 rfl) rfl rfl (by decide) ?_
        refine z_inv mX10_byteAt 56 10 [] (zdec DX10_oneOf 106 rfl) ml_SixWallsModel_197 okX10_byteAt rfl shp56 rfl rfl rfl rfl (Nat.le_of_ble_eq_true rfl) (by omega) (b' := (0, 0)) ⟨Nat.le_refl 0, Nat.le_refl 0⟩ (Nat.le_of_ble_eq_true rfl) (cX10_byteAt (hI.2.1.P hy.1) hRb2) (fun rv9 S9 M192 h9 => ?_)
        obtain ⟨rfl, rfl, rfl⟩ := h9
        change zW _ _ _ _ _ 195 [(0, .inr (.inr 56)), (3, .inl v), (4, .inl dg)] [.inl (zby M2)] M2
        refine z_bipush 57 (zdec DX10_oneOf 107 rfl) (by decide) ?_
        refine z_icmp_gt 229 (zdec DX10_oneOf 108 rfl) rfl (fun h197 => ?_) (fun h197 => ?_)
        ·
          exact hx229 v dg M2 ⟨hI.2.1, hI.2.2.2.1, hI.2.2.2.2.1, fun h => ⟨hI.2.2.2.2.2.2.2 h, (by rw [hI.2.2.2.2.2.1]; by_cases e4 : dg = 4; (rw [show (4 - dg).toNat = 0 by omega]; rfl); (rw [show (4 - dg).toNat = (3 - dg).toNat + 1 by omega, zpN_s, if_neg (fun u => by have := dq.mpr u; omega)]))⟩, fun h => ⟨by omega, (hI.2.2.2.2.2.2.1.2.1 (by omega)).2, fun u => (by have u1 := (hI.2.2.2.2.2.2.1.2.1 (by omega)).2; rw [← u1] at u; have := dq.mpr u; omega)⟩, hRb2⟩
        ·
          refine z_bipush 10 (zdec DX10_oneOf 109 rfl) (by decide) ?_
          refine z_iload_n 1 (zdec DX10_oneOf 110 rfl) rfl rfl ?_
          refine z_imul (zdec DX10_oneOf 111 rfl) (by unfold z32; omega) ?_
          refine z_aload_n 0 (zdec DX10_oneOf 112 rfl) rfl rfl (by decide) ?_
          refine z_inv mX10_byteAt 56 10 [] (zdec DX10_oneOf 113 rfl) ml_SixWallsModel_197 okX10_byteAt rfl shp56 rfl rfl rfl rfl (Nat.le_of_ble_eq_true rfl) (by omega) (b' := (0, 0)) ⟨Nat.le_refl 0, Nat.le_refl 0⟩ (Nat.le_of_ble_eq_true rfl) (cX10_byteAt (hI.2.1.P hy.1) hRb2) (fun rv9 S9 M205 h9 => ?_)
          obtain ⟨rfl, rfl, rfl⟩ := h9
          change zW _ _ _ _ _ 208 [(0, .inr (.inr 56)), (3, .inl v), (4, .inl dg)] [.inl (zby M2), .inl (10 * v)] M2
          refine z_iadd (zdec DX10_oneOf 114 rfl) (by unfold z32; omega) ?_
          refine z_bipush 48 (zdec DX10_oneOf 115 rfl) (by decide) ?_
          refine z_isub (zdec DX10_oneOf 116 rfl) (by unfold z32; omega) ?_
          refine z_istore_n (L' := [(0, .inr (.inr 56)), (3, .inl (((10 * v) + (zby M2)) - 48)), (4, .inl dg)]) (zdec DX10_oneOf 117 rfl) rfl rfl (by decide) ?_
          refine z_iinc (L' := [(0, .inr (.inr 56)), (3, .inl (((10 * v) + (zby M2)) - 48)), (4, .inl (dg + 1))]) 2 (zdec DX10_oneOf 118 rfl) rfl (by unfold z32; omega) rfl (by decide) ?_
          refine z_aload_n 0 (zdec DX10_oneOf 119 rfl) rfl rfl (by decide) ?_
          refine z_dup (zdec DX10_oneOf 120 rfl) rfl ?_
          refine z_geti (ki := 16) 56 10 (zdec DX10_oneOf 121 rfl) rfl shp56 rfl (by decide) rfl rfl fl_SixWallsModel_185 ?_
          refine z_iconst 1 (zdec DX10_oneOf 122 rfl) (by decide) ?_
          refine z_iadd (zdec DX10_oneOf 123 rfl) (by unfold z32; omega) ?_
          refine z_puti (ki := 16) 56 10 (zdec DX10_oneOf 124 rfl) rfl shp56 rfl (by decide) rfl rfl fl_SixWallsModel_185 (Or.inl rfl) ?_
          refine z_goto 176 (zdec DX10_oneOf 125 rfl) rfl ?_
          exact ih (((10 * v) + (zby M2)) - 48) (dg + 1) (zup M2 56 16 ((M2 56 16) + 1)) (by omega) (by have d1 := dq.mp ⟨by omega, by omega⟩; have d2 := (zby_v hRb2 (c := zby M2) (by omega)).mp rfl; rw [tx2.1, tx2.2.1] at d2; have d3 := zpx_lt (t := ztx M) (n := M 56 17) (p := M2 56 16) (by omega); refine ⟨by omega, hI.2.1.up (by omega), (by rw [zup_self]; omega), (by rw [zup_ne (by decide)]; exact hI.2.2.2.1), (by rw [zup_ne (by decide)]; exact hI.2.2.2.2.1), (by rw [hI.2.2.2.2.2.1, show (4 - dg).toNat = (4 - (dg + 1)).toNat + 1 by omega, zup_self, zpN_s, if_pos d1, d2]; rw [show v * 10 + zby M2 - 48 = 10 * v + zby M2 - 48 by omega]), ⟨by omega, by omega, by omega, by omega, by omega, by omega⟩, fun _ => (by by_cases e0 : dg = 0; (have := hI.2.2.2.2.2.2.1.2.1 e0; rw [this.2] at d1; exact d1); exact hI.2.2.2.2.2.2.2 (by omega))⟩)
set_option maxHeartbeats 4000000 in
theorem cX10_oneOf (f : Nat) (hE : ∀ (M : zMm) (o p : Int), zRy M o p → (6 - o) * 6 + (5 - 0) + 1 ≤ f → zW mX10_either (f + 3) (fun rv S' M' => S' = zS0 ∧ ∃ x, rv = some (.inl x) ∧ zpR M o (zvn M) (zpL (ztx M) (M 56 17) (f) 0 o p) M' x) (0, 0) zS0 0 (zargs 0 [.inr (.inr 56)]) [] M) (hO : ∀ (M : zMm) (o p : Int), zRy M o p → (6 - o) * 6 + (5 - 5) + 1 ≤ f → zW mX10_oneOf (f + 3) (fun rv S' M' => S' = zS0 ∧ ∃ x, rv = some (.inl x) ∧ zpR M o (zvn M) (zpL (ztx M) (M 56 17) (f) 5 o p) M' x) (0, 0) zS0 0 (zargs 0 [.inr (.inr 56)]) [] M) {M : zMm} (o p : Int) (hy : zRy M o p) (hf : (6 - o) * 6 + (5 - 5) + 1 ≤ f + 1) : zW mX10_oneOf (f + 4) (fun rv S' M' => S' = zS0 ∧ ∃ x, rv = some (.inl x) ∧ zpR M o (zvn M) (zpL (ztx M) (M 56 17) (f + 1) 5 o p) M' x) (0, 0) zS0 0 (zargs 0 [.inr (.inr 56)]) [] M := by
  change zW _ _ _ _ _ 0 [(0, .inr (.inr 56))] [] M
  have hRb := hy.2.1
  have e16 := hy.2.2.1
  have e18 := hy.2.2.2.1
  have e19 := hy.2.2.2.2.1
  have ho0 := hy.2.2.2.2.2.1
  have ho6 := hy.2.2.2.2.2.2
  have hb2 := hRb.2
  refine z_aload_n 0 (zdec DX10_oneOf 0 rfl) rfl rfl (by decide) ?_
  refine z_geti (ki := 18) 56 10 (zdec DX10_oneOf 1 rfl) rfl shp56 rfl (by decide) rfl rfl fl_SixWallsModel_194 ?_
  refine z_if_lt 9 (zdec DX10_oneOf 2 rfl) rfl (fun h4 => ?_) (fun h => absurd (by omega) h)
  refine z_aload_n 0 (zdec DX10_oneOf 5 rfl) rfl rfl (by decide) ?_
  refine z_inv mX10_byteAt 56 10 [] (zdec DX10_oneOf 6 rfl) ml_SixWallsModel_197 okX10_byteAt rfl shp56 rfl rfl rfl rfl (Nat.le_of_ble_eq_true rfl) (by omega) (b' := (0, 0)) ⟨Nat.le_refl 0, Nat.le_refl 0⟩ (Nat.le_of_ble_eq_true rfl) (cX10_byteAt hy.1 hRb) (fun rv9 S9 M10 h9 => ?_)
  obtain ⟨rfl, rfl, rfl⟩ := h9
  obtain ⟨c, ec⟩ : ∃ c, c = zby M := ⟨_, rfl⟩
  rw [← ec]
  obtain ⟨g, eg⟩ : ∃ g, g = zpx (ztx M) (M 56 17) p := ⟨_, rfl⟩
  have hq : ∀ x : Int, 0 < x → (c = x ↔ g = x) := fun x hx => by
    have := zby_v hRb hx
    rw [e16, ← eg, ← ec] at this
    exact this
  have g33 := hq 33 (by decide)
  have g45 := hq 45 (by decide)
  have g40 := hq 40 (by decide)
  have g100 := hq 100 (by decide)
  have g116 := hq 116 (by decide)
  have g111 := hq 111 (by decide)
  have g97 := hq 97 (by decide)
  have g98 := hq 98 (by decide)
  have gd : (48 ≤ c ∧ c ≤ 57) ↔ (48 ≤ g ∧ g ≤ 57) := by
    have := zby_d hRb 48 57 (by decide)
    rw [e16, ← eg, ← ec] at this
    exact this
  have gN : g ≠ -1 → p < M 56 17 := fun h => zpx_lt (t := ztx M) (by rw [← eg]; exact h)
  change zW _ _ _ _ _ 13 [(0, .inr (.inr 56))] [.inl c] M
  refine z_istore_n (L' := [(0, .inr (.inr 56)), (1, .inl c)]) (zdec DX10_oneOf 7 rfl) rfl rfl (by decide) ?_
  refine z_iload_n 1 (zdec DX10_oneOf 8 rfl) rfl rfl ?_
  refine z_bipush 33 (zdec DX10_oneOf 9 rfl) (by decide) ?_
  refine z_icmp_eq 32 (zdec DX10_oneOf 10 rfl) rfl (fun h17 => ?_) (fun h17 => ?_)
  ·
    refine z_aload_n 0 (zdec DX10_oneOf 17 rfl) rfl rfl (by decide) ?_
    refine z_geti (ki := 19) 56 10 (zdec DX10_oneOf 18 rfl) rfl shp56 rfl (by decide) rfl rfl fl_SixWallsModel_219 ?_
    refine z_bipush 6 (zdec DX10_oneOf 19 rfl) (by decide) ?_
    refine z_icmp_ne 46 (zdec DX10_oneOf 20 rfl) rfl (fun h38 => ?_) (fun h38 => ?_)
    ·
      refine z_aload_n 0 (zdec DX10_oneOf 24 rfl) rfl rfl (by decide) ?_
      refine z_dup (zdec DX10_oneOf 25 rfl) rfl ?_
      refine z_geti (ki := 19) 56 10 (zdec DX10_oneOf 26 rfl) rfl shp56 rfl (by decide) rfl rfl fl_SixWallsModel_219 ?_
      refine z_iconst 1 (zdec DX10_oneOf 27 rfl) (by decide) ?_
      refine z_iadd (zdec DX10_oneOf 28 rfl) (by unfold z32; omega) ?_
      refine z_puti (ki := 19) 56 10 (zdec DX10_oneOf 29 rfl) rfl shp56 rfl (by decide) rfl rfl fl_SixWallsModel_219 (Or.inl rfl) ?_
      refine z_aload_n 0 (zdec DX10_oneOf 30 rfl) rfl rfl (by decide) ?_
      refine z_dup (zdec DX10_oneOf 31 rfl) rfl ?_
      refine z_geti (ki := 16) 56 10 (zdec DX10_oneOf 32 rfl) rfl shp56 rfl (by decide) rfl rfl fl_SixWallsModel_185 ?_
      rw [show (zup M 56 19 ((M 56 19) + 1)) 56 16 = M 56 16 from by simp [zup, zcpy]]
      refine z_iconst 1 (zdec DX10_oneOf 33 rfl) (by decide) ?_
      refine z_iadd (zdec DX10_oneOf 34 rfl) (by unfold z32; omega) ?_
      refine z_puti (ki := 16) 56 10 (zdec DX10_oneOf 35 rfl) rfl shp56 rfl (by decide) rfl rfl fl_SixWallsModel_185 (Or.inl rfl) ?_
      have o3 : zoT M (zup (zup M 56 19 ((M 56 19) + 1)) 56 16 ((M 56 16) + 1)) := (zoT.rf.up (by omega)).up (by omega)
      have hy3 : zRy (zup (zup M 56 19 ((M 56 19) + 1)) 56 16 ((M 56 16) + 1)) (o + 1) (p + 1) := zRy_of hy o3 (by rw [zup_self, e16]) (by rw [zup_ne (by decide), zup_ne (by decide)]; exact e18) (by rw [zup_ne (by decide), zup_self, e19]) (by omega) (by omega) (by omega) (by omega)
      have hb3 := hy3.2.1.2
      have h316 := hy3.2.2.1
      refine z_iload_n 1 (zdec DX10_oneOf 36 rfl) rfl rfl ?_
      refine z_bipush 40 (zdec DX10_oneOf 37 rfl) (by decide) ?_
      refine z_icmp_ne 79 (zdec DX10_oneOf 38 rfl) rfl (fun h69 => ?_) (fun h69 => ?_)
      ·
        refine z_aload_n 0 (zdec DX10_oneOf 42 rfl) rfl rfl (by decide) ?_
        refine z_inv mX10_oneOf 56 10 [] (zdec DX10_oneOf 43 rfl) ml_SixWallsModel_216 okX10_oneOf rfl shp56 rfl rfl rfl rfl (Nat.le_of_ble_eq_true rfl) (by omega) (b' := (0, 0)) ⟨Nat.le_refl 0, Nat.le_refl 0⟩ (Nat.le_of_ble_eq_true rfl) (hO _ _ _ hy3 (by omega)) (fun rv9 S9 M80 h9 => ?_)
        obtain ⟨rfl, w, rfl, z80⟩ := h9
        have gs := zpL_G (t := ztx (zup (zup M 56 19 ((M 56 19) + 1)) 56 16 ((M 56 16) + 1))) (n := (zup (zup M 56 19 ((M 56 19) + 1)) 56 16 ((M 56 16) + 1)) 56 17) f 5 (o + 1) (p + 1) (by decide) (by decide) (by omega) (by omega) (by omega) (by omega) (by omega)
        have y80 := z80.y hy3 gs
        have gs1 := gs.1
        have hb80 := y80.2.1.2
        have b19 : o + 1 ≤ M80 56 19 ∧ M80 56 19 ≤ 6 := by
          cases e : (zpL (ztx (zup (zup M 56 19 ((M 56 19) + 1)) 56 16 ((M 56 16) + 1))) ((zup (zup M 56 19 ((M 56 19) + 1)) 56 16 ((M 56 16) + 1)) 56 17) f 5 (o + 1) (p + 1)).2.1 with
          | true => exact (z80.2.2.1 e).2
          | false => have := (z80.2.2.2 e).2.1; omega
        change zW _ _ _ _ _ 83 [(0, .inr (.inr 56)), (1, .inl c)] [.inl w] M80
        refine z_istore_n (L' := [(0, .inr (.inr 56)), (1, .inl c), (2, .inl w)]) (zdec DX10_oneOf 44 rfl) rfl rfl (by decide) ?_
        refine z_iload_n 1 (zdec DX10_oneOf 45 rfl) rfl rfl ?_
        refine z_bipush 40 (zdec DX10_oneOf 46 rfl) (by decide) ?_
        refine z_icmp_ne 104 (zdec DX10_oneOf 47 rfl) rfl (fun h87 => ?_) (fun h87 => ?_)
        ·
          refine z_aload_n 0 (zdec DX10_oneOf 55 rfl) rfl rfl (by decide) ?_
          refine z_dup (zdec DX10_oneOf 56 rfl) rfl ?_
          refine z_geti (ki := 19) 56 10 (zdec DX10_oneOf 57 rfl) rfl shp56 rfl (by decide) rfl rfl fl_SixWallsModel_219 ?_
          refine z_iconst 1 (zdec DX10_oneOf 58 rfl) (by decide) ?_
          refine z_isub (zdec DX10_oneOf 59 rfl) (by unfold z32; omega) ?_
          refine z_puti (ki := 19) 56 10 (zdec DX10_oneOf 60 rfl) rfl shp56 rfl (by decide) rfl rfl fl_SixWallsModel_219 (Or.inl rfl) ?_
          refine z_iload_n 1 (zdec DX10_oneOf 61 rfl) rfl rfl ?_
          refine z_bipush 40 (zdec DX10_oneOf 62 rfl) (by decide) ?_
          refine z_icmp_ne 124 (zdec DX10_oneOf 63 rfl) rfl (fun h117 => ?_) (fun h117 => ?_)
          ·
            refine z_iload_n 1 (zdec DX10_oneOf 66 rfl) rfl rfl ?_
            refine z_bipush 45 (zdec DX10_oneOf 67 rfl) (by decide) ?_
            refine z_icmp_ne 135 (zdec DX10_oneOf 68 rfl) rfl (fun h127 => ?_) (fun h127 => ?_)
            ·
              refine z_iload_n 2 (zdec DX10_oneOf 72 rfl) rfl rfl ?_
              refine z_if_ne 143 (zdec DX10_oneOf 73 rfl) rfl (fun h136 => ?_) (fun h136 => ?_)
              ·
                refine z_iconst 0 (zdec DX10_oneOf 76 rfl) (by decide) ?_
                exact z_iret (zdec DX10_oneOf 77 rfl) rfl (by first | exact ⟨rfl, _, rfl, zOn_un2 (by omega) eg (by omega) o3 z80 (by first | (rw [if_pos (by omega)]; unfold zb; first | (rw [if_pos (by omega)]; done) | (rw [if_neg (by omega)]; done)) | (rw [if_neg (by omega)]; done))⟩ | (refine ⟨rfl, _, rfl, ?_⟩; rw [h19, e93]; exact z96) | exact ⟨rfl, _, rfl, z96⟩ | (exfalso; omega))
              ·
                refine z_iconst 1 (zdec DX10_oneOf 74 rfl) (by decide) ?_
                refine z_goto 144 (zdec DX10_oneOf 75 rfl) rfl ?_
                exact z_iret (zdec DX10_oneOf 77 rfl) rfl (by first | exact ⟨rfl, _, rfl, zOn_un2 (by omega) eg (by omega) o3 z80 (by first | (rw [if_pos (by omega)]; unfold zb; first | (rw [if_pos (by omega)]; done) | (rw [if_neg (by omega)]; done)) | (rw [if_neg (by omega)]; done))⟩ | (refine ⟨rfl, _, rfl, ?_⟩; rw [h19, e93]; exact z96) | exact ⟨rfl, _, rfl, z96⟩ | (exfalso; omega))
            ·
              exfalso; omega
          ·
            exfalso; omega
        ·
          exfalso; omega
      ·
        exfalso; omega
    ·
      refine z_aload_n 0 (zdec DX10_oneOf 21 rfl) rfl rfl (by decide) ?_
      refine z_inv mX10_wrong 56 10 [] (zdec DX10_oneOf 22 rfl) ml_SixWallsModel_222 okX10_wrong rfl shp56 rfl rfl rfl rfl (Nat.le_of_ble_eq_true rfl) (by omega) (b' := (0, 0)) ⟨Nat.le_refl 0, Nat.le_refl 0⟩ (Nat.le_of_ble_eq_true rfl) (cX10_wrong hy.1 hRb) (fun rv9 S9 M42 h9 => ?_)
      obtain ⟨rfl, rfl, rfl⟩ := h9
      change zW _ _ _ _ _ 45 [(0, .inr (.inr 56)), (1, .inl c)] [.inl 0] (zup M 56 18 (if M 56 18 < 0 then M 56 16 else M 56 18))
      exact z_iret (zdec DX10_oneOf 23 rfl) rfl (⟨rfl, _, rfl, zOn_bad hy eg (by omega) (by omega) (Or.inl (by omega)) zoT.rf e16 e18 e19⟩)
  ·
    refine z_iload_n 1 (zdec DX10_oneOf 11 rfl) rfl rfl ?_
    refine z_bipush 45 (zdec DX10_oneOf 12 rfl) (by decide) ?_
    refine z_icmp_eq 32 (zdec DX10_oneOf 13 rfl) rfl (fun h23 => ?_) (fun h23 => ?_)
    ·
      refine z_aload_n 0 (zdec DX10_oneOf 17 rfl) rfl rfl (by decide) ?_
      refine z_geti (ki := 19) 56 10 (zdec DX10_oneOf 18 rfl) rfl shp56 rfl (by decide) rfl rfl fl_SixWallsModel_219 ?_
      refine z_bipush 6 (zdec DX10_oneOf 19 rfl) (by decide) ?_
      refine z_icmp_ne 46 (zdec DX10_oneOf 20 rfl) rfl (fun h38 => ?_) (fun h38 => ?_)
      ·
        refine z_aload_n 0 (zdec DX10_oneOf 24 rfl) rfl rfl (by decide) ?_
        refine z_dup (zdec DX10_oneOf 25 rfl) rfl ?_
        refine z_geti (ki := 19) 56 10 (zdec DX10_oneOf 26 rfl) rfl shp56 rfl (by decide) rfl rfl fl_SixWallsModel_219 ?_
        refine z_iconst 1 (zdec DX10_oneOf 27 rfl) (by decide) ?_
        refine z_iadd (zdec DX10_oneOf 28 rfl) (by unfold z32; omega) ?_
        refine z_puti (ki := 19) 56 10 (zdec DX10_oneOf 29 rfl) rfl shp56 rfl (by decide) rfl rfl fl_SixWallsModel_219 (Or.inl rfl) ?_
        refine z_aload_n 0 (zdec DX10_oneOf 30 rfl) rfl rfl (by decide) ?_
        refine z_dup (zdec DX10_oneOf 31 rfl) rfl ?_
        refine z_geti (ki := 16) 56 10 (zdec DX10_oneOf 32 rfl) rfl shp56 rfl (by decide) rfl rfl fl_SixWallsModel_185 ?_
        rw [show (zup M 56 19 ((M 56 19) + 1)) 56 16 = M 56 16 from by simp [zup, zcpy]]
        refine z_iconst 1 (zdec DX10_oneOf 33 rfl) (by decide) ?_
        refine z_iadd (zdec DX10_oneOf 34 rfl) (by unfold z32; omega) ?_
        refine z_puti (ki := 16) 56 10 (zdec DX10_oneOf 35 rfl) rfl shp56 rfl (by decide) rfl rfl fl_SixWallsModel_185 (Or.inl rfl) ?_
        have o3 : zoT M (zup (zup M 56 19 ((M 56 19) + 1)) 56 16 ((M 56 16) + 1)) := (zoT.rf.up (by omega)).up (by omega)
        have hy3 : zRy (zup (zup M 56 19 ((M 56 19) + 1)) 56 16 ((M 56 16) + 1)) (o + 1) (p + 1) := zRy_of hy o3 (by rw [zup_self, e16]) (by rw [zup_ne (by decide), zup_ne (by decide)]; exact e18) (by rw [zup_ne (by decide), zup_self, e19]) (by omega) (by omega) (by omega) (by omega)
        have hb3 := hy3.2.1.2
        have h316 := hy3.2.2.1
        refine z_iload_n 1 (zdec DX10_oneOf 36 rfl) rfl rfl ?_
        refine z_bipush 40 (zdec DX10_oneOf 37 rfl) (by decide) ?_
        refine z_icmp_ne 79 (zdec DX10_oneOf 38 rfl) rfl (fun h69 => ?_) (fun h69 => ?_)
        ·
          refine z_aload_n 0 (zdec DX10_oneOf 42 rfl) rfl rfl (by decide) ?_
          refine z_inv mX10_oneOf 56 10 [] (zdec DX10_oneOf 43 rfl) ml_SixWallsModel_216 okX10_oneOf rfl shp56 rfl rfl rfl rfl (Nat.le_of_ble_eq_true rfl) (by omega) (b' := (0, 0)) ⟨Nat.le_refl 0, Nat.le_refl 0⟩ (Nat.le_of_ble_eq_true rfl) (hO _ _ _ hy3 (by omega)) (fun rv9 S9 M80 h9 => ?_)
          obtain ⟨rfl, w, rfl, z80⟩ := h9
          have gs := zpL_G (t := ztx (zup (zup M 56 19 ((M 56 19) + 1)) 56 16 ((M 56 16) + 1))) (n := (zup (zup M 56 19 ((M 56 19) + 1)) 56 16 ((M 56 16) + 1)) 56 17) f 5 (o + 1) (p + 1) (by decide) (by decide) (by omega) (by omega) (by omega) (by omega) (by omega)
          have y80 := z80.y hy3 gs
          have gs1 := gs.1
          have hb80 := y80.2.1.2
          have b19 : o + 1 ≤ M80 56 19 ∧ M80 56 19 ≤ 6 := by
            cases e : (zpL (ztx (zup (zup M 56 19 ((M 56 19) + 1)) 56 16 ((M 56 16) + 1))) ((zup (zup M 56 19 ((M 56 19) + 1)) 56 16 ((M 56 16) + 1)) 56 17) f 5 (o + 1) (p + 1)).2.1 with
            | true => exact (z80.2.2.1 e).2
            | false => have := (z80.2.2.2 e).2.1; omega
          change zW _ _ _ _ _ 83 [(0, .inr (.inr 56)), (1, .inl c)] [.inl w] M80
          refine z_istore_n (L' := [(0, .inr (.inr 56)), (1, .inl c), (2, .inl w)]) (zdec DX10_oneOf 44 rfl) rfl rfl (by decide) ?_
          refine z_iload_n 1 (zdec DX10_oneOf 45 rfl) rfl rfl ?_
          refine z_bipush 40 (zdec DX10_oneOf 46 rfl) (by decide) ?_
          refine z_icmp_ne 104 (zdec DX10_oneOf 47 rfl) rfl (fun h87 => ?_) (fun h87 => ?_)
          ·
            refine z_aload_n 0 (zdec DX10_oneOf 55 rfl) rfl rfl (by decide) ?_
            refine z_dup (zdec DX10_oneOf 56 rfl) rfl ?_
            refine z_geti (ki := 19) 56 10 (zdec DX10_oneOf 57 rfl) rfl shp56 rfl (by decide) rfl rfl fl_SixWallsModel_219 ?_
            refine z_iconst 1 (zdec DX10_oneOf 58 rfl) (by decide) ?_
            refine z_isub (zdec DX10_oneOf 59 rfl) (by unfold z32; omega) ?_
            refine z_puti (ki := 19) 56 10 (zdec DX10_oneOf 60 rfl) rfl shp56 rfl (by decide) rfl rfl fl_SixWallsModel_219 (Or.inl rfl) ?_
            refine z_iload_n 1 (zdec DX10_oneOf 61 rfl) rfl rfl ?_
            refine z_bipush 40 (zdec DX10_oneOf 62 rfl) (by decide) ?_
            refine z_icmp_ne 124 (zdec DX10_oneOf 63 rfl) rfl (fun h117 => ?_) (fun h117 => ?_)
            ·
              refine z_iload_n 1 (zdec DX10_oneOf 66 rfl) rfl rfl ?_
              refine z_bipush 45 (zdec DX10_oneOf 67 rfl) (by decide) ?_
              refine z_icmp_ne 135 (zdec DX10_oneOf 68 rfl) rfl (fun h127 => ?_) (fun h127 => ?_)
              ·
                exfalso; omega
              ·
                refine z_iload_n 2 (zdec DX10_oneOf 69 rfl) rfl rfl ?_
                refine z_inegw (zdec DX10_oneOf 70 rfl) ?_
                refine z_goto 144 (zdec DX10_oneOf 71 rfl) rfl ?_
                exact z_iret (zdec DX10_oneOf 77 rfl) rfl (by first | exact ⟨rfl, _, rfl, zOn_un2 (by omega) eg (by omega) o3 z80 (by first | (rw [if_pos (by omega)]; unfold zb; first | (rw [if_pos (by omega)]; done) | (rw [if_neg (by omega)]; done)) | (rw [if_neg (by omega)]; done))⟩ | (refine ⟨rfl, _, rfl, ?_⟩; rw [h19, e93]; exact z96) | exact ⟨rfl, _, rfl, z96⟩ | (exfalso; omega))
            ·
              exfalso; omega
          ·
            exfalso; omega
        ·
          exfalso; omega
      ·
        refine z_aload_n 0 (zdec DX10_oneOf 21 rfl) rfl rfl (by decide) ?_
        refine z_inv mX10_wrong 56 10 [] (zdec DX10_oneOf 22 rfl) ml_SixWallsModel_222 okX10_wrong rfl shp56 rfl rfl rfl rfl (Nat.le_of_ble_eq_true rfl) (by omega) (b' := (0, 0)) ⟨Nat.le_refl 0, Nat.le_refl 0⟩ (Nat.le_of_ble_eq_true rfl) (cX10_wrong hy.1 hRb) (fun rv9 S9 M42 h9 => ?_)
        obtain ⟨rfl, rfl, rfl⟩ := h9
        change zW _ _ _ _ _ 45 [(0, .inr (.inr 56)), (1, .inl c)] [.inl 0] (zup M 56 18 (if M 56 18 < 0 then M 56 16 else M 56 18))
        exact z_iret (zdec DX10_oneOf 23 rfl) rfl (⟨rfl, _, rfl, zOn_bad hy eg (by omega) (by omega) (Or.inl (by omega)) zoT.rf e16 e18 e19⟩)
    ·
      refine z_iload_n 1 (zdec DX10_oneOf 14 rfl) rfl rfl ?_
      refine z_bipush 40 (zdec DX10_oneOf 15 rfl) (by decide) ?_
      refine z_icmp_ne 145 (zdec DX10_oneOf 16 rfl) rfl (fun h29 => ?_) (fun h29 => ?_)
      ·
        refine z_iload_n 1 (zdec DX10_oneOf 78 rfl) rfl rfl ?_
        refine z_invs mX10_nameOf [.inl c] (zdec DX10_oneOf 79 rfl) (Or.inl ml_SixWallsModel_228) okX10_nameOf rfl rfl (Nat.le_of_ble_eq_true rfl) (by omega) (b' := (0, 0)) ⟨Nat.le_refl 0, Nat.le_refl 0⟩ (Nat.le_of_ble_eq_true rfl) (cX10_nameOf c) (fun rv9 S9 M146 h9 => ?_)
        obtain ⟨rfl, rfl, rfl⟩ := h9
        obtain ⟨k, ek⟩ : ∃ k : Int, k = (if c = 100 then 0 else if c = 116 then 1 else if c = 111 then 2 else if c = 97 then 3 else if c = 98 then 4 else -1) := ⟨_, rfl⟩
        rw [← ek]
        have hk : (c = 100 ∧ k = 0) ∨ (c = 116 ∧ k = 1) ∨ (c = 111 ∧ k = 2) ∨ (c = 97 ∧ k = 3) ∨ (c = 98 ∧ k = 4) ∨ (¬ (c = 100 ∨ c = 116 ∨ c = 111 ∨ c = 97 ∨ c = 98) ∧ k = -1) := by
          rw [ek]
          (repeat' split) <;> omega
        change zW _ _ _ _ _ 149 [(0, .inr (.inr 56)), (1, .inl c)] [.inl k] M
        refine z_istore_n (L' := [(0, .inr (.inr 56)), (1, .inl c), (2, .inl k)]) (zdec DX10_oneOf 80 rfl) rfl rfl (by decide) ?_
        refine z_iload_n 2 (zdec DX10_oneOf 81 rfl) rfl rfl ?_
        refine z_if_lt 171 (zdec DX10_oneOf 82 rfl) rfl (fun h151 => ?_) (fun h151 => ?_)
        ·
          refine z_iconst 0 (zdec DX10_oneOf 94 rfl) (by decide) ?_
          refine z_istore_n (L' := [(0, .inr (.inr 56)), (1, .inl c), (2, .inl k), (3, .inl 0)]) (zdec DX10_oneOf 95 rfl) rfl rfl (by decide) ?_
          refine z_iconst 0 (zdec DX10_oneOf 96 rfl) (by decide) ?_
          refine z_istore (L' := [(0, .inr (.inr 56)), (1, .inl c), (2, .inl k), (3, .inl 0), (4, .inl 0)]) (zdec DX10_oneOf 97 rfl) rfl (by decide) ?_
          refine z_weak (L' := [(0, .inr (.inr 56)), (3, .inl 0), (4, .inl 0)]) (by simp) ?_
          refine lp_X10_oneOf_176 f hy (hx229 := fun v dg M2 hx => ?_) _ 0 0 M (Nat.lt_succ_self _) ⟨by omega, zoT.rf, by omega, e18, e19, (by rw [e16]; rfl), ⟨by omega, fun _ => ⟨rfl, e16⟩, by omega, by omega, by omega, by omega⟩, fun h => by omega⟩
          refine z_iload 2 (zdec DX10_oneOf 126 rfl) rfl ?_
          refine z_if_ne 241 (zdec DX10_oneOf 127 rfl) rfl (fun h231 => ?_) (fun h231 => ?_)
          ·
            refine z_iload_n 1 (zdec DX10_oneOf 131 rfl) rfl rfl ?_
            exact z_iret (zdec DX10_oneOf 132 rfl) rfl (by first | (have u := hx.2.2.2.1 (by omega); exact ⟨rfl, _, rfl, zOn_num hx.1 rfl hx.2.1 hx.2.2.1 u.1 u.2⟩) | (have u := hx.2.2.2.2.1 (by omega); rw [← eg] at u; exact ⟨rfl, _, rfl, zOn_bad hy eg u.2.2 (by omega) (Or.inr (by omega)) hx.1 u.2.1 hx.2.1 hx.2.2.1⟩))
          ·
            refine z_aload_n 0 (zdec DX10_oneOf 128 rfl) rfl rfl (by decide) ?_
            refine z_inv mX10_wrong 56 10 [] (zdec DX10_oneOf 129 rfl) ml_SixWallsModel_222 okX10_wrong rfl shp56 rfl rfl rfl rfl (Nat.le_of_ble_eq_true rfl) (by omega) (b' := (0, 0)) ⟨Nat.le_refl 0, Nat.le_refl 0⟩ (Nat.le_of_ble_eq_true rfl) (cX10_wrong (hx.1.P hy.1) hx.2.2.2.2.2) (fun rv9 S9 M235 h9 => ?_)
            obtain ⟨rfl, rfl, rfl⟩ := h9
            change zW _ _ _ _ _ 238 [(0, .inr (.inr 56)), (3, .inl v), (4, .inl dg)] [.inl 0] (zup M2 56 18 (if M2 56 18 < 0 then M2 56 16 else M2 56 18))
            refine z_goto 242 (zdec DX10_oneOf 130 rfl) rfl ?_
            exact z_iret (zdec DX10_oneOf 132 rfl) rfl (by first | (have u := hx.2.2.2.1 (by omega); exact ⟨rfl, _, rfl, zOn_num hx.1 rfl hx.2.1 hx.2.2.1 u.1 u.2⟩) | (have u := hx.2.2.2.2.1 (by omega); rw [← eg] at u; exact ⟨rfl, _, rfl, zOn_bad hy eg u.2.2 (by omega) (Or.inr (by omega)) hx.1 u.2.1 hx.2.1 hx.2.2.1⟩))
        ·
          refine z_aload_n 0 (zdec DX10_oneOf 83 rfl) rfl rfl (by decide) ?_
          refine z_dup (zdec DX10_oneOf 84 rfl) rfl ?_
          refine z_geti (ki := 16) 56 10 (zdec DX10_oneOf 85 rfl) rfl shp56 rfl (by decide) rfl rfl fl_SixWallsModel_185 ?_
          refine z_iconst 1 (zdec DX10_oneOf 86 rfl) (by decide) ?_
          refine z_iadd (zdec DX10_oneOf 87 rfl) (by unfold z32; omega) ?_
          refine z_puti (ki := 16) 56 10 (zdec DX10_oneOf 88 rfl) rfl shp56 rfl (by decide) rfl rfl fl_SixWallsModel_185 (Or.inl rfl) ?_
          refine z_aload_n 0 (zdec DX10_oneOf 89 rfl) rfl rfl (by decide) ?_
          refine z_getr (rw1 := -66) (ki := 20) (r' := 67) 56 10 (zdec DX10_oneOf 90 rfl) rfl rfl shp56 rfl (by decide) rfl rfl fl_SixWallsModel_41 (zPa (zP_up hy.1 (by decide)) 67 rfl) ?_
          refine z_iload_n 2 (zdec DX10_oneOf 91 rfl) rfl rfl ?_
          refine z_iald 67 (zdec DX10_oneOf 92 rfl) rfl shp67 ⟨by omega, by omega⟩ ?_
          rw [show (zup M 56 16 ((M 56 16) + 1)) 67 k = M 67 k from by simp [zup, zcpy]]
          exact z_iret (zdec DX10_oneOf 93 rfl) rfl (by have zz := zOn_nam (f := f) hy eg (by omega); have e : zvn M g = M 67 k := (by unfold zvn znmd; rcases hk with ⟨a, b⟩ | ⟨a, b⟩ | ⟨a, b⟩ | ⟨a, b⟩ | ⟨a, b⟩ | ⟨a, b⟩ <;> (rw [b]; first | (rw [if_pos (by omega)]; done) | (rw [if_neg (by omega), if_pos (by omega)]; done) | (rw [if_neg (by omega), if_neg (by omega), if_pos (by omega)]; done) | (rw [if_neg (by omega), if_neg (by omega), if_neg (by omega), if_pos (by omega)]; done) | (rw [if_neg (by omega), if_neg (by omega), if_neg (by omega), if_neg (by omega)]; done) | (exfalso; omega))); rw [e] at zz; exact ⟨rfl, _, rfl, zz⟩)
      ·
        refine z_aload_n 0 (zdec DX10_oneOf 17 rfl) rfl rfl (by decide) ?_
        refine z_geti (ki := 19) 56 10 (zdec DX10_oneOf 18 rfl) rfl shp56 rfl (by decide) rfl rfl fl_SixWallsModel_219 ?_
        refine z_bipush 6 (zdec DX10_oneOf 19 rfl) (by decide) ?_
        refine z_icmp_ne 46 (zdec DX10_oneOf 20 rfl) rfl (fun h38 => ?_) (fun h38 => ?_)
        ·
          refine z_aload_n 0 (zdec DX10_oneOf 24 rfl) rfl rfl (by decide) ?_
          refine z_dup (zdec DX10_oneOf 25 rfl) rfl ?_
          refine z_geti (ki := 19) 56 10 (zdec DX10_oneOf 26 rfl) rfl shp56 rfl (by decide) rfl rfl fl_SixWallsModel_219 ?_
          refine z_iconst 1 (zdec DX10_oneOf 27 rfl) (by decide) ?_
          refine z_iadd (zdec DX10_oneOf 28 rfl) (by unfold z32; omega) ?_
          refine z_puti (ki := 19) 56 10 (zdec DX10_oneOf 29 rfl) rfl shp56 rfl (by decide) rfl rfl fl_SixWallsModel_219 (Or.inl rfl) ?_
          refine z_aload_n 0 (zdec DX10_oneOf 30 rfl) rfl rfl (by decide) ?_
          refine z_dup (zdec DX10_oneOf 31 rfl) rfl ?_
          refine z_geti (ki := 16) 56 10 (zdec DX10_oneOf 32 rfl) rfl shp56 rfl (by decide) rfl rfl fl_SixWallsModel_185 ?_
          rw [show (zup M 56 19 ((M 56 19) + 1)) 56 16 = M 56 16 from by simp [zup, zcpy]]
          refine z_iconst 1 (zdec DX10_oneOf 33 rfl) (by decide) ?_
          refine z_iadd (zdec DX10_oneOf 34 rfl) (by unfold z32; omega) ?_
          refine z_puti (ki := 16) 56 10 (zdec DX10_oneOf 35 rfl) rfl shp56 rfl (by decide) rfl rfl fl_SixWallsModel_185 (Or.inl rfl) ?_
          have o3 : zoT M (zup (zup M 56 19 ((M 56 19) + 1)) 56 16 ((M 56 16) + 1)) := (zoT.rf.up (by omega)).up (by omega)
          have hy3 : zRy (zup (zup M 56 19 ((M 56 19) + 1)) 56 16 ((M 56 16) + 1)) (o + 1) (p + 1) := zRy_of hy o3 (by rw [zup_self, e16]) (by rw [zup_ne (by decide), zup_ne (by decide)]; exact e18) (by rw [zup_ne (by decide), zup_self, e19]) (by omega) (by omega) (by omega) (by omega)
          have hb3 := hy3.2.1.2
          have h316 := hy3.2.2.1
          refine z_iload_n 1 (zdec DX10_oneOf 36 rfl) rfl rfl ?_
          refine z_bipush 40 (zdec DX10_oneOf 37 rfl) (by decide) ?_
          refine z_icmp_ne 79 (zdec DX10_oneOf 38 rfl) rfl (fun h69 => ?_) (fun h69 => ?_)
          ·
            exfalso; omega
          ·
            refine z_aload_n 0 (zdec DX10_oneOf 39 rfl) rfl rfl (by decide) ?_
            refine z_inv mX10_either 56 10 [] (zdec DX10_oneOf 40 rfl) ml_SixWallsModel_225 okX10_either rfl shp56 rfl rfl rfl rfl (Nat.le_of_ble_eq_true rfl) (by omega) (b' := (0, 0)) ⟨Nat.le_refl 0, Nat.le_refl 0⟩ (Nat.le_of_ble_eq_true rfl) (hE _ _ _ hy3 (by omega)) (fun rv9 S9 M73 h9 => ?_)
            obtain ⟨rfl, w, rfl, z73⟩ := h9
            have gs := zpL_G (t := ztx (zup (zup M 56 19 ((M 56 19) + 1)) 56 16 ((M 56 16) + 1))) (n := (zup (zup M 56 19 ((M 56 19) + 1)) 56 16 ((M 56 16) + 1)) 56 17) f 0 (o + 1) (p + 1) (by decide) (by decide) (by omega) (by omega) (by omega) (by omega) (by omega)
            have y73 := z73.y hy3 gs
            have gs1 := gs.1
            have hb73 := y73.2.1.2
            have b19 : o + 1 ≤ M73 56 19 ∧ M73 56 19 ≤ 6 := by
              cases e : (zpL (ztx (zup (zup M 56 19 ((M 56 19) + 1)) 56 16 ((M 56 16) + 1))) ((zup (zup M 56 19 ((M 56 19) + 1)) 56 16 ((M 56 16) + 1)) 56 17) f 0 (o + 1) (p + 1)).2.1 with
              | true => exact (z73.2.2.1 e).2
              | false => have := (z73.2.2.2 e).2.1; omega
            change zW _ _ _ _ _ 76 [(0, .inr (.inr 56)), (1, .inl c)] [.inl w] M73
            refine z_goto 83 (zdec DX10_oneOf 41 rfl) rfl ?_
            refine z_istore_n (L' := [(0, .inr (.inr 56)), (1, .inl c), (2, .inl w)]) (zdec DX10_oneOf 44 rfl) rfl rfl (by decide) ?_
            refine z_iload_n 1 (zdec DX10_oneOf 45 rfl) rfl rfl ?_
            refine z_bipush 40 (zdec DX10_oneOf 46 rfl) (by decide) ?_
            refine z_icmp_ne 104 (zdec DX10_oneOf 47 rfl) rfl (fun h87 => ?_) (fun h87 => ?_)
            ·
              exfalso; omega
            ·
              refine z_aload_n 0 (zdec DX10_oneOf 48 rfl) rfl rfl (by decide) ?_
              refine z_bipush 41 (zdec DX10_oneOf 49 rfl) (by decide) ?_
              refine z_inv mX10_takesByte 56 10 [.inl 41] (zdec DX10_oneOf 50 rfl) ml_SixWallsModel_204 okX10_takesByte rfl shp56 rfl rfl rfl rfl (Nat.le_of_ble_eq_true rfl) (by omega) (b' := (0, 0)) ⟨Nat.le_refl 0, Nat.le_refl 0⟩ (Nat.le_of_ble_eq_true rfl) (cX10_takesByte (z73.1.P hy3.1) y73.2.1 41) (fun rv9 S9 M93 h9 => ?_)
              obtain ⟨rfl, r93, rfl, y93⟩ := h9
              change zW _ _ _ _ _ 96 [(0, .inr (.inr 56)), (1, .inl c), (2, .inl w)] [.inl r93] M93
              refine z_if_ne 104 (zdec DX10_oneOf 51 rfl) rfl (fun h96 => ?_) (fun h96 => ?_)
              ·
                obtain ⟨-, q93, e93⟩ := y93.resolve_left (fun h => h96 h.1)
                have z96 := zOn_ok (f := f) (by omega : o < 6) eg (by omega) o3 z73 y73.2.1 q93 (by omega)
                have h19 : M93 56 19 = M73 56 19 := by rw [e93, zup_ne (by decide)]
                refine z_aload_n 0 (zdec DX10_oneOf 55 rfl) rfl rfl (by decide) ?_
                refine z_dup (zdec DX10_oneOf 56 rfl) rfl ?_
                refine z_geti (ki := 19) 56 10 (zdec DX10_oneOf 57 rfl) rfl shp56 rfl (by decide) rfl rfl fl_SixWallsModel_219 ?_
                refine z_iconst 1 (zdec DX10_oneOf 58 rfl) (by decide) ?_
                refine z_isub (zdec DX10_oneOf 59 rfl) (by unfold z32; omega) ?_
                refine z_puti (ki := 19) 56 10 (zdec DX10_oneOf 60 rfl) rfl shp56 rfl (by decide) rfl rfl fl_SixWallsModel_219 (Or.inl rfl) ?_
                refine z_iload_n 1 (zdec DX10_oneOf 61 rfl) rfl rfl ?_
                refine z_bipush 40 (zdec DX10_oneOf 62 rfl) (by decide) ?_
                refine z_icmp_ne 124 (zdec DX10_oneOf 63 rfl) rfl (fun h117 => ?_) (fun h117 => ?_)
                ·
                  exfalso; omega
                ·
                  refine z_iload_n 2 (zdec DX10_oneOf 64 rfl) rfl rfl ?_
                  refine z_goto 144 (zdec DX10_oneOf 65 rfl) rfl ?_
                  exact z_iret (zdec DX10_oneOf 77 rfl) rfl (by first | exact ⟨rfl, _, rfl, zOn_un2 (by omega) eg (by omega) o3 z80 (by first | (rw [if_pos (by omega)]; unfold zb; first | (rw [if_pos (by omega)]; done) | (rw [if_neg (by omega)]; done)) | (rw [if_neg (by omega)]; done))⟩ | (refine ⟨rfl, _, rfl, ?_⟩; rw [h19, e93]; exact z96) | exact ⟨rfl, _, rfl, z96⟩ | (exfalso; omega))
              ·
                obtain ⟨-, q93, e93⟩ := y93.resolve_right (fun h => absurd h.1 (by omega))
                refine z_aload_n 0 (zdec DX10_oneOf 52 rfl) rfl rfl (by decide) ?_
                refine z_inv mX10_wrong 56 10 [] (zdec DX10_oneOf 53 rfl) ml_SixWallsModel_222 okX10_wrong rfl shp56 rfl rfl rfl rfl (Nat.le_of_ble_eq_true rfl) (by omega) (b' := (0, 0)) ⟨Nat.le_refl 0, Nat.le_refl 0⟩ (Nat.le_of_ble_eq_true rfl) (cX10_wrong (by rcases y93 with ⟨_, _, e⟩ | ⟨_, _, e⟩ <;> rw [e]; exact (z73.1.P hy3.1); exact zP_up (z73.1.P hy3.1) (by decide)) (by rw [e93]; exact y73.2.1)) (fun rv9 S9 M100 h9 => ?_)
                obtain ⟨rfl, rfl, rfl⟩ := h9
                change zW _ _ _ _ _ 103 [(0, .inr (.inr 56)), (1, .inl c), (2, .inl w)] [.inl 0] (zup M93 56 18 (if M93 56 18 < 0 then M93 56 16 else M93 56 18))
                exact z_iret (zdec DX10_oneOf 54 rfl) rfl (by refine ⟨rfl, _, rfl, ?_⟩; rw [e93]; exact zOn_mis (by omega) eg (by omega) o3 z73 y73.2.1 q93)
        ·
          refine z_aload_n 0 (zdec DX10_oneOf 21 rfl) rfl rfl (by decide) ?_
          refine z_inv mX10_wrong 56 10 [] (zdec DX10_oneOf 22 rfl) ml_SixWallsModel_222 okX10_wrong rfl shp56 rfl rfl rfl rfl (Nat.le_of_ble_eq_true rfl) (by omega) (b' := (0, 0)) ⟨Nat.le_refl 0, Nat.le_refl 0⟩ (Nat.le_of_ble_eq_true rfl) (cX10_wrong hy.1 hRb) (fun rv9 S9 M42 h9 => ?_)
          obtain ⟨rfl, rfl, rfl⟩ := h9
          change zW _ _ _ _ _ 45 [(0, .inr (.inr 56)), (1, .inl c)] [.inl 0] (zup M 56 18 (if M 56 18 < 0 then M 56 16 else M 56 18))
          exact z_iret (zdec DX10_oneOf 23 rfl) rfl (⟨rfl, _, rfl, zOn_bad hy eg (by omega) (by omega) (Or.inl (by omega)) zoT.rf e16 e18 e19⟩)
theorem cX10_lv : ∀ f : Nat, (∀ (M : zMm) (o p : Int), zRy M o p → (6 - o) * 6 + (5 - 0) + 1 ≤ f → zW mX10_either (f + 3) (fun rv S' M' => S' = zS0 ∧ ∃ x, rv = some (.inl x) ∧ zpR M o (zvn M) (zpL (ztx M) (M 56 17) (f) 0 o p) M' x) (0, 0) zS0 0 (zargs 0 [.inr (.inr 56)]) [] M) ∧ (∀ (M : zMm) (o p : Int), zRy M o p → (6 - o) * 6 + (5 - 1) + 1 ≤ f → zW mX10_both (f + 3) (fun rv S' M' => S' = zS0 ∧ ∃ x, rv = some (.inl x) ∧ zpR M o (zvn M) (zpL (ztx M) (M 56 17) (f) 1 o p) M' x) (0, 0) zS0 0 (zargs 0 [.inr (.inr 56)]) [] M) ∧ (∀ (M : zMm) (o p : Int), zRy M o p → (6 - o) * 6 + (5 - 2) + 1 ≤ f → zW mX10_compared (f + 3) (fun rv S' M' => S' = zS0 ∧ ∃ x, rv = some (.inl x) ∧ zpR M o (zvn M) (zpL (ztx M) (M 56 17) (f) 2 o p) M' x) (0, 0) zS0 0 (zargs 0 [.inr (.inr 56)]) [] M) ∧ (∀ (M : zMm) (o p : Int), zRy M o p → (6 - o) * 6 + (5 - 3) + 1 ≤ f → zW mX10_sums (f + 3) (fun rv S' M' => S' = zS0 ∧ ∃ x, rv = some (.inl x) ∧ zpR M o (zvn M) (zpL (ztx M) (M 56 17) (f) 3 o p) M' x) (0, 0) zS0 0 (zargs 0 [.inr (.inr 56)]) [] M) ∧ (∀ (M : zMm) (o p : Int), zRy M o p → (6 - o) * 6 + (5 - 4) + 1 ≤ f → zW mX10_product (f + 3) (fun rv S' M' => S' = zS0 ∧ ∃ x, rv = some (.inl x) ∧ zpR M o (zvn M) (zpL (ztx M) (M 56 17) (f) 4 o p) M' x) (0, 0) zS0 0 (zargs 0 [.inr (.inr 56)]) [] M) ∧ (∀ (M : zMm) (o p : Int), zRy M o p → (6 - o) * 6 + (5 - 5) + 1 ≤ f → zW mX10_oneOf (f + 3) (fun rv S' M' => S' = zS0 ∧ ∃ x, rv = some (.inl x) ∧ zpR M o (zvn M) (zpL (ztx M) (M 56 17) (f) 5 o p) M' x) (0, 0) zS0 0 (zargs 0 [.inr (.inr 56)]) [] M) := by
  intro f
  induction f with
  | zero =>
    refine ⟨?_, ?_, ?_, ?_, ?_, ?_⟩ <;> (intro M o p hy h; have h6 := hy.2.2.2.2.2.2; exact absurd h (by omega))
  | succ f ih =>
    obtain ⟨i0, i1, i2, i3, i4, i5⟩ := ih
    exact ⟨fun M o p hy h => cX10_either f i1 o p hy h, fun M o p hy h => cX10_both f i2 o p hy h, fun M o p hy h => cX10_compared f i3 o p hy h, fun M o p hy h => cX10_sums f i4 o p hy h, fun M o p hy h => cX10_product f i5 o p hy h, fun M o p hy h => cX10_oneOf f i0 i5 o p hy h⟩
