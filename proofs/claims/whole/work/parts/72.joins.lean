/-! opened: companies joined, and how many walls that wants at least -/
noncomputable def zic (p : Prop) : Int := @ite Int p (Classical.propDecidable p) 1 0
theorem zic1 {p : Prop} (h : p) : zic p = 1 := by unfold zic; rw [if_pos h]
theorem zic0 {p : Prop} (h : ¬ p) : zic p = 0 := by unfold zic; rw [if_neg h]
theorem zic_b (p : Prop) : 0 ≤ zic p ∧ zic p ≤ 1 := by
  by_cases h : p
  · rw [zic1 h]; exact ⟨by decide, by decide⟩
  · rw [zic0 h]; exact ⟨by decide, by decide⟩
theorem zic_c {p q : Prop} (h : p ↔ q) : zic p = zic q := by rw [propext h]
theorem zic_le {p q : Prop} (h : p → q) : zic p ≤ zic q := by
  by_cases a : p
  · rw [zic1 a, zic1 (h a)]; exact Int.le_refl _
  · rw [zic0 a]; exact (zic_b q).1
theorem zsum_ge {f g : Int → Int} (n : Nat) (h : ∀ i : Int, 0 ≤ i → i < n → f i ≤ g i) : zsum f n ≤ zsum g n := (zsum_lt n h).1
theorem zsum_z {f : Int → Int} : ∀ n : Nat, (∀ i : Int, 0 ≤ i → i < n → f i = 0) → zsum f n = 0 := by
  intro n
  induction n with
  | zero => intro _; rfl
  | succ n ih =>
    intro h
    rw [show ((n + 1 : Nat) : Int) = (n : Int) + 1 by omega, zsum_s f (by omega), ih (fun i a b => h i a (by omega)), h n (by omega) (by omega)]
    rfl
theorem zsum_at {T : Int → Prop} {a : Int} (n : Nat) (h : 0 ≤ a ∧ a < n) : zsum (fun w => zic (w = a ∧ T w)) n = zic (T a) := by
  have e : zsum (fun w => zic (w = a ∧ T w)) n = zsum (zpu (fun _ => 0) a (zic (T a))) n := zsum_c fun i _ _ => by
    by_cases q : i = a
    · subst q; rw [zpu_s]; exact zic_c ⟨fun x => x.2, fun x => ⟨rfl, x⟩⟩
    · rw [zpu_n q]; exact zic0 fun x => q x.1
  rw [e, zsum_pu _ h.1, if_pos h.2, zsum_z n (fun _ _ _ => rfl)]
  omega
theorem zsum_one {a : Int} (h : 0 ≤ a ∧ a < 16) : zsum (fun w => zic (w = a)) 16 = 1 := by
  have t := zsum_at (T := fun _ => True) (a := a) 16 h
  rw [zic1 trivial] at t
  rw [← t]
  exact zsum_c fun i _ _ => zic_c ⟨fun x => ⟨x, trivial⟩, fun x => x.1⟩
theorem zsum_one_le (a : Int) : zsum (fun w => zic (w = a)) 16 ≤ 1 := by
  by_cases h : 0 ≤ a ∧ a < 16
  · rw [zsum_one h]; exact Int.le_refl _
  · have t := zsum_z (f := fun w => zic (w = a)) 16 (fun i x y => zic0 (by omega))
    have t2 : zsum (fun w => zic (w = a)) 16 = 0 := t
    omega
theorem zsum_add16 (f g : Int → Int) : zsum (fun i => f i + g i) 16 = zsum f 16 + zsum g 16 := zsum_add f g 16
theorem zsum_ge16 {f g : Int → Int} (h : ∀ i : Int, 0 ≤ i → i < 16 → f i ≤ g i) : zsum f 16 ≤ zsum g 16 := zsum_ge 16 h
/-- someone of company l lives there -/
def zpr (L C : Int → Int) (l : Int) : Prop := ∃ h : Int, zhh h ∧ L h = 1 ∧ C h = l
noncomputable def zWc (L C : Int → Int) : Int := zsum (fun l => zic (zpr L C l)) 16
theorem zjn (C : Int → Int) (x y : Int) : ∃ m X : Int, ((m = x ∧ X = y) ∨ (m = y ∧ X = x)) ∧ m ≤ X ∧ ∀ h : Int, ((C h = x ∨ C h = y) → zjoin C x y h = X) ∧ (¬ (C h = x ∨ C h = y) → zjoin C x y h = C h) := by
  by_cases q : x < y
  · refine ⟨x, y, Or.inl ⟨rfl, rfl⟩, by omega, fun h => ⟨fun e => ?_, fun e => ?_⟩⟩
    · unfold zjoin; rw [if_pos e, if_pos q]
    · unfold zjoin; rw [if_neg e]
  · refine ⟨y, x, Or.inr ⟨rfl, rfl⟩, by omega, fun h => ⟨fun e => ?_, fun e => ?_⟩⟩
    · unfold zjoin; rw [if_pos e, if_neg q]
    · unfold zjoin; rw [if_neg e]
theorem zjn_f {C : Int → Int} {x y h k : Int} (e : C h = C k) : zjoin C x y h = zjoin C x y k := by
  unfold zjoin
  rw [e]
theorem zjn_xy {C : Int → Int} {x y h k : Int} (e : C h = x) (f : C k = y) : zjoin C x y h = zjoin C x y k := by
  unfold zjoin
  rw [if_pos (Or.inl e), if_pos (Or.inr f)]
theorem zpr_up {L C : Int → Int} {x y m X l : Int} (j1 : (m = x ∧ X = y) ∨ (m = y ∧ X = x)) (j3 : ∀ h : Int, ((C h = x ∨ C h = y) → zjoin C x y h = X) ∧ (¬ (C h = x ∨ C h = y) → zjoin C x y h = C h)) (hl : l ≠ m) (h : zpr L C l) : zpr L (zjoin C x y) l := by
  obtain ⟨h, h1, h2, h3⟩ := h
  refine ⟨h, h1, h2, ?_⟩
  by_cases q : C h = x ∨ C h = y
  · rw [(j3 h).1 q]; omega
  · rw [(j3 h).2 q]; exact h3
theorem zWc_join (L : Int → Int) (C : Int → Int) (x y : Int) : zWc L C ≤ zWc L (zjoin C x y) + 1 := by
  obtain ⟨m, X, j1, j2, j3⟩ := zjn C x y
  have t := zsum_ge16 (f := fun l => zic (zpr L C l)) (g := fun l => zic (zpr L (zjoin C x y) l) + zic (l = m)) (fun l a b => by
    by_cases e : l = m
    · rw [zic1 e]; have := zic_b (zpr L C l); have := zic_b (zpr L (zjoin C x y) l); omega
    · have := zic_le (zpr_up (L := L) j1 j3 e); have := zic_b (l = m); omega)
  rw [zsum_add16] at t
  have := zsum_one_le m
  unfold zWc
  omega
theorem zWc_un {L C : Int → Int} {x y : Int} (hx : 0 ≤ x ∧ x ≤ 16) (hy : 0 ≤ y ∧ y ≤ 16) (h : x = y ∨ (x ≠ 16 ∧ ¬ zpr L C x) ∨ (y ≠ 16 ∧ ¬ zpr L C y)) : zWc L C ≤ zWc L (zjoin C x y) := by
  obtain ⟨m, X, j1, j2, j3⟩ := zjn C x y
  by_cases e : m = X
  · refine zsum_ge16 fun l a b => ?_
    refine zic_le fun ⟨k, h1, h2, h3⟩ => ⟨k, h1, h2, ?_⟩
    by_cases q : C k = x ∨ C k = y
    · rw [(j3 k).1 q]; omega
    · rw [(j3 k).2 q]; exact h3
  · by_cases nm : zpr L C m
    · have nX : X ≠ 16 ∧ ¬ zpr L C X := by
        rcases j1 with ⟨e1, e2⟩ | ⟨e1, e2⟩
        · rcases h with h | h | h
          · omega
          · rw [← e1] at h; exact absurd nm h.2
          · rw [← e2] at h; exact h
        · rcases h with h | h | h
          · omega
          · rw [← e2] at h; exact h
          · rw [← e1] at h; exact absurd nm h.2
      have t := zsum_ge16 (f := fun l => zic (zpr L C l) + zic (l = X)) (g := fun l => zic (zpr L (zjoin C x y) l) + zic (l = m)) (fun l a b => by
        by_cases e1 : l = m
        · have e2 : ¬ l = X := by omega
          rw [zic1 e1, zic0 e2]; have := zic_b (zpr L C l); have := zic_b (zpr L (zjoin C x y) l); omega
        · by_cases e2 : l = X
          · obtain ⟨k, h1, h2, h3⟩ := nm
            have w : zpr L (zjoin C x y) l := ⟨k, h1, h2, by rw [(j3 k).1 (by omega)]; exact e2.symm⟩
            have v : ¬ zpr L C l := by rw [e2]; exact nX.2
            rw [zic1 w, zic0 v, zic1 e2, zic0 e1]; decide
          · have := zic_le (zpr_up (L := L) j1 j3 e1)
            rw [zic0 e1, zic0 e2]; omega)
      rw [zsum_add16, zsum_add16, zsum_one (a := X) (by omega)] at t
      have := zsum_one_le m
      unfold zWc
      omega
    · refine zsum_ge16 fun l a b => ?_
      by_cases e1 : l = m
      · have v : ¬ zpr L C l := by rw [e1]; exact nm
        rw [zic0 v]; exact (zic_b _).1
      · exact zic_le (zpr_up j1 j3 e1)
theorem zWc_ex {L C : Int → Int} {x y : Int} (hx : 0 ≤ x ∧ x ≤ 16) (hy : 0 ≤ y ∧ y ≤ 16) (hn : x ≠ y) (h1 : x = 16 ∨ zpr L C x) (h2 : y = 16 ∨ zpr L C y) : zWc L C = zWc L (zjoin C x y) + 1 := by
  have u := zWc_join L C x y
  obtain ⟨m, X, j1, j2, j3⟩ := zjn C x y
  have pm : m < X ∧ zpr L C m ∧ (X = 16 ∨ zpr L C X) := by
    rcases j1 with ⟨e1, e2⟩ | ⟨e1, e2⟩
    · rw [← e1] at h1; rw [← e2] at h2
      exact ⟨by omega, h1.resolve_left (by omega), h2⟩
    · rw [← e2] at h1; rw [← e1] at h2
      exact ⟨by omega, h2.resolve_left (by omega), h1⟩
  have t := zsum_ge16 (f := fun l => zic (zpr L (zjoin C x y) l) + zic (l = m)) (g := fun l => zic (zpr L C l)) (fun l a b => by
    by_cases e1 : l = m
    · have v : ¬ zpr L (zjoin C x y) l := fun ⟨k, _, _, k3⟩ => by
        by_cases q : C k = x ∨ C k = y
        · rw [(j3 k).1 q] at k3; omega
        · rw [(j3 k).2 q] at k3; omega
      have w : zpr L C l := by rw [e1]; exact pm.2.1
      rw [zic0 v, zic1 e1, zic1 w]; decide
    · by_cases e2 : l = X
      · have w : zpr L C l := by rw [e2]; exact pm.2.2.resolve_left (by omega)
        rw [zic0 e1, zic1 w]; have := zic_b (zpr L (zjoin C x y) l); omega
      · have := zic_le (p := zpr L (zjoin C x y) l) (q := zpr L C l) (fun ⟨k, k1, k2, k3⟩ => ⟨k, k1, k2, by
          by_cases q : C k = x ∨ C k = y
          · rw [(j3 k).1 q] at k3; omega
          · rw [(j3 k).2 q] at k3; exact k3⟩)
        rw [zic0 e1]; omega)
  rw [zsum_add16, zsum_one (a := m) (by omega)] at t
  unfold zWc at u ⊢
  omega
theorem zOut_mono {D E : Int → Prop} (h : ∀ w : Int, 0 ≤ w → w < 33 → D w → E w) {x : Int} (o : zOut D x) : zOut E x := fun P he hd => o P he fun w a b d => hd w a b (h w a b d)
/-- how many of a set of walls are at n or behind -/
noncomputable def zsuf (T : Int → Prop) (n : Int) : Int := zsum (fun w => zic (n ≤ w ∧ T w)) 33
theorem zsuf_s {T : Int → Prop} {n : Int} (h : 0 ≤ n ∧ n < 33) : zsuf T n = zic (T n) + zsuf T (n + 1) := by
  have t := zsum_at (T := T) (a := n) 33 h
  have t2 : zsum (fun w => zic (w = n ∧ T w)) 33 = zic (T n) := t
  have a := zsum_add (fun w => zic (w = n ∧ T w)) (fun w => zic (n + 1 ≤ w ∧ T w)) 33
  have a2 : zsum (fun w => zic (w = n ∧ T w) + zic (n + 1 ≤ w ∧ T w)) 33 = zsum (fun w => zic (w = n ∧ T w)) 33 + zsum (fun w => zic (n + 1 ≤ w ∧ T w)) 33 := a
  unfold zsuf
  rw [← t2, ← a2]
  refine zsum_c fun w _ _ => ?_
  by_cases q : T w
  · by_cases e : w = n
    · rw [zic1 ⟨by omega, q⟩, zic1 ⟨e, q⟩, zic0 (fun z => by have := z.1; omega)]; rfl
    · rw [zic0 (p := w = n ∧ T w) (fun z => e z.1)]
      rw [zic_c (p := n ≤ w ∧ T w) (q := n + 1 ≤ w ∧ T w) ⟨fun z => ⟨by have := z.1; omega, q⟩, fun z => ⟨by have := z.1; omega, q⟩⟩]
      omega
  · rw [zic0 (fun z => q z.2), zic0 (fun z => q z.2), zic0 (fun z => q z.2)]; rfl
theorem zsuf_e (T : Int → Prop) : zsuf T 33 = 0 := zsum_z 33 (fun i a b => zic0 fun z => by have := z.1; omega)
theorem zsuf_0 (T : Int → Prop) : zsuf T 0 = zsum (fun w => zic (T w)) 33 := zsum_c fun w a b => zic_c ⟨fun z => z.2, fun z => ⟨a, z⟩⟩
theorem zsuf_p (T : Int → Prop) : ∀ n : Nat, n ≤ 33 → zsum (fun w => zic (T w)) n + zsuf T n = zsuf T 0 := by
  intro n
  induction n with
  | zero => intro _; show (0 : Int) + zsuf T 0 = _; omega
  | succ n ih =>
    intro h
    have i := ih (by omega)
    have s := zsuf_s (T := T) (n := (n : Int)) ⟨by omega, by omega⟩
    rw [show ((n + 1 : Nat) : Int) = (n : Int) + 1 by omega, zsum_s _ (by omega)]
    omega
/-- each set of walls that lets all out has at least as many walls as there are companies that want out -/
theorem zWc_low {L : Int → Int} {T : Int → Prop} : ∀ (n : Nat) (C : Int → Int), n ≤ 33 → (∀ h : Int, zhh h → zsid h < 6 → C h = 16) → zCB C → (∀ h : Int, zhh h → L h = 1 → zOut (fun w => C (zlow w) = C (zhigh w) ∨ (33 - (n : Int) ≤ w ∧ T w)) h) → zWc L C ≤ zsuf T (33 - n) := by
  intro n
  induction n with
  | zero =>
    intro C _ he hb ho
    have z : ∀ h : Int, zhh h → L h = 1 → C h = 16 := fun h hh hl => ho h hh hl (fun k => C k = 16) (fun k a b c => he k ⟨a, b⟩ c) (fun w a b d => by
      rcases d with d | d
      · rw [d]
      · have := d.1; omega)
    have e : zWc L C = 0 := zsum_z 16 fun l a b => zic0 fun ⟨h, h1, h2, h3⟩ => by
      have := z h h1 h2
      omega
    have f := zsuf_e T
    rw [show (33 : Int) - ((0 : Nat) : Int) = 33 by omega]
    omega
  | succ n ih =>
    intro C hn he hb ho
    have s := zsuf_s (T := T) (n := 33 - ((n + 1 : Nat) : Int)) ⟨by omega, by omega⟩
    have q1 : 33 - ((n + 1 : Nat) : Int) + 1 = 33 - (n : Int) := by omega
    rw [q1] at s
    generalize hw : (33 : Int) - ((n + 1 : Nat) : Int) = v at s ho ⊢
    by_cases t : T v
    · have lb := zlow_b v
      have lh := zhigh_b v
      have bl := hb _ lb.1 lb.2
      have bh := hb _ lh.1 lh.2
      have i := ih (zjoin C (C (zlow v)) (C (zhigh v))) (by omega) (fun h hh hs => by
        have e := he h hh hs
        unfold zjoin
        split
        · split <;> omega
        · exact e) (zCB_join hb bl bh) (fun h hh hl => zOut_mono (fun w w0 w1 d => by
        rcases d with d | d
        · exact Or.inl (zjn_f d)
        · by_cases e : w = v
          · rw [e]; exact Or.inl (zjn_xy rfl rfl)
          · exact Or.inr ⟨by have := d.1; omega, d.2⟩) (ho h hh hl))
      have j := zWc_join L C (C (zlow v)) (C (zhigh v))
      rw [zic1 t] at s
      omega
    · have i := ih C (by omega) he hb (fun h hh hl => zOut_mono (fun w w0 w1 d => by
        rcases d with d | d
        · exact Or.inl d
        · by_cases e : w = v
          · rw [e] at d; exact absurd d.2 t
          · exact Or.inr ⟨by have := d.1; omega, d.2⟩) (ho h hh hl))
      rw [zic0 t] at s
      omega
theorem zWc_low0 {L : Int → Int} {T : Int → Prop} {C : Int → Int} (he : ∀ h : Int, zhh h → zsid h < 6 → C h = 16) (hb : zCB C) (ho : ∀ h : Int, zhh h → L h = 1 → zOut (fun w => C (zlow w) = C (zhigh w) ∨ T w) h) : zWc L C ≤ zsuf T 0 := by
  have t := zWc_low (L := L) (T := T) 33 C (Nat.le_refl _) he hb (fun h hh hl => zOut_mono (fun w w0 w1 d => d.imp_right fun d => ⟨by omega, d⟩) (ho h hh hl))
  exact t
