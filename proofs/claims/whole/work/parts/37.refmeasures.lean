/-! the reference: how far all are from a house -/
theorem zsum_pu (L : Int → Int) {t v : Int} (ht : 0 ≤ t) : ∀ n : Nat, zsum (zpu L t v) n = zsum L n + if t < n then v - L t else 0 := by
  intro n
  induction n with
  | zero => rw [if_neg (by omega)]; rfl
  | succ n ih =>
    have e1 : zsum (zpu L t v) ((n + 1 : Nat) : Int) = zsum (zpu L t v) n + zpu L t v n := rfl
    have e2 : zsum L ((n + 1 : Nat) : Int) = zsum L n + L n := rfl
    rw [e1, e2, ih]
    by_cases hn : (n : Int) = t
    · subst hn
      rw [zpu_s, if_neg (by omega), if_pos (by omega)]
      omega
    · rw [zpu_n hn]
      by_cases hl : t < n
      · rw [if_pos hl, if_pos (by omega)]; omega
      · rw [if_neg hl, if_neg (by omega)]; omega
theorem zsum_nn {f : Int → Int} {n : Int} (h : ∀ i : Int, 0 ≤ i → i < n → 0 ≤ f i) : 0 ≤ zsum f n := by
  have key : ∀ m : Nat, (m : Int) ≤ n → 0 ≤ zsum f m := by
    intro m
    induction m with
    | zero => intro _; exact Int.le_refl _
    | succ m ih =>
      intro hm
      have e1 : zsum f ((m + 1 : Nat) : Int) = zsum f m + f m := rfl
      rw [e1]
      have := ih (by omega)
      have := h m (by omega) (by omega)
      omega
  by_cases hn : 0 ≤ n
  · have := key n.toNat (by omega)
    rwa [show ((n.toNat : Nat) : Int) = n by omega] at this
  · have e : zsum f n = 0 := by unfold zsum zfo; rw [show n.toNat = 0 by omega]; rfl
    omega
/-- what may be told of distances from a by costs c of the walls: at most so far; the greatest of such is the distance -/
def zfe (c : Int → Int) (a B : Int) (F : Int → Int) : Prop := F a ≤ 0 ∧ (∀ h : Int, 0 ≤ h → h < 16 → F h ≤ B) ∧ ∀ w : Int, 0 ≤ w → w < 33 → F (zhigh w) ≤ F (zlow w) + c w ∧ F (zlow w) ≤ F (zhigh w) + c w
def zgf (c : Int → Int) (a B : Int) (L : Int → Int) : Prop := zfe c a B L ∧ ∀ F : Int → Int, zfe c a B F → ∀ h : Int, 0 ≤ h → h < 16 → F h ≤ L h
theorem zgf.one {c : Int → Int} {a B : Int} {L L' : Int → Int} (h : zgf c a B L) (h' : zgf c a B L') : zH L L' := fun k h0 h1 => by
  have e1 := h.2 L' h'.1 k h0 h1
  have e2 := h'.2 L h.1 k h0 h1
  omega
theorem zfe.c {c c' : Int → Int} {a B : Int} {F : Int → Int} (h : zfe c a B F) (e : ∀ w : Int, 0 ≤ w → w < 33 → c w = c' w) : zfe c' a B F := ⟨h.1, h.2.1, fun w h0 h1 => by rw [← e w h0 h1]; exact h.2.2 w h0 h1⟩
theorem zgf.c {c c' : Int → Int} {a B : Int} {F : Int → Int} (h : zgf c a B F) (e : ∀ w : Int, 0 ≤ w → w < 33 → c w = c' w) : zgf c' a B F := ⟨h.1.c e, fun F hF => h.2 F (hF.c fun w h0 h1 => (e w h0 h1).symm)⟩
/-- while they are measured -/
def zBf (c : Int → Int) (a B S0 : Int) (P : (Int → Int) → Prop) (L : Int → Int) (nr : Int) : Prop := (∀ F : Int → Int, zfe c a B F → ∀ h : Int, 0 ≤ h → h < 16 → F h ≤ L h) ∧ (∀ h : Int, 0 ≤ h → h < 16 → 0 ≤ L h ∧ L h ≤ B) ∧ L a ≤ 0 ∧ ((nr = 1 ∧ zsum L 16 < S0) ∨ (nr = 0 ∧ zsum L 16 = S0 ∧ P L))
theorem zor01 {x y : Int} (hx : 0 ≤ x ∧ x ≤ 1) (hy : 0 ≤ y ∧ y ≤ 1) : zor x y = if x = 1 ∨ y = 1 then 1 else 0 := by
  rcases (show x = 0 ∨ x = 1 by omega) with rfl | rfl <;> rcases (show y = 0 ∨ y = 1 by omega) with rfl | rfl <;> rfl
theorem zBf.nr {c : Int → Int} {a B S0 : Int} {P : (Int → Int) → Prop} {L : Int → Int} {nr : Int} (h : zBf c a B S0 P L nr) : 0 ≤ nr ∧ nr ≤ 1 := by
  rcases h.2.2.2 with ⟨e, _⟩ | ⟨e, _⟩ <;> omega
/-- one house comes to another -/
def zCt (L : Int → Int) (t x : Int) (L' : Int → Int) (r : Int) : Prop := (r = 1 ∧ x < L t ∧ L' = zpu L t x) ∨ (r = 0 ∧ ¬ x < L t ∧ L' = L)
theorem zCt.r {L : Int → Int} {t x : Int} {L' : Int → Int} {r : Int} (h : zCt L t x L' r) : 0 ≤ r ∧ r ≤ 1 := by
  rcases h with ⟨e, _⟩ | ⟨e, _⟩ <;> omega
theorem zBf.st {c : Int → Int} {a B S0 : Int} {P : (Int → Int) → Prop} {L : Int → Int} {nr f t k r : Int} {L' : Int → Int} (h : zBf c a B S0 P L nr) (hf : 0 ≤ f ∧ f < 16) (ht : 0 ≤ t ∧ t < 16) (hk : 0 ≤ k) (hF : ∀ F : Int → Int, zfe c a B F → F t ≤ F f + k) (h1 : zCt L t (L f + k) L' r) : zBf c a B S0 (fun L => P L ∧ L t ≤ L f + k) L' (zor nr r) := by
  have h2 := h.nr
  have h3 := h1.r
  obtain ⟨q1, q2, q3, q4⟩ := h
  rw [zor01 h2 h3]
  rcases h1 with ⟨e, h4, rfl⟩ | ⟨e, h4, rfl⟩
  · have b1 := q2 f hf.1 hf.2
    have b2 := q2 t ht.1 ht.2
    rw [if_pos (Or.inr e)]
    refine ⟨fun F g i h0 h5 => ?_, fun i h0 h5 => ?_, ?_, Or.inl ⟨rfl, ?_⟩⟩
    · by_cases hi : i = t
      · subst hi
        rw [zpu_s]
        have := hF F g
        have := q1 F g f hf.1 hf.2
        omega
      · rw [zpu_n hi]; exact q1 F g i h0 h5
    · by_cases hi : i = t
      · subst hi; rw [zpu_s]; omega
      · rw [zpu_n hi]; exact q2 i h0 h5
    · by_cases hi : a = t
      · subst hi; rw [zpu_s]; omega
      · rw [zpu_n hi]; exact q3
    · have e2 := zsum_pu L (v := L f + k) ht.1 16
      rw [if_pos (show t < ((16 : Nat) : Int) by omega)] at e2
      have e3 : zsum (zpu L t (L f + k)) 16 = zsum L 16 + (L f + k - L t) := e2
      rcases q4 with ⟨-, q⟩ | ⟨-, q, -⟩ <;> omega
  · refine ⟨q1, q2, q3, ?_⟩
    rcases q4 with ⟨u, q⟩ | ⟨u, q, v⟩
    · exact Or.inl ⟨if_pos (Or.inl u), q⟩
    · exact Or.inr ⟨if_neg (by omega), q, v, by omega⟩
theorem zBf.im {c : Int → Int} {a B S0 : Int} {P P' : (Int → Int) → Prop} {L : Int → Int} {nr : Int} (h : zBf c a B S0 P L nr) (hp : P L → P' L) : zBf c a B S0 P' L nr := ⟨h.1, h.2.1, h.2.2.1, by rcases h.2.2.2 with q | ⟨q1, q2, q3⟩; exact Or.inl q; exact Or.inr ⟨q1, q2, hp q3⟩⟩
def ztri (c : Int → Int) (n : Int) (L : Int → Int) : Prop := ∀ w : Int, 0 ≤ w → w < n → L (zhigh w) ≤ L (zlow w) + c w ∧ L (zlow w) ≤ L (zhigh w) + c w
theorem ztri_s {c : Int → Int} {w : Int} {L : Int → Int} (h : (ztri c w L ∧ L (zhigh w) ≤ L (zlow w) + c w) ∧ L (zlow w) ≤ L (zhigh w) + c w) : ztri c (w + 1) L := by
  intro v h0 h1
  by_cases hv : v = w
  · subst hv; exact ⟨h.1.2, h.2⟩
  · exact h.1.1 v h0 (by omega)
/-- what a wall costs -/
def zmc (M : zMm) (nz w : Int) : Int := if nz ≠ 0 then (if M 57 (65 + w) = 1 then 3 else 3 + 2 * M 57 (32 + w)) else if M 57 (65 + w) = 1 then 1 else 1000
theorem zmc_b {M : zMm} (hR : zRr M) {nz w : Int} (h : 0 ≤ w ∧ w < 33) : 1 ≤ zmc M nz w ∧ zmc M nz w ≤ 1000 := by
  have := hR.2.1 w h.1 h.2
  unfold zmc
  repeat' split
  all_goals omega
theorem zup_idr {M : zMm} {c k : Int} : zup M c k (M c k) = M := by
  funext c' k'
  unfold zup
  split
  · rename_i h; rw [h.1, h.2]
  · rfl
noncomputable def zdst (c : Int → Int) (a B : Int) : Int → Int := Classical.epsilon (fun L => zgf c a B L)
theorem zgf.dst {c : Int → Int} {a B : Int} {L : Int → Int} (h : zgf c a B L) : zgf c a B (zdst c a B) := Classical.epsilon_spec (p := fun L => zgf c a B L) ⟨L, h⟩
theorem zgf.eq {c : Int → Int} {a B : Int} {L : Int → Int} (h : zgf c a B L) : zH L (zdst c a B) := h.one h.dst
set_option maxHeartbeats 4000000 in
theorem cX10_comesTo {M : zMm} (hP : zP M) (h x : Int) (hh : 0 ≤ h ∧ h < 16) : zW mX10_comesTo 1 (fun rv S' M' => S' = zS0 ∧ ∃ r, rv = some (.inl r) ∧ zCt (M 74) h x (M' 74) r ∧ zonly 74 M M') (0, 0) zS0 0 (zargs 0 [.inr (.inr 56), .inl h, .inl x]) [] M := by
  change zW _ _ _ _ _ 0 [(0, .inr (.inr 56)), (1, .inl h), (2, .inl x)] [] M
  refine z_iload_n 2 (zdec DX10_comesTo 0 rfl) rfl rfl ?_
  refine z_aload_n 0 (zdec DX10_comesTo 1 rfl) rfl rfl (by decide) ?_
  refine z_getr (rw1 := -66) (ki := 28) (r' := 74) 56 10 (zdec DX10_comesTo 2 rfl) rfl rfl shp56 rfl (by decide) rfl rfl fl_SixWallsModel_62 (zPa hP 74 rfl) ?_
  refine z_iload_n 1 (zdec DX10_comesTo 3 rfl) rfl rfl ?_
  refine z_iald 74 (zdec DX10_comesTo 4 rfl) rfl shp74 ⟨by omega, by omega⟩ ?_
  refine z_icmp_ge 14 (zdec DX10_comesTo 5 rfl) rfl (fun h7 => ?_) (fun h7 => ?_)
  ·
    refine z_iconst 0 (zdec DX10_comesTo 8 rfl) (by decide) ?_
    refine z_istore_n (L' := [(0, .inr (.inr 56)), (1, .inl h), (2, .inl x), (3, .inl 0)]) (zdec DX10_comesTo 9 rfl) rfl rfl (by decide) ?_
    refine z_aload_n 0 (zdec DX10_comesTo 10 rfl) rfl rfl (by decide) ?_
    refine z_getr (rw1 := -66) (ki := 28) (r' := 74) 56 10 (zdec DX10_comesTo 11 rfl) rfl rfl shp56 rfl (by decide) rfl rfl fl_SixWallsModel_62 (zPa hP 74 rfl) ?_
    refine z_iload_n 1 (zdec DX10_comesTo 12 rfl) rfl rfl ?_
    refine z_iload_n 3 (zdec DX10_comesTo 13 rfl) rfl rfl ?_
    refine z_if_eq 29 (zdec DX10_comesTo 14 rfl) rfl (fun _ => ?_) (fun h => absurd h (by decide))
    refine z_aload_n 0 (zdec DX10_comesTo 17 rfl) rfl rfl (by decide) ?_
    refine z_getr (rw1 := -66) (ki := 28) (r' := 74) 56 10 (zdec DX10_comesTo 18 rfl) rfl rfl shp56 rfl (by decide) rfl rfl fl_SixWallsModel_62 (zPa hP 74 rfl) ?_
    refine z_iload_n 1 (zdec DX10_comesTo 19 rfl) rfl rfl ?_
    refine z_iald 74 (zdec DX10_comesTo 20 rfl) rfl shp74 ⟨by omega, by omega⟩ ?_
    refine z_iast 74 (zdec DX10_comesTo 21 rfl) rfl shp74 ⟨by omega, by omega⟩ ?_
    refine z_iload_n 3 (zdec DX10_comesTo 22 rfl) rfl rfl ?_
    exact z_zret (zdec DX10_comesTo 23 rfl) rfl (by omega) (by first | exact ⟨rfl, 0, rfl, Or.inr ⟨rfl, by omega, (congrFun (zup_idr (M := M) (c := 74) (k := h)) 74)⟩, zonly.rf.up⟩ | exact ⟨rfl, 1, rfl, Or.inl ⟨rfl, by omega, zup_zpu⟩, zonly.rf.up⟩)
  ·
    refine z_iconst 1 (zdec DX10_comesTo 6 rfl) (by decide) ?_
    refine z_goto 15 (zdec DX10_comesTo 7 rfl) rfl ?_
    refine z_istore_n (L' := [(0, .inr (.inr 56)), (1, .inl h), (2, .inl x), (3, .inl 1)]) (zdec DX10_comesTo 9 rfl) rfl rfl (by decide) ?_
    refine z_aload_n 0 (zdec DX10_comesTo 10 rfl) rfl rfl (by decide) ?_
    refine z_getr (rw1 := -66) (ki := 28) (r' := 74) 56 10 (zdec DX10_comesTo 11 rfl) rfl rfl shp56 rfl (by decide) rfl rfl fl_SixWallsModel_62 (zPa hP 74 rfl) ?_
    refine z_iload_n 1 (zdec DX10_comesTo 12 rfl) rfl rfl ?_
    refine z_iload_n 3 (zdec DX10_comesTo 13 rfl) rfl rfl ?_
    refine z_if_eq 29 (zdec DX10_comesTo 14 rfl) rfl (fun h => absurd h (by decide)) (fun _ => ?_)
    refine z_iload_n 2 (zdec DX10_comesTo 15 rfl) rfl rfl ?_
    refine z_goto 35 (zdec DX10_comesTo 16 rfl) rfl ?_
    refine z_iast 74 (zdec DX10_comesTo 21 rfl) rfl shp74 ⟨by omega, by omega⟩ ?_
    refine z_iload_n 3 (zdec DX10_comesTo 22 rfl) rfl rfl ?_
    exact z_zret (zdec DX10_comesTo 23 rfl) rfl (by omega) (by first | exact ⟨rfl, 0, rfl, Or.inr ⟨rfl, by omega, (congrFun (zup_idr (M := M) (c := 74) (k := h)) 74)⟩, zonly.rf.up⟩ | exact ⟨rfl, 1, rfl, Or.inl ⟨rfl, by omega, zup_zpu⟩, zonly.rf.up⟩)
set_option maxHeartbeats 4000000 in
theorem lp_X10_measures_43 {Q : zPost} {M : zMm} (hP : zP M) (hg : zGr M) (hR : zRr M) (a nz : Int) (ha : 0 ≤ a ∧ a < 16) (M0 : zMm) (hx179 : ∀ (nr2 : Int) (M3 : zMm), (zonly 74 M M3 ∧ zBf (zmc M nz) a 1000 (zsum (M0 74) 16) (ztri (zmc M nz) 33) (M3 74) nr2) → zW mX10_measures 2 Q (0, 0) zS0 179 [(0, .inr (.inr 56)), (1, .inl a), (2, .inl nz), (3, .inl nr2)] [] M3) : ∀ (n : Nat) (nr2 : Int) (w : Int) (M3 : zMm), (33 - w).toNat < n → (0 ≤ w ∧ w ≤ 33 ∧ zonly 74 M M3 ∧ zBf (zmc M nz) a 1000 (zsum (M0 74) 16) (ztri (zmc M nz) w) (M3 74) nr2) → zW mX10_measures 2 Q (0, 0) zS0 43 [(0, .inr (.inr 56)), (1, .inl a), (2, .inl nz), (3, .inl nr2), (4, .inl w)] [] M3 := by
  intro n
  induction n with
  | zero => intro nr2 w M3 hn; exact absurd hn (Nat.not_lt_zero _)
  | succ n ih =>
    intro nr2 w M3 hn hI
    have lb := zlow_b w
    have lh := zhigh_b w
    have hbw := hR.2.1 w hI.1
    have r57 : M3 57 = M 57 := hI.2.2.1 57 (by decide)
    have hg2 : zGr M3 := hg.of (hI.2.2.1 61 (by decide)) (hI.2.2.1 62 (by decide))
    have bl := hI.2.2.2.2.1 _ lb.1 lb.2
    have bh := hI.2.2.2.2.1 _ lh.1 lh.2
    have hFh : w < 33 → ∀ F : Int → Int, zfe (zmc M nz) a 1000 F → F (zhigh w) ≤ F (zlow w) + zmc M nz w := fun hw F g => (g.2.2 w hI.1 hw).1
    have hFl : w < 33 → ∀ F : Int → Int, zfe (zmc M nz) a 1000 F → F (zlow w) ≤ F (zhigh w) + zmc M nz w := fun hw F g => (g.2.2 w hI.1 hw).2
    refine z_iload 4 (zdec DX10_measures 25 rfl) rfl ?_
    refine z_bipush 33 (zdec DX10_measures 26 rfl) (by decide) ?_
    refine z_icmp_ge 179 (zdec DX10_measures 27 rfl) rfl (fun h47 => ?_) (fun h47 => ?_)
    ·
      refine z_weak (L' := [(0, .inr (.inr 56)), (1, .inl a), (2, .inl nz), (3, .inl nr2)]) (by simp) ?_
      exact hx179 nr2 M3 ⟨hI.2.2.1, (by have e : w = 33 := (by omega); subst e; exact hI.2.2.2)⟩
    ·
      refine z_aload_n 0 (zdec DX10_measures 28 rfl) rfl rfl (by decide) ?_
      refine z_getr (rw1 := -66) (ki := 0) (r' := 57) 56 10 (zdec DX10_measures 29 rfl) rfl rfl shp56 rfl (by decide) rfl rfl fl_SixWallsModel_9 (zPa (hI.2.2.1.P (by decide) hP) 57 rfl) ?_
      refine z_bipush 65 (zdec DX10_measures 30 rfl) (by decide) ?_
      refine z_iload 4 (zdec DX10_measures 31 rfl) rfl ?_
      refine z_iadd (zdec DX10_measures 32 rfl) (by unfold z32; omega) ?_
      refine z_iald 57 (zdec DX10_measures 33 rfl) rfl shp57 ⟨by omega, by omega⟩ ?_
      rw [r57]
      refine z_iconst 1 (zdec DX10_measures 34 rfl) (by decide) ?_
      refine z_icmp_ne 68 (zdec DX10_measures 35 rfl) rfl (fun h61 => ?_) (fun h61 => ?_)
      ·
        refine z_iconst 0 (zdec DX10_measures 38 rfl) (by decide) ?_
        refine z_istore (L' := [(0, .inr (.inr 56)), (1, .inl a), (2, .inl nz), (3, .inl nr2), (4, .inl w), (5, .inl 0)]) (zdec DX10_measures 39 rfl) rfl (by decide) ?_
        refine z_iload_n 2 (zdec DX10_measures 40 rfl) rfl rfl ?_
        refine z_if_eq 101 (zdec DX10_measures 41 rfl) rfl (fun h72 => ?_) (fun h72 => ?_)
        ·
          refine z_iload 5 (zdec DX10_measures 57 rfl) rfl ?_
          refine z_if_eq 110 (zdec DX10_measures 58 rfl) rfl (fun _ => ?_) (fun h => absurd h (by decide))
          refine z_sipush 1000 (zdec DX10_measures 61 rfl) (by decide) ?_
          refine z_istore (L' := [(0, .inr (.inr 56)), (1, .inl a), (2, .inl nz), (3, .inl nr2), (4, .inl w), (5, .inl 0), (6, .inl 1000)]) (zdec DX10_measures 62 rfl) rfl (by decide) ?_
          refine z_iload_n 3 (zdec DX10_measures 63 rfl) rfl rfl ?_
          refine z_aload_n 0 (zdec DX10_measures 64 rfl) rfl rfl (by decide) ?_
          refine z_aload_n 0 (zdec DX10_measures 65 rfl) rfl rfl (by decide) ?_
          refine z_getr (rw1 := -66) (ki := 8) (r' := 62) 56 10 (zdec DX10_measures 66 rfl) rfl rfl shp56 rfl (by decide) rfl rfl fl_SixWallsModel_25 (zPa (hI.2.2.1.P (by decide) hP) 62 rfl) ?_
          refine z_iload 4 (zdec DX10_measures 67 rfl) rfl ?_
          refine z_iald 62 (zdec DX10_measures 68 rfl) rfl shp62 ⟨by omega, by omega⟩ ?_
          rw [(hg2 w hI.1 (by omega)).2]
          refine z_aload_n 0 (zdec DX10_measures 69 rfl) rfl rfl (by decide) ?_
          refine z_getr (rw1 := -66) (ki := 28) (r' := 74) 56 10 (zdec DX10_measures 70 rfl) rfl rfl shp56 rfl (by decide) rfl rfl fl_SixWallsModel_62 (zPa (hI.2.2.1.P (by decide) hP) 74 rfl) ?_
          refine z_aload_n 0 (zdec DX10_measures 71 rfl) rfl rfl (by decide) ?_
          refine z_getr (rw1 := -66) (ki := 7) (r' := 61) 56 10 (zdec DX10_measures 72 rfl) rfl rfl shp56 rfl (by decide) rfl rfl fl_SixWallsModel_22 (zPa (hI.2.2.1.P (by decide) hP) 61 rfl) ?_
          refine z_iload 4 (zdec DX10_measures 73 rfl) rfl ?_
          refine z_iald 61 (zdec DX10_measures 74 rfl) rfl shp61 ⟨by omega, by omega⟩ ?_
          rw [(hg2 w hI.1 (by omega)).1]
          refine z_iald 74 (zdec DX10_measures 75 rfl) rfl shp74 ⟨by omega, by omega⟩ ?_
          refine z_iload 6 (zdec DX10_measures 76 rfl) rfl ?_
          refine z_iadd (zdec DX10_measures 77 rfl) (by unfold z32; omega) ?_
          refine z_inv mX10_comesTo 56 10 [.inl (zhigh w), .inl ((M3 74 (zlow w)) + 1000)] (zdec DX10_measures 78 rfl) ml_SixWallsModel_259 okX10_comesTo rfl shp56 rfl rfl rfl rfl (Nat.le_of_ble_eq_true rfl) (Nat.le_of_ble_eq_true rfl) (b' := (0, 0)) ⟨Nat.le_refl 0, Nat.le_refl 0⟩ (Nat.le_of_ble_eq_true rfl) (cX10_comesTo (hI.2.2.1.P (by decide) hP) (zhigh w) ((M3 74 (zlow w)) + 1000) lh) (fun rv9 S9 M139 h9 => ?_)
          obtain ⟨rfl, r1, rfl, y1, o1⟩ := h9
          have ec : zmc M nz w = 1000 := by unfold zmc; repeat (first | rw [if_pos (by omega)] | rw [if_neg (by omega)])
          have b1 := hI.2.2.2.st lb lh (k := zmc M nz w) (by have := zmc_b (nz := nz) hR ⟨hI.1, (by omega : w < 33)⟩; omega) (hFh (by omega)) (by rw [ec]; exact y1)
          have n1 := b1.nr
          have hg3 : zGr M139 := hg2.of (o1 61 (by decide)) (o1 62 (by decide))
          have bl1 := b1.2.1 _ lb.1 lb.2
          have bh1 := b1.2.1 _ lh.1 lh.2
          change zW _ _ _ _ _ 142 [(0, .inr (.inr 56)), (1, .inl a), (2, .inl nz), (3, .inl nr2), (4, .inl w), (5, .inl 0), (6, .inl 1000)] [.inl r1, .inl nr2] M139
          refine z_ior (zdec DX10_measures 79 rfl) ?_
          refine z_istore_n (L' := [(0, .inr (.inr 56)), (1, .inl a), (2, .inl nz), (3, .inl (zor nr2 r1)), (4, .inl w), (5, .inl 0), (6, .inl 1000)]) (zdec DX10_measures 80 rfl) rfl rfl (by decide) ?_
          refine z_iload_n 3 (zdec DX10_measures 81 rfl) rfl rfl ?_
          refine z_aload_n 0 (zdec DX10_measures 82 rfl) rfl rfl (by decide) ?_
          refine z_aload_n 0 (zdec DX10_measures 83 rfl) rfl rfl (by decide) ?_
          refine z_getr (rw1 := -66) (ki := 7) (r' := 61) 56 10 (zdec DX10_measures 84 rfl) rfl rfl shp56 rfl (by decide) rfl rfl fl_SixWallsModel_22 (zPa (o1.P (by decide) (hI.2.2.1.P (by decide) hP)) 61 rfl) ?_
          refine z_iload 4 (zdec DX10_measures 85 rfl) rfl ?_
          refine z_iald 61 (zdec DX10_measures 86 rfl) rfl shp61 ⟨by omega, by omega⟩ ?_
          rw [(hg3 w hI.1 (by omega)).1]
          refine z_aload_n 0 (zdec DX10_measures 87 rfl) rfl rfl (by decide) ?_
          refine z_getr (rw1 := -66) (ki := 28) (r' := 74) 56 10 (zdec DX10_measures 88 rfl) rfl rfl shp56 rfl (by decide) rfl rfl fl_SixWallsModel_62 (zPa (o1.P (by decide) (hI.2.2.1.P (by decide) hP)) 74 rfl) ?_
          refine z_aload_n 0 (zdec DX10_measures 89 rfl) rfl rfl (by decide) ?_
          refine z_getr (rw1 := -66) (ki := 8) (r' := 62) 56 10 (zdec DX10_measures 90 rfl) rfl rfl shp56 rfl (by decide) rfl rfl fl_SixWallsModel_25 (zPa (o1.P (by decide) (hI.2.2.1.P (by decide) hP)) 62 rfl) ?_
          refine z_iload 4 (zdec DX10_measures 91 rfl) rfl ?_
          refine z_iald 62 (zdec DX10_measures 92 rfl) rfl shp62 ⟨by omega, by omega⟩ ?_
          rw [(hg3 w hI.1 (by omega)).2]
          refine z_iald 74 (zdec DX10_measures 93 rfl) rfl shp74 ⟨by omega, by omega⟩ ?_
          refine z_iload 6 (zdec DX10_measures 94 rfl) rfl ?_
          refine z_iadd (zdec DX10_measures 95 rfl) (by unfold z32; omega) ?_
          refine z_inv mX10_comesTo 56 10 [.inl (zlow w), .inl ((M139 74 (zhigh w)) + 1000)] (zdec DX10_measures 96 rfl) ml_SixWallsModel_259 okX10_comesTo rfl shp56 rfl rfl rfl rfl (Nat.le_of_ble_eq_true rfl) (Nat.le_of_ble_eq_true rfl) (b' := (0, 0)) ⟨Nat.le_refl 0, Nat.le_refl 0⟩ (Nat.le_of_ble_eq_true rfl) (cX10_comesTo (o1.P (by decide) (hI.2.2.1.P (by decide) hP)) (zlow w) ((M139 74 (zhigh w)) + 1000) lb) (fun rv9 S9 M168 h9 => ?_)
          obtain ⟨rfl, r2, rfl, y2, o2⟩ := h9
          have b2 := b1.st lh lb (k := zmc M nz w) (by have := zmc_b (nz := nz) hR ⟨hI.1, (by omega : w < 33)⟩; omega) (hFl (by omega)) (by rw [ec]; exact y2)
          have o3 := (hI.2.2.1.tr o1).tr o2
          change zW _ _ _ _ _ 171 [(0, .inr (.inr 56)), (1, .inl a), (2, .inl nz), (3, .inl (zor nr2 r1)), (4, .inl w), (5, .inl 0), (6, .inl 1000)] [.inl r2, .inl (zor nr2 r1)] M168
          refine z_ior (zdec DX10_measures 97 rfl) ?_
          refine z_istore_n (L' := [(0, .inr (.inr 56)), (1, .inl a), (2, .inl nz), (3, .inl (zor (zor nr2 r1) r2)), (4, .inl w), (5, .inl 0), (6, .inl 1000)]) (zdec DX10_measures 98 rfl) rfl rfl (by decide) ?_
          refine z_iinc (L' := [(0, .inr (.inr 56)), (1, .inl a), (2, .inl nz), (3, .inl (zor (zor nr2 r1) r2)), (4, .inl (w + 1)), (5, .inl 0), (6, .inl 1000)]) 4 (zdec DX10_measures 99 rfl) rfl (by unfold z32; omega) rfl (by decide) ?_
          refine z_goto 43 (zdec DX10_measures 100 rfl) rfl ?_
          refine z_weak (L' := [(0, .inr (.inr 56)), (1, .inl a), (2, .inl nz), (3, .inl (zor (zor nr2 r1) r2)), (4, .inl (w + 1))]) (by simp) ?_
          exact ih (zor (zor nr2 r1) r2) (w + 1) M168 (by omega) ⟨by omega, by omega, o3, b2.im ztri_s⟩
        ·
          refine z_iload 5 (zdec DX10_measures 42 rfl) rfl ?_
          refine z_if_eq 84 (zdec DX10_measures 43 rfl) rfl (fun _ => ?_) (fun h => absurd h (by decide))
          refine z_iconst 3 (zdec DX10_measures 46 rfl) (by decide) ?_
          refine z_iconst 2 (zdec DX10_measures 47 rfl) (by decide) ?_
          refine z_aload_n 0 (zdec DX10_measures 48 rfl) rfl rfl (by decide) ?_
          refine z_getr (rw1 := -66) (ki := 0) (r' := 57) 56 10 (zdec DX10_measures 49 rfl) rfl rfl shp56 rfl (by decide) rfl rfl fl_SixWallsModel_9 (zPa (hI.2.2.1.P (by decide) hP) 57 rfl) ?_
          refine z_bipush 32 (zdec DX10_measures 50 rfl) (by decide) ?_
          refine z_iload 4 (zdec DX10_measures 51 rfl) rfl ?_
          refine z_iadd (zdec DX10_measures 52 rfl) (by unfold z32; omega) ?_
          refine z_iald 57 (zdec DX10_measures 53 rfl) rfl shp57 ⟨by omega, by omega⟩ ?_
          rw [r57]
          refine z_imul (zdec DX10_measures 54 rfl) (by unfold z32; omega) ?_
          refine z_iadd (zdec DX10_measures 55 rfl) (by unfold z32; omega) ?_
          refine z_goto 113 (zdec DX10_measures 56 rfl) rfl ?_
          refine z_istore (L' := [(0, .inr (.inr 56)), (1, .inl a), (2, .inl nz), (3, .inl nr2), (4, .inl w), (5, .inl 0), (6, .inl (3 + (2 * (M 57 (32 + w)))))]) (zdec DX10_measures 62 rfl) rfl (by decide) ?_
          refine z_iload_n 3 (zdec DX10_measures 63 rfl) rfl rfl ?_
          refine z_aload_n 0 (zdec DX10_measures 64 rfl) rfl rfl (by decide) ?_
          refine z_aload_n 0 (zdec DX10_measures 65 rfl) rfl rfl (by decide) ?_
          refine z_getr (rw1 := -66) (ki := 8) (r' := 62) 56 10 (zdec DX10_measures 66 rfl) rfl rfl shp56 rfl (by decide) rfl rfl fl_SixWallsModel_25 (zPa (hI.2.2.1.P (by decide) hP) 62 rfl) ?_
          refine z_iload 4 (zdec DX10_measures 67 rfl) rfl ?_
          refine z_iald 62 (zdec DX10_measures 68 rfl) rfl shp62 ⟨by omega, by omega⟩ ?_
          rw [(hg2 w hI.1 (by omega)).2]
          refine z_aload_n 0 (zdec DX10_measures 69 rfl) rfl rfl (by decide) ?_
          refine z_getr (rw1 := -66) (ki := 28) (r' := 74) 56 10 (zdec DX10_measures 70 rfl) rfl rfl shp56 rfl (by decide) rfl rfl fl_SixWallsModel_62 (zPa (hI.2.2.1.P (by decide) hP) 74 rfl) ?_
          refine z_aload_n 0 (zdec DX10_measures 71 rfl) rfl rfl (by decide) ?_
          refine z_getr (rw1 := -66) (ki := 7) (r' := 61) 56 10 (zdec DX10_measures 72 rfl) rfl rfl shp56 rfl (by decide) rfl rfl fl_SixWallsModel_22 (zPa (hI.2.2.1.P (by decide) hP) 61 rfl) ?_
          refine z_iload 4 (zdec DX10_measures 73 rfl) rfl ?_
          refine z_iald 61 (zdec DX10_measures 74 rfl) rfl shp61 ⟨by omega, by omega⟩ ?_
          rw [(hg2 w hI.1 (by omega)).1]
          refine z_iald 74 (zdec DX10_measures 75 rfl) rfl shp74 ⟨by omega, by omega⟩ ?_
          refine z_iload 6 (zdec DX10_measures 76 rfl) rfl ?_
          refine z_iadd (zdec DX10_measures 77 rfl) (by unfold z32; omega) ?_
          refine z_inv mX10_comesTo 56 10 [.inl (zhigh w), .inl ((M3 74 (zlow w)) + (3 + (2 * (M 57 (32 + w)))))] (zdec DX10_measures 78 rfl) ml_SixWallsModel_259 okX10_comesTo rfl shp56 rfl rfl rfl rfl (Nat.le_of_ble_eq_true rfl) (Nat.le_of_ble_eq_true rfl) (b' := (0, 0)) ⟨Nat.le_refl 0, Nat.le_refl 0⟩ (Nat.le_of_ble_eq_true rfl) (cX10_comesTo (hI.2.2.1.P (by decide) hP) (zhigh w) ((M3 74 (zlow w)) + (3 + (2 * (M 57 (32 + w))))) lh) (fun rv9 S9 M139 h9 => ?_)
          obtain ⟨rfl, r1, rfl, y1, o1⟩ := h9
          have ec : zmc M nz w = (3 + (2 * (M 57 (32 + w)))) := by unfold zmc; repeat (first | rw [if_pos (by omega)] | rw [if_neg (by omega)])
          have b1 := hI.2.2.2.st lb lh (k := zmc M nz w) (by have := zmc_b (nz := nz) hR ⟨hI.1, (by omega : w < 33)⟩; omega) (hFh (by omega)) (by rw [ec]; exact y1)
          have n1 := b1.nr
          have hg3 : zGr M139 := hg2.of (o1 61 (by decide)) (o1 62 (by decide))
          have bl1 := b1.2.1 _ lb.1 lb.2
          have bh1 := b1.2.1 _ lh.1 lh.2
          change zW _ _ _ _ _ 142 [(0, .inr (.inr 56)), (1, .inl a), (2, .inl nz), (3, .inl nr2), (4, .inl w), (5, .inl 0), (6, .inl (3 + (2 * (M 57 (32 + w)))))] [.inl r1, .inl nr2] M139
          refine z_ior (zdec DX10_measures 79 rfl) ?_
          refine z_istore_n (L' := [(0, .inr (.inr 56)), (1, .inl a), (2, .inl nz), (3, .inl (zor nr2 r1)), (4, .inl w), (5, .inl 0), (6, .inl (3 + (2 * (M 57 (32 + w)))))]) (zdec DX10_measures 80 rfl) rfl rfl (by decide) ?_
          refine z_iload_n 3 (zdec DX10_measures 81 rfl) rfl rfl ?_
          refine z_aload_n 0 (zdec DX10_measures 82 rfl) rfl rfl (by decide) ?_
          refine z_aload_n 0 (zdec DX10_measures 83 rfl) rfl rfl (by decide) ?_
          refine z_getr (rw1 := -66) (ki := 7) (r' := 61) 56 10 (zdec DX10_measures 84 rfl) rfl rfl shp56 rfl (by decide) rfl rfl fl_SixWallsModel_22 (zPa (o1.P (by decide) (hI.2.2.1.P (by decide) hP)) 61 rfl) ?_
          refine z_iload 4 (zdec DX10_measures 85 rfl) rfl ?_
          refine z_iald 61 (zdec DX10_measures 86 rfl) rfl shp61 ⟨by omega, by omega⟩ ?_
          rw [(hg3 w hI.1 (by omega)).1]
          refine z_aload_n 0 (zdec DX10_measures 87 rfl) rfl rfl (by decide) ?_
          refine z_getr (rw1 := -66) (ki := 28) (r' := 74) 56 10 (zdec DX10_measures 88 rfl) rfl rfl shp56 rfl (by decide) rfl rfl fl_SixWallsModel_62 (zPa (o1.P (by decide) (hI.2.2.1.P (by decide) hP)) 74 rfl) ?_
          refine z_aload_n 0 (zdec DX10_measures 89 rfl) rfl rfl (by decide) ?_
          refine z_getr (rw1 := -66) (ki := 8) (r' := 62) 56 10 (zdec DX10_measures 90 rfl) rfl rfl shp56 rfl (by decide) rfl rfl fl_SixWallsModel_25 (zPa (o1.P (by decide) (hI.2.2.1.P (by decide) hP)) 62 rfl) ?_
          refine z_iload 4 (zdec DX10_measures 91 rfl) rfl ?_
          refine z_iald 62 (zdec DX10_measures 92 rfl) rfl shp62 ⟨by omega, by omega⟩ ?_
          rw [(hg3 w hI.1 (by omega)).2]
          refine z_iald 74 (zdec DX10_measures 93 rfl) rfl shp74 ⟨by omega, by omega⟩ ?_
          refine z_iload 6 (zdec DX10_measures 94 rfl) rfl ?_
          refine z_iadd (zdec DX10_measures 95 rfl) (by unfold z32; omega) ?_
          refine z_inv mX10_comesTo 56 10 [.inl (zlow w), .inl ((M139 74 (zhigh w)) + (3 + (2 * (M 57 (32 + w)))))] (zdec DX10_measures 96 rfl) ml_SixWallsModel_259 okX10_comesTo rfl shp56 rfl rfl rfl rfl (Nat.le_of_ble_eq_true rfl) (Nat.le_of_ble_eq_true rfl) (b' := (0, 0)) ⟨Nat.le_refl 0, Nat.le_refl 0⟩ (Nat.le_of_ble_eq_true rfl) (cX10_comesTo (o1.P (by decide) (hI.2.2.1.P (by decide) hP)) (zlow w) ((M139 74 (zhigh w)) + (3 + (2 * (M 57 (32 + w))))) lb) (fun rv9 S9 M168 h9 => ?_)
          obtain ⟨rfl, r2, rfl, y2, o2⟩ := h9
          have b2 := b1.st lh lb (k := zmc M nz w) (by have := zmc_b (nz := nz) hR ⟨hI.1, (by omega : w < 33)⟩; omega) (hFl (by omega)) (by rw [ec]; exact y2)
          have o3 := (hI.2.2.1.tr o1).tr o2
          change zW _ _ _ _ _ 171 [(0, .inr (.inr 56)), (1, .inl a), (2, .inl nz), (3, .inl (zor nr2 r1)), (4, .inl w), (5, .inl 0), (6, .inl (3 + (2 * (M 57 (32 + w)))))] [.inl r2, .inl (zor nr2 r1)] M168
          refine z_ior (zdec DX10_measures 97 rfl) ?_
          refine z_istore_n (L' := [(0, .inr (.inr 56)), (1, .inl a), (2, .inl nz), (3, .inl (zor (zor nr2 r1) r2)), (4, .inl w), (5, .inl 0), (6, .inl (3 + (2 * (M 57 (32 + w)))))]) (zdec DX10_measures 98 rfl) rfl rfl (by decide) ?_
          refine z_iinc (L' := [(0, .inr (.inr 56)), (1, .inl a), (2, .inl nz), (3, .inl (zor (zor nr2 r1) r2)), (4, .inl (w + 1)), (5, .inl 0), (6, .inl (3 + (2 * (M 57 (32 + w)))))]) 4 (zdec DX10_measures 99 rfl) rfl (by unfold z32; omega) rfl (by decide) ?_
          refine z_goto 43 (zdec DX10_measures 100 rfl) rfl ?_
          refine z_weak (L' := [(0, .inr (.inr 56)), (1, .inl a), (2, .inl nz), (3, .inl (zor (zor nr2 r1) r2)), (4, .inl (w + 1))]) (by simp) ?_
          exact ih (zor (zor nr2 r1) r2) (w + 1) M168 (by omega) ⟨by omega, by omega, o3, b2.im ztri_s⟩
      ·
        refine z_iconst 1 (zdec DX10_measures 36 rfl) (by decide) ?_
        refine z_goto 69 (zdec DX10_measures 37 rfl) rfl ?_
        refine z_istore (L' := [(0, .inr (.inr 56)), (1, .inl a), (2, .inl nz), (3, .inl nr2), (4, .inl w), (5, .inl 1)]) (zdec DX10_measures 39 rfl) rfl (by decide) ?_
        refine z_iload_n 2 (zdec DX10_measures 40 rfl) rfl rfl ?_
        refine z_if_eq 101 (zdec DX10_measures 41 rfl) rfl (fun h72 => ?_) (fun h72 => ?_)
        ·
          refine z_iload 5 (zdec DX10_measures 57 rfl) rfl ?_
          refine z_if_eq 110 (zdec DX10_measures 58 rfl) rfl (fun h => absurd h (by decide)) (fun _ => ?_)
          refine z_iconst 1 (zdec DX10_measures 59 rfl) (by decide) ?_
          refine z_goto 113 (zdec DX10_measures 60 rfl) rfl ?_
          refine z_istore (L' := [(0, .inr (.inr 56)), (1, .inl a), (2, .inl nz), (3, .inl nr2), (4, .inl w), (5, .inl 1), (6, .inl 1)]) (zdec DX10_measures 62 rfl) rfl (by decide) ?_
          refine z_iload_n 3 (zdec DX10_measures 63 rfl) rfl rfl ?_
          refine z_aload_n 0 (zdec DX10_measures 64 rfl) rfl rfl (by decide) ?_
          refine z_aload_n 0 (zdec DX10_measures 65 rfl) rfl rfl (by decide) ?_
          refine z_getr (rw1 := -66) (ki := 8) (r' := 62) 56 10 (zdec DX10_measures 66 rfl) rfl rfl shp56 rfl (by decide) rfl rfl fl_SixWallsModel_25 (zPa (hI.2.2.1.P (by decide) hP) 62 rfl) ?_
          refine z_iload 4 (zdec DX10_measures 67 rfl) rfl ?_
          refine z_iald 62 (zdec DX10_measures 68 rfl) rfl shp62 ⟨by omega, by omega⟩ ?_
          rw [(hg2 w hI.1 (by omega)).2]
          refine z_aload_n 0 (zdec DX10_measures 69 rfl) rfl rfl (by decide) ?_
          refine z_getr (rw1 := -66) (ki := 28) (r' := 74) 56 10 (zdec DX10_measures 70 rfl) rfl rfl shp56 rfl (by decide) rfl rfl fl_SixWallsModel_62 (zPa (hI.2.2.1.P (by decide) hP) 74 rfl) ?_
          refine z_aload_n 0 (zdec DX10_measures 71 rfl) rfl rfl (by decide) ?_
          refine z_getr (rw1 := -66) (ki := 7) (r' := 61) 56 10 (zdec DX10_measures 72 rfl) rfl rfl shp56 rfl (by decide) rfl rfl fl_SixWallsModel_22 (zPa (hI.2.2.1.P (by decide) hP) 61 rfl) ?_
          refine z_iload 4 (zdec DX10_measures 73 rfl) rfl ?_
          refine z_iald 61 (zdec DX10_measures 74 rfl) rfl shp61 ⟨by omega, by omega⟩ ?_
          rw [(hg2 w hI.1 (by omega)).1]
          refine z_iald 74 (zdec DX10_measures 75 rfl) rfl shp74 ⟨by omega, by omega⟩ ?_
          refine z_iload 6 (zdec DX10_measures 76 rfl) rfl ?_
          refine z_iadd (zdec DX10_measures 77 rfl) (by unfold z32; omega) ?_
          refine z_inv mX10_comesTo 56 10 [.inl (zhigh w), .inl ((M3 74 (zlow w)) + 1)] (zdec DX10_measures 78 rfl) ml_SixWallsModel_259 okX10_comesTo rfl shp56 rfl rfl rfl rfl (Nat.le_of_ble_eq_true rfl) (Nat.le_of_ble_eq_true rfl) (b' := (0, 0)) ⟨Nat.le_refl 0, Nat.le_refl 0⟩ (Nat.le_of_ble_eq_true rfl) (cX10_comesTo (hI.2.2.1.P (by decide) hP) (zhigh w) ((M3 74 (zlow w)) + 1) lh) (fun rv9 S9 M139 h9 => ?_)
          obtain ⟨rfl, r1, rfl, y1, o1⟩ := h9
          have ec : zmc M nz w = 1 := by unfold zmc; repeat (first | rw [if_pos (by omega)] | rw [if_neg (by omega)])
          have b1 := hI.2.2.2.st lb lh (k := zmc M nz w) (by have := zmc_b (nz := nz) hR ⟨hI.1, (by omega : w < 33)⟩; omega) (hFh (by omega)) (by rw [ec]; exact y1)
          have n1 := b1.nr
          have hg3 : zGr M139 := hg2.of (o1 61 (by decide)) (o1 62 (by decide))
          have bl1 := b1.2.1 _ lb.1 lb.2
          have bh1 := b1.2.1 _ lh.1 lh.2
          change zW _ _ _ _ _ 142 [(0, .inr (.inr 56)), (1, .inl a), (2, .inl nz), (3, .inl nr2), (4, .inl w), (5, .inl 1), (6, .inl 1)] [.inl r1, .inl nr2] M139
          refine z_ior (zdec DX10_measures 79 rfl) ?_
          refine z_istore_n (L' := [(0, .inr (.inr 56)), (1, .inl a), (2, .inl nz), (3, .inl (zor nr2 r1)), (4, .inl w), (5, .inl 1), (6, .inl 1)]) (zdec DX10_measures 80 rfl) rfl rfl (by decide) ?_
          refine z_iload_n 3 (zdec DX10_measures 81 rfl) rfl rfl ?_
          refine z_aload_n 0 (zdec DX10_measures 82 rfl) rfl rfl (by decide) ?_
          refine z_aload_n 0 (zdec DX10_measures 83 rfl) rfl rfl (by decide) ?_
          refine z_getr (rw1 := -66) (ki := 7) (r' := 61) 56 10 (zdec DX10_measures 84 rfl) rfl rfl shp56 rfl (by decide) rfl rfl fl_SixWallsModel_22 (zPa (o1.P (by decide) (hI.2.2.1.P (by decide) hP)) 61 rfl) ?_
          refine z_iload 4 (zdec DX10_measures 85 rfl) rfl ?_
          refine z_iald 61 (zdec DX10_measures 86 rfl) rfl shp61 ⟨by omega, by omega⟩ ?_
          rw [(hg3 w hI.1 (by omega)).1]
          refine z_aload_n 0 (zdec DX10_measures 87 rfl) rfl rfl (by decide) ?_
          refine z_getr (rw1 := -66) (ki := 28) (r' := 74) 56 10 (zdec DX10_measures 88 rfl) rfl rfl shp56 rfl (by decide) rfl rfl fl_SixWallsModel_62 (zPa (o1.P (by decide) (hI.2.2.1.P (by decide) hP)) 74 rfl) ?_
          refine z_aload_n 0 (zdec DX10_measures 89 rfl) rfl rfl (by decide) ?_
          refine z_getr (rw1 := -66) (ki := 8) (r' := 62) 56 10 (zdec DX10_measures 90 rfl) rfl rfl shp56 rfl (by decide) rfl rfl fl_SixWallsModel_25 (zPa (o1.P (by decide) (hI.2.2.1.P (by decide) hP)) 62 rfl) ?_
          refine z_iload 4 (zdec DX10_measures 91 rfl) rfl ?_
          refine z_iald 62 (zdec DX10_measures 92 rfl) rfl shp62 ⟨by omega, by omega⟩ ?_
          rw [(hg3 w hI.1 (by omega)).2]
          refine z_iald 74 (zdec DX10_measures 93 rfl) rfl shp74 ⟨by omega, by omega⟩ ?_
          refine z_iload 6 (zdec DX10_measures 94 rfl) rfl ?_
          refine z_iadd (zdec DX10_measures 95 rfl) (by unfold z32; omega) ?_
          refine z_inv mX10_comesTo 56 10 [.inl (zlow w), .inl ((M139 74 (zhigh w)) + 1)] (zdec DX10_measures 96 rfl) ml_SixWallsModel_259 okX10_comesTo rfl shp56 rfl rfl rfl rfl (Nat.le_of_ble_eq_true rfl) (Nat.le_of_ble_eq_true rfl) (b' := (0, 0)) ⟨Nat.le_refl 0, Nat.le_refl 0⟩ (Nat.le_of_ble_eq_true rfl) (cX10_comesTo (o1.P (by decide) (hI.2.2.1.P (by decide) hP)) (zlow w) ((M139 74 (zhigh w)) + 1) lb) (fun rv9 S9 M168 h9 => ?_)
          obtain ⟨rfl, r2, rfl, y2, o2⟩ := h9
          have b2 := b1.st lh lb (k := zmc M nz w) (by have := zmc_b (nz := nz) hR ⟨hI.1, (by omega : w < 33)⟩; omega) (hFl (by omega)) (by rw [ec]; exact y2)
          have o3 := (hI.2.2.1.tr o1).tr o2
          change zW _ _ _ _ _ 171 [(0, .inr (.inr 56)), (1, .inl a), (2, .inl nz), (3, .inl (zor nr2 r1)), (4, .inl w), (5, .inl 1), (6, .inl 1)] [.inl r2, .inl (zor nr2 r1)] M168
          refine z_ior (zdec DX10_measures 97 rfl) ?_
          refine z_istore_n (L' := [(0, .inr (.inr 56)), (1, .inl a), (2, .inl nz), (3, .inl (zor (zor nr2 r1) r2)), (4, .inl w), (5, .inl 1), (6, .inl 1)]) (zdec DX10_measures 98 rfl) rfl rfl (by decide) ?_
          refine z_iinc (L' := [(0, .inr (.inr 56)), (1, .inl a), (2, .inl nz), (3, .inl (zor (zor nr2 r1) r2)), (4, .inl (w + 1)), (5, .inl 1), (6, .inl 1)]) 4 (zdec DX10_measures 99 rfl) rfl (by unfold z32; omega) rfl (by decide) ?_
          refine z_goto 43 (zdec DX10_measures 100 rfl) rfl ?_
          refine z_weak (L' := [(0, .inr (.inr 56)), (1, .inl a), (2, .inl nz), (3, .inl (zor (zor nr2 r1) r2)), (4, .inl (w + 1))]) (by simp) ?_
          exact ih (zor (zor nr2 r1) r2) (w + 1) M168 (by omega) ⟨by omega, by omega, o3, b2.im ztri_s⟩
        ·
          refine z_iload 5 (zdec DX10_measures 42 rfl) rfl ?_
          refine z_if_eq 84 (zdec DX10_measures 43 rfl) rfl (fun h => absurd h (by decide)) (fun _ => ?_)
          refine z_iconst 3 (zdec DX10_measures 44 rfl) (by decide) ?_
          refine z_goto 113 (zdec DX10_measures 45 rfl) rfl ?_
          refine z_istore (L' := [(0, .inr (.inr 56)), (1, .inl a), (2, .inl nz), (3, .inl nr2), (4, .inl w), (5, .inl 1), (6, .inl 3)]) (zdec DX10_measures 62 rfl) rfl (by decide) ?_
          refine z_iload_n 3 (zdec DX10_measures 63 rfl) rfl rfl ?_
          refine z_aload_n 0 (zdec DX10_measures 64 rfl) rfl rfl (by decide) ?_
          refine z_aload_n 0 (zdec DX10_measures 65 rfl) rfl rfl (by decide) ?_
          refine z_getr (rw1 := -66) (ki := 8) (r' := 62) 56 10 (zdec DX10_measures 66 rfl) rfl rfl shp56 rfl (by decide) rfl rfl fl_SixWallsModel_25 (zPa (hI.2.2.1.P (by decide) hP) 62 rfl) ?_
          refine z_iload 4 (zdec DX10_measures 67 rfl) rfl ?_
          refine z_iald 62 (zdec DX10_measures 68 rfl) rfl shp62 ⟨by omega, by omega⟩ ?_
          rw [(hg2 w hI.1 (by omega)).2]
          refine z_aload_n 0 (zdec DX10_measures 69 rfl) rfl rfl (by decide) ?_
          refine z_getr (rw1 := -66) (ki := 28) (r' := 74) 56 10 (zdec DX10_measures 70 rfl) rfl rfl shp56 rfl (by decide) rfl rfl fl_SixWallsModel_62 (zPa (hI.2.2.1.P (by decide) hP) 74 rfl) ?_
          refine z_aload_n 0 (zdec DX10_measures 71 rfl) rfl rfl (by decide) ?_
          refine z_getr (rw1 := -66) (ki := 7) (r' := 61) 56 10 (zdec DX10_measures 72 rfl) rfl rfl shp56 rfl (by decide) rfl rfl fl_SixWallsModel_22 (zPa (hI.2.2.1.P (by decide) hP) 61 rfl) ?_
          refine z_iload 4 (zdec DX10_measures 73 rfl) rfl ?_
          refine z_iald 61 (zdec DX10_measures 74 rfl) rfl shp61 ⟨by omega, by omega⟩ ?_
          rw [(hg2 w hI.1 (by omega)).1]
          refine z_iald 74 (zdec DX10_measures 75 rfl) rfl shp74 ⟨by omega, by omega⟩ ?_
          refine z_iload 6 (zdec DX10_measures 76 rfl) rfl ?_
          refine z_iadd (zdec DX10_measures 77 rfl) (by unfold z32; omega) ?_
          refine z_inv mX10_comesTo 56 10 [.inl (zhigh w), .inl ((M3 74 (zlow w)) + 3)] (zdec DX10_measures 78 rfl) ml_SixWallsModel_259 okX10_comesTo rfl shp56 rfl rfl rfl rfl (Nat.le_of_ble_eq_true rfl) (Nat.le_of_ble_eq_true rfl) (b' := (0, 0)) ⟨Nat.le_refl 0, Nat.le_refl 0⟩ (Nat.le_of_ble_eq_true rfl) (cX10_comesTo (hI.2.2.1.P (by decide) hP) (zhigh w) ((M3 74 (zlow w)) + 3) lh) (fun rv9 S9 M139 h9 => ?_)
          obtain ⟨rfl, r1, rfl, y1, o1⟩ := h9
          have ec : zmc M nz w = 3 := by unfold zmc; repeat (first | rw [if_pos (by omega)] | rw [if_neg (by omega)])
          have b1 := hI.2.2.2.st lb lh (k := zmc M nz w) (by have := zmc_b (nz := nz) hR ⟨hI.1, (by omega : w < 33)⟩; omega) (hFh (by omega)) (by rw [ec]; exact y1)
          have n1 := b1.nr
          have hg3 : zGr M139 := hg2.of (o1 61 (by decide)) (o1 62 (by decide))
          have bl1 := b1.2.1 _ lb.1 lb.2
          have bh1 := b1.2.1 _ lh.1 lh.2
          change zW _ _ _ _ _ 142 [(0, .inr (.inr 56)), (1, .inl a), (2, .inl nz), (3, .inl nr2), (4, .inl w), (5, .inl 1), (6, .inl 3)] [.inl r1, .inl nr2] M139
          refine z_ior (zdec DX10_measures 79 rfl) ?_
          refine z_istore_n (L' := [(0, .inr (.inr 56)), (1, .inl a), (2, .inl nz), (3, .inl (zor nr2 r1)), (4, .inl w), (5, .inl 1), (6, .inl 3)]) (zdec DX10_measures 80 rfl) rfl rfl (by decide) ?_
          refine z_iload_n 3 (zdec DX10_measures 81 rfl) rfl rfl ?_
          refine z_aload_n 0 (zdec DX10_measures 82 rfl) rfl rfl (by decide) ?_
          refine z_aload_n 0 (zdec DX10_measures 83 rfl) rfl rfl (by decide) ?_
          refine z_getr (rw1 := -66) (ki := 7) (r' := 61) 56 10 (zdec DX10_measures 84 rfl) rfl rfl shp56 rfl (by decide) rfl rfl fl_SixWallsModel_22 (zPa (o1.P (by decide) (hI.2.2.1.P (by decide) hP)) 61 rfl) ?_
          refine z_iload 4 (zdec DX10_measures 85 rfl) rfl ?_
          refine z_iald 61 (zdec DX10_measures 86 rfl) rfl shp61 ⟨by omega, by omega⟩ ?_
          rw [(hg3 w hI.1 (by omega)).1]
          refine z_aload_n 0 (zdec DX10_measures 87 rfl) rfl rfl (by decide) ?_
          refine z_getr (rw1 := -66) (ki := 28) (r' := 74) 56 10 (zdec DX10_measures 88 rfl) rfl rfl shp56 rfl (by decide) rfl rfl fl_SixWallsModel_62 (zPa (o1.P (by decide) (hI.2.2.1.P (by decide) hP)) 74 rfl) ?_
          refine z_aload_n 0 (zdec DX10_measures 89 rfl) rfl rfl (by decide) ?_
          refine z_getr (rw1 := -66) (ki := 8) (r' := 62) 56 10 (zdec DX10_measures 90 rfl) rfl rfl shp56 rfl (by decide) rfl rfl fl_SixWallsModel_25 (zPa (o1.P (by decide) (hI.2.2.1.P (by decide) hP)) 62 rfl) ?_
          refine z_iload 4 (zdec DX10_measures 91 rfl) rfl ?_
          refine z_iald 62 (zdec DX10_measures 92 rfl) rfl shp62 ⟨by omega, by omega⟩ ?_
          rw [(hg3 w hI.1 (by omega)).2]
          refine z_iald 74 (zdec DX10_measures 93 rfl) rfl shp74 ⟨by omega, by omega⟩ ?_
          refine z_iload 6 (zdec DX10_measures 94 rfl) rfl ?_
          refine z_iadd (zdec DX10_measures 95 rfl) (by unfold z32; omega) ?_
          refine z_inv mX10_comesTo 56 10 [.inl (zlow w), .inl ((M139 74 (zhigh w)) + 3)] (zdec DX10_measures 96 rfl) ml_SixWallsModel_259 okX10_comesTo rfl shp56 rfl rfl rfl rfl (Nat.le_of_ble_eq_true rfl) (Nat.le_of_ble_eq_true rfl) (b' := (0, 0)) ⟨Nat.le_refl 0, Nat.le_refl 0⟩ (Nat.le_of_ble_eq_true rfl) (cX10_comesTo (o1.P (by decide) (hI.2.2.1.P (by decide) hP)) (zlow w) ((M139 74 (zhigh w)) + 3) lb) (fun rv9 S9 M168 h9 => ?_)
          obtain ⟨rfl, r2, rfl, y2, o2⟩ := h9
          have b2 := b1.st lh lb (k := zmc M nz w) (by have := zmc_b (nz := nz) hR ⟨hI.1, (by omega : w < 33)⟩; omega) (hFl (by omega)) (by rw [ec]; exact y2)
          have o3 := (hI.2.2.1.tr o1).tr o2
          change zW _ _ _ _ _ 171 [(0, .inr (.inr 56)), (1, .inl a), (2, .inl nz), (3, .inl (zor nr2 r1)), (4, .inl w), (5, .inl 1), (6, .inl 3)] [.inl r2, .inl (zor nr2 r1)] M168
          refine z_ior (zdec DX10_measures 97 rfl) ?_
          refine z_istore_n (L' := [(0, .inr (.inr 56)), (1, .inl a), (2, .inl nz), (3, .inl (zor (zor nr2 r1) r2)), (4, .inl w), (5, .inl 1), (6, .inl 3)]) (zdec DX10_measures 98 rfl) rfl rfl (by decide) ?_
          refine z_iinc (L' := [(0, .inr (.inr 56)), (1, .inl a), (2, .inl nz), (3, .inl (zor (zor nr2 r1) r2)), (4, .inl (w + 1)), (5, .inl 1), (6, .inl 3)]) 4 (zdec DX10_measures 99 rfl) rfl (by unfold z32; omega) rfl (by decide) ?_
          refine z_goto 43 (zdec DX10_measures 100 rfl) rfl ?_
          refine z_weak (L' := [(0, .inr (.inr 56)), (1, .inl a), (2, .inl nz), (3, .inl (zor (zor nr2 r1) r2)), (4, .inl (w + 1))]) (by simp) ?_
          exact ih (zor (zor nr2 r1) r2) (w + 1) M168 (by omega) ⟨by omega, by omega, o3, b2.im ztri_s⟩
set_option maxHeartbeats 4000000 in
theorem lp_X10_measures_34 {Q : zPost} {M : zMm} (hP : zP M) (hg : zGr M) (hR : zRr M) (a nz : Int) (ha : 0 ≤ a ∧ a < 16) (hx182 : ∀ (M2 : zMm), (zonly 74 M M2 ∧ zgf (zmc M nz) a 1000 (M2 74)) → zW mX10_measures 2 Q (0, 0) zS0 182 [] [] M2) : ∀ (n : Nat) (nr : Int) (M2 : zMm), (zsum (M2 74) 16 + nr).toNat < n → (zonly 74 M M2 ∧ ∃ S0, zBf (zmc M nz) a 1000 S0 (ztri (zmc M nz) 33) (M2 74) nr) → zW mX10_measures 2 Q (0, 0) zS0 34 [(0, .inr (.inr 56)), (1, .inl a), (2, .inl nz), (3, .inl nr)] [] M2 := by
  intro n
  induction n with
  | zero => intro nr M2 hn; exact absurd hn (Nat.not_lt_zero _)
  | succ n ih =>
    intro nr M2 hn hI
    obtain ⟨S0, hB⟩ := hI.2
    have hn := hB.nr
    have hs := zsum_nn (f := M2 74) (n := 16) fun i h0 h1 => (hB.2.1 i h0 h1).1
    refine z_iload_n 3 (zdec DX10_measures 19 rfl) rfl rfl ?_
    refine z_if_eq 182 (zdec DX10_measures 20 rfl) rfl (fun h35 => ?_) (fun h35 => ?_)
    ·
      refine z_weak (L' := []) (by simp) ?_
      exact hx182 M2 ⟨hI.1, ⟨hB.2.2.1, fun i h0 h1 => (hB.2.1 i h0 h1).2, (by rcases hB.2.2.2 with ⟨q, _⟩ | ⟨_, _, q⟩; omega; exact q)⟩, hB.1⟩
    ·
      refine z_iconst 0 (zdec DX10_measures 21 rfl) (by decide) ?_
      refine z_istore_n (L' := [(0, .inr (.inr 56)), (1, .inl a), (2, .inl nz), (3, .inl 0)]) (zdec DX10_measures 22 rfl) rfl rfl (by decide) ?_
      refine z_iconst 0 (zdec DX10_measures 23 rfl) (by decide) ?_
      refine z_istore (L' := [(0, .inr (.inr 56)), (1, .inl a), (2, .inl nz), (3, .inl 0), (4, .inl 0)]) (zdec DX10_measures 24 rfl) rfl (by decide) ?_
      refine lp_X10_measures_43 hP hg hR a nz ha M2 (hx179 := fun nr2 M3 hy => ?_) _ 0 0 M2 (Nat.lt_succ_self _) ⟨by omega, by omega, hI.1, hB.1, hB.2.1, hB.2.2.1, Or.inr ⟨rfl, rfl, fun v h0 h1 => by omega⟩⟩
      have hq := hy.2.2.2.2
      refine z_goto 34 (zdec DX10_measures 101 rfl) rfl ?_
      exact ih nr2 M3 (by omega) ⟨hy.1, _, hy.2⟩
set_option maxHeartbeats 4000000 in
theorem lp_X10_measures_2 {Q : zPost} {M : zMm} (hP : zP M) (hg : zGr M) (hR : zRr M) (a nz : Int) (ha : 0 ≤ a ∧ a < 16) (hx32 : ∀ (M2 : zMm), (zonly 74 M M2 ∧ zBf (zmc M nz) a 1000 (zsum (M2 74) 16 + 1) (ztri (zmc M nz) 33) (M2 74) 1) → zW mX10_measures 2 Q (0, 0) zS0 32 [(0, .inr (.inr 56)), (1, .inl a), (2, .inl nz)] [] M2) : ∀ (n : Nat) (h : Int) (M2 : zMm), (16 - h).toNat < n → (0 ≤ h ∧ h ≤ 16 ∧ zonly 74 M M2 ∧ ∀ k : Int, 0 ≤ k → k < h → M2 74 k = if k = a then 0 else 1000) → zW mX10_measures 2 Q (0, 0) zS0 2 [(0, .inr (.inr 56)), (1, .inl a), (2, .inl nz), (3, .inl h)] [] M2 := by
  intro n
  induction n with
  | zero => intro h M2 hn; exact absurd hn (Nat.not_lt_zero _)
  | succ n ih =>
    intro h M2 hn hI
    refine z_iload_n 3 (zdec DX10_measures 2 rfl) rfl rfl ?_
    refine z_bipush 16 (zdec DX10_measures 3 rfl) (by decide) ?_
    refine z_icmp_ge 32 (zdec DX10_measures 4 rfl) rfl (fun h5 => ?_) (fun h5 => ?_)
    ·
      refine z_weak (L' := [(0, .inr (.inr 56)), (1, .inl a), (2, .inl nz)]) (by simp) ?_
      exact hx32 M2 ⟨hI.2.2.1, (fun F g i h0 h1 => by rw [hI.2.2.2 i h0 (by omega)]; split; (rename_i e; rw [e]; exact g.1); exact g.2.1 i h0 h1), (fun i h0 h1 => by rw [hI.2.2.2 i h0 (by omega)]; split <;> omega), (by rw [hI.2.2.2 a ha.1 (by omega), if_pos rfl]; omega), Or.inl ⟨rfl, by omega⟩⟩
    ·
      refine z_aload_n 0 (zdec DX10_measures 5 rfl) rfl rfl (by decide) ?_
      refine z_getr (rw1 := -66) (ki := 28) (r' := 74) 56 10 (zdec DX10_measures 6 rfl) rfl rfl shp56 rfl (by decide) rfl rfl fl_SixWallsModel_62 (zPa (hI.2.2.1.P (by decide) hP) 74 rfl) ?_
      refine z_iload_n 3 (zdec DX10_measures 7 rfl) rfl rfl ?_
      refine z_iload_n 3 (zdec DX10_measures 8 rfl) rfl rfl ?_
      refine z_iload_n 1 (zdec DX10_measures 9 rfl) rfl rfl ?_
      refine z_icmp_ne 22 (zdec DX10_measures 10 rfl) rfl (fun h15 => ?_) (fun h15 => ?_)
      ·
        refine z_sipush 1000 (zdec DX10_measures 13 rfl) (by decide) ?_
        refine z_iast 74 (zdec DX10_measures 14 rfl) rfl shp74 ⟨by omega, by omega⟩ ?_
        refine z_iinc (L' := [(0, .inr (.inr 56)), (1, .inl a), (2, .inl nz), (3, .inl (h + 1))]) 3 (zdec DX10_measures 15 rfl) rfl (by unfold z32; omega) rfl (by decide) ?_
        refine z_goto 2 (zdec DX10_measures 16 rfl) rfl ?_
        exact ih (h + 1) (zup M2 74 h 1000) (by omega) ⟨by omega, by omega, hI.2.2.1.up, fun k h0 h1 => (by by_cases hk : k = h; (subst hk; rw [zup_self]; first | rw [if_pos (by omega)] | rw [if_neg (by omega)]); (rw [zup_ne hk]; exact hI.2.2.2 k h0 (by omega)))⟩
      ·
        refine z_iconst 0 (zdec DX10_measures 11 rfl) (by decide) ?_
        refine z_goto 25 (zdec DX10_measures 12 rfl) rfl ?_
        refine z_iast 74 (zdec DX10_measures 14 rfl) rfl shp74 ⟨by omega, by omega⟩ ?_
        refine z_iinc (L' := [(0, .inr (.inr 56)), (1, .inl a), (2, .inl nz), (3, .inl (h + 1))]) 3 (zdec DX10_measures 15 rfl) rfl (by unfold z32; omega) rfl (by decide) ?_
        refine z_goto 2 (zdec DX10_measures 16 rfl) rfl ?_
        exact ih (h + 1) (zup M2 74 h 0) (by omega) ⟨by omega, by omega, hI.2.2.1.up, fun k h0 h1 => (by by_cases hk : k = h; (subst hk; rw [zup_self]; first | rw [if_pos (by omega)] | rw [if_neg (by omega)]); (rw [zup_ne hk]; exact hI.2.2.2 k h0 (by omega)))⟩
set_option maxHeartbeats 4000000 in
theorem cX10_measures {M : zMm} (hP : zP M) (hg : zGr M) (hR : zRr M) (a nz : Int) (ha : 0 ≤ a ∧ a < 16) : zW mX10_measures 2 (fun rv S' M' => S' = zS0 ∧ rv = none ∧ zonly 74 M M' ∧ zgf (zmc M nz) a 1000 (M' 74)) (0, 0) zS0 0 (zargs 0 [.inr (.inr 56), .inl a, .inl nz]) [] M := by
  change zW _ _ _ _ _ 0 [(0, .inr (.inr 56)), (1, .inl a), (2, .inl nz)] [] M
  refine z_iconst 0 (zdec DX10_measures 0 rfl) (by decide) ?_
  refine z_istore_n (L' := [(0, .inr (.inr 56)), (1, .inl a), (2, .inl nz), (3, .inl 0)]) (zdec DX10_measures 1 rfl) rfl rfl (by decide) ?_
  refine lp_X10_measures_2 hP hg hR a nz ha (hx32 := fun M2 hx => ?_) _ 0 M (Nat.lt_succ_self _) ⟨by omega, by omega, zonly.rf, fun k h0 h1 => by omega⟩
  refine z_iconst 1 (zdec DX10_measures 17 rfl) (by decide) ?_
  refine z_istore_n (L' := [(0, .inr (.inr 56)), (1, .inl a), (2, .inl nz), (3, .inl 1)]) (zdec DX10_measures 18 rfl) rfl rfl (by decide) ?_
  refine lp_X10_measures_34 hP hg hR a nz ha (hx182 := fun M2 hz => ?_) _ 1 M2 (Nat.lt_succ_self _) ⟨hx.1, _, hx.2⟩
  exact z_vret (zdec DX10_measures 102 rfl) rfl (⟨rfl, rfl, hz⟩)
