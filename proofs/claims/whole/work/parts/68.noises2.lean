/-! noises: sixteen rounds are enough; heard -/
def zCs (s : zMm) : Prop := ∀ w : Int, 0 ≤ w → w < 33 → 3 ≤ zwl s w ∧ zwl s w ≤ 21
theorem zCs.of {s : zMm} (h : zRg s) : zCs s := fun w a b => by
  have t := h.2.1 w a b
  unfold zwl
  split <;> omega
/-- no potential that keeps the walls is far above its first house -/
theorem ztri_b {s : zMm} (hc : zCs s) {L : Int → Int} (hT : ztri (zwl s) 33 L) {a : Int} (ha : zhh a) (hL : L a ≤ 0) : ∀ (n : Nat) (h : Int), zhh h → zst1 a h ≤ n → L h ≤ 21 * n := by
  intro n
  induction n with
  | zero =>
    intro h hh hn
    by_cases e : h = a
    · subst e; omega
    · obtain ⟨w, t⟩ := zst1_t ⟨a.toNat, by omega⟩ ⟨h.toNat, by omega⟩ (by intro z; have := congrArg Fin.val z; dsimp only at this; omega)
      have b := fun k : Int => fun hk : zhh k => zst1_b ⟨a.toNat, by omega⟩ ⟨k.toNat, by omega⟩
      have bl := b _ (zlow_b (w.val : Int))
      have bh := b _ (zhigh_b (w.val : Int))
      simp only [show ((a.toNat : Nat) : Int) = a by omega, show ((h.toNat : Nat) : Int) = h by omega, show (((zlow (w.val : Int)).toNat : Nat) : Int) = zlow (w.val : Int) by have := zlow_b (w.val : Int); omega, show (((zhigh (w.val : Int)).toNat : Nat) : Int) = zhigh (w.val : Int) by have := zhigh_b (w.val : Int); omega] at t bl bh
      omega
  | succ n ih =>
    intro h hh hn
    by_cases e : h = a
    · subst e; omega
    · obtain ⟨w, t⟩ := zst1_t ⟨a.toNat, by omega⟩ ⟨h.toNat, by omega⟩ (by intro z; have := congrArg Fin.val z; dsimp only at this; omega)
      simp only [show ((a.toNat : Nat) : Int) = a by omega, show ((h.toNat : Nat) : Int) = h by omega] at t
      have w1 := w.isLt
      have c := hc (w.val : Int) (by omega) (by omega)
      have k := hT (w.val : Int) (by omega) (by omega)
      rcases t with ⟨t1, t2⟩ | ⟨t1, t2⟩
      · have i := ih _ (zhigh_b (w.val : Int)) (by omega)
        rw [t1] at k
        omega
      · have i := ih _ (zlow_b (w.val : Int)) (by omega)
        rw [t1] at k
        omega
theorem ztri_b8 {s : zMm} (hc : zCs s) {L : Int → Int} (hT : ztri (zwl s) 33 L) {a : Int} (ha : zhh a) (hL : L a ≤ 0) (h : Int) (hh : zhh h) : L h ≤ 168 := by
  have b := zst1_b ⟨a.toNat, by omega⟩ ⟨h.toNat, by omega⟩
  simp only [show ((a.toNat : Nat) : Int) = a by omega, show ((h.toNat : Nat) : Int) = h by omega] at b
  have := ztri_b hc hT ha hL 8 h hh (by omega)
  omega
theorem zlisR33 {s : zMm} (hc : zCs s) (L : Int → Int) : (∀ h : Int, (zlisR s L 33).1 h ≤ L h) ∧ (∀ w : Int, 0 ≤ w → w < 33 → (zlisR s L 33).1 (zhigh w) ≤ L (zlow w) + zwl s w ∧ (zlisR s L 33).1 (zlow w) ≤ L (zhigh w) + zwl s w) ∧ (∀ F : Int → Int, (∀ h : Int, zhh h → F h ≤ L h) → (∀ w : Int, 0 ≤ w → w < 33 → F (zhigh w) ≤ F (zlow w) + zwl s w ∧ F (zlow w) ≤ F (zhigh w) + zwl s w) → ∀ h : Int, zhh h → F h ≤ (zlisR s L 33).1 h) ∧ (((zlisR s L 33).2 = 1 ∧ ∃ h : Int, zhh h ∧ (zlisR s L 33).1 h < L h) ∨ ((zlisR s L 33).2 = 0 ∧ (zlisR s L 33).1 = L ∧ ztri (zwl s) 33 L)) := by
  have r := zlisR_f (s := s) (fun w x y => by have := hc w x y; omega) L 33 (Nat.le_refl _)
  rw [show ((33 : Nat) : Int) = 33 from rfl] at r
  exact r
theorem zsum_lt16 {f g : Int → Int} (h : ∀ i : Int, 0 ≤ i → i < 16 → f i ≤ g i) : zsum f 16 ≤ zsum g 16 ∧ ((∃ i : Int, (0 ≤ i ∧ i < 16) ∧ f i < g i) → zsum f 16 < zsum g 16) := by
  have r := zsum_lt (f := f) (g := g) 16 h
  rw [show ((16 : Nat) : Int) = 16 from rfl] at r
  exact r
def zSnd (s : zMm) (a : Int) (L : Int → Int) : Prop := L a ≤ 0 ∧ ∀ F : Int → Int, zfe (zwl s) a 1000 F → ∀ h : Int, zhh h → F h ≤ L h
theorem zSnd.nn {s : zMm} (hc : zCs s) {a : Int} {L : Int → Int} (h : zSnd s a L) {k : Int} (hk : zhh k) : 0 ≤ L k := h.2 (fun _ => 0) ⟨Int.le_refl _, fun _ _ _ => show (0 : Int) ≤ 1000 by decide, fun w x y => by have := hc w x y; dsimp only; omega⟩ k hk
theorem zSnd.go {s : zMm} (hc : zCs s) {a : Int} {L : Int → Int} (h : zSnd s a L) : zSnd s a (zlisR s L 33).1 := by
  have r := zlisR33 hc L
  exact ⟨Int.le_trans (r.1 a) h.1, fun F hF => r.2.2.1 F (h.2 F hF) hF.2.2⟩
theorem zSnd.fix {s : zMm} (hc : zCs s) {a : Int} (ha : zhh a) {L : Int → Int} (h : zSnd s a L) (ht : ztri (zwl s) 33 L) : zgf (zwl s) a 1000 L :=
  ⟨⟨h.1, fun k x y => by have := ztri_b8 hc ht ha h.1 k ⟨x, y⟩; omega, fun w x y => ht w x y⟩, fun F hF k x y => h.2 F hF k ⟨x, y⟩⟩
theorem zlis0_s (s : zMm) (a : Int) : zSnd s a (zlis0 a) := by
  refine ⟨by unfold zlis0; rw [if_pos rfl]; omega, fun F hF h hh => ?_⟩
  unfold zlis0
  by_cases e : h = a
  · rw [if_pos e, e]; exact hF.1
  · rw [if_neg e]; have := hF.2.1 h hh.1 hh.2; omega
theorem zgf_ex {s : zMm} (hc : zCs s) {a : Int} (ha : zhh a) : ∀ (n : Nat) (L : Int → Int), zSnd s a L → zsum L 16 ≤ n → ∃ d, zgf (zwl s) a 1000 d := by
  intro n
  induction n with
  | zero =>
    intro L h hn
    have r := zlisR33 hc L
    rcases r.2.2.2 with ⟨_, k, hk, l⟩ | ⟨_, _, ht⟩
    · have g := h.go hc
      have e := (zsum_lt16 (f := (zlisR s L 33).1) (g := L) (fun i _ _ => r.1 i)).2 ⟨k, hk, l⟩
      have p := zsum_nn (f := (zlisR s L 33).1) (n := 16) (fun i x y => g.nn hc ⟨x, y⟩)
      have e' : zsum (zlisR s L 33).1 16 < zsum L 16 := e
      omega
    · exact ⟨L, h.fix hc ha ht⟩
  | succ n ih =>
    intro L h hn
    have r := zlisR33 hc L
    rcases r.2.2.2 with ⟨_, k, hk, l⟩ | ⟨_, _, ht⟩
    · have e := (zsum_lt16 (f := (zlisR s L 33).1) (g := L) (fun i _ _ => r.1 i)).2 ⟨k, hk, l⟩
      have e' : zsum (zlisR s L 33).1 16 < zsum L 16 := e
      exact ih _ (h.go hc) (by omega)
    · exact ⟨L, h.fix hc ha ht⟩
/-- each house but the first has a wall at which the distance is met -/
theorem zgf_tight {s : zMm} (hc : zCs s) {a : Int} (ha : zhh a) {d : Int → Int} (hd : zgf (zwl s) a 1000 d) {h : Int} (hh : zhh h) (hne : h ≠ a) : ∃ w : Int, (0 ≤ w ∧ w < 33) ∧ ((zhigh w = h ∧ d h = d (zlow w) + zwl s w) ∨ (zlow w = h ∧ d h = d (zhigh w) + zwl s w)) := by
  apply Classical.byContradiction
  intro hn
  have t : ∀ w : Int, 0 ≤ w → w < 33 → (zhigh w = h → d h < d (zlow w) + zwl s w) ∧ (zlow w = h → d h < d (zhigh w) + zwl s w) := fun w x y => by
    have f := hd.1.2.2 w x y
    refine ⟨fun e => ?_, fun e => ?_⟩
    · rw [e] at f
      have : ¬ d h = d (zlow w) + zwl s w := fun z => hn ⟨w, ⟨x, y⟩, Or.inl ⟨e, z⟩⟩
      omega
    · rw [e] at f
      have : ¬ d h = d (zhigh w) + zwl s w := fun z => hn ⟨w, ⟨x, y⟩, Or.inr ⟨e, z⟩⟩
      omega
  have b := ztri_b8 hc (L := d) (fun w x y => hd.1.2.2 w x y) ha hd.1.1 h hh
  have k := hd.2 (zpu d h (d h + 1)) ⟨by rw [zpu_n hne.symm]; exact hd.1.1, fun k x y => by
      by_cases e : k = h
      · subst e; rw [zpu_s]; omega
      · rw [zpu_n e]; exact hd.1.2.1 k x y, fun w x y => by
      have f := hd.1.2.2 w x y
      have u := t w x y
      have ne := zlow_neI ⟨x, y⟩
      have c := hc w x y
      by_cases p : zhigh w = h
      · have q : zlow w ≠ h := fun z => ne (z.trans p.symm)
        rw [p, zpu_s, zpu_n q]
        rw [p] at f
        have := u.1 p
        omega
      · by_cases q : zlow w = h
        · rw [q, zpu_s, zpu_n p]
          rw [q] at f
          have := u.2 q
          omega
        · rw [zpu_n p, zpu_n q]; exact f⟩ h hh.1 hh.2
  rw [zpu_s] at k
  omega
def zcn (d L : Int → Int) : Int := zsum (fun h => if L h = d h then 1 else 0) 16
/-- where not all is final a round makes one more final -/
theorem zcn_go {s : zMm} (hc : zCs s) {a : Int} (ha : zhh a) {d L : Int → Int} (hd : zgf (zwl s) a 1000 d) (hL : zSnd s a L) (hn : ∃ h : Int, zhh h ∧ L h ≠ d h) : zcn d L < zcn d (zlisR s L 33).1 := by
  have r := zlisR33 hc L
  have g := hL.go hc
  have lo : ∀ k : Int, zhh k → d k ≤ L k := hL.2 d hd.1
  have lo2 : ∀ k : Int, zhh k → d k ≤ (zlisR s L 33).1 k := g.2 d hd.1
  -- the nearest one that is not final
  obtain ⟨h, hh, h1, h2⟩ : ∃ h : Int, zhh h ∧ L h ≠ d h ∧ ∀ k : Int, zhh k → d k < d h → L k = d k := by
    have key : ∀ (n : Nat) (h : Int), zhh h → L h ≠ d h → d h ≤ n → ∃ h : Int, zhh h ∧ L h ≠ d h ∧ ∀ k : Int, zhh k → d k < d h → L k = d k := by
      intro n
      induction n with
      | zero =>
        intro h hh h1 h2
        refine ⟨h, hh, h1, fun k hk l => ?_⟩
        have z : 0 ≤ d k := hd.2 (fun _ => 0) ⟨Int.le_refl _, fun _ _ _ => show (0 : Int) ≤ 1000 by decide, fun w x y => by have := hc w x y; dsimp only; omega⟩ k hk.1 hk.2
        omega
      | succ n ih =>
        intro h hh h1 h2
        by_cases q : ∃ k : Int, zhh k ∧ d k < d h ∧ L k ≠ d k
        · obtain ⟨k, hk, l, z⟩ := q
          exact ih k hk z (by omega)
        · exact ⟨h, hh, h1, fun k hk l => Classical.byContradiction fun z => q ⟨k, hk, l, z⟩⟩
    obtain ⟨h, hh, h1⟩ := hn
    have b := hd.1.2.1 h hh.1 hh.2
    exact key 1000 h hh h1 (by omega)
  have hne : h ≠ a := fun e => by
    subst e
    have x := hL.1
    have y := lo h hh
    have z : 0 ≤ d h := hd.2 (fun _ => 0) ⟨Int.le_refl _, fun _ _ _ => show (0 : Int) ≤ 1000 by decide, fun w x y => by have := hc w x y; dsimp only; omega⟩ h hh.1 hh.2
    omega
  have fin : (zlisR s L 33).1 h = d h := by
    have b := lo2 h hh
    obtain ⟨w, hw, t⟩ := zgf_tight hc ha hd hh hne
    have c := hc w hw.1 hw.2
    have u := r.2.1 w hw.1 hw.2
    rcases t with ⟨t1, t2⟩ | ⟨t1, t2⟩
    · have v := h2 _ (zlow_b w) (by omega)
      have u1 := u.1
      rw [t1, v] at u1
      have u2 : (zlisR s L 33).1 h ≤ d (zlow w) + zwl s w := u1
      omega
    · have v := h2 _ (zhigh_b w) (by omega)
      have u1 := u.2
      rw [t1, v] at u1
      have u2 : (zlisR s L 33).1 h ≤ d (zhigh w) + zwl s w := u1
      omega
  unfold zcn
  refine (zsum_lt16 (f := fun h => if L h = d h then 1 else 0) (g := fun h => if (zlisR s L 33).1 h = d h then 1 else 0) (fun k x y => ?_)).2 ⟨h, hh, ?_⟩
  · have p := lo2 k ⟨x, y⟩
    have q := r.1 k
    have q2 : (zlisR s L 33).1 k ≤ L k := q
    try dsimp only
    by_cases e : L k = d k
    · rw [if_pos e, if_pos (by omega)]; exact Int.le_refl _
    · rw [if_neg e]; split <;> omega
  · try dsimp only
    rw [if_neg h1, if_pos fin]; decide
theorem zlisN_d {s : zMm} (hc : zCs s) {a : Int} (ha : zhh a) {d : Int → Int} (hd : zgf (zwl s) a 1000 d) : ∀ (f : Nat) (L : Int → Int), zSnd s a L → 16 ≤ zcn d L + f → zH (zlisN s f L) d := by
  intro f
  induction f with
  | zero =>
    intro L hL hn h x y
    apply Classical.byContradiction
    intro z
    have u := (zsum_lt16 (f := fun h => if L h = d h then 1 else 0) (g := fun _ => 1) (fun k _ _ => by split <;> omega)).2 ⟨h, ⟨x, y⟩, by
      have z2 : ¬ L h = d h := z
      rw [if_neg z2]; decide⟩
    have v : zsum (fun _ => 1) 16 = 16 := rfl
    unfold zcn at hn
    have u2 : zsum (fun h => if L h = d h then 1 else 0) 16 < zsum (fun _ => 1) 16 := u
    omega
  | succ f ih =>
    intro L hL hn
    have r := zlisR33 hc L
    unfold zlisN
    rcases r.2.2.2 with ⟨e, _⟩ | ⟨e, e2, ht⟩
    · have e' : (zlisR s L 33).2 = 1 := e
      rw [if_neg (by omega)]
      refine ih _ (hL.go hc) ?_
      by_cases q : ∃ h : Int, zhh h ∧ L h ≠ d h
      · have := zcn_go hc ha hd hL q; omega
      · have a1 : ∀ h : Int, zhh h → L h = d h := fun h hh => Classical.byContradiction fun z => q ⟨h, hh, z⟩
        have lo2 := (hL.go hc).2 d hd.1
        have v : zcn d (zlisR s L 33).1 = zsum (fun _ => 1) 16 := zsum_c fun k x y => by
          have p := lo2 k ⟨x, y⟩
          have q2 : (zlisR s L 33).1 k ≤ L k := r.1 k
          rw [if_pos (by have := a1 k ⟨x, y⟩; omega)]
        have v2 : zsum (fun _ => 1) 16 = 16 := rfl
        omega
    · have e' : (zlisR s L 33).2 = 0 := e
      have e2' : (zlisR s L 33).1 = L := e2
      rw [if_pos e', e2']
      exact (hL.fix hc ha ht).one hd
theorem zlis_gf {s : zMm} (hR : zRg s) {a : Int} (ha : zhh a) : zH (zlis s a) (zdst (zwl s) a 1000) := by
  have hc := zCs.of hR
  obtain ⟨d, hd⟩ := zgf_ex hc ha (zsum (zlis0 a) 16).toNat _ (zlis0_s s a) (by omega)
  have p : 0 ≤ zcn d (zlis0 a) := zsum_nn fun i _ _ => by split <;> omega
  have t := zlisN_d hc ha hd 16 (zlis0 a) (zlis0_s s a) (by omega)
  exact fun h x y => (t h x y).trans (hd.eq h x y)
theorem zYc.mc {M N : zMm} (h : zYc M) (e : N 57 = M 57) (w : Int) (w0 : 0 ≤ w) (w1 : w < 33) : zmc N 1 w = zwl M w := by
  have t := h.2.2.1 w w0 w1
  unfold zmc zwl
  rw [if_pos (by decide), e, t.1, t.2.1]
/-- what the reference measures is what the class measures -/
theorem zYc.ds {M N : zMm} (h : zYc M) (e : N 57 = M 57) {a : Int} (ha : zhh a) : zH (zlis M a) (zds N 1 a) := by
  have hc := zCs.of h.1
  obtain ⟨d, hd⟩ := zgf_ex hc ha (zsum (zlis0 a) 16).toNat _ (zlis0_s M a) (by omega)
  have t := zlis_gf h.1 ha
  have u := hd.eq
  have v : zgf (zmc N 1) a 1000 d := hd.c fun w x y => (h.mc e w x y).symm
  have z := v.eq
  exact fun k x y => (t k x y).trans ((u k x y).symm.trans (z k x y))
set_option maxHeartbeats 4000000 in
theorem zK_heard {M : zMm} (hI : zI M) (v : Int) (l : Int) : zW mX9_heard 4 (fun rv S' M1 => S' = zS0 ∧ ∃ r : Int, rv = some (.inl r) ∧ zW mX10_heard 4 (fun rv2 S2 M2 => S2 = zS0 ∧ rv2 = some (.inl r) ∧ zI M2) (0, 0) zS0 0 (zargs 0 [.inr (.inr 56), .inl v, .inl l]) [] M1) (0, 0) zS0 0 (zargs 0 [.inr (.inr 0), .inl v, .inl l]) [] M := by
  have ix := hI.1
  have ic := hI.2.1
  have ih := hI.2.2.1
  have it := hI.2.2.2.1
  have il := hI.2.2.2.2.1
  have iw := hI.2.2.2.2.2.1
  have ii := hI.2.2.2.2.2.2.1
  have ib := hI.2.2.2.2.2.2.2.1
  have is := hI.2.2.2.2.2.2.2.2.1
  have ik := hI.2.2.2.2.2.2.2.2.2
  refine zW_mono (cX9_heard ix.1 ix.2.2.1 ic.1 v l) fun rv S M1 h => ?_
  obtain ⟨rfl, rfl, e1⟩ := h
  have kc : zKc M M1 := zKc.of fun c hc => e1 c (by omega)
  have e57 : M1 57 = M 57 := kc.1 57 (by decide)
  refine ⟨rfl, _, rfl, zW_mono (cX10_heard (kc.P ix.1) (kc.gr ix.2.2.2) (kc.rr ic.r) v l) fun rv S M2 h => ?_⟩
  obtain ⟨rfl, e2, rfl⟩ := h
  refine ⟨rfl, zri ?_, hI.go (L := [33, 74]) (J := []) (fun c hc => by simp only [List.mem_cons, List.not_mem_nil, not_or, or_false, not_false_eq_true, and_true, true_and] at hc; rw [e2 c (by omega), e1 c (by omega)]) (fun j _ => by rw [e2 56 (by decide), e1 56 (by decide)])⟩
  by_cases q : (0 ≤ v ∧ v / 100 < 16 ∧ v % 100 < 16) ∧ 0 ≤ l ∧ l ≤ 99
  · rw [if_pos q, if_pos q]
    have t := ic.ds e57 (a := v / 100) ⟨by omega, q.1.2.1⟩ (v % 100) (by omega) q.1.2.2
    rw [← t]
    split <;> split <;> omega
  · rw [if_neg q, if_neg q]
