/-! way: the fewest doors are the distance -/
theorem zffn {p : Int → Prop} [DecidablePred p] : ∀ n : Nat, (zff (fun x => x) p n = -1 ∧ ∀ j : Int, 0 ≤ j → j < n → ¬ p j) ∨ ∃ r : Int, (0 ≤ r ∧ r < n) ∧ p r ∧ (∀ j : Int, 0 ≤ j → j < r → ¬ p j) ∧ zff (fun x => x) p n = r := by
  intro n
  by_cases h : ∃ r : Nat, r < n ∧ p r ∧ ∀ j : Nat, j < r → ¬ p j
  · obtain ⟨r, h1, h2, h3⟩ := h
    refine Or.inr ⟨r, ⟨by omega, by omega⟩, h2, fun j a b => ?_, zff_hit (g := fun x => x) ⟨by omega, by omega⟩ (by omega) (fun j a b => ?_) h2⟩
    · have := h3 j.toNat (by omega)
      rwa [show ((j.toNat : Nat) : Int) = j by omega] at this
    · have := h3 j.toNat (by omega)
      rwa [show ((j.toNat : Nat) : Int) = j by omega] at this
  · left
    have key : ∀ m : Nat, m ≤ n → ∀ j : Nat, j < m → ¬ p j := by
      intro m
      induction m with
      | zero => intro _ j hj; omega
      | succ m ih =>
        intro hm j hj
        by_cases e : j = m
        · subst e; intro hp; exact h ⟨j, by omega, hp, ih (by omega)⟩
        · exact ih (by omega) j (by omega)
    have k2 : ∀ j : Int, 0 ≤ j → j < n → ¬ p j := fun j a b => by
      have := key n (Nat.le_refl _) j.toNat (by omega)
      rwa [show ((j.toNat : Nat) : Int) = j by omega] at this
    exact ⟨zff_no (g := fun x => x) k2, k2⟩
theorem zsteps_c {s : zMm} {a b : Int} (hb : zhh b) : (zstepsF s a b = -1 ∧ ∀ j : Int, 0 ≤ j → j < 16 → ¬ zin (zreach s a j) b) ∨ ∃ r : Int, (0 ≤ r ∧ r < 16) ∧ zin (zreach s a r) b ∧ (∀ j : Int, 0 ≤ j → j < r → ¬ zin (zreach s a j) b) ∧ zstepsF s a b = r := by
  have t : ∀ n : Int, zand (zshr (zreach s a n) b) 1 = 1 ↔ zin (zreach s a n) b := fun n => zbit1 hb.1 hb.2
  rcases zffn (p := fun n => zand (zshr (zreach s a n) b) 1 = 1) 16 with ⟨e, h⟩ | ⟨r, h1, h2, h3, h4⟩
  · exact Or.inl ⟨e, fun j x y z => h j x y ((t j).mpr z)⟩
  · exact Or.inr ⟨r, h1, (t r).mp h2, fun j x y z => h3 j x y ((t j).mpr z), h4⟩
def zdd (s : zMm) (a h : Int) : Int := if zstepsF s a h < 0 then 1000 else zstepsF s a h
theorem zdd_le {s : zMm} {a b n : Int} (hb : zhh b) (hn : 0 ≤ n ∧ n < 16) (h : zin (zreach s a n) b) : zdd s a b ≤ n := by
  unfold zdd
  rcases zsteps_c (s := s) (a := a) hb with ⟨e, k⟩ | ⟨r, r1, r2, r3, r4⟩
  · exact absurd h (k n hn.1 hn.2)
  · rw [r4, if_neg (by omega)]
    by_cases q : n < r
    · exact absurd h (r3 n hn.1 q)
    · omega
theorem zdd_b {s : zMm} {a b : Int} (hb : zhh b) : (zdd s a b = 1000 ∧ ¬ 0 ≤ zstepsF s a b) ∨ (0 ≤ zdd s a b ∧ zdd s a b < 16 ∧ zin (zreach s a (zdd s a b)) b ∧ zstepsF s a b = zdd s a b) := by
  unfold zdd
  rcases zsteps_c (s := s) (a := a) hb with ⟨e, k⟩ | ⟨r, r1, r2, r3, r4⟩
  · rw [e, if_pos (by decide)]; exact Or.inl ⟨rfl, by decide⟩
  · rw [r4, if_neg (by omega)]; exact Or.inr ⟨r1.1, r1.2, r2, rfl⟩
/-- behind 15 steps no one new is reached -/
theorem zreach_15 {s : zMm} {a k : Int} (ha : zhh a) (hk : zhh k) (h : zin (zreach s a 16) k) : zin (zreach s a 15) k := by
  rcases zrc_all (s := s) ha 15 with q | q
  · exact q k hk h
  · apply Classical.byContradiction
    intro z
    have u := (zsum_lt16 (f := fun h => if zbi (zreach s a 15) h.toNat = true then 1 else 0) (g := fun _ => 1) (fun x _ _ => by split <;> omega)).2 ⟨k, hk, by
      have z2 : ¬ zbi (zreach s a 15) k.toNat = true := z
      rw [if_neg z2]; decide⟩
    have v : zsum (fun _ => 1) 16 = 16 := rfl
    have w : zrc s a 15 = zsum (fun h => if zbi (zreach s a 15) h.toNat = true then 1 else 0) 16 := rfl
    have q2 : (15 : Int) + 1 ≤ zrc s a 15 := q
    omega
theorem zdd_gf {s : zMm} {c : Int → Int} {a : Int} (ha : zhh a) (hc : ∀ w : Int, 0 ≤ w → w < 33 → (s 12 w = 0 ∧ c w = 1000) ∨ (s 12 w = 1 ∧ c w = 1)) : zgf c a 1000 (zdd s a) := by
  have st : ∀ x y w : Int, zhh x → zhh y → 0 ≤ w → w < 33 → s 12 w = 1 → ((zlow w = x ∧ zhigh w = y) ∨ (zlow w = y ∧ zhigh w = x)) → zdd s a y ≤ zdd s a x + 1 := by
    intro x y w hx hy w0 w1 d e
    rcases zdd_b (s := s) (a := a) hy with ⟨y1, _⟩ | ⟨y1, y2, y3, _⟩
    · rcases zdd_b (s := s) (a := a) hx with ⟨x1, _⟩ | ⟨x1, x2, x3, _⟩
      · omega
      · have g : zin (zreach s a (zdd s a x + 1)) y := (zreach_at hy.1 x1).mpr (Or.inr ⟨w, ⟨w0, w1⟩, by omega, by
          rcases e with ⟨e1, e2⟩ | ⟨e1, e2⟩
          · exact Or.inl ⟨by rw [e1]; exact x3, e2.symm⟩
          · exact Or.inr ⟨by rw [e2]; exact x3, e1.symm⟩⟩)
        by_cases q : zdd s a x = 15
        · rw [q] at g
          have := zdd_le hy ⟨by decide, by decide⟩ (zreach_15 ha hy g)
          omega
        · exact zdd_le hy ⟨by omega, by omega⟩ g
    · rcases zdd_b (s := s) (a := a) hx with ⟨x1, _⟩ | ⟨x1, x2, x3, _⟩
      · omega
      · have g : zin (zreach s a (zdd s a x + 1)) y := (zreach_at hy.1 x1).mpr (Or.inr ⟨w, ⟨w0, w1⟩, by omega, by
          rcases e with ⟨e1, e2⟩ | ⟨e1, e2⟩
          · exact Or.inl ⟨by rw [e1]; exact x3, e2.symm⟩
          · exact Or.inr ⟨by rw [e2]; exact x3, e1.symm⟩⟩)
        by_cases q : zdd s a x = 15
        · omega
        · exact zdd_le hy ⟨by omega, by omega⟩ g
  have bd : ∀ x : Int, zhh x → 0 ≤ zdd s a x ∧ zdd s a x ≤ 1000 := fun x hx => by
    rcases zdd_b (s := s) (a := a) hx with ⟨x1, _⟩ | ⟨x1, x2, _, _⟩ <;> omega
  refine ⟨⟨zdd_le ha ⟨by decide, by decide⟩ ((zreach_0 ha ha.1).mpr rfl), fun h x y => (bd h ⟨x, y⟩).2, fun w x y => ?_⟩, fun F hF h x y => ?_⟩
  · have l := bd _ (zlow_b w)
    have r := bd _ (zhigh_b w)
    rcases hc w x y with ⟨_, e⟩ | ⟨d, e⟩
    · rw [e]; omega
    · rw [e]
      exact ⟨st _ _ w (zlow_b w) (zhigh_b w) x y d (Or.inl ⟨rfl, rfl⟩), st _ _ w (zhigh_b w) (zlow_b w) x y d (Or.inr ⟨rfl, rfl⟩)⟩
  · rcases zdd_b (s := s) (a := a) ⟨x, y⟩ with ⟨x1, _⟩ | ⟨x1, x2, x3, _⟩
    · rw [x1]; exact hF.2.1 h x y
    · have t := zreach_le (s := s) ha (F := F) hF.1 (fun w w0 w1 d => by
        rcases hc w w0 w1 with ⟨e, _⟩ | ⟨_, e⟩
        · exact absurd e d
        · have := hF.2.2 w w0 w1; rw [e] at this; exact this) (zdd s a h).toNat h x (by rw [show (((zdd s a h).toNat : Nat) : Int) = zdd s a h by omega]; exact x3)
      omega
theorem zYc.dw {M N : zMm} (h : zYc M) (e : N 57 = M 57) {a : Int} (ha : zhh a) : zH (zdd M a) (zds N 0 a) := (zdd_gf (s := M) (c := zmc N 0) ha fun w x y => by
  have t := (h.2.2.1 w x y).2.1
  have b := (h.1.2.1 w x y).2.1
  unfold zmc
  rw [if_neg (by decide), e, t]
  by_cases q : M 12 w = 1
  · rw [if_pos q]; exact Or.inr ⟨q, rfl⟩
  · rw [if_neg q]; exact Or.inl ⟨by omega, rfl⟩).eq
set_option maxHeartbeats 4000000 in
theorem zK_way {M : zMm} (hI : zI M) (v : Int) : zW mX9_way 4 (fun rv S' M1 => S' = zS0 ∧ ∃ r : Int, rv = some (.inl r) ∧ zW mX10_way 4 (fun rv2 S2 M2 => S2 = zS0 ∧ rv2 = some (.inl r) ∧ zI M2) (0, 0) zS0 0 (zargs 0 [.inr (.inr 56), .inl v]) [] M1) (0, 0) zS0 0 (zargs 0 [.inr (.inr 0), .inl v]) [] M := by
  have ix := hI.1
  have ic := hI.2.1
  refine zW_mono (cX9_way ix.1 ix.2.2.1 v) fun rv S M1 h => ?_
  obtain ⟨rfl, rfl, rfl⟩ := h
  refine ⟨rfl, _, rfl, zW_mono (cX10_way ix.1 ix.2.2.2 ic.r v) fun rv S M2 h => ?_⟩
  obtain ⟨rfl, e2, rfl⟩ := h
  refine ⟨rfl, zri ?_, hI.go (L := [74]) (J := []) (fun c hc => by simp only [List.mem_cons, List.not_mem_nil, not_or, or_false, not_false_eq_true, and_true, true_and] at hc; rw [e2 c (by omega)]) (fun j _ => by rw [e2 56 (by decide)])⟩
  by_cases q : 0 ≤ v ∧ v / 100 < 16 ∧ v % 100 < 16
  · rw [if_pos q, if_pos q]
    have hb : zhh (v % 100) := ⟨by omega, q.2.2⟩
    have t := ic.dw (N := M) rfl (a := v / 100) ⟨by omega, q.2.1⟩ (v % 100) hb.1 hb.2
    rw [← t]
    rcases zdd_b (s := M) (a := v / 100) hb with ⟨x1, x2⟩ | ⟨x1, x2, _, x4⟩
    · rw [x1, if_neg (by decide), if_pos (by omega)]
    · rw [x4, if_pos (by omega), if_neg (by omega)]
  · rw [if_neg q, if_neg q]
