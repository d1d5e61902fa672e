/-! winters: what goes through a wall, a day, days: the same on both sides -/
/-- the class's law of s and the reference's of N say the same -/
def zRl (s : zMm) (q : Int) (N : zMm) : Prop := ∀ w d a b : Int, 0 ≤ w → w < 33 → 2 ≤ d → d ≤ 99 → (0 ≤ a ∧ a ≤ 99) → (0 ≤ b ∧ b ≤ 99) → zlaw s q w d a b = zlwR N w d a b
theorem zRl_I {M : zMm} (hc : zYc M) (hl : zYl M) : ∃ q : Int, zTx M q ∧ zTR M ∧ zRl M q M := by
  obtain ⟨q, hT, _, hTR, hW⟩ := hl
  refine ⟨q, hT, hTR, fun w d a b w0 w1 d0 d1 ha hb => ?_⟩
  have t := hc.2.2.1 w w0 w1
  have r := hc.1.2.1 w w0 w1
  unfold zlaw zlwR
  rw [if_neg (by omega), t.1, t.2.1]
  rcases hW with ⟨h1, h2⟩ | ⟨h1, h2, h3⟩
  · rw [if_neg (by omega), if_neg (by omega)]
  · rw [if_pos h1, if_pos h2]
    refine h3 d (M 11 w) (M 12 w) a b fun g => ?_
    unfold znmd
    repeat' split
    all_goals omega
theorem zcap_2 {d l : Int} (h : 0 ≤ d ∧ d < 2) : zcap d l = 0 := by
  unfold zcap zmax zmin
  repeat' split
  all_goals omega
theorem zRl.flow {s N : zMm} {q : Int} (h : zRl s q N) {T : Int → Int} (hT : zbW T) {w : Int} (w0 : 0 ≤ w) (w1 : w < 33) : zflow s q T w = zflR N T w := by
  have bl := hT _ (zlow_b w).1 (zlow_b w).2
  have bh := hT _ (zhigh_b w).1 (zhigh_b w).2
  unfold zflow zflowd zflR
  generalize T (zlow w) = x at *
  generalize T (zhigh w) = y at *
  by_cases c : x < y
  · have e : zab (x - y) = y - x := by unfold zab; rw [if_neg (by omega)]; omega
    have m1 : zmax x y = y := by unfold zmax; rw [if_pos c]
    have m2 : zmin x y = x := by unfold zmin; rw [if_neg (by omega)]
    rw [if_pos c, if_neg (show ¬ y ≤ x by omega), e, m1, m2]
    by_cases d : y - x < 2
    · rw [zcap_2 ⟨by omega, d⟩, zcap_2 ⟨by omega, d⟩]
    · rw [h w (y - x) y x w0 w1 (by omega) (by omega) bh bl]
  · have e : zab (x - y) = x - y := by unfold zab; rw [if_pos (by omega)]
    have m1 : zmax x y = x := by unfold zmax; rw [if_neg c]
    have m2 : zmin x y = y := by unfold zmin; split <;> omega
    rw [if_neg c, if_pos (show y ≤ x by omega), e, m1, m2]
    by_cases d : x - y < 2
    · rw [zcap_2 ⟨by omega, d⟩, zcap_2 ⟨by omega, d⟩]
    · rw [h w (x - y) x y w0 w1 (by omega) (by omega) bl bh]
/-- hearths and cold of the class's thought are those of N -/
def zHe (s : zMm) (H : Int → Int) (N : zMm) : Prop := (∀ h : Int, 0 ≤ h → h < 16 → H h = N 57 h) ∧ s 1 12 = N 57 131
theorem zgn_x {s N : zMm} {q : Int} (h : zRl s q N) {H : Int → Int} (hH : zHe s H N) {T : Int → Int} (hT : zbW T) : ∀ n : Nat, n ≤ 33 → ∀ k : Int, 0 ≤ k → k < 16 → znx N T n k = T k + zgn s q T H n k := by
  intro n
  induction n with
  | zero =>
    intro _ k k0 k1
    show znx0 N T k = T k + zgn0 s H k
    unfold znx0 zgn0
    rw [hH.1 k k0 k1, hH.2]
    omega
  | succ n ih =>
    intro hn k k0 k1
    have lb := zlow_b (n : Int)
    have lh := zhigh_b (n : Int)
    have il := ih (by omega) _ lb.1 lb.2
    have ih2 := ih (by omega) _ lh.1 lh.2
    have ik := ih (by omega) k k0 k1
    have f := h.flow hT (w := (n : Int)) (by omega) (by omega)
    have e1 : znx N T ((n : Int) + 1) = zgw (zflR N T) (znx N T n) n := zfo_s _ _ (by omega)
    have e2 : zgn s q T H ((n : Int) + 1) = zgn1 s q T (zgn s q T H n) n := zfo_s _ _ (by omega)
    rw [show ((n + 1 : Nat) : Int) = (n : Int) + 1 by omega, e1, e2]
    unfold zgw zgn1
    rw [f]
    generalize zflR N T n = x at *
    unfold zpu
    by_cases a : k = zhigh (n : Int)
    · subst a
      rw [if_pos rfl, if_pos rfl]
      by_cases b : zhigh (n : Int) = zlow (n : Int)
      · rw [if_pos b, if_pos b, b] ; omega
      · rw [if_neg b, if_neg b]; omega
    · rw [if_neg a, if_neg a]
      by_cases b : k = zlow (n : Int)
      · subst b
        rw [if_pos rfl, if_pos rfl]; omega
      · rw [if_neg b, if_neg b]; exact ik
theorem zday_x {s N : zMm} {q : Int} (h : zRl s q N) {H : Int → Int} (hH : zHe s H N) {T : Int → Int} (hT : zbW T) : zH (zday s q H T) (zdyR N T) := fun k k0 k1 => by
  have t := zgn_x h hH hT 33 (Nat.le_refl _) k k0 k1
  have t : znx N T 33 k = T k + zgn s q T H 33 k := t
  unfold zday zdyR
  rw [t]
theorem zdN_x {s N : zMm} {q : Int} (h : zRl s q N) {H : Int → Int} (hH : zHe s H N) {T T' : Int → Int} (hT : zbW T) (hT' : zbW T') (e : zH T T') : ∀ n : Nat, zH (zdN s q H T n) (zdyN N T' n) := by
  intro n
  induction n with
  | zero => exact e
  | succ n ih => exact (zday_H ih zH.rf).tr (zday_x h hH (zdyN_b hT' n))
theorem zWm_x {M : zMm} {q : Int} (hc : zYc M) (h : zRl M q M) (n : Int) : zH (zWm M q n) (zWmR M n) := zdN_x h ⟨fun k k0 k1 => (hc.2.1 k k0 k1).2.1.symm, hc.2.2.2.1.symm⟩ (zb9 hc.1) (zb63 hc.r) (fun k k0 k1 => (hc.2.1 k k0 k1).2.2.1.symm) _
theorem zflw_x {M : zMm} {q : Int} (hc : zYc M) (h : zRl M q M) (n : Int) {w : Int} (w0 : 0 ≤ w) (w1 : w < 33) : zflow M q (zWm M q n) w = zflR M (zWmR M n) w := by
  rw [zflow_H (zWm_x hc h n)]
  exact h.flow (zWmR_b hc.r n) w0 w1
theorem zfr_x {M : zMm} {q : Int} (hc : zYc M) (h : zRl M q M) {x : Int} (x0 : 0 ≤ x) (x1 : x < 16) (k f : Int) : zfr M q x k f = zfrR M x k f := by
  have r : zRl M q (zup M 57 x f) := fun w d a b w0 w1 d0 d1 ha hb => by
    rw [h w d a b w0 w1 d0 d1 ha hb]
    unfold zlwR
    rw [zup_row (show (56 : Int) ≠ 57 by decide), zup_row (show (66 : Int) ≠ 57 by decide), zup_ne (show (32 + w) ≠ x by omega), zup_ne (show (65 + w) ≠ x by omega)]
  have hH : zHe M (zpu (M 8) x f) (zup M 57 x f) := ⟨fun k k0 k1 => by
    by_cases e : k = x
    · subst e; rw [zpu_s, zup_self]
    · rw [zpu_n e, zup_ne e]; exact (hc.2.1 k k0 k1).2.1.symm, by rw [zup_ne (by omega)]; exact hc.2.2.2.1.symm⟩
  have t := zdN_x r hH (zb9 hc.1) (T' := zup M 57 x f 63) (by rw [zup_row (by decide)]; exact zb63 hc.r) (fun k k0 k1 => by rw [zup_row (by decide)]; exact (hc.2.1 k k0 k1).2.2.1.symm) k.toNat x x0 x1
  exact t
/-! the reference from another memory with the same rows -/
theorem zflR_of {M M2 : zMm} (e1 : M2 57 = M 57) (e2 : M2 66 = M 66) (e3 : M2 56 14 = M 56 14) : zflR M2 = zflR M := by
  funext T w
  unfold zflR
  rw [zlwR_of e1 e2 e3]
theorem zdyR_of {M M2 : zMm} (e1 : M2 57 = M 57) (e2 : M2 66 = M 66) (e3 : M2 56 14 = M 56 14) : zdyR M2 = zdyR M := by
  funext T
  have e : znx0 M2 T = znx0 M T := by funext h; unfold znx0; rw [e1]
  unfold zdyR znx
  rw [zflR_of e1 e2 e3, e]
theorem zdyN_of {M M2 : zMm} (e1 : M2 57 = M 57) (e2 : M2 66 = M 66) (e3 : M2 56 14 = M 56 14) (T : Int → Int) : ∀ n : Nat, zdyN M2 T n = zdyN M T n := by
  intro n
  induction n with
  | zero => rfl
  | succ n ih => show zdyR M2 (zdyN M2 T n) = zdyR M (zdyN M T n); rw [ih, zdyR_of e1 e2 e3]
theorem zWmR_of {M M2 : zMm} (e1 : M2 57 = M 57) (e2 : M2 66 = M 66) (e3 : M2 56 14 = M 56 14) (e4 : M2 63 = M 63) : zWmR M2 = zWmR M := by
  funext n
  unfold zWmR
  rw [e4, zdyN_of e1 e2 e3]
theorem zKc.wm {M M1 : zMm} (k : zKc M M1) : zWmR M1 = zWmR M ∧ zflR M1 = zflR M := ⟨zWmR_of (k.1 57 (by decide)) (k.1 66 (by decide)) (by rw [k.1 56 (by decide)]) (k.1 63 (by decide)), zflR_of (k.1 57 (by decide)) (k.1 66 (by decide)) (by rw [k.1 56 (by decide)])⟩
theorem zKc.fr {M M1 : zMm} (k : zKc M M1) (h t f : Int) : zfrR M1 h t f = zfrR M h t f := by
  unfold zfrR
  rw [zWmR_of (M := zup M 57 h f) (M2 := zup M1 57 h f) (by funext j; unfold zup; rw [k.1 57 (by decide)]) (by rw [zup_row (by decide), zup_row (by decide), k.1 66 (by decide)]) (by rw [zup_row (by decide), zup_row (by decide), k.1 56 (by decide)]) (by rw [zup_row (by decide), zup_row (by decide), k.1 63 (by decide)])]
theorem zoW.kc {M M1 : zMm} (h : zoW M M1) : zKc M M1 := zKc.of fun c hc => h c (by omega) (by omega) (by omega) (by omega) (by omega)
theorem zWD_I {M M1 M2 : zMm} (hI : zI M) (h1 : zoW M M1) (h2 : zoD M1 M2) : zI M2 := hI.go (L := [20, 22, 23, 24, 25, 67, 68, 69, 70, 71]) (J := [15, 16, 17, 18, 19]) (fun c hc => by
  simp only [List.mem_cons, List.not_mem_nil, not_or, or_false, not_false_eq_true, and_true, true_and] at hc
  rw [h2.1 c (by omega) (by omega) (by omega) (by omega) (by omega) (by omega), h1 c (by omega) (by omega) (by omega) (by omega) (by omega)]) (fun j hj => by
  simp only [List.mem_cons, List.not_mem_nil, not_or, or_false, not_false_eq_true, and_true, true_and] at hj
  rw [h2.2 j (by omega), h1 56 (by decide) (by decide) (by decide) (by decide) (by decide)])
set_option maxHeartbeats 4000000 in
theorem zK_warmth {M : zMm} (hI : zI M) (h : Int) (k : Int) : zW mX9_warmth 9 (fun rv S' M1 => S' = zS0 ∧ ∃ r : Int, rv = some (.inl r) ∧ zW mX10_warmth 52 (fun rv2 S2 M2 => S2 = zS0 ∧ rv2 = some (.inl r) ∧ zI M2) (0, 0) zS0 0 (zargs 0 [.inr (.inr 56), .inl h, .inl k]) [] M1) (0, 0) zS0 0 (zargs 0 [.inr (.inr 0), .inl h, .inl k]) [] M := by
  have ix := hI.1
  have ic := hI.2.1
  obtain ⟨q, hT, hTR, hr⟩ := zRl_I ic hI.2.2.2.2.1
  refine zW_mono (cX9_warmth ix.1 ix.2.2.1 ic.1 hT h k zoW.rf) fun rv S M1 e => ?_
  obtain ⟨rfl, e1, rfl⟩ := e
  have kc := e1.kc
  refine ⟨rfl, _, rfl, zW_mono (cX10_warmth (kc.P ix.1) (kc.gr ix.2.2.2) (kc.rr ic.r) (kc.tr hTR) h k) fun rv S M2 e => ?_⟩
  obtain ⟨rfl, e2, rfl⟩ := e
  refine ⟨rfl, zri ?_, zWD_I hI e1 e2⟩
  rw [kc.wm.1]
  have t := zWm_x ic hr k
  by_cases c : (h = -1 ∨ (0 ≤ h ∧ h < 16)) ∧ 0 ≤ k ∧ k < 31
  · rw [if_pos c, if_pos c]
    by_cases d : h < 0
    · rw [if_pos d, if_pos d]; exact (zsum_H t).symm
    · rw [if_neg d, if_neg d]; exact (t h (by omega) (by omega)).symm
  · rw [if_neg c, if_neg c]
set_option maxHeartbeats 4000000 in
theorem zK_cold {M : zMm} (hI : zI M) (b : Int) (k : Int) : zW mX9_cold 9 (fun rv S' M1 => S' = zS0 ∧ ∃ r : Int, rv = some (.inl r) ∧ zW mX10_cold 52 (fun rv2 S2 M2 => S2 = zS0 ∧ rv2 = some (.inl r) ∧ zI M2) (0, 0) zS0 0 (zargs 0 [.inr (.inr 56), .inl b, .inl k]) [] M1) (0, 0) zS0 0 (zargs 0 [.inr (.inr 0), .inl b, .inl k]) [] M := by
  have ix := hI.1
  have ic := hI.2.1
  obtain ⟨q, hT, hTR, hr⟩ := zRl_I ic hI.2.2.2.2.1
  refine zW_mono (cX9_cold ix.1 ix.2.2.1 ic.1 hT b k zoW.rf) fun rv S M1 e => ?_
  obtain ⟨rfl, e1, rfl⟩ := e
  have kc := e1.kc
  refine ⟨rfl, _, rfl, zW_mono (cX10_cold (kc.P ix.1) (kc.gr ix.2.2.2) (kc.rr ic.r) (kc.tr hTR) b k) fun rv S M2 e => ?_⟩
  obtain ⟨rfl, e2, rfl⟩ := e
  refine ⟨rfl, zri ?_, zWD_I hI e1 e2⟩
  rw [kc.wm.1, kc.1 64 (by decide)]
  by_cases c : (0 ≤ b ∧ b ≤ 99) ∧ 0 ≤ k ∧ k < 31
  · rw [if_pos c, if_pos c]
    exact zsum_c fun i i0 i1 => by rw [zWm_x ic hr k i i0 i1, (ic.2.1 i i0 i1).1]
  · rw [if_neg c, if_neg c]
theorem zchg_c {M : zMm} {q : Int} (hc : zYc M) (h : zRl M q M) (j : Int) : zchg (zWm M q j) (zWm M q (j + 1)) 16 ↔ zchg (zWmR M j) (zWmR M (j + 1)) 16 := by
  have a := zWm_x hc h j
  have b := zWm_x hc h (j + 1)
  constructor
  · rintro ⟨x, x0, x1, e⟩; exact ⟨x, x0, x1, by rw [← a x x0 x1, ← b x x0 x1]; exact e⟩
  · rintro ⟨x, x0, x1, e⟩; exact ⟨x, x0, x1, by rw [a x x0 x1, b x x0 x1]; exact e⟩
set_option maxHeartbeats 4000000 in
theorem zK_still {M : zMm} (hI : zI M) : zW mX9_still 8 (fun rv S' M1 => S' = zS0 ∧ ∃ r : Int, rv = some (.inl r) ∧ zW mX10_still 51 (fun rv2 S2 M2 => S2 = zS0 ∧ rv2 = some (.inl r) ∧ zI M2) (0, 0) zS0 0 (zargs 0 [.inr (.inr 56)]) [] M1) (0, 0) zS0 0 (zargs 0 [.inr (.inr 0)]) [] M := by
  have ix := hI.1
  have ic := hI.2.1
  obtain ⟨q, hT, hTR, hr⟩ := zRl_I ic hI.2.2.2.2.1
  refine zW_mono (cX9_still ix.1 ix.2.2.1 ic.1 hT zoW.rf) fun rv S M1 e => ?_
  obtain ⟨rfl, e1, e⟩ := e
  have kc := e1.kc
  have cc := zchg_c ic hr
  refine ⟨rfl, ?_⟩
  rcases e with ⟨r, r1, r2, r3, rfl⟩ | ⟨r2, rfl⟩
  · refine ⟨_, rfl, zW_mono (cX10_still (kc.P ix.1) (kc.gr ix.2.2.2) (kc.rr ic.r) (kc.tr hTR) zoD.rf) fun rv S M2 e => ?_⟩
    obtain ⟨rfl, e2, e⟩ := e
    refine ⟨rfl, ?_, zWD_I hI e1 e2⟩
    rw [kc.wm.1] at e
    rcases e with ⟨p, p1, p2, p3, rfl⟩ | ⟨p2, rfl⟩
    · refine zri ?_
      by_cases a : p < r
      · exact absurd ((cc p).mp (r2 p p1.1 a)) p3
      · by_cases b : r < p
        · exact absurd ((cc r).mpr (p2 r r1.1 b)) r3
        · omega
    · exact absurd ((cc r).mpr (p2 r r1.1 r1.2)) r3
  · refine ⟨_, rfl, zW_mono (cX10_still (kc.P ix.1) (kc.gr ix.2.2.2) (kc.rr ic.r) (kc.tr hTR) zoD.rf) fun rv S M2 e => ?_⟩
    obtain ⟨rfl, e2, e⟩ := e
    refine ⟨rfl, ?_, zWD_I hI e1 e2⟩
    rw [kc.wm.1] at e
    rcases e with ⟨p, p1, p2, p3, rfl⟩ | ⟨p2, rfl⟩
    · exact absurd ((cc p).mp (r2 p p1.1 p1.2)) p3
    · rfl
set_option maxHeartbeats 4000000 in
theorem zK_gave {M : zMm} (hI : zI M) (w : Int) (k : Int) : zW mX9_gave 8 (fun rv S' M1 => S' = zS0 ∧ ∃ r : Int, rv = some (.inl r) ∧ zW mX10_gave 52 (fun rv2 S2 M2 => S2 = zS0 ∧ rv2 = some (.inl r) ∧ zI M2) (0, 0) zS0 0 (zargs 0 [.inr (.inr 56), .inl w, .inl k]) [] M1) (0, 0) zS0 0 (zargs 0 [.inr (.inr 0), .inl w, .inl k]) [] M := by
  have ix := hI.1
  have ic := hI.2.1
  obtain ⟨q, hT, hTR, hr⟩ := zRl_I ic hI.2.2.2.2.1
  refine zW_mono (cX9_gave ix.1 ix.2.2.1 ic.1 hT w k zoW.rf) fun rv S M1 e => ?_
  obtain ⟨rfl, e1, rfl⟩ := e
  have kc := e1.kc
  refine ⟨rfl, _, rfl, zW_mono (cX10_gave (kc.P ix.1) (kc.gr ix.2.2.2) (kc.rr ic.r) (kc.tr hTR) w k) fun rv S M2 e => ?_⟩
  obtain ⟨rfl, e2, rfl⟩ := e
  refine ⟨rfl, zri ?_, zWD_I hI e1 e2⟩
  unfold zgon
  rw [kc.wm.1, kc.wm.2]
  by_cases c : (0 ≤ w ∧ w < 33) ∧ 0 ≤ k ∧ k < 31
  · rw [if_pos c, if_pos c]
    exact zsum_c fun i i0 i1 => (zflw_x ic hr i c.1.1 c.1.2).symm
  · rw [if_neg c, if_neg c]
set_option maxHeartbeats 4000000 in
theorem zK_leastFire {M : zMm} (hI : zI M) (h : Int) (v : Int) : zW mX9_leastFire 9 (fun rv S' M1 => S' = zS0 ∧ ∃ r : Int, rv = some (.inl r) ∧ zW mX10_leastFire 53 (fun rv2 S2 M2 => S2 = zS0 ∧ rv2 = some (.inl r) ∧ zI M2) (0, 0) zS0 0 (zargs 0 [.inr (.inr 56), .inl h, .inl v]) [] M1) (0, 0) zS0 0 (zargs 0 [.inr (.inr 0), .inl h, .inl v]) [] M := by
  have ix := hI.1
  have ic := hI.2.1
  obtain ⟨q, hT, hTR, hr⟩ := zRl_I ic hI.2.2.2.2.1
  refine zW_mono (cX9_leastFire ix.1 ix.2.2.1 ic.1 hT h v zoW.rf) fun rv S M1 e => ?_
  obtain ⟨rfl, e1, e⟩ := e
  have kc := e1.kc
  have ref := cX10_leastFire (kc.P ix.1) (kc.gr ix.2.2.2) (kc.rr ic.r) (kc.tr hTR) h v
  simp only [kc.fr] at ref
  refine ⟨rfl, ?_⟩
  rcases e with ⟨c, rfl⟩ | ⟨c, ⟨f, f1, f2, f3, rfl⟩ | ⟨f2, rfl⟩⟩
  · refine ⟨_, rfl, zW_mono ref fun rv S M2 e => ?_⟩
    obtain ⟨rfl, e2, e⟩ := e
    refine ⟨rfl, ?_, zWD_I hI e1 e2⟩
    rcases e with ⟨_, rfl⟩ | ⟨c2, _⟩
    · rfl
    · exact absurd c2 c
  · have fx := fun j => zfr_x ic hr c.1.1 c.1.2 (v % 100) j
    refine ⟨_, rfl, zW_mono ref fun rv S M2 e => ?_⟩
    obtain ⟨rfl, e2, e⟩ := e
    refine ⟨rfl, ?_, zWD_I hI e1 e2⟩
    simp only [fx] at f2 f3
    rcases e with ⟨c2, _⟩ | ⟨_, ⟨g, g1, g2, g3, rfl⟩ | ⟨g2, rfl⟩⟩
    · exact absurd c c2
    · refine zri ?_
      by_cases a : f < g
      · have := g2 f f1.1 a; omega
      · by_cases b : g < f
        · have := f2 g g1.1 b; omega
        · omega
    · have := g2 f f1.1 f1.2; omega
  · have fx := fun j => zfr_x ic hr c.1.1 c.1.2 (v % 100) j
    refine ⟨_, rfl, zW_mono ref fun rv S M2 e => ?_⟩
    obtain ⟨rfl, e2, e⟩ := e
    refine ⟨rfl, ?_, zWD_I hI e1 e2⟩
    simp only [fx] at f2
    rcases e with ⟨c2, _⟩ | ⟨_, ⟨g, g1, g2, g3, rfl⟩ | ⟨g2, rfl⟩⟩
    · exact absurd c c2
    · have := f2 g g1.1 g1.2; omega
    · rfl
