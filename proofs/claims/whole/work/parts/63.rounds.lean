/-! rounds, colours, paint are the same on both sides -/
/-- two memories say the same of the comb -/
def zAg (s r : zMm) : Prop := (∀ h : Int, 0 ≤ h → h < 16 → s 7 h = r 7 h ∧ s 8 h = r 8 h ∧ s 9 h = r 9 h ∧ s 10 h = r 10 h) ∧ (∀ w : Int, 0 ≤ w → w < 33 → s 11 w = r 11 w ∧ s 12 w = r 12 w ∧ s 13 w = r 13 w) ∧ s 1 12 = r 1 12 ∧ s 1 13 = r 1 13
theorem zYc.ag {M : zMm} (h : zYc M) : zAg (zvw M) M := by
  obtain ⟨-, c1, c2, c3, c4⟩ := h
  refine ⟨fun h a b => ?_, fun w a b => ?_, c3, c4⟩
  · have t := c1 h a b; exact ⟨t.1, t.2.1, t.2.2.1, t.2.2.2⟩
  · exact c2 w a b
theorem zAg.agree {s r : zMm} (h : zAg s r) (w t : Int) : zagree s w t = zagree r w t := by
  have a := h.1 _ (zlow_b w).1 (zlow_b w).2
  have b := h.1 _ (zhigh_b w).1 (zhigh_b w).2
  unfold zagree
  rw [a.1, b.1, a.2.2.2, b.2.2.2]
theorem zAg.stp {s r : zMm} (h : zAg s r) {T T' : Int → Int} (hT : zW33 T T') {w : Int} (w0 : 0 ≤ w) (w1 : w < 33) : zstp s T w = zstp r T' w := by
  unfold zstp
  rw [h.agree, hT w w0 w1, zload_c hT, zload_c hT, h.2.2.2]
theorem zAg.round {s r : zMm} (h : zAg s r) {T T' : Int → Int} (hT : zW33 T T') : ∀ n : Nat, n ≤ 33 → zW33 (zround s T n).1 (zround r T' n).1 ∧ (zround s T n).2 = (zround r T' n).2 := by
  intro n
  induction n with
  | zero => intro _; exact ⟨hT, rfl⟩
  | succ n ih =>
    intro hn
    have i := ih (by omega)
    have e : zstp s (zround s T n).1 n = zstp r (zround r T' n).1 n := h.stp i.1 (by omega) (by omega)
    have w := i.1 n (by omega) (by omega)
    rw [show ((n + 1 : Nat) : Int) = (n : Int) + 1 by omega, zround_s _ _ (by omega), zround_s _ _ (by omega)]
    refine ⟨?_, ?_⟩
    · show zW33 (zpu _ _ _) (zpu _ _ _)
      exact zW33.pu i.1 (by rw [w, e])
    · show (if _ then _ else _) = (if _ then _ else _)
      rw [e, i.2]
theorem zAg.set {s r : zMm} (h : zAg s r) : ∀ (f : Nat) (n : Int) {T T' : Int → Int}, zW33 T T' → (zset s f n T).1 = (zset r f n T').1 ∧ zW33 (zset s f n T).2 (zset r f n T').2 := by
  intro f
  induction f with
  | zero => intro n T T' hT; exact ⟨rfl, hT⟩
  | succ f ih =>
    intro n T T' hT
    have e := h.round hT 33 (Nat.le_refl _)
    unfold zset
    have e2 : (zround s T 33).2 = (zround r T' 33).2 := e.2
    by_cases q : (zround r T' 33).2 = 0
    · rw [if_pos q, if_pos (e2.trans q)]; exact ⟨rfl, e.1⟩
    · rw [if_neg q, if_neg (fun x => q (e2.symm.trans x))]; exact ih _ e.1
set_option maxHeartbeats 4000000 in
theorem zK_rounds {M : zMm} (hI : zI M) (w : Int) : zW mX9_rounds 5 (fun rv S' M1 => S' = zS0 ∧ ∃ r : Int, rv = some (.inl r) ∧ zW mX10_rounds 3 (fun rv2 S2 M2 => S2 = zS0 ∧ rv2 = some (.inl r) ∧ zI M2) (0, 0) zS0 0 (zargs 0 [.inr (.inr 56), .inl w]) [] M1) (0, 0) zS0 0 (zargs 0 [.inr (.inr 0), .inl w]) [] M := by
  have ix := hI.1
  have ic := hI.2.1
  have ih := hI.2.2.1
  have it := hI.2.2.2.1
  have il := hI.2.2.2.2.1
  have iw := hI.2.2.2.2.2.1
  have ii := hI.2.2.2.2.2.2.1
  have ib := hI.2.2.2.2.2.2.2.1
  have is := hI.2.2.2.2.2.2.2.2.1
  have ik := hI.2.2.2.2.2.2.2.2.2
  refine zW_mono (cX9_rounds ix.1 ix.2.2.1 ic.1 w) fun rv S M1 h => ?_
  obtain ⟨rfl, rfl, e1⟩ := h
  have kc : zKc M M1 := zKc.of fun c hc => e1 c (by omega) (by omega)
  refine ⟨rfl, _, rfl, zW_mono (cX10_rounds (kc.P ix.1) (kc.gr ix.2.2.2) (kc.rr ic.r) w) fun rv S M2 h => ?_⟩
  obtain ⟨rfl, rfl, e2⟩ := h
  rw [kc.v]
  have t := ic.ag.set 100 0 (T := zvw M 11) (T' := M 11) (fun k a b => (ic.ag.2.1 k a b).1)
  refine ⟨rfl, zri ?_, hI.go (L := [28, 29, 73]) (J := []) (fun c hc => by simp only [List.mem_cons, List.not_mem_nil, not_or, or_false, not_false_eq_true, and_true, true_and] at hc; rw [e2 c (by omega), e1 c (by omega) (by omega)]) (fun j _ => by rw [e2 56 (by decide), e1 56 (by decide) (by decide)])⟩
  by_cases q : w = -1
  · rw [if_pos q, if_pos q]; exact t.1
  · rw [if_neg q, if_neg q]
    by_cases q2 : 0 ≤ w ∧ w < 33
    · rw [if_pos q2, if_pos q2]; exact t.2 w q2.1 q2.2
    · rw [if_neg q2, if_neg q2]
/-- sums in two ways -/
theorem zsum_add (f g : Int → Int) : ∀ n : Nat, zsum (fun i => f i + g i) n = zsum f n + zsum g n := by
  intro n
  induction n with
  | zero => rfl
  | succ n ih => rw [show ((n + 1 : Nat) : Int) = (n : Int) + 1 by omega, zsum_s _ (by omega), zsum_s _ (by omega), zsum_s _ (by omega), ih]; omega
theorem zsum_sym (f : Int → Int → Int) (hs : ∀ a b : Int, f a b = f b a) (hd : ∀ a : Int, f a a = 0) : ∀ n : Nat, zsum (fun a => zsum (f a) n) n = 2 * zsum (fun a => zsum (f a) a) n := by
  intro n
  induction n with
  | zero => rfl
  | succ n ih =>
    have e : ∀ a : Int, zsum (f a) ((n : Int) + 1) = zsum (f a) n + f a n := fun a => zsum_s _ (by omega)
    have s1 := zsum_s (fun a => zsum (f a) ((n : Int) + 1)) (i := (n : Int)) (by omega)
    have s2 := zsum_s (fun a => zsum (f a) a) (i := (n : Int)) (by omega)
    have s3 := zsum_c (n := (n : Int)) (f := fun a => zsum (f a) ((n : Int) + 1)) (g := fun a => zsum (f a) n + f a n) (fun a _ _ => e a)
    have s4 := zsum_add (fun a => zsum (f a) n) (fun a => f a n) n
    have e3 : zsum (fun a => f a n) n = zsum (f n) n := zsum_c fun a _ _ => hs a n
    have e4 := e n
    have e5 := hd n
    rw [show ((n + 1 : Nat) : Int) = (n : Int) + 1 by omega, s1, s2, s3, s4, ih, e3, e4, e5]
    omega
/-- whether two walls meet at a house -/
abbrev zmt (a b : Int) : Prop := zlow a = zlow b ∨ zlow a = zhigh b ∨ zhigh a = zlow b ∨ zhigh a = zhigh b
theorem zmt_t : ∀ a b : Fin 33, a.val ≠ b.val → ¬ ((zlow (b.val : Int) = zlow (a.val : Int) ∨ zhigh (b.val : Int) = zlow (a.val : Int)) ∧ (zlow (b.val : Int) = zhigh (a.val : Int) ∨ zhigh (b.val : Int) = zhigh (a.val : Int))) := by decide +kernel
theorem zmt_tI {a b : Int} (ha : 0 ≤ a ∧ a < 33) (hb : 0 ≤ b ∧ b < 33) (hab : a ≠ b) : ¬ ((zlow b = zlow a ∨ zhigh b = zlow a) ∧ (zlow b = zhigh a ∨ zhigh b = zhigh a)) := by
  have e := zmt_t ⟨a.toNat, by omega⟩ ⟨b.toNat, by omega⟩ (by show a.toNat ≠ b.toNat; omega)
  simpa only [show ((a.toNat : Nat) : Int) = a by omega, show ((b.toNat : Nat) : Int) = b by omega] using e
theorem zalIn_w (T : Int → Int) {h : Int} (h0 : 0 ≤ h) (h1 : h < 16) (w c : Int) : zalIn T h w c = zsum (fun v => if (zlow v = h ∨ zhigh v = h) ∧ v ≠ w ∧ T v = c then 1 else 0) 33 := by
  unfold zalIn zsum
  rw [zsideF (fun a v => if v ≠ w ∧ T v = c then a + 1 else a) 0 h0 h1]
  refine zfo_c fun x v _ _ => ?_
  try dsimp only
  by_cases p : zlow v = h ∨ zhigh v = h
  · rw [if_pos p]
    by_cases q : v ≠ w ∧ T v = c
    · rw [if_pos q, if_pos ⟨p, q⟩]
    · rw [if_neg q, if_neg (fun z => q z.2)]; omega
  · rw [if_neg p, if_neg (fun z => p z.1)]; omega
theorem zalike_w (T : Int → Int) {w : Int} (hw : 0 ≤ w ∧ w < 33) (c : Int) : zalike T w c = zsum (fun v => if (v ≠ w ∧ zmt w v) ∧ T v = c then 1 else 0) 33 := by
  unfold zalike
  rw [zalIn_w T (zlow_b w).1 (zlow_b w).2, zalIn_w T (zhigh_b w).1 (zhigh_b w).2]
  refine (zsum_add _ _ 33).symm.trans (zsum_c fun v v0 v1 => ?_)
  try dsimp only
  by_cases q : v ≠ w ∧ T v = c
  · have t := zmt_tI hw ⟨v0, v1⟩ (fun e => q.1 e.symm)
    unfold zmt
    by_cases a : zlow v = zlow w ∨ zhigh v = zlow w
    · rw [if_pos ⟨a, q⟩, if_neg (fun z => t ⟨a, z.1⟩), if_pos ⟨⟨q.1, by omega⟩, q.2⟩]; rfl
    · rw [if_neg (fun z => a z.1)]
      by_cases b : zlow v = zhigh w ∨ zhigh v = zhigh w
      · rw [if_pos ⟨b, q⟩, if_pos ⟨⟨q.1, by omega⟩, q.2⟩]; rfl
      · rw [if_neg (fun z => b z.1), if_neg (by omega)]; rfl
  · rw [if_neg (fun z => q z.2), if_neg (fun z => q z.2), if_neg (fun z => q ⟨z.1.1, z.2⟩)]; rfl
def zcl2 (T : Int → Int) (a b : Int) : Int := if (b ≠ a ∧ zmt a b) ∧ T b = T a then 1 else 0
theorem zclash_eq (T : Int → Int) : zclash T = zclR T := by
  unfold zclash zclR
  have e0 : zsum (fun w => zalike T w (T w)) 33 = zsum (fun a => zsum (zcl2 T a) 33) 33 := zsum_c fun w w0 w1 => zalike_w T ⟨w0, w1⟩ (T w)
  have e := zsum_sym (zcl2 T) (fun a b => by
    unfold zcl2 zmt
    by_cases q : (b ≠ a ∧ (zlow a = zlow b ∨ zlow a = zhigh b ∨ zhigh a = zlow b ∨ zhigh a = zhigh b)) ∧ T b = T a
    · rw [if_pos q, if_pos (by omega)]
    · rw [if_neg q, if_neg (by omega)]) (fun a => by unfold zcl2; rw [if_neg (fun z => z.1.1 rfl)]) 33
  have e2 : zsum (fun a => zsum (zcl2 T a) a) 33 = zsum (fun a => zsum (zclG T a) a) 33 := zsum_c fun a a0 a1 => zsum_c fun b b0 b1 => by
    unfold zcl2 zclG zmt
    by_cases q : (zlow a = zlow b ∨ zlow a = zhigh b ∨ zhigh a = zlow b ∨ zhigh a = zhigh b) ∧ T a = T b
    · rw [if_pos q, if_pos (by omega)]
    · rw [if_neg q, if_neg (by omega)]
  have e3 : zsum (fun a => zsum (zcl2 T a) 33) 33 = 2 * zsum (fun a => zsum (zclG T a) a) 33 := by rw [← e2]; exact e
  rw [e0, e3]
  omega
/-- a wall's own part of the clashes, at a colour -/
def zhc (T : Int → Int) (w c v : Int) : Int := if (v ≠ w ∧ zmt w v) ∧ T v = c then 1 else 0
theorem zclP (T : Int → Int) (w c c' : Int) (hw : 0 ≤ w) : ∀ n : Nat, zsum (fun a => zsum (zclG (zpu T w c) a) a) n - (if w < n then zsum (zhc T w c) n else 0) = zsum (fun a => zsum (zclG (zpu T w c') a) a) n - (if w < n then zsum (zhc T w c') n else 0) := by
  intro n
  induction n with
  | zero => rw [if_neg (by omega), if_neg (by omega)]; rfl
  | succ n ih =>
    have s1 : ∀ c : Int, zsum (fun a => zsum (zclG (zpu T w c) a) a) ((n : Int) + 1) = _ := fun c => zsum_s (fun a => zsum (zclG (zpu T w c) a) a) (i := (n : Int)) (by omega)
    have s2 : ∀ c : Int, zsum (zhc T w c) ((n : Int) + 1) = _ := fun c => zsum_s (zhc T w c) (i := (n : Int)) (by omega)
    rw [show ((n + 1 : Nat) : Int) = (n : Int) + 1 by omega, s1 c, s1 c', s2 c, s2 c']
    try dsimp only
    by_cases l : w < n
    · rw [if_pos l, if_pos l] at ih
      rw [if_pos (by omega), if_pos (by omega)]
      have k : ∀ c : Int, zsum (zclG (zpu T w c) n) n = zsum (zclG T n) n + (zhc T w c n - zclG T n w) := fun c => by
        have e : zsum (zclG (zpu T w c) n) n = zsum (zpu (zclG T n) w (zhc T w c n)) n := zsum_c fun b b0 b1 => by
          unfold zclG zhc
          rw [zpu_n (show (n : Int) ≠ w by omega)]
          by_cases q : b = w
          · subst q
            rw [zpu_s, zpu_s]
            unfold zmt
            by_cases z : ((n : Int) ≠ b ∧ (zlow b = zlow n ∨ zlow b = zhigh n ∨ zhigh b = zlow n ∨ zhigh b = zhigh n)) ∧ T n = c
            · rw [if_pos z, if_pos (by omega)]
            · rw [if_neg z, if_neg (by omega)]
          · rw [zpu_n q, zpu_n q]
        rw [e, zsum_pu _ hw, if_pos l]
      rw [k c, k c']
      omega
    · rw [if_neg l, if_neg l] at ih
      by_cases l2 : w < (n : Int) + 1
      · have en : w = n := by omega
        rw [if_pos l2, if_pos l2]
        have k : ∀ c : Int, zsum (zclG (zpu T w c) n) n = zsum (zhc T w c) n := fun c => zsum_c fun b b0 b1 => by
          unfold zclG zhc
          rw [en, zpu_s, zpu_n (show b ≠ (n : Int) by omega)]
          unfold zmt
          by_cases z : (b ≠ (n : Int) ∧ (zlow n = zlow b ∨ zlow n = zhigh b ∨ zhigh n = zlow b ∨ zhigh n = zhigh b)) ∧ T b = c
          · rw [if_pos z, if_pos (by omega)]
          · rw [if_neg z, if_neg (by omega)]
        have k0 : ∀ c : Int, zhc T w c n = 0 := fun c => by unfold zhc; rw [if_neg (fun z => z.1.1 en.symm)]
        rw [k c, k c', k0, k0]
        omega
      · rw [if_neg l2, if_neg l2]
        have k : ∀ c : Int, zsum (zclG (zpu T w c) n) n = zsum (zclG T n) n := fun c => zsum_c fun b b0 b1 => by
          unfold zclG
          rw [zpu_n (show (n : Int) ≠ w by omega), zpu_n (show b ≠ w by omega)]
        rw [k c, k c']
        omega
theorem zclP33 (T : Int → Int) {w : Int} (hw : 0 ≤ w ∧ w < 33) (c c' : Int) : zclR (zpu T w c) - zalike T w c = zclR (zpu T w c') - zalike T w c' := by
  have e := zclP T w c c' hw.1 33
  rw [if_pos (show w < ((33 : Nat) : Int) from hw.2), if_pos (show w < ((33 : Nat) : Int) from hw.2)] at e
  rw [zalike_w T hw, zalike_w T hw]
  exact e
theorem zbe_calm (T : Int → Int) {w : Int} (hw : 0 ≤ w ∧ w < 33) : ∀ n : Nat, zfo (zbe1 T w) (-1, 0) ((n : Int) + 1) = (zfo (fun best i => if zalike T w (i + 1) < zalike T w best then i + 1 else best) 0 n, zclR (zpu T w (zfo (fun best i => if zalike T w (i + 1) < zalike T w best then i + 1 else best) 0 n))) ∧ 0 ≤ zfo (fun best i => if zalike T w (i + 1) < zalike T w best then i + 1 else best) (0 : Int) n := by
  intro n
  induction n with
  | zero => exact ⟨rfl, Int.le_refl _⟩
  | succ n ih =>
    rw [zfo_s _ _ (by omega), show ((n + 1 : Nat) : Int) = (n : Int) + 1 by omega, ih.1, zfo_s (fun best i => if zalike T w (i + 1) < zalike T w best then i + 1 else best) 0 (show (0 : Int) ≤ n by omega)]
    obtain ⟨-, i2⟩ := ih
    generalize zfo (fun best i => if zalike T w (i + 1) < zalike T w best then i + 1 else best) (0 : Int) (n : Int) = b at i2
    have e := zclP33 T hw ((n : Int) + 1) b
    unfold zbe1
    dsimp only
    by_cases q : zalike T w ((n : Int) + 1) < zalike T w b
    · rw [if_pos q, if_pos (Or.inr (by omega))]; exact ⟨rfl, by omega⟩
    · rw [if_neg q, if_neg (by omega)]; exact ⟨rfl, i2⟩
theorem zcalm_eq (T : Int → Int) {w : Int} (hw : 0 ≤ w ∧ w < 33) : zbeR T w = zcalm T w := by
  have e := (zbe_calm T hw 5).1
  unfold zbeR
  rw [show (6 : Int) = ((5 : Nat) : Int) + 1 by decide, e]
  rfl
theorem zcalmed_eq (T : Int → Int) : zclN T 33 = zcalmed T 33 := zfo_c fun x i i0 i1 => by rw [zcalm_eq x ⟨i0, i1⟩]
theorem zcalmed_c {r T : Int → Int} (h : zW33 r T) : ∀ n : Nat, zW33 (zcalmed r n) (zcalmed T n) := by
  intro n
  induction n with
  | zero => exact h
  | succ n ih =>
    unfold zcalmed at ih ⊢
    rw [show ((n + 1 : Nat) : Int) = (n : Int) + 1 by omega, zfo_s _ _ (by omega), zfo_s _ _ (by omega)]
    exact ih.pu (zcalm_c ih _)
theorem zpots_c {r T : Int → Int} (h : zW33 r T) : zpots r 33 = zpots T 33 := zfo_c fun a w w0 w1 => by rw [h w w0 w1]
theorem zbitc_t : ∀ x : Fin 64, zpn 62 x.val = zbitc (x.val : Int) := by decide +kernel
theorem zbitc_n {x : Int} (h : 0 ≤ x ∧ x < 64) : zpn 62 x.toNat = zbitc x := by
  have e := zbitc_t ⟨x.toNat, by omega⟩
  simpa only [show ((x.toNat : Nat) : Int) = x by omega] using e
set_option maxHeartbeats 4000000 in
theorem zK_colours {M : zMm} (hI : zI M) (w : Int) : zW mX9_colours 5 (fun rv S' M1 => S' = zS0 ∧ ∃ r : Int, rv = some (.inl r) ∧ zW mX10_colours 3 (fun rv2 S2 M2 => S2 = zS0 ∧ rv2 = some (.inl r) ∧ zI M2) (0, 0) zS0 0 (zargs 0 [.inr (.inr 56), .inl w]) [] M1) (0, 0) zS0 0 (zargs 0 [.inr (.inr 0), .inl w]) [] M := by
  have ix := hI.1
  have ic := hI.2.1
  have ih := hI.2.2.1
  have it := hI.2.2.2.1
  have il := hI.2.2.2.2.1
  have iw := hI.2.2.2.2.2.1
  have ii := hI.2.2.2.2.2.2.1
  have ib := hI.2.2.2.2.2.2.2.1
  have is := hI.2.2.2.2.2.2.2.2.1
  have ik := hI.2.2.2.2.2.2.2.2.2
  refine zW_mono (cX9_colours ix.1 ix.2.2.1 w) fun rv S M1 h => ?_
  obtain ⟨rfl, rfl, e1⟩ := h
  have kc : zKc M M1 := zKc.of fun c hc => e1 c (by omega)
  have e57 : M1 57 = M 57 := kc.1 57 (by decide)
  refine ⟨rfl, _, rfl, zW_mono (cX10_colours (kc.P ix.1) (kc.gr ix.2.2.2) (kc.rr ic.r) w) fun rv S M2 h => ?_⟩
  obtain ⟨rfl, rfl, e2⟩ := h
  rw [e57]
  have t : zW33 (fun k => M 57 (98 + k)) (M 13) := fun k a b => (ic.2.2.1 k a b).2.2
  refine ⟨rfl, zri ?_, hI.go (L := [30, 75]) (J := []) (fun c hc => by simp only [List.mem_cons, List.not_mem_nil, not_or, or_false, not_false_eq_true, and_true, true_and] at hc; rw [e2 c (by omega), e1 c (by omega)]) (fun j _ => by rw [e2 56 (by decide), e1 56 (by decide)])⟩
  rw [zclR_c t, ← zclash_eq, zcalmed_eq, zclR_c (show zW33 (zcalmed (fun k => M 57 (98 + k)) 33) (zcalmed (M 13) 33) from zcalmed_c t 33), ← zclash_eq, zpots_c t, zbitc_n]
  exact zpot_b (fun w a b => (ic.1.2.1 w a b).2.2) 33 (Nat.le_refl _)
set_option maxHeartbeats 4000000 in
theorem zK_paint {M : zMm} (hI : zI M) (w : Int) : zW mX9_paint 5 (fun rv S' M1 => S' = zS0 ∧ ∃ r : Int, rv = some (.inl r) ∧ zW mX10_paint 3 (fun rv2 S2 M2 => S2 = zS0 ∧ rv2 = some (.inl r) ∧ zI M2) (0, 0) zS0 0 (zargs 0 [.inr (.inr 56), .inl w]) [] M1) (0, 0) zS0 0 (zargs 0 [.inr (.inr 0), .inl w]) [] M := by
  have ix := hI.1
  have ic := hI.2.1
  have ih := hI.2.2.1
  have it := hI.2.2.2.1
  have il := hI.2.2.2.2.1
  have iw := hI.2.2.2.2.2.1
  have ii := hI.2.2.2.2.2.2.1
  have ib := hI.2.2.2.2.2.2.2.1
  have is := hI.2.2.2.2.2.2.2.2.1
  have ik := hI.2.2.2.2.2.2.2.2.2
  refine zW_mono (cX9_paint ix.1 ix.2.2.1 w) fun rv S M1 h => ?_
  obtain ⟨rfl, rfl, rfl⟩ := h
  refine ⟨rfl, _, rfl, zW_mono (cX10_paint ix.1 ix.2.2.2 w) fun rv S M2 h => ?_⟩
  obtain ⟨rfl, rfl, e2⟩ := h
  have t : zW33 (fun k => M 57 (98 + k)) (M 13) := fun k a b => (ic.2.2.1 k a b).2.2
  refine ⟨rfl, zri ?_, hI.go (L := [75]) (J := []) (fun c hc => by simp only [List.mem_cons, List.not_mem_nil, not_or, or_false, not_false_eq_true, and_true, true_and] at hc; rw [e2 c (by omega)]) (fun j _ => by rw [e2 56 (by decide)])⟩
  by_cases q : 0 ≤ w ∧ w < 33
  · rw [if_pos q, if_pos q, zcalm_eq _ q]; exact zcalm_c t w
  · rw [if_neg q, if_neg q]
