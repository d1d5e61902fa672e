/-! contracts of Ways: ways by doors, companies, noises -/
def zbes (s : zMm) (r : Int) : Int := zfo (fun f w => if s 12 w = 0 then f else
  let f1 := if zand (zshr r (zlow w)) 1 = 1 then zor f (zshl 1 (zhigh w)) else f
  if zand (zshr r (zhigh w)) 1 = 1 then zor f1 (zshl 1 (zlow w)) else f1) 0 33
def zreach (s : zMm) (a n : Int) : Int := zfo (fun r _ => zor r (zbes s r)) (zshl 1 a) n
def zstepsF (s : zMm) (a b : Int) : Int := zff (fun n => n) (fun n => zand (zshr (zreach s a n) b) 1 = 1) 16
/-- rows that agree on the houses -/
def zH (f g : Int → Int) : Prop := ∀ h : Int, 0 ≤ h → h < 16 → f h = g h
def zjoin (C : Int → Int) (x y : Int) : Int → Int := fun h => if C h = x ∨ C h = y then (if x < y then y else x) else C h
def zg0 : Int → Int := fun h => if zsid h < 6 then 16 else h
def zgat (s : zMm) (n : Int) : Int → Int := zfo (fun C w => if s 12 w = 1 then zjoin C (C (zlow w)) (C (zhigh w)) else C) zg0 n
def zCB (C : Int → Int) : Prop := ∀ h : Int, 0 ≤ h → h < 16 → 0 ≤ C h ∧ C h ≤ 16
theorem zCB_join {C : Int → Int} {x y : Int} (h : zCB C) (hx : 0 ≤ x ∧ x ≤ 16) (hy : 0 ≤ y ∧ y ≤ 16) : zCB (zjoin C x y) := by
  intro k h0 h1
  unfold zjoin
  have := h k h0 h1
  split
  · split <;> omega
  · exact this
def zonly (c : Int) (M M2 : zMm) : Prop := ∀ k : Int, k ≠ c → M2 k = M k
theorem zonly.rf {c : Int} {M : zMm} : zonly c M M := fun _ _ => rfl
theorem zonly.tr {c : Int} {M M1 M2 : zMm} (h : zonly c M M1) (h2 : zonly c M1 M2) : zonly c M M2 := fun k hk => (h2 k hk).trans (h k hk)
theorem zonly.up {c k v : Int} {M M2 : zMm} (h : zonly c M M2) : zonly c M (zup M2 c k v) := fun q hq => (zup_row hq).trans (h q hq)
theorem zonly.P {c : Int} {M M2 : zMm} (h : zonly c M M2) (hc : 0 ≤ c) (hP : zP M) : zP M2 := zP_of hP fun r hr => h r (by omega)
theorem zonly.G {c : Int} {M M2 : zMm} (h : zonly c M M2) (hc : 6 < c) (hG : zG M) : zG M2 := zG_of hG fun k h0 h1 => h k (by omega)
def zwant (s : zMm) (C : Int → Int) (n : Int) : Int := zfo (fun a h => if s 7 h = 1 then zor a (zshl 1 (C h)) else a) 65536 n
def zfew1 (want : Int) (p : (Int → Int) × Int) (w : Int) : (Int → Int) × Int := if p.1 (zlow w) = p.1 (zhigh w) ∨ zand (zand (zshr want (p.1 (zlow w))) (zshr want (p.1 (zhigh w)))) 1 = 0 then p else (zjoin p.1 (p.1 (zlow w)) (p.1 (zhigh w)), zlor p.2 (zlshl 1 w))
def zfewN (s : zMm) (n : Int) : (Int → Int) × Int := zfo (zfew1 (zwant s (zgat s 33) 16)) (zgat s 33, 0) n
def zshut (s : zMm) (n : Int) : Int := zsum (fun h => if s 7 h = 1 ∧ zgat s 33 h ≠ 16 then 1 else 0) n
def zfri (s : zMm) (n : Int) : Int := zsum (fun w => if s 12 w = 1 ∧ s 7 (zlow w) = 1 ∧ s 7 (zhigh w) = 1 then 1 else 0) n
theorem zand01 {x y : Int} (hx : 0 ≤ x ∧ x ≤ 1) (hy : 0 ≤ y ∧ y ≤ 1) : zand x y = if x = 1 ∧ y = 1 then 1 else 0 := by
  rcases (show x = 0 ∨ x = 1 by omega) with rfl | rfl <;> rcases (show y = 0 ∨ y = 1 by omega) with rfl | rfl <;> rfl
/-- noises: what is lost at a wall; one wall's two passes; a round; rounds -/
def zwl (s : zMm) (w : Int) : Int := if s 12 w = 1 then 3 else 3 + 2 * s 11 w
def zrel (L : Int → Int) (f t c : Int) : (Int → Int) × Int := if L f + c < L t then (zpu L t (L f + c), 1) else (L, 0)
def zlis1 (s : zMm) (p : (Int → Int) × Int) (w : Int) : (Int → Int) × Int := if (zrel p.1 (zlow w) (zhigh w) (zwl s w)).2 = 1 then ((zrel p.1 (zlow w) (zhigh w) (zwl s w)).1, 1) else ((zrel p.1 (zhigh w) (zlow w) (zwl s w)).1, if (zrel p.1 (zhigh w) (zlow w) (zwl s w)).2 = 1 then 1 else p.2)
def zlisR (s : zMm) (L : Int → Int) (n : Int) : (Int → Int) × Int := zfo (zlis1 s) (L, 0) n
def zlisN (s : zMm) : Nat → (Int → Int) → (Int → Int)
  | 0, L => L
  | f + 1, L => if (zlisR s L 33).2 = 0 then (zlisR s L 33).1 else zlisN s f (zlisR s L 33).1
def zlis0 (a : Int) : Int → Int := fun h => if h = a then 0 else 1000000
def zlis (s : zMm) (a : Int) : Int → Int := zlisN s 16 (zlis0 a)
def zLB (L : Int → Int) : Prop := ∀ h : Int, 0 ≤ h → h < 16 → 0 ≤ L h ∧ L h ≤ 1000000
theorem zwl_b {s : zMm} (h : zRg s) {w : Int} (h0 : 0 ≤ w) (h1 : w < 33) : 3 ≤ zwl s w ∧ zwl s w ≤ 21 := by
  have := h.2.1 w h0 h1
  unfold zwl
  split <;> omega
theorem zrel_B {L : Int → Int} (h : zLB L) {f t c : Int} (hf : 0 ≤ f ∧ f < 16) (ht : 0 ≤ t ∧ t < 16) (hc : 0 ≤ c) : zLB (zrel L f t c).1 := by
  unfold zrel
  split
  · have h1 := h f hf.1 hf.2
    have h2 := h t ht.1 ht.2
    exact zpu_r h (by omega)
  · exact h
theorem zlis1_B {s : zMm} (hR : zRg s) {p : (Int → Int) × Int} (h : zLB p.1) {w : Int} (h0 : 0 ≤ w) (h1 : w < 33) : zLB (zlis1 s p w).1 := by
  have hc := zwl_b hR h0 h1
  unfold zlis1
  split
  · exact zrel_B h (zlow_b w) (zhigh_b w) (by omega)
  · exact zrel_B h (zhigh_b w) (zlow_b w) (by omega)
theorem zRg_of {M M' : zMm} (h : zRg M) (h1 : M' 1 = M 1) (hr : ∀ c : Int, 7 ≤ c → c ≤ 13 → M' c = M c) : zRg M' := by
  unfold zRg
  rw [h1, hr 7 (by omega) (by omega), hr 8 (by omega) (by omega), hr 9 (by omega) (by omega), hr 10 (by omega) (by omega), hr 11 (by omega) (by omega), hr 12 (by omega) (by omega), hr 13 (by omega) (by omega)]
  exact h
set_option maxHeartbeats 4000000 in
theorem lp_X7_besides_4 {Q : zPost} {M : zMm} (hP : zP M) (hG : zG M) (r : Int) (hx93 : ∀ (f : Int), (f = zbes M r) → zW mX7_besides 1 Q (0, 0) zS0 93 [(2, .inl f)] [] M) : ∀ (n : Nat) (f : Int) (w : Int), (33 - w).toNat < n → (0 ≤ w ∧ w ≤ 33 ∧ f = zfo (fun f w => if M 12 w = 0 then f else (let f1 := if zand (zshr r (zlow w)) 1 = 1 then zor f (zshl 1 (zhigh w)) else f; if zand (zshr r (zhigh w)) 1 = 1 then zor f1 (zshl 1 (zlow w)) else f1)) 0 w) → zW mX7_besides 1 Q (0, 0) zS0 4 [(0, .inr (.inr 31)), (1, .inl r), (2, .inl f), (3, .inl w)] [] M := by
  intro n
  induction n with
  | zero => intro f w hn; exact absurd hn (Nat.not_lt_zero _)
  | succ n ih =>
    intro f w hn hI
    refine z_iload_n 3 (zdec DX7_besides 4 rfl) rfl rfl ?_
    refine z_bipush 33 (zdec DX7_besides 5 rfl) (by decide) ?_
    refine z_icmp_ge 93 (zdec DX7_besides 6 rfl) rfl (fun h7 => ?_) (fun h7 => ?_)
    ·
      refine z_weak (L' := [(2, .inl f)]) (by simp) ?_
      exact hx93 f (by rw [hI.2.2, show w = 33 by omega]; rfl)
    ·
      refine z_aload_n 0 (zdec DX7_besides 7 rfl) rfl rfl (by decide) ?_
      refine z_getr (rw1 := -41) (ki := 0) (r' := 1) 31 7 (zdec DX7_besides 8 rfl) rfl rfl shp31 rfl (by decide) rfl rfl fl_SixWalls_Ways_18 (zPa hP 34 rfl) ?_
      refine z_getr (rw1 := -11) (ki := 10) (r' := 12) 1 1 (zdec DX7_besides 9 rfl) rfl rfl shp1 rfl (by decide) rfl rfl fl_SixWalls_Ways_26 (zPa hP 19 rfl) ?_
      refine z_iload_n 3 (zdec DX7_besides 10 rfl) rfl rfl ?_
      refine z_iald 12 (zdec DX7_besides 11 rfl) rfl shp12 ⟨by omega, by omega⟩ ?_
      refine z_if_ne 25 (zdec DX7_besides 12 rfl) rfl (fun h19 => ?_) (fun h19 => ?_)
      ·
        refine z_iload_n 1 (zdec DX7_besides 14 rfl) rfl rfl ?_
        refine z_aload_n 0 (zdec DX7_besides 15 rfl) rfl rfl (by decide) ?_
        refine z_getr (rw1 := -41) (ki := 0) (r' := 1) 31 7 (zdec DX7_besides 16 rfl) rfl rfl shp31 rfl (by decide) rfl rfl fl_SixWalls_Ways_18 (zPa hP 34 rfl) ?_
        refine z_getr (rw1 := -11) (ki := 0) (r' := 2) 1 1 (zdec DX7_besides 17 rfl) rfl rfl shp1 rfl (by decide) rfl rfl fl_SixWalls_Ways_31 (zPa hP 9 rfl) ?_
        refine z_iload_n 3 (zdec DX7_besides 18 rfl) rfl rfl ?_
        refine z_iald 2 (zdec DX7_besides 19 rfl) rfl shp2 ⟨by omega, by omega⟩ ?_
        rw [hG.low (by omega) (by omega)]
        refine z_ishr (zdec DX7_besides 20 rfl) ?_
        refine z_iconst 1 (zdec DX7_besides 21 rfl) (by decide) ?_
        refine z_iand (zdec DX7_besides 22 rfl) ?_
        refine z_iconst 1 (zdec DX7_besides 23 rfl) (by decide) ?_
        refine z_icmp_ne 56 (zdec DX7_besides 24 rfl) rfl (fun h39 => ?_) (fun h39 => ?_)
        ·
          refine z_iload_n 1 (zdec DX7_besides 35 rfl) rfl rfl ?_
          refine z_aload_n 0 (zdec DX7_besides 36 rfl) rfl rfl (by decide) ?_
          refine z_getr (rw1 := -41) (ki := 0) (r' := 1) 31 7 (zdec DX7_besides 37 rfl) rfl rfl shp31 rfl (by decide) rfl rfl fl_SixWalls_Ways_18 (zPa hP 34 rfl) ?_
          refine z_getr (rw1 := -11) (ki := 1) (r' := 3) 1 1 (zdec DX7_besides 38 rfl) rfl rfl shp1 rfl (by decide) rfl rfl fl_SixWalls_Ways_34 (zPa hP 10 rfl) ?_
          refine z_iload_n 3 (zdec DX7_besides 39 rfl) rfl rfl ?_
          refine z_iald 3 (zdec DX7_besides 40 rfl) rfl shp3 ⟨by omega, by omega⟩ ?_
          rw [hG.high (by omega) (by omega)]
          refine z_ishr (zdec DX7_besides 41 rfl) ?_
          refine z_iconst 1 (zdec DX7_besides 42 rfl) (by decide) ?_
          refine z_iand (zdec DX7_besides 43 rfl) ?_
          refine z_iconst 1 (zdec DX7_besides 44 rfl) (by decide) ?_
          refine z_icmp_ne 87 (zdec DX7_besides 45 rfl) rfl (fun h70 => ?_) (fun h70 => ?_)
          ·
            refine z_iinc (L' := [(0, .inr (.inr 31)), (1, .inl r), (2, .inl f), (3, .inl (w + 1))]) 3 (zdec DX7_besides 56 rfl) rfl (by unfold z32; omega) rfl (by decide) ?_
            refine z_goto 4 (zdec DX7_besides 57 rfl) rfl ?_
            exact ih f (w + 1) (by omega) ⟨by omega, by omega, by rw [zfo_s _ _ (by omega), ← hI.2.2]; rw [if_neg (by omega)]; dsimp only; rw [if_neg h39, if_neg h70]⟩
          ·
            refine z_iload_n 2 (zdec DX7_besides 46 rfl) rfl rfl ?_
            refine z_iconst 1 (zdec DX7_besides 47 rfl) (by decide) ?_
            refine z_aload_n 0 (zdec DX7_besides 48 rfl) rfl rfl (by decide) ?_
            refine z_getr (rw1 := -41) (ki := 0) (r' := 1) 31 7 (zdec DX7_besides 49 rfl) rfl rfl shp31 rfl (by decide) rfl rfl fl_SixWalls_Ways_18 (zPa hP 34 rfl) ?_
            refine z_getr (rw1 := -11) (ki := 0) (r' := 2) 1 1 (zdec DX7_besides 50 rfl) rfl rfl shp1 rfl (by decide) rfl rfl fl_SixWalls_Ways_31 (zPa hP 9 rfl) ?_
            refine z_iload_n 3 (zdec DX7_besides 51 rfl) rfl rfl ?_
            refine z_iald 2 (zdec DX7_besides 52 rfl) rfl shp2 ⟨by omega, by omega⟩ ?_
            rw [hG.low (by omega) (by omega)]
            refine z_ishl (zdec DX7_besides 53 rfl) ?_
            refine z_ior (zdec DX7_besides 54 rfl) ?_
            refine z_istore_n (L' := [(0, .inr (.inr 31)), (1, .inl r), (2, .inl (zor f (zshl 1 (zlow w)))), (3, .inl w)]) (zdec DX7_besides 55 rfl) rfl rfl (by decide) ?_
            refine z_iinc (L' := [(0, .inr (.inr 31)), (1, .inl r), (2, .inl (zor f (zshl 1 (zlow w)))), (3, .inl (w + 1))]) 3 (zdec DX7_besides 56 rfl) rfl (by unfold z32; omega) rfl (by decide) ?_
            refine z_goto 4 (zdec DX7_besides 57 rfl) rfl ?_
            exact ih (zor f (zshl 1 (zlow w))) (w + 1) (by omega) ⟨by omega, by omega, by rw [zfo_s _ _ (by omega), ← hI.2.2]; rw [if_neg (by omega)]; dsimp only; rw [if_neg h39, if_pos (by omega)]⟩
        ·
          refine z_iload_n 2 (zdec DX7_besides 25 rfl) rfl rfl ?_
          refine z_iconst 1 (zdec DX7_besides 26 rfl) (by decide) ?_
          refine z_aload_n 0 (zdec DX7_besides 27 rfl) rfl rfl (by decide) ?_
          refine z_getr (rw1 := -41) (ki := 0) (r' := 1) 31 7 (zdec DX7_besides 28 rfl) rfl rfl shp31 rfl (by decide) rfl rfl fl_SixWalls_Ways_18 (zPa hP 34 rfl) ?_
          refine z_getr (rw1 := -11) (ki := 1) (r' := 3) 1 1 (zdec DX7_besides 29 rfl) rfl rfl shp1 rfl (by decide) rfl rfl fl_SixWalls_Ways_34 (zPa hP 10 rfl) ?_
          refine z_iload_n 3 (zdec DX7_besides 30 rfl) rfl rfl ?_
          refine z_iald 3 (zdec DX7_besides 31 rfl) rfl shp3 ⟨by omega, by omega⟩ ?_
          rw [hG.high (by omega) (by omega)]
          refine z_ishl (zdec DX7_besides 32 rfl) ?_
          refine z_ior (zdec DX7_besides 33 rfl) ?_
          refine z_istore_n (L' := [(0, .inr (.inr 31)), (1, .inl r), (2, .inl (zor f (zshl 1 (zhigh w)))), (3, .inl w)]) (zdec DX7_besides 34 rfl) rfl rfl (by decide) ?_
          refine z_iload_n 1 (zdec DX7_besides 35 rfl) rfl rfl ?_
          refine z_aload_n 0 (zdec DX7_besides 36 rfl) rfl rfl (by decide) ?_
          refine z_getr (rw1 := -41) (ki := 0) (r' := 1) 31 7 (zdec DX7_besides 37 rfl) rfl rfl shp31 rfl (by decide) rfl rfl fl_SixWalls_Ways_18 (zPa hP 34 rfl) ?_
          refine z_getr (rw1 := -11) (ki := 1) (r' := 3) 1 1 (zdec DX7_besides 38 rfl) rfl rfl shp1 rfl (by decide) rfl rfl fl_SixWalls_Ways_34 (zPa hP 10 rfl) ?_
          refine z_iload_n 3 (zdec DX7_besides 39 rfl) rfl rfl ?_
          refine z_iald 3 (zdec DX7_besides 40 rfl) rfl shp3 ⟨by omega, by omega⟩ ?_
          rw [hG.high (by omega) (by omega)]
          refine z_ishr (zdec DX7_besides 41 rfl) ?_
          refine z_iconst 1 (zdec DX7_besides 42 rfl) (by decide) ?_
          refine z_iand (zdec DX7_besides 43 rfl) ?_
          refine z_iconst 1 (zdec DX7_besides 44 rfl) (by decide) ?_
          refine z_icmp_ne 87 (zdec DX7_besides 45 rfl) rfl (fun h70 => ?_) (fun h70 => ?_)
          ·
            refine z_iinc (L' := [(0, .inr (.inr 31)), (1, .inl r), (2, .inl (zor f (zshl 1 (zhigh w)))), (3, .inl (w + 1))]) 3 (zdec DX7_besides 56 rfl) rfl (by unfold z32; omega) rfl (by decide) ?_
            refine z_goto 4 (zdec DX7_besides 57 rfl) rfl ?_
            exact ih (zor f (zshl 1 (zhigh w))) (w + 1) (by omega) ⟨by omega, by omega, by rw [zfo_s _ _ (by omega), ← hI.2.2]; rw [if_neg (by omega)]; dsimp only; rw [if_pos (show zand (zshr r (zlow w)) 1 = 1 by omega), if_neg h70]⟩
          ·
            refine z_iload_n 2 (zdec DX7_besides 46 rfl) rfl rfl ?_
            refine z_iconst 1 (zdec DX7_besides 47 rfl) (by decide) ?_
            refine z_aload_n 0 (zdec DX7_besides 48 rfl) rfl rfl (by decide) ?_
            refine z_getr (rw1 := -41) (ki := 0) (r' := 1) 31 7 (zdec DX7_besides 49 rfl) rfl rfl shp31 rfl (by decide) rfl rfl fl_SixWalls_Ways_18 (zPa hP 34 rfl) ?_
            refine z_getr (rw1 := -11) (ki := 0) (r' := 2) 1 1 (zdec DX7_besides 50 rfl) rfl rfl shp1 rfl (by decide) rfl rfl fl_SixWalls_Ways_31 (zPa hP 9 rfl) ?_
            refine z_iload_n 3 (zdec DX7_besides 51 rfl) rfl rfl ?_
            refine z_iald 2 (zdec DX7_besides 52 rfl) rfl shp2 ⟨by omega, by omega⟩ ?_
            rw [hG.low (by omega) (by omega)]
            refine z_ishl (zdec DX7_besides 53 rfl) ?_
            refine z_ior (zdec DX7_besides 54 rfl) ?_
            refine z_istore_n (L' := [(0, .inr (.inr 31)), (1, .inl r), (2, .inl (zor (zor f (zshl 1 (zhigh w))) (zshl 1 (zlow w)))), (3, .inl w)]) (zdec DX7_besides 55 rfl) rfl rfl (by decide) ?_
            refine z_iinc (L' := [(0, .inr (.inr 31)), (1, .inl r), (2, .inl (zor (zor f (zshl 1 (zhigh w))) (zshl 1 (zlow w)))), (3, .inl (w + 1))]) 3 (zdec DX7_besides 56 rfl) rfl (by unfold z32; omega) rfl (by decide) ?_
            refine z_goto 4 (zdec DX7_besides 57 rfl) rfl ?_
            exact ih (zor (zor f (zshl 1 (zhigh w))) (zshl 1 (zlow w))) (w + 1) (by omega) ⟨by omega, by omega, by rw [zfo_s _ _ (by omega), ← hI.2.2]; rw [if_neg (by omega)]; dsimp only; rw [if_pos (show zand (zshr r (zlow w)) 1 = 1 by omega), if_pos (show zand (zshr r (zhigh w)) 1 = 1 by omega)]⟩
      ·
        refine z_goto 87 (zdec DX7_besides 13 rfl) rfl ?_
        refine z_iinc (L' := [(0, .inr (.inr 31)), (1, .inl r), (2, .inl f), (3, .inl (w + 1))]) 3 (zdec DX7_besides 56 rfl) rfl (by unfold z32; omega) rfl (by decide) ?_
        refine z_goto 4 (zdec DX7_besides 57 rfl) rfl ?_
        exact ih f (w + 1) (by omega) ⟨by omega, by omega, by rw [zfo_s _ _ (by omega), ← hI.2.2]; rw [if_pos (by omega)]⟩
set_option maxHeartbeats 4000000 in
theorem cX7_besides {M : zMm} (hP : zP M) (hG : zG M) (r : Int) : zW mX7_besides 1 (fun rv S' M' => S' = zS0 ∧ M = M' ∧ rv = some (.inl (zbes M r))) (0, 0) zS0 0 (zargs 0 [.inr (.inr 31), .inl r]) [] M := by
  change zW _ _ _ _ _ 0 [(0, .inr (.inr 31)), (1, .inl r)] [] M
  refine z_iconst 0 (zdec DX7_besides 0 rfl) (by decide) ?_
  refine z_istore_n (L' := [(0, .inr (.inr 31)), (1, .inl r), (2, .inl 0)]) (zdec DX7_besides 1 rfl) rfl rfl (by decide) ?_
  refine z_iconst 0 (zdec DX7_besides 2 rfl) (by decide) ?_
  refine z_istore_n (L' := [(0, .inr (.inr 31)), (1, .inl r), (2, .inl 0), (3, .inl 0)]) (zdec DX7_besides 3 rfl) rfl rfl (by decide) ?_
  refine lp_X7_besides_4 hP hG r (hx93 := fun f hx => ?_) _ 0 0 (Nat.lt_succ_self _) ⟨by omega, by omega, rfl⟩
  refine z_iload_n 0 (zdec DX7_besides 58 rfl) rfl rfl ?_
  exact z_iret (zdec DX7_besides 59 rfl) rfl (⟨rfl, rfl, zri hx⟩)
set_option maxHeartbeats 4000000 in
theorem lp_X7_steps_7 {M : zMm} (hP : zP M) (hG : zG M) (a b : Int) (hx40 : (zstepsF M a b = -1) → zW mX7_steps 2 (fun rv S' M' => S' = zS0 ∧ M = M' ∧ rv = some (.inl (if zstepsF M a b < 0 then -2 else zstepsF M a b))) (0, 0) zS0 40 [] [] M) : ∀ (n : Nat) (r : Int) (k : Int), (16 - k).toNat < n → (0 ≤ k ∧ k ≤ 16 ∧ r = zreach M a k ∧ ∀ j : Int, 0 ≤ j → j < k → ¬ zand (zshr (zreach M a j) b) 1 = 1) → zW mX7_steps 2 (fun rv S' M' => S' = zS0 ∧ M = M' ∧ rv = some (.inl (if zstepsF M a b < 0 then -2 else zstepsF M a b))) (0, 0) zS0 7 [(0, .inr (.inr 31)), (1, .inl a), (2, .inl b), (3, .inl r), (4, .inl k)] [] M := by
  intro n
  induction n with
  | zero => intro r k hn; exact absurd hn (Nat.not_lt_zero _)
  | succ n ih =>
    intro r k hn hI
    refine z_iload 4 (zdec DX7_steps 6 rfl) rfl ?_
    refine z_bipush 16 (zdec DX7_steps 7 rfl) (by decide) ?_
    refine z_icmp_ge 40 (zdec DX7_steps 8 rfl) rfl (fun h11 => ?_) (fun h11 => ?_)
    ·
      refine z_weak (L' := []) (by simp) ?_
      exact hx40  (zff_no (g := fun n => n) (p := fun n => zand (zshr (zreach M a n) b) 1 = 1) fun j h0 h1 => hI.2.2.2 j h0 (by omega))
    ·
      refine z_iload_n 3 (zdec DX7_steps 9 rfl) rfl rfl ?_
      refine z_iload_n 2 (zdec DX7_steps 10 rfl) rfl rfl ?_
      refine z_ishr (zdec DX7_steps 11 rfl) ?_
      refine z_iconst 1 (zdec DX7_steps 12 rfl) (by decide) ?_
      refine z_iand (zdec DX7_steps 13 rfl) ?_
      refine z_iconst 1 (zdec DX7_steps 14 rfl) (by decide) ?_
      refine z_icmp_ne 26 (zdec DX7_steps 15 rfl) rfl (fun h20 => ?_) (fun h20 => ?_)
      ·
        refine z_iload_n 3 (zdec DX7_steps 18 rfl) rfl rfl ?_
        refine z_aload_n 0 (zdec DX7_steps 19 rfl) rfl rfl (by decide) ?_
        refine z_iload_n 3 (zdec DX7_steps 20 rfl) rfl rfl ?_
        refine z_inv mX7_besides 31 7 [.inl r] (zdec DX7_steps 21 rfl) ml_SixWalls_Ways_22 okX7_besides rfl shp31 rfl rfl rfl rfl (Nat.le_of_ble_eq_true rfl) (Nat.le_of_ble_eq_true rfl) (b' := (0, 0)) ⟨Nat.le_refl 0, Nat.le_refl 0⟩ (Nat.le_of_ble_eq_true rfl) (cX7_besides hP hG r) (fun rv9 S9 M29 h9 => ?_)
        obtain ⟨rfl, rfl, rfl⟩ := h9
        change zW _ _ _ _ _ 32 [(0, .inr (.inr 31)), (1, .inl a), (2, .inl b), (3, .inl r), (4, .inl k)] [.inl (zbes M r), .inl r] M
        refine z_ior (zdec DX7_steps 22 rfl) ?_
        refine z_istore_n (L' := [(0, .inr (.inr 31)), (1, .inl a), (2, .inl b), (3, .inl (zor r (zbes M r))), (4, .inl k)]) (zdec DX7_steps 23 rfl) rfl rfl (by decide) ?_
        refine z_iinc (L' := [(0, .inr (.inr 31)), (1, .inl a), (2, .inl b), (3, .inl (zor r (zbes M r))), (4, .inl (k + 1))]) 4 (zdec DX7_steps 24 rfl) rfl (by unfold z32; omega) rfl (by decide) ?_
        refine z_goto 7 (zdec DX7_steps 25 rfl) rfl ?_
        exact ih (zor r (zbes M r)) (k + 1) (by omega) ⟨by omega, by omega, by unfold zreach; rw [zfo_s _ _ (by omega), hI.2.2.1]; rfl, fun j h0 h1 => (by by_cases hj : j = k; (subst hj; rw [← hI.2.2.1]; exact h20); (exact hI.2.2.2 j h0 (by omega)))⟩
      ·
        refine z_iload 4 (zdec DX7_steps 16 rfl) rfl ?_
        exact z_iret (zdec DX7_steps 17 rfl) rfl (by have e : zstepsF M a b = k := zff_hit (g := fun n => n) (p := fun n => zand (zshr (zreach M a n) b) 1 = 1) ⟨hI.1, by omega⟩ (by show k ≠ -1; omega) hI.2.2.2 (by show zand (zshr (zreach M a k) b) 1 = 1; rw [← hI.2.2.1]; omega); exact ⟨rfl, rfl, zri (by rw [e, if_neg (by omega)])⟩)
set_option maxHeartbeats 4000000 in
theorem cX7_steps {M : zMm} (hP : zP M) (hG : zG M) (a b : Int) : zW mX7_steps 2 (fun rv S' M' => S' = zS0 ∧ M = M' ∧ rv = some (.inl (if zstepsF M a b < 0 then -2 else zstepsF M a b))) (0, 0) zS0 0 (zargs 0 [.inr (.inr 31), .inl a, .inl b]) [] M := by
  change zW _ _ _ _ _ 0 [(0, .inr (.inr 31)), (1, .inl a), (2, .inl b)] [] M
  refine z_iconst 1 (zdec DX7_steps 0 rfl) (by decide) ?_
  refine z_iload_n 1 (zdec DX7_steps 1 rfl) rfl rfl ?_
  refine z_ishl (zdec DX7_steps 2 rfl) ?_
  refine z_istore_n (L' := [(0, .inr (.inr 31)), (1, .inl a), (2, .inl b), (3, .inl (zshl 1 a))]) (zdec DX7_steps 3 rfl) rfl rfl (by decide) ?_
  refine z_iconst 0 (zdec DX7_steps 4 rfl) (by decide) ?_
  refine z_istore (L' := [(0, .inr (.inr 31)), (1, .inl a), (2, .inl b), (3, .inl (zshl 1 a)), (4, .inl 0)]) (zdec DX7_steps 5 rfl) rfl (by decide) ?_
  refine lp_X7_steps_7 hP hG a b (hx40 := fun hx => ?_) _ (zshl 1 a) 0 (Nat.lt_succ_self _) ⟨by omega, by omega, rfl, fun j h0 h1 => by omega⟩
  refine z_bipush (-2) (zdec DX7_steps 26 rfl) (by decide) ?_
  exact z_iret (zdec DX7_steps 27 rfl) rfl (⟨rfl, rfl, zri (by rw [hx, if_pos (by decide)])⟩)
theorem zj_hit {M2 : zMm} {C : Int → Int} {x y h : Int} (hi : ∀ k : Int, 0 ≤ k → k < 16 → M2 32 k = if k < h then zjoin C x y k else C k) (hh : 0 ≤ h ∧ h < 16) (hc : M2 32 h = x ∨ M2 32 h = y) : ∀ k : Int, 0 ≤ k → k < 16 → zup M2 32 h (if x < y then y else x) 32 k = if k < h + 1 then zjoin C x y k else C k := by
  intro k h0 h1
  by_cases hk : k = h
  · subst hk
    have e := hi k h0 h1
    rw [if_neg (Int.lt_irrefl k)] at e
    rw [zup_self, if_pos (show k < k + 1 by omega)]
    unfold zjoin
    rw [if_pos (show C k = x ∨ C k = y by omega)]
  · rw [zup_ne hk, hi k h0 h1]
    by_cases hl : k < h
    · rw [if_pos hl, if_pos (show k < h + 1 by omega)]
    · rw [if_neg hl, if_neg (show ¬ k < h + 1 by omega)]
theorem zj_miss {M2 : zMm} {C : Int → Int} {x y h : Int} (hi : ∀ k : Int, 0 ≤ k → k < 16 → M2 32 k = if k < h then zjoin C x y k else C k) (hh : 0 ≤ h ∧ h < 16) (hc : ¬ (M2 32 h = x ∨ M2 32 h = y)) : ∀ k : Int, 0 ≤ k → k < 16 → M2 32 k = if k < h + 1 then zjoin C x y k else C k := by
  intro k h0 h1
  by_cases hk : k = h
  · subst hk
    have e := hi k h0 h1
    rw [if_neg (Int.lt_irrefl k)] at e
    rw [if_pos (show k < k + 1 by omega)]
    unfold zjoin
    rw [if_neg (show ¬ (C k = x ∨ C k = y) by omega)]
    exact e
  · rw [hi k h0 h1]
    by_cases hl : k < h
    · rw [if_pos hl, if_pos (show k < h + 1 by omega)]
    · rw [if_neg hl, if_neg (show ¬ k < h + 1 by omega)]
set_option maxHeartbeats 4000000 in
theorem lp_X7_join_2 {Q : zPost} {M : zMm} (hP : zP M) (x y : Int) (hx : 0 ≤ x ∧ x ≤ 16) (hy : 0 ≤ y ∧ y ≤ 16) (C : Int → Int) (hC : zH (M 32) C) (hx45 : ∀ (M2 : zMm), (zH (M2 32) (zjoin C x y) ∧ zonly 32 M M2) → zW mX7_join 1 Q (0, 0) zS0 45 [] [] M2) : ∀ (n : Nat) (h : Int) (M2 : zMm), (16 - h).toNat < n → (0 ≤ h ∧ h ≤ 16 ∧ (∀ k : Int, 0 ≤ k → k < 16 → M2 32 k = if k < h then zjoin C x y k else C k) ∧ zonly 32 M M2) → zW mX7_join 1 Q (0, 0) zS0 2 [(0, .inr (.inr 31)), (1, .inl x), (2, .inl y), (3, .inl h)] [] M2 := by
  intro n
  induction n with
  | zero => intro h M2 hn; exact absurd hn (Nat.not_lt_zero _)
  | succ n ih =>
    intro h M2 hn hI
    have hk9 := hI.2.2.1 h hI.1
    refine z_iload_n 3 (zdec DX7_join 2 rfl) rfl rfl ?_
    refine z_bipush 16 (zdec DX7_join 3 rfl) (by decide) ?_
    refine z_icmp_ge 45 (zdec DX7_join 4 rfl) rfl (fun h5 => ?_) (fun h5 => ?_)
    ·
      refine z_weak (L' := []) (by simp) ?_
      exact hx45 M2 ⟨fun k h0 h1 => by rw [hI.2.2.1 k h0 h1, if_pos (by omega)], hI.2.2.2⟩
    ·
      refine z_aload_n 0 (zdec DX7_join 5 rfl) rfl rfl (by decide) ?_
      refine z_getr (rw1 := -41) (ki := 1) (r' := 32) 31 7 (zdec DX7_join 6 rfl) rfl rfl shp31 rfl (by decide) rfl rfl fl_SixWalls_Ways_9 (zPa (hI.2.2.2.P (by decide) hP) 35 rfl) ?_
      refine z_iload_n 3 (zdec DX7_join 7 rfl) rfl rfl ?_
      refine z_iald 32 (zdec DX7_join 8 rfl) rfl shp32 ⟨by omega, by omega⟩ ?_
      refine z_iload_n 1 (zdec DX7_join 9 rfl) rfl rfl ?_
      refine z_icmp_eq 28 (zdec DX7_join 10 rfl) rfl (fun h15 => ?_) (fun h15 => ?_)
      ·
        refine z_aload_n 0 (zdec DX7_join 17 rfl) rfl rfl (by decide) ?_
        refine z_getr (rw1 := -41) (ki := 1) (r' := 32) 31 7 (zdec DX7_join 18 rfl) rfl rfl shp31 rfl (by decide) rfl rfl fl_SixWalls_Ways_9 (zPa (hI.2.2.2.P (by decide) hP) 35 rfl) ?_
        refine z_iload_n 3 (zdec DX7_join 19 rfl) rfl rfl ?_
        refine z_iload_n 1 (zdec DX7_join 20 rfl) rfl rfl ?_
        refine z_iload_n 2 (zdec DX7_join 21 rfl) rfl rfl ?_
        refine z_mmax (zdec DX7_join 22 rfl) ml_SixWalls_Ways_45 (by decide) (Nat.le_of_ble_eq_true rfl) ?_
        refine z_iast 32 (zdec DX7_join 23 rfl) rfl shp32 ⟨by omega, by omega⟩ ?_
        refine z_iinc (L' := [(0, .inr (.inr 31)), (1, .inl x), (2, .inl y), (3, .inl (h + 1))]) 3 (zdec DX7_join 24 rfl) rfl (by unfold z32; omega) rfl (by decide) ?_
        refine z_goto 2 (zdec DX7_join 25 rfl) rfl ?_
        exact ih (h + 1) (zup M2 32 h (if x < y then y else x)) (by omega) ⟨by omega, by omega, zj_hit hI.2.2.1 ⟨by omega, by omega⟩ (Or.inl (by omega)), hI.2.2.2.up⟩
      ·
        refine z_aload_n 0 (zdec DX7_join 11 rfl) rfl rfl (by decide) ?_
        refine z_getr (rw1 := -41) (ki := 1) (r' := 32) 31 7 (zdec DX7_join 12 rfl) rfl rfl shp31 rfl (by decide) rfl rfl fl_SixWalls_Ways_9 (zPa (hI.2.2.2.P (by decide) hP) 35 rfl) ?_
        refine z_iload_n 3 (zdec DX7_join 13 rfl) rfl rfl ?_
        refine z_iald 32 (zdec DX7_join 14 rfl) rfl shp32 ⟨by omega, by omega⟩ ?_
        refine z_iload_n 2 (zdec DX7_join 15 rfl) rfl rfl ?_
        refine z_icmp_ne 39 (zdec DX7_join 16 rfl) rfl (fun h25 => ?_) (fun h25 => ?_)
        ·
          refine z_iinc (L' := [(0, .inr (.inr 31)), (1, .inl x), (2, .inl y), (3, .inl (h + 1))]) 3 (zdec DX7_join 24 rfl) rfl (by unfold z32; omega) rfl (by decide) ?_
          refine z_goto 2 (zdec DX7_join 25 rfl) rfl ?_
          exact ih (h + 1) M2 (by omega) ⟨by omega, by omega, zj_miss hI.2.2.1 ⟨by omega, by omega⟩ (by omega), hI.2.2.2⟩
        ·
          refine z_aload_n 0 (zdec DX7_join 17 rfl) rfl rfl (by decide) ?_
          refine z_getr (rw1 := -41) (ki := 1) (r' := 32) 31 7 (zdec DX7_join 18 rfl) rfl rfl shp31 rfl (by decide) rfl rfl fl_SixWalls_Ways_9 (zPa (hI.2.2.2.P (by decide) hP) 35 rfl) ?_
          refine z_iload_n 3 (zdec DX7_join 19 rfl) rfl rfl ?_
          refine z_iload_n 1 (zdec DX7_join 20 rfl) rfl rfl ?_
          refine z_iload_n 2 (zdec DX7_join 21 rfl) rfl rfl ?_
          refine z_mmax (zdec DX7_join 22 rfl) ml_SixWalls_Ways_45 (by decide) (Nat.le_of_ble_eq_true rfl) ?_
          refine z_iast 32 (zdec DX7_join 23 rfl) rfl shp32 ⟨by omega, by omega⟩ ?_
          refine z_iinc (L' := [(0, .inr (.inr 31)), (1, .inl x), (2, .inl y), (3, .inl (h + 1))]) 3 (zdec DX7_join 24 rfl) rfl (by unfold z32; omega) rfl (by decide) ?_
          refine z_goto 2 (zdec DX7_join 25 rfl) rfl ?_
          exact ih (h + 1) (zup M2 32 h (if x < y then y else x)) (by omega) ⟨by omega, by omega, zj_hit hI.2.2.1 ⟨by omega, by omega⟩ (Or.inr (by omega)), hI.2.2.2.up⟩
set_option maxHeartbeats 4000000 in
theorem cX7_join {M : zMm} (hP : zP M) (x y : Int) (hx : 0 ≤ x ∧ x ≤ 16) (hy : 0 ≤ y ∧ y ≤ 16) (C : Int → Int) (hC : zH (M 32) C) : zW mX7_join 1 (fun rv S' M' => S' = zS0 ∧ rv = none ∧ zH (M' 32) (zjoin C x y) ∧ zonly 32 M M') (0, 0) zS0 0 (zargs 0 [.inr (.inr 31), .inl x, .inl y]) [] M := by
  change zW _ _ _ _ _ 0 [(0, .inr (.inr 31)), (1, .inl x), (2, .inl y)] [] M
  refine z_iconst 0 (zdec DX7_join 0 rfl) (by decide) ?_
  refine z_istore_n (L' := [(0, .inr (.inr 31)), (1, .inl x), (2, .inl y), (3, .inl 0)]) (zdec DX7_join 1 rfl) rfl rfl (by decide) ?_
  refine lp_X7_join_2 hP x y hx hy C hC (hx45 := fun M2 hz => ?_) _ 0 M (Nat.lt_succ_self _) ⟨by omega, by omega, fun k h0 h1 => by rw [if_neg (by omega)]; exact hC k h0 h1, zonly.rf⟩
  exact z_vret (zdec DX7_join 26 rfl) rfl (⟨rfl, rfl, hz.1, hz.2⟩)
set_option maxHeartbeats 4000000 in
theorem lp_X7_gather_39 {Q : zPost} {M : zMm} (hP : zP M) (hG : zG M) (hx96 : ∀ (M2 : zMm), (zH (M2 32) (zgat M 33) ∧ zCB (zgat M 33) ∧ zonly 32 M M2) → zW mX7_gather 2 Q (0, 0) zS0 96 [] [] M2) : ∀ (n : Nat) (w : Int) (M2 : zMm), (33 - w).toNat < n → (0 ≤ w ∧ w ≤ 33 ∧ zH (M2 32) (zgat M w) ∧ zCB (zgat M w) ∧ zonly 32 M M2) → zW mX7_gather 2 Q (0, 0) zS0 39 [(0, .inr (.inr 31)), (1, .inl w)] [] M2 := by
  intro n
  induction n with
  | zero => intro w M2 hn; exact absurd hn (Nat.not_lt_zero _)
  | succ n ih =>
    intro w M2 hn hI
    have hP2 : zP M2 := hI.2.2.2.2.P (by decide) hP
    have hG2 : zG M2 := hI.2.2.2.2.G (by decide) hG
    have lb := zlow_b w
    have lh := zhigh_b w
    have el := hI.2.2.1 (zlow w) lb.1 lb.2
    have eh := hI.2.2.1 (zhigh w) lh.1 lh.2
    have bl := hI.2.2.2.1 (zlow w) lb.1 lb.2
    have bh := hI.2.2.2.1 (zhigh w) lh.1 lh.2
    have ed : M2 12 = M 12 := hI.2.2.2.2 12 (by decide)
    refine z_iload_n 1 (zdec DX7_gather 21 rfl) rfl rfl ?_
    refine z_bipush 33 (zdec DX7_gather 22 rfl) (by decide) ?_
    refine z_icmp_ge 96 (zdec DX7_gather 23 rfl) rfl (fun h42 => ?_) (fun h42 => ?_)
    ·
      refine z_weak (L' := []) (by simp) ?_
      exact hx96 M2 (by have e : w = 33 := (by omega); subst e; exact hI.2.2)
    ·
      refine z_aload_n 0 (zdec DX7_gather 24 rfl) rfl rfl (by decide) ?_
      refine z_getr (rw1 := -41) (ki := 0) (r' := 1) 31 7 (zdec DX7_gather 25 rfl) rfl rfl shp31 rfl (by decide) rfl rfl fl_SixWalls_Ways_18 (zPa hP2 34 rfl) ?_
      refine z_getr (rw1 := -11) (ki := 10) (r' := 12) 1 1 (zdec DX7_gather 26 rfl) rfl rfl shp1 rfl (by decide) rfl rfl fl_SixWalls_Ways_26 (zPa hP2 19 rfl) ?_
      refine z_iload_n 1 (zdec DX7_gather 27 rfl) rfl rfl ?_
      refine z_iald 12 (zdec DX7_gather 28 rfl) rfl shp12 ⟨by omega, by omega⟩ ?_
      refine z_iconst 1 (zdec DX7_gather 29 rfl) (by decide) ?_
      refine z_icmp_ne 90 (zdec DX7_gather 30 rfl) rfl (fun h55 => ?_) (fun h55 => ?_)
      ·
        refine z_iinc (L' := [(0, .inr (.inr 31)), (1, .inl (w + 1))]) 1 (zdec DX7_gather 49 rfl) rfl (by unfold z32; omega) rfl (by decide) ?_
        refine z_goto 39 (zdec DX7_gather 50 rfl) rfl ?_
        exact ih (w + 1) M2 (by omega) ⟨by omega, by omega, by unfold zgat; rw [zfo_s _ _ (by omega), if_neg (by rw [← ed]; exact h55)]; exact hI.2.2.1, by unfold zgat; rw [zfo_s _ _ (by omega), if_neg (by rw [← ed]; exact h55)]; exact hI.2.2.2.1, hI.2.2.2.2⟩
      ·
        refine z_aload_n 0 (zdec DX7_gather 31 rfl) rfl rfl (by decide) ?_
        refine z_aload_n 0 (zdec DX7_gather 32 rfl) rfl rfl (by decide) ?_
        refine z_getr (rw1 := -41) (ki := 1) (r' := 32) 31 7 (zdec DX7_gather 33 rfl) rfl rfl shp31 rfl (by decide) rfl rfl fl_SixWalls_Ways_9 (zPa hP2 35 rfl) ?_
        refine z_aload_n 0 (zdec DX7_gather 34 rfl) rfl rfl (by decide) ?_
        refine z_getr (rw1 := -41) (ki := 0) (r' := 1) 31 7 (zdec DX7_gather 35 rfl) rfl rfl shp31 rfl (by decide) rfl rfl fl_SixWalls_Ways_18 (zPa hP2 34 rfl) ?_
        refine z_getr (rw1 := -11) (ki := 0) (r' := 2) 1 1 (zdec DX7_gather 36 rfl) rfl rfl shp1 rfl (by decide) rfl rfl fl_SixWalls_Ways_31 (zPa hP2 9 rfl) ?_
        refine z_iload_n 1 (zdec DX7_gather 37 rfl) rfl rfl ?_
        refine z_iald 2 (zdec DX7_gather 38 rfl) rfl shp2 ⟨by omega, by omega⟩ ?_
        rw [hG2.low (by omega) (by omega)]
        refine z_iald 32 (zdec DX7_gather 39 rfl) rfl shp32 ⟨by omega, by omega⟩ ?_
        refine z_aload_n 0 (zdec DX7_gather 40 rfl) rfl rfl (by decide) ?_
        refine z_getr (rw1 := -41) (ki := 1) (r' := 32) 31 7 (zdec DX7_gather 41 rfl) rfl rfl shp31 rfl (by decide) rfl rfl fl_SixWalls_Ways_9 (zPa hP2 35 rfl) ?_
        refine z_aload_n 0 (zdec DX7_gather 42 rfl) rfl rfl (by decide) ?_
        refine z_getr (rw1 := -41) (ki := 0) (r' := 1) 31 7 (zdec DX7_gather 43 rfl) rfl rfl shp31 rfl (by decide) rfl rfl fl_SixWalls_Ways_18 (zPa hP2 34 rfl) ?_
        refine z_getr (rw1 := -11) (ki := 1) (r' := 3) 1 1 (zdec DX7_gather 44 rfl) rfl rfl shp1 rfl (by decide) rfl rfl fl_SixWalls_Ways_34 (zPa hP2 10 rfl) ?_
        refine z_iload_n 1 (zdec DX7_gather 45 rfl) rfl rfl ?_
        refine z_iald 3 (zdec DX7_gather 46 rfl) rfl shp3 ⟨by omega, by omega⟩ ?_
        rw [hG2.high (by omega) (by omega)]
        refine z_iald 32 (zdec DX7_gather 47 rfl) rfl shp32 ⟨by omega, by omega⟩ ?_
        refine z_inv mX7_join 31 7 [.inl (M2 32 (zlow w)), .inl (M2 32 (zhigh w))] (zdec DX7_gather 48 rfl) ml_SixWalls_Ways_41 okX7_join rfl shp31 rfl rfl rfl rfl (Nat.le_of_ble_eq_true rfl) (Nat.le_of_ble_eq_true rfl) (b' := (0, 0)) ⟨Nat.le_refl 0, Nat.le_refl 0⟩ (Nat.le_of_ble_eq_true rfl) (cX7_join hP2 (M2 32 (zlow w)) (M2 32 (zhigh w)) (by rw [el]; exact bl) (by rw [eh]; exact bh) (zgat M w) hI.2.2.1) (fun rv9 S9 M87 h9 => ?_)
        obtain ⟨rfl, rfl, hj1, hj2⟩ := h9
        change zW _ _ _ _ _ 90 [(0, .inr (.inr 31)), (1, .inl w)] [] M87
        refine z_iinc (L' := [(0, .inr (.inr 31)), (1, .inl (w + 1))]) 1 (zdec DX7_gather 49 rfl) rfl (by unfold z32; omega) rfl (by decide) ?_
        refine z_goto 39 (zdec DX7_gather 50 rfl) rfl ?_
        exact ih (w + 1) M87 (by omega) ⟨by omega, by omega, by unfold zgat; rw [zfo_s _ _ (by omega), if_pos (by rw [← ed]; omega)]; rw [el, eh] at hj1; exact hj1, by unfold zgat; rw [zfo_s _ _ (by omega), if_pos (by rw [← ed]; omega)]; exact zCB_join hI.2.2.2.1 bl bh, hI.2.2.2.2.tr hj2⟩
set_option maxHeartbeats 4000000 in
theorem lp_X7_gather_2 {Q : zPost} {M : zMm} (hP : zP M) (hG : zG M) (hx37 : ∀ (M2 : zMm), (zH (M2 32) zg0 ∧ zonly 32 M M2) → zW mX7_gather 2 Q (0, 0) zS0 37 [(0, .inr (.inr 31))] [] M2) : ∀ (n : Nat) (h : Int) (M2 : zMm), (16 - h).toNat < n → (0 ≤ h ∧ h ≤ 16 ∧ (∀ k : Int, 0 ≤ k → k < h → M2 32 k = zg0 k) ∧ zonly 32 M M2) → zW mX7_gather 2 Q (0, 0) zS0 2 [(0, .inr (.inr 31)), (1, .inl h)] [] M2 := by
  intro n
  induction n with
  | zero => intro h M2 hn; exact absurd hn (Nat.not_lt_zero _)
  | succ n ih =>
    intro h M2 hn hI
    refine z_iload_n 1 (zdec DX7_gather 2 rfl) rfl rfl ?_
    refine z_bipush 16 (zdec DX7_gather 3 rfl) (by decide) ?_
    refine z_icmp_ge 37 (zdec DX7_gather 4 rfl) rfl (fun h5 => ?_) (fun h5 => ?_)
    ·
      refine z_weak (L' := [(0, .inr (.inr 31))]) (by simp) ?_
      exact hx37 M2 ⟨fun k h0 h1 => hI.2.2.1 k h0 (by omega), hI.2.2.2⟩
    ·
      refine z_aload_n 0 (zdec DX7_gather 5 rfl) rfl rfl (by decide) ?_
      refine z_getr (rw1 := -41) (ki := 1) (r' := 32) 31 7 (zdec DX7_gather 6 rfl) rfl rfl shp31 rfl (by decide) rfl rfl fl_SixWalls_Ways_9 (zPa (hI.2.2.2.P (by decide) hP) 35 rfl) ?_
      refine z_iload_n 1 (zdec DX7_gather 7 rfl) rfl rfl ?_
      refine z_aload_n 0 (zdec DX7_gather 8 rfl) rfl rfl (by decide) ?_
      refine z_getr (rw1 := -41) (ki := 0) (r' := 1) 31 7 (zdec DX7_gather 9 rfl) rfl rfl shp31 rfl (by decide) rfl rfl fl_SixWalls_Ways_18 (zPa (hI.2.2.2.P (by decide) hP) 34 rfl) ?_
      refine z_iload_n 1 (zdec DX7_gather 10 rfl) rfl rfl ?_
      refine z_inv mX1_atEdge 1 1 [.inl h] (zdec DX7_gather 11 rfl) ml_SixWalls_Ways_37 okX1_atEdge rfl shp1 rfl rfl rfl rfl (Nat.le_of_ble_eq_true rfl) (Nat.le_of_ble_eq_true rfl) (b' := (0, 0)) ⟨Nat.le_refl 0, Nat.le_refl 0⟩ (Nat.le_of_ble_eq_true rfl) (cX1_atEdge (hI.2.2.2.P (by decide) hP) (hI.2.2.2.G (by decide) hG) h ⟨by omega, by omega⟩) (fun rv9 S9 M18 h9 => ?_)
      obtain ⟨rfl, rfl, rfl⟩ := h9
      change zW _ _ _ _ _ 21 [(0, .inr (.inr 31)), (1, .inl h)] [.inl (zb (zsid h < 6)), .inl h, .inr (.inr 32)] M2
      refine z_if_eq 29 (zdec DX7_gather 12 rfl) rfl (fun h21 => ?_) (fun h21 => ?_)
      ·
        refine z_iload_n 1 (zdec DX7_gather 15 rfl) rfl rfl ?_
        refine z_iast 32 (zdec DX7_gather 16 rfl) rfl shp32 ⟨by omega, by omega⟩ ?_
        refine z_iinc (L' := [(0, .inr (.inr 31)), (1, .inl (h + 1))]) 1 (zdec DX7_gather 17 rfl) rfl (by unfold z32; omega) rfl (by decide) ?_
        refine z_goto 2 (zdec DX7_gather 18 rfl) rfl ?_
        exact ih (h + 1) (zup M2 32 h h) (by omega) ⟨by omega, by omega, fun k h0 h1 => (by by_cases hk : k = h; (subst hk; rw [zup_self]; unfold zg0; rw [if_neg (zb_eq0.mp h21)]); (rw [zup_ne hk]; exact hI.2.2.1 k h0 (by omega))), hI.2.2.2.up⟩
      ·
        refine z_bipush 16 (zdec DX7_gather 13 rfl) (by decide) ?_
        refine z_goto 30 (zdec DX7_gather 14 rfl) rfl ?_
        refine z_iast 32 (zdec DX7_gather 16 rfl) rfl shp32 ⟨by omega, by omega⟩ ?_
        refine z_iinc (L' := [(0, .inr (.inr 31)), (1, .inl (h + 1))]) 1 (zdec DX7_gather 17 rfl) rfl (by unfold z32; omega) rfl (by decide) ?_
        refine z_goto 2 (zdec DX7_gather 18 rfl) rfl ?_
        exact ih (h + 1) (zup M2 32 h 16) (by omega) ⟨by omega, by omega, fun k h0 h1 => (by by_cases hk : k = h; (subst hk; rw [zup_self]; unfold zg0; rw [if_pos (zb_ne0.mp h21)]); (rw [zup_ne hk]; exact hI.2.2.1 k h0 (by omega))), hI.2.2.2.up⟩
set_option maxHeartbeats 4000000 in
theorem cX7_gather {M : zMm} (hP : zP M) (hG : zG M) : zW mX7_gather 2 (fun rv S' M' => S' = zS0 ∧ rv = none ∧ zH (M' 32) (zgat M 33) ∧ zCB (zgat M 33) ∧ zonly 32 M M') (0, 0) zS0 0 (zargs 0 [.inr (.inr 31)]) [] M := by
  change zW _ _ _ _ _ 0 [(0, .inr (.inr 31))] [] M
  refine z_iconst 0 (zdec DX7_gather 0 rfl) (by decide) ?_
  refine z_istore_n (L' := [(0, .inr (.inr 31)), (1, .inl 0)]) (zdec DX7_gather 1 rfl) rfl rfl (by decide) ?_
  refine lp_X7_gather_2 hP hG (hx37 := fun M2 hx => ?_) _ 0 M (Nat.lt_succ_self _) ⟨by omega, by omega, fun k h0 h1 => by omega, zonly.rf⟩
  refine z_iconst 0 (zdec DX7_gather 19 rfl) (by decide) ?_
  refine z_istore_n (L' := [(0, .inr (.inr 31)), (1, .inl 0)]) (zdec DX7_gather 20 rfl) rfl rfl (by decide) ?_
  refine lp_X7_gather_39 hP hG (hx96 := fun M2 hy => ?_) _ 0 M2 (Nat.lt_succ_self _) ⟨by omega, by omega, hx.1, fun k h0 h1 => (by show 0 ≤ zg0 k ∧ zg0 k ≤ 16; unfold zg0; split <;> omega), hx.2⟩
  exact z_vret (zdec DX7_gather 51 rfl) rfl (⟨rfl, rfl, hy⟩)
set_option maxHeartbeats 4000000 in
theorem lp_X7_shutIn_8 {Q : zPost} {M M1 : zMm} (hP : zP M) (hg1 : zH (M1 32) (zgat M 33)) (hg3 : zonly 32 M M1) (hx47 : ∀ (a : Int), (a = zshut M 16) → zW mX7_shutIn 3 Q (0, 0) zS0 47 [(1, .inl a)] [] M1) : ∀ (n : Nat) (a : Int) (h : Int), (16 - h).toNat < n → (0 ≤ h ∧ h ≤ 16 ∧ (0 ≤ a ∧ a ≤ h) ∧ a = zshut M h) → zW mX7_shutIn 3 Q (0, 0) zS0 8 [(0, .inr (.inr 31)), (1, .inl a), (2, .inl h)] [] M1 := by
  intro n
  induction n with
  | zero => intro a h hn; exact absurd hn (Nat.not_lt_zero _)
  | succ n ih =>
    intro a h hn hI
    have el := hg3 7 (by decide)
    have ec := hg1 h hI.1
    refine z_iload_n 2 (zdec DX7_shutIn 6 rfl) rfl rfl ?_
    refine z_bipush 16 (zdec DX7_shutIn 7 rfl) (by decide) ?_
    refine z_icmp_ge 47 (zdec DX7_shutIn 8 rfl) rfl (fun h11 => ?_) (fun h11 => ?_)
    ·
      refine z_weak (L' := [(1, .inl a)]) (by simp) ?_
      exact hx47 a (by rw [hI.2.2.2, show h = 16 by omega])
    ·
      refine z_aload_n 0 (zdec DX7_shutIn 9 rfl) rfl rfl (by decide) ?_
      refine z_getr (rw1 := -41) (ki := 0) (r' := 1) 31 7 (zdec DX7_shutIn 10 rfl) rfl rfl shp31 rfl (by decide) rfl rfl fl_SixWalls_Ways_18 (zPa (hg3.P (by decide) hP) 34 rfl) ?_
      refine z_getr (rw1 := -11) (ki := 5) (r' := 7) 1 1 (zdec DX7_shutIn 11 rfl) rfl rfl shp1 rfl (by decide) rfl rfl fl_SixWalls_Ways_54 (zPa (hg3.P (by decide) hP) 14 rfl) ?_
      refine z_iload_n 2 (zdec DX7_shutIn 12 rfl) rfl rfl ?_
      refine z_iald 7 (zdec DX7_shutIn 13 rfl) rfl shp7 ⟨by omega, by omega⟩ ?_
      refine z_iconst 1 (zdec DX7_shutIn 14 rfl) (by decide) ?_
      refine z_icmp_ne 41 (zdec DX7_shutIn 15 rfl) rfl (fun h24 => ?_) (fun h24 => ?_)
      ·
        refine z_iinc (L' := [(0, .inr (.inr 31)), (1, .inl a), (2, .inl (h + 1))]) 2 (zdec DX7_shutIn 23 rfl) rfl (by unfold z32; omega) rfl (by decide) ?_
        refine z_goto 8 (zdec DX7_shutIn 24 rfl) rfl ?_
        exact ih a (h + 1) (by omega) ⟨by omega, by omega, by omega, by unfold zshut; rw [zsum_s _ hI.1, if_neg (by rw [el] at h24; omega), hI.2.2.2]; unfold zshut; omega⟩
      ·
        refine z_aload_n 0 (zdec DX7_shutIn 16 rfl) rfl rfl (by decide) ?_
        refine z_getr (rw1 := -41) (ki := 1) (r' := 32) 31 7 (zdec DX7_shutIn 17 rfl) rfl rfl shp31 rfl (by decide) rfl rfl fl_SixWalls_Ways_9 (zPa (hg3.P (by decide) hP) 35 rfl) ?_
        refine z_iload_n 2 (zdec DX7_shutIn 18 rfl) rfl rfl ?_
        refine z_iald 32 (zdec DX7_shutIn 19 rfl) rfl shp32 ⟨by omega, by omega⟩ ?_
        refine z_bipush 16 (zdec DX7_shutIn 20 rfl) (by decide) ?_
        refine z_icmp_eq 41 (zdec DX7_shutIn 21 rfl) rfl (fun h35 => ?_) (fun h35 => ?_)
        ·
          refine z_iinc (L' := [(0, .inr (.inr 31)), (1, .inl a), (2, .inl (h + 1))]) 2 (zdec DX7_shutIn 23 rfl) rfl (by unfold z32; omega) rfl (by decide) ?_
          refine z_goto 8 (zdec DX7_shutIn 24 rfl) rfl ?_
          exact ih a (h + 1) (by omega) ⟨by omega, by omega, by omega, by unfold zshut; rw [zsum_s _ hI.1, if_neg (by have := ec (by omega); omega), hI.2.2.2]; unfold zshut; omega⟩
        ·
          refine z_iinc (L' := [(0, .inr (.inr 31)), (1, .inl (a + 1)), (2, .inl h)]) 1 (zdec DX7_shutIn 22 rfl) rfl (by unfold z32; omega) rfl (by decide) ?_
          refine z_iinc (L' := [(0, .inr (.inr 31)), (1, .inl (a + 1)), (2, .inl (h + 1))]) 2 (zdec DX7_shutIn 23 rfl) rfl (by unfold z32; omega) rfl (by decide) ?_
          refine z_goto 8 (zdec DX7_shutIn 24 rfl) rfl ?_
          exact ih (a + 1) (h + 1) (by omega) ⟨by omega, by omega, by omega, by unfold zshut; rw [zsum_s _ hI.1, if_pos (by have := ec (by omega); rw [el] at h24; exact ⟨by omega, by omega⟩), hI.2.2.2]; unfold zshut; omega⟩
set_option maxHeartbeats 4000000 in
theorem cX7_shutIn {M : zMm} (hP : zP M) (hG : zG M) (hR : zRg M) : zW mX7_shutIn 3 (fun rv S' M' => S' = zS0 ∧ rv = some (.inl (zshut M 16)) ∧ zonly 32 M M') (0, 0) zS0 0 (zargs 0 [.inr (.inr 31)]) [] M := by
  change zW _ _ _ _ _ 0 [(0, .inr (.inr 31))] [] M
  refine z_aload_n 0 (zdec DX7_shutIn 0 rfl) rfl rfl (by decide) ?_
  refine z_inv mX7_gather 31 7 [] (zdec DX7_shutIn 1 rfl) ml_SixWalls_Ways_51 okX7_gather rfl shp31 rfl rfl rfl rfl (Nat.le_of_ble_eq_true rfl) (Nat.le_of_ble_eq_true rfl) (b' := (0, 0)) ⟨Nat.le_refl 0, Nat.le_refl 0⟩ (Nat.le_of_ble_eq_true rfl) (cX7_gather hP hG) (fun rv9 S9 M1 h9 => ?_)
  obtain ⟨rfl, rfl, hg1, hg2, hg3⟩ := h9
  change zW _ _ _ _ _ 4 [(0, .inr (.inr 31))] [] M1
  refine z_iconst 0 (zdec DX7_shutIn 2 rfl) (by decide) ?_
  refine z_istore_n (L' := [(0, .inr (.inr 31)), (1, .inl 0)]) (zdec DX7_shutIn 3 rfl) rfl rfl (by decide) ?_
  refine z_iconst 0 (zdec DX7_shutIn 4 rfl) (by decide) ?_
  refine z_istore_n (L' := [(0, .inr (.inr 31)), (1, .inl 0), (2, .inl 0)]) (zdec DX7_shutIn 5 rfl) rfl rfl (by decide) ?_
  refine lp_X7_shutIn_8 hP hg1 hg3 (hx47 := fun a hx => ?_) _ 0 0 (Nat.lt_succ_self _) ⟨by omega, by omega, by omega, rfl⟩
  refine z_iload_n 0 (zdec DX7_shutIn 25 rfl) rfl rfl ?_
  exact z_iret (zdec DX7_shutIn 26 rfl) rfl (⟨rfl, zri hx, hg3⟩)
set_option maxHeartbeats 4000000 in
theorem lp_X7_friends_4 {Q : zPost} {M : zMm} (hP : zP M) (hG : zG M) (hR : zRg M) (hx64 : ∀ (a : Int), (a = zfri M 33) → zW mX7_friends 1 Q (0, 0) zS0 64 [(1, .inl a)] [] M) : ∀ (n : Nat) (a : Int) (w : Int), (33 - w).toNat < n → (0 ≤ w ∧ w ≤ 33 ∧ (0 ≤ a ∧ a ≤ w) ∧ a = zfri M w) → zW mX7_friends 1 Q (0, 0) zS0 4 [(0, .inr (.inr 31)), (1, .inl a), (2, .inl w)] [] M := by
  intro n
  induction n with
  | zero => intro a w hn; exact absurd hn (Nat.not_lt_zero _)
  | succ n ih =>
    intro a w hn hI
    have lb := zlow_b w
    have lh := zhigh_b w
    refine z_iload_n 2 (zdec DX7_friends 4 rfl) rfl rfl ?_
    refine z_bipush 33 (zdec DX7_friends 5 rfl) (by decide) ?_
    refine z_icmp_ge 64 (zdec DX7_friends 6 rfl) rfl (fun h7 => ?_) (fun h7 => ?_)
    ·
      refine z_weak (L' := [(1, .inl a)]) (by simp) ?_
      exact hx64 a (by rw [hI.2.2.2, show w = 33 by omega])
    ·
      refine z_iload_n 1 (zdec DX7_friends 7 rfl) rfl rfl ?_
      refine z_aload_n 0 (zdec DX7_friends 8 rfl) rfl rfl (by decide) ?_
      refine z_getr (rw1 := -41) (ki := 0) (r' := 1) 31 7 (zdec DX7_friends 9 rfl) rfl rfl shp31 rfl (by decide) rfl rfl fl_SixWalls_Ways_18 (zPa hP 34 rfl) ?_
      refine z_getr (rw1 := -11) (ki := 10) (r' := 12) 1 1 (zdec DX7_friends 10 rfl) rfl rfl shp1 rfl (by decide) rfl rfl fl_SixWalls_Ways_26 (zPa hP 19 rfl) ?_
      refine z_iload_n 2 (zdec DX7_friends 11 rfl) rfl rfl ?_
      refine z_iald 12 (zdec DX7_friends 12 rfl) rfl shp12 ⟨by omega, by omega⟩ ?_
      refine z_aload_n 0 (zdec DX7_friends 13 rfl) rfl rfl (by decide) ?_
      refine z_getr (rw1 := -41) (ki := 0) (r' := 1) 31 7 (zdec DX7_friends 14 rfl) rfl rfl shp31 rfl (by decide) rfl rfl fl_SixWalls_Ways_18 (zPa hP 34 rfl) ?_
      refine z_getr (rw1 := -11) (ki := 5) (r' := 7) 1 1 (zdec DX7_friends 15 rfl) rfl rfl shp1 rfl (by decide) rfl rfl fl_SixWalls_Ways_54 (zPa hP 14 rfl) ?_
      refine z_aload_n 0 (zdec DX7_friends 16 rfl) rfl rfl (by decide) ?_
      refine z_getr (rw1 := -41) (ki := 0) (r' := 1) 31 7 (zdec DX7_friends 17 rfl) rfl rfl shp31 rfl (by decide) rfl rfl fl_SixWalls_Ways_18 (zPa hP 34 rfl) ?_
      refine z_getr (rw1 := -11) (ki := 0) (r' := 2) 1 1 (zdec DX7_friends 18 rfl) rfl rfl shp1 rfl (by decide) rfl rfl fl_SixWalls_Ways_31 (zPa hP 9 rfl) ?_
      refine z_iload_n 2 (zdec DX7_friends 19 rfl) rfl rfl ?_
      refine z_iald 2 (zdec DX7_friends 20 rfl) rfl shp2 ⟨by omega, by omega⟩ ?_
      rw [hG.low (by omega) (by omega)]
      refine z_iald 7 (zdec DX7_friends 21 rfl) rfl shp7 ⟨by omega, by omega⟩ ?_
      refine z_iand (zdec DX7_friends 22 rfl) ?_
      refine z_aload_n 0 (zdec DX7_friends 23 rfl) rfl rfl (by decide) ?_
      refine z_getr (rw1 := -41) (ki := 0) (r' := 1) 31 7 (zdec DX7_friends 24 rfl) rfl rfl shp31 rfl (by decide) rfl rfl fl_SixWalls_Ways_18 (zPa hP 34 rfl) ?_
      refine z_getr (rw1 := -11) (ki := 5) (r' := 7) 1 1 (zdec DX7_friends 25 rfl) rfl rfl shp1 rfl (by decide) rfl rfl fl_SixWalls_Ways_54 (zPa hP 14 rfl) ?_
      refine z_aload_n 0 (zdec DX7_friends 26 rfl) rfl rfl (by decide) ?_
      refine z_getr (rw1 := -41) (ki := 0) (r' := 1) 31 7 (zdec DX7_friends 27 rfl) rfl rfl shp31 rfl (by decide) rfl rfl fl_SixWalls_Ways_18 (zPa hP 34 rfl) ?_
      refine z_getr (rw1 := -11) (ki := 1) (r' := 3) 1 1 (zdec DX7_friends 28 rfl) rfl rfl shp1 rfl (by decide) rfl rfl fl_SixWalls_Ways_34 (zPa hP 10 rfl) ?_
      refine z_iload_n 2 (zdec DX7_friends 29 rfl) rfl rfl ?_
      refine z_iald 3 (zdec DX7_friends 30 rfl) rfl shp3 ⟨by omega, by omega⟩ ?_
      rw [hG.high (by omega) (by omega)]
      refine z_iald 7 (zdec DX7_friends 31 rfl) rfl shp7 ⟨by omega, by omega⟩ ?_
      refine z_iand (zdec DX7_friends 32 rfl) ?_
      have hd1 := (hR.2.1 w (by omega) (by omega)).2.1
      have hl1 := (hR.1 (zlow w) lb.1 lb.2).1
      have hh1 := (hR.1 (zhigh w) lh.1 lh.2).1
      have e55 : zand (zand (M 12 w) (M 7 (zlow w))) (M 7 (zhigh w)) = if M 12 w = 1 ∧ M 7 (zlow w) = 1 ∧ M 7 (zhigh w) = 1 then 1 else 0 := by rw [zand01 hd1 hl1, zand01 (by split <;> omega) hh1]; split <;> split <;> (try split at *) <;> omega
      rw [e55]
      refine z_iadd (zdec DX7_friends 33 rfl) (by unfold z32; split <;> omega) ?_
      refine z_istore_n (L' := [(0, .inr (.inr 31)), (1, .inl (a + (if M 12 w = 1 ∧ M 7 (zlow w) = 1 ∧ M 7 (zhigh w) = 1 then 1 else 0))), (2, .inl w)]) (zdec DX7_friends 34 rfl) rfl rfl (by decide) ?_
      refine z_iinc (L' := [(0, .inr (.inr 31)), (1, .inl (a + (if M 12 w = 1 ∧ M 7 (zlow w) = 1 ∧ M 7 (zhigh w) = 1 then 1 else 0))), (2, .inl (w + 1))]) 2 (zdec DX7_friends 35 rfl) rfl (by unfold z32; omega) rfl (by decide) ?_
      refine z_goto 4 (zdec DX7_friends 36 rfl) rfl ?_
      exact ih (a + (if M 12 w = 1 ∧ M 7 (zlow w) = 1 ∧ M 7 (zhigh w) = 1 then 1 else 0)) (w + 1) (by omega) ⟨by omega, by omega, by split <;> omega, by unfold zfri; rw [zsum_s _ hI.1, hI.2.2.2]; rfl⟩
set_option maxHeartbeats 4000000 in
theorem cX7_friends {M : zMm} (hP : zP M) (hG : zG M) (hR : zRg M) : zW mX7_friends 1 (fun rv S' M' => S' = zS0 ∧ M = M' ∧ rv = some (.inl (zfri M 33))) (0, 0) zS0 0 (zargs 0 [.inr (.inr 31)]) [] M := by
  change zW _ _ _ _ _ 0 [(0, .inr (.inr 31))] [] M
  refine z_iconst 0 (zdec DX7_friends 0 rfl) (by decide) ?_
  refine z_istore_n (L' := [(0, .inr (.inr 31)), (1, .inl 0)]) (zdec DX7_friends 1 rfl) rfl rfl (by decide) ?_
  refine z_iconst 0 (zdec DX7_friends 2 rfl) (by decide) ?_
  refine z_istore_n (L' := [(0, .inr (.inr 31)), (1, .inl 0), (2, .inl 0)]) (zdec DX7_friends 3 rfl) rfl rfl (by decide) ?_
  refine lp_X7_friends_4 hP hG hR (hx64 := fun a hx => ?_) _ 0 0 (Nat.lt_succ_self _) ⟨by omega, by omega, by omega, rfl⟩
  refine z_iload_n 0 (zdec DX7_friends 37 rfl) rfl rfl ?_
  exact z_iret (zdec DX7_friends 38 rfl) rfl (⟨rfl, rfl, zri hx⟩)
