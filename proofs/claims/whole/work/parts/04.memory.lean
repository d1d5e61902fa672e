/-! the rules of zW: fields and rows -/
theorem zup_self (M : zMm) (c k v : Int) : zup M c k v c k = v := by simp [zup]
theorem zup_row {M : zMm} {c k v c' : Int} (h : c' ≠ c) : zup M c k v c' = M c' := by
  funext k'
  simp [zup, h]
theorem zup_ne {M : zMm} {c k v c' k' : Int} (h : k' ≠ k) : zup M c k v c' k' = M c' k' := by simp [zup, h]
theorem zcM_up {S : List zSh} {M : zMm} {r : Nat} {sh : zSh} {k v : Int} (h : zcM S M) (hr : S[r]? = some sh) (hv : ∀ j : Nat, k = j → j < sh.2 → zokE S.length sh j v (M (-10 - (r : Int)) j)) : zcM S (zup M r k v) := by
  intro i sh' hi j hj
  have e2 : zup M r k v (-10 - (i : Int)) = M (-10 - (i : Int)) := zup_row (by omega)
  rw [e2]
  by_cases hir : i = r
  · subst hir
    rw [hr] at hi
    cases hi
    by_cases hk : (j : Int) = k
    · subst hk
      rw [zup_self]
      exact hv j rfl hj
    · rw [zup_ne hk]
      exact h i sh hr j hj
  · rw [zup_row (by omega)]
    exact h i sh' hi j hj
theorem zcM_upr {S : List zSh} {M : zMm} {r : Nat} {sh : zSh} {k g : Int} (h : zcM S M) (hr : S[r]? = some sh) (hv : ∀ j : Nat, k = j → j < sh.2 → zokE S.length sh j (M r j) g) : zcM S (zup M (-10 - (r : Int)) k g) := by
  intro i sh' hi j hj
  have e2 : zup M (-10 - (r : Int)) k g i = M i := zup_row (by omega)
  rw [e2]
  by_cases hir : i = r
  · subst hir
    rw [hr] at hi
    cases hi
    by_cases hk : (j : Int) = k
    · subst hk
      rw [zup_self]
      exact hv j rfl hj
    · rw [zup_ne hk]
      exact h i sh hr j hj
  · rw [zup_row (by omega)]
    exact h i sh' hi j hj
theorem zWd_upd {b : Nat × Nat} {S : List zSh} {M M' : zMm} {D : va_G} {cA : FieldType → ClassId} {ad0 : Int → Nat} {n0 : Nat} {Mn : zMm} {A : Nat → Prop} {R : Room} {s : State} {ad : Int → Nat} {H H1 : Heap} {locs locs1 : List Loc} {cells slots : Nat} (h : zWd b S M D cA ad0 n0 Mn A R s ad H locs cells slots) {r : Nat} {sh : zSh} {e : va_E} (hr : S[r]? = some sh) (he : e = zE ad cA sh (M' r) (M' (-10 - (r : Int)))) (hk : ∀ i : Nat, i < S.length → i ≠ r → M' i = M i ∧ M' (-10 - (i : Int)) = M (-10 - (i : Int))) (hneg : ∀ x : Int, -5 < x → x < 0 → M' x = M x) (hc : zcM S M') (hP : va_P D zcl ((zWs ad cA S M).set r (ad r, e)) H1) (hD : va_D A ((zWs ad cA S M).set r (ad r, e))) (hS : va_S A s.heap H1 locs1) : zWd b S M' D cA ad0 n0 Mn A R s ad H1 locs1 cells slots := by
  obtain ⟨h1, h2, h3, h4, h5, h6, h7, h8, h9⟩ := h
  rw [zWs_set hr he hk] at hP hD
  exact ⟨h1, h2, fun x hx hy => (hneg x hx hy).trans (h3 x hx hy), hP, hD, hS, h7, h8, hc⟩
theorem zcl_ref {ad : Int → Nat} (r : Nat) : zc ad (.inr (.inr (r : Int))) = .ref (ad r) := zrf_ne (by omega)
theorem zc_int {ad : Int → Nat} {x : Int} : zc ad (.inl x) = .int (Int32.ofInt x) := rfl
theorem zc_long {ad : Int → Nat} {x : Int} : zc ad (.inr (.inl x)) = .long (Int64.ofInt x) := rfl
def zik (ty : FieldType) : Nat := match ty with
  | .long => 1
  | .object _ => 2
  | .array _ => 2
  | _ => 0
theorem zfv_i {ad : Int → Nat} {ty : FieldType} {x g : Int} (h : zik ty = 0) : zfv ad ty x g = .int (Int32.ofInt x) := by cases ty <;> first | rfl | (simp [zik] at h)
theorem zfv_l {ad : Int → Nat} {ty : FieldType} {x g : Int} (h : zik ty = 1) : zfv ad ty x g = .long (Int64.ofInt x) := by cases ty <;> first | rfl | (simp [zik] at h)
theorem zfv_r {ad : Int → Nat} {ty : FieldType} {x g : Int} (h : zik ty = 2) : zfv ad ty x g = zrf ad g := by cases ty <;> first | rfl | (simp [zik] at h)
theorem zok1_i {n : Nat} {ty : FieldType} {x g : Int} (h : zik ty = 0) (hx : zok1 n ty x g) : z32 x := by
  cases ty <;> first | exact hx | (have h2 : 0 ≤ x ∧ x ≤ 1 := hx; unfold z32; omega) | (simp [zik] at h; done)
theorem zok1_l {n : Nat} {ty : FieldType} {x g : Int} (h : zik ty = 1) (hx : zok1 n ty x g) : z64 x := by
  cases ty <;> first | exact hx | (simp [zik] at h)
theorem zok1_r {n : Nat} {ty : FieldType} {x g : Int} (h : zik ty = 2) (hx : zok1 n ty x g) : zrr n g := by
  cases ty <;> first | exact hx | (simp [zik] at h)
section
variable {y : zM} {d : Nat} {Q : zPost} {b : Nat × Nat} {S : List zSh} {pc : Nat} {L : List (Nat × zV)} {st : List zV} {M : zMm}
theorem z_iald (r : Nat) {n : Nat} {ri i : Int} (hd : decode y.2.1 pc = .ok (.iaload, 1)) (hr : ri = (r : Int)) (hsh : S[r]? = some (0, n)) (hi : 0 ≤ i ∧ i < n) (kk : zW y d Q b S (pc + 1) L (.inl (M ri i) :: st) M) : zW y d Q b S pc L (.inl i :: .inr (.inr ri) :: st) M := by
  intro p l e R s m args below meth c D cA ad0 n0 Mn A Z hE hR ad H locs cells slots ls hW hL hs
  subst hr
  have hi32 : z32 i := zc_hd hs
  have k := kk p l e R s m args below meth c D cA ad0 n0 Mn A Z hE hR ad H locs cells slots ls hW hL (zc_cons (by
    have h := hW.2.2.2.2.2.2.2.2 r (0, n) hsh i.toNat (by show i.toNat < n; omega)
    rw [Int.toNat_of_nonneg hi.1] at h
    exact h) (zc_tl (zc_tl hs)))
  rw [List.map_cons, List.map_cons, zcl_ref, zc_int]
  rw [List.map_cons, zc_int] at k
  refine va_iald hE.1 hE.2.1 hE.2.2.2.2.2.2.2.2.1 hW.2.2.2.1 r 0 (zWs_at hsh) (show (ztys cA)[0]? = some (cA .int, .int) from rfl) (zi_in hi.1 hi.2 hi32) hd ?_
  rw [zi_nat hi32, Int.toNat_of_nonneg hi.1]
  exact k
theorem z_zald (r : Nat) {n : Nat} {ri i : Int} (hd : decode y.2.1 pc = .ok (.baload, 1)) (hr : ri = (r : Int)) (hsh : S[r]? = some (1, n)) (hi : 0 ≤ i ∧ i < n) (kk : 0 ≤ M ri i ∧ M ri i ≤ 1 → zW y d Q b S (pc + 1) L (.inl (M ri i) :: st) M) : zW y d Q b S pc L (.inl i :: .inr (.inr ri) :: st) M := by
  intro p l e R s m args below meth c D cA ad0 n0 Mn A Z hE hR ad H locs cells slots ls hW hL hs
  subst hr
  have hi32 : z32 i := zc_hd hs
  have h01 : 0 ≤ M r i ∧ M r i ≤ 1 := by
    have h := hW.2.2.2.2.2.2.2.2 r (1, n) hsh i.toNat (by show i.toNat < n; omega)
    rw [Int.toNat_of_nonneg hi.1] at h
    exact h
  have k := kk h01 p l e R s m args below meth c D cA ad0 n0 Mn A Z hE hR ad H locs cells slots ls hW hL (zc_cons (show z32 (M r i) by unfold z32; omega) (zc_tl (zc_tl hs)))
  rw [List.map_cons, List.map_cons, zcl_ref, zc_int]
  rw [List.map_cons, zc_int] at k
  refine va_zald hE.1 hE.2.1 hE.2.2.2.2.2.2.2.2.1 hW.2.2.2.1 r 1 (zWs_at hsh) (show (ztys cA)[1]? = some (cA .boolean, .boolean) from rfl) (zi_in hi.1 hi.2 hi32) hd ?_
  rw [zi_nat hi32, Int.toNat_of_nonneg hi.1]
  exact k
theorem z_lald (r : Nat) {n : Nat} {ri i : Int} (hd : decode y.2.1 pc = .ok (.laload, 1)) (hr : ri = (r : Int)) (hsh : S[r]? = some (2, n)) (hi : 0 ≤ i ∧ i < n) (kk : zW y d Q b S (pc + 1) L (.inr (.inl (M ri i)) :: st) M) : zW y d Q b S pc L (.inl i :: .inr (.inr ri) :: st) M := by
  intro p l e R s m args below meth c D cA ad0 n0 Mn A Z hE hR ad H locs cells slots ls hW hL hs
  subst hr
  have hi32 : z32 i := zc_hd hs
  have k := kk p l e R s m args below meth c D cA ad0 n0 Mn A Z hE hR ad H locs cells slots ls hW hL (zc_cons (by
    have h := hW.2.2.2.2.2.2.2.2 r (2, n) hsh i.toNat (by show i.toNat < n; omega)
    rw [Int.toNat_of_nonneg hi.1] at h
    exact h) (zc_tl (zc_tl hs)))
  rw [List.map_cons, List.map_cons, zcl_ref, zc_int]
  rw [List.map_cons, zc_long] at k
  refine va_lald hE.1 hE.2.1 hE.2.2.2.2.2.2.2.2.1 hW.2.2.2.1 r 2 (zWs_at hsh) (show (ztys cA)[2]? = some (cA .long, .long) from rfl) (zi_in hi.1 hi.2 hi32) hd ?_
  rw [zi_nat hi32, Int.toNat_of_nonneg hi.1]
  exact k
theorem z_aald (r : Nat) {n : Nat} {ri rw1 i r' : Int} (hd : decode y.2.1 pc = .ok (.aaload, 1)) (hr : ri = (r : Int)) (hrw : rw1 = -10 - ri) (hsh : S[r]? = some (3, n)) (hi : 0 ≤ i ∧ i < n) (hM : M rw1 i = r') (hr' : r' ≠ -1) (kk : zW y d Q b S (pc + 1) L (.inr (.inr r') :: st) M) : zW y d Q b S pc L (.inl i :: .inr (.inr ri) :: st) M := by
  intro p l e R s m args below meth c D cA ad0 n0 Mn A Z hE hR ad H locs cells slots ls hW hL hs
  subst hrw
  subst hr
  have hi32 : z32 i := zc_hd hs
  have k := kk p l e R s m args below meth c D cA ad0 n0 Mn A Z hE hR ad H locs cells slots ls hW hL (zc_cons (by
    have h := hW.2.2.2.2.2.2.2.2 r (3, n) hsh i.toNat (by show i.toNat < n; omega)
    rw [Int.toNat_of_nonneg hi.1, hM] at h
    exact h) (zc_tl (zc_tl hs)))
  rw [List.map_cons, List.map_cons, zcl_ref, zc_int]
  rw [List.map_cons, show zc ad (.inr (.inr r')) = .ref (ad r') from zrf_ne hr'] at k
  have hcell := hW.2.2.2.1 r _ (zWs_at hsh)
  have hAr := (hE.2.2.2.2.2.2.2.2.1.2 3 _ (show (ztys cA)[3]? = some (cA (.array .long), .array .long) from rfl)).1
  refine W.aald (ty := .array .long) (v := .ref (ad r')) hE.1 hE.2.1 hcell (hAr n _) rfl (fun q => by cases q) (by show ¬ (_ ∨ (arrV _ _ _).slots.size ≤ _); rw [arrV_size]; exact zi_in hi.1 hi.2 hi32) ?_ rfl rfl hd k
  show (arrV _ _ _).slots[_]? = _
  have hlt : (Int32.ofInt i).toNatClampNeg < n := by rw [zi_nat hi32]; omega
  rw [arrV_read _ _ hlt, zi_nat hi32]
  show some (va_rf (if i.toNat < n then (if M (-10 - (r : Int)) (i.toNat : Nat) = -1 then none else some (ad (M (-10 - (r : Int)) (i.toNat : Nat)))) else none)) = _
  rw [Int.toNat_of_nonneg hi.1, hM, if_neg hr', if_pos (by omega)]
  rfl
theorem z_iast (r : Nat) {n : Nat} {ri i v : Int} (hd : decode y.2.1 pc = .ok (.iastore, 1)) (hr : ri = (r : Int)) (hsh : S[r]? = some (0, n)) (hi : 0 ≤ i ∧ i < n) (kk : zW y d Q b S (pc + 1) L st (zup M ri i v)) : zW y d Q b S pc L (.inl v :: .inl i :: .inr (.inr ri) :: st) M := by
  intro p l e R s m args below meth c D cA ad0 n0 Mn A Z hE hR ad H locs cells slots ls hW hL hs
  subst hr
  have hv32 : z32 v := zc_hd hs
  have hi32 : z32 i := zc_hd (zc_tl hs)
  rw [List.map_cons, List.map_cons, List.map_cons, zcl_ref, zc_int, zc_int]
  refine va_iast hE.1 hE.2.1 hE.2.2.2.2.2.2.2.2.1 hW.2.2.2.1 hW.2.2.2.2.1 hW.2.2.2.2.2.1 r 0 (zWs_at hsh) (show (ztys cA)[0]? = some (cA .int, .int) from rfl) (zi_in hi.1 hi.2 hi32) hd fun H1 locs1 hP1 hD1 hS1 => ?_
  refine kk p l e R s m args below meth c D cA ad0 n0 Mn A Z hE hR ad H1 locs1 cells slots ls (zWd_upd (M' := zup M r i v) hW hsh ?_ (fun j _ hj => ⟨zup_row (by omega), zup_row (by omega)⟩) (fun x _ hx => zup_row (by omega)) (zcM_up hW.2.2.2.2.2.2.2.2 hsh (fun j _ _ => hv32)) hP1 hD1 hS1) hL (zc_tl (zc_tl (zc_tl hs)))
  show (Sum.inl (cA .int, n, Sum.inl _) : va_E) = Sum.inl (cA .int, n, Sum.inl _)
  congr 3
  congr 1
  funext j
  rw [zi_nat hi32]
  show (if j = i.toNat then _ else _) = Int32.ofInt (zup M r i v r j)
  by_cases hj : (j : Int) = i
  · rw [if_pos (by omega), hj, zup_self]
  · rw [if_neg (by omega), zup_ne hj]
theorem z_zast (r : Nat) {n : Nat} {ri i v : Int} (hd : decode y.2.1 pc = .ok (.bastore, 1)) (hr : ri = (r : Int)) (hsh : S[r]? = some (1, n)) (hi : 0 ≤ i ∧ i < n) (hv : 0 ≤ v ∧ v ≤ 1) (kk : zW y d Q b S (pc + 1) L st (zup M ri i v)) : zW y d Q b S pc L (.inl v :: .inl i :: .inr (.inr ri) :: st) M := by
  intro p l e R s m args below meth c D cA ad0 n0 Mn A Z hE hR ad H locs cells slots ls hW hL hs
  subst hr
  have hi32 : z32 i := zc_hd (zc_tl hs)
  rw [List.map_cons, List.map_cons, List.map_cons, zcl_ref, zc_int, zc_int]
  refine va_zast hE.1 hE.2.1 hE.2.2.2.2.2.2.2.2.1 hW.2.2.2.1 hW.2.2.2.2.1 hW.2.2.2.2.2.1 r 1 (zWs_at hsh) (show (ztys cA)[1]? = some (cA .boolean, .boolean) from rfl) (zi_in hi.1 hi.2 hi32) hd fun H1 locs1 hP1 hD1 hS1 => ?_
  refine kk p l e R s m args below meth c D cA ad0 n0 Mn A Z hE hR ad H1 locs1 cells slots ls (zWd_upd (M' := zup M r i v) hW hsh ?_ (fun j _ hj => ⟨zup_row (by omega), zup_row (by omega)⟩) (fun x _ hx => zup_row (by omega)) (zcM_up hW.2.2.2.2.2.2.2.2 hsh (fun j _ _ => hv)) hP1 hD1 hS1) hL (zc_tl (zc_tl (zc_tl hs)))
  show (Sum.inl (cA .boolean, n, Sum.inl _) : va_E) = Sum.inl (cA .boolean, n, Sum.inl _)
  congr 3
  congr 1
  funext j
  rw [zi_nat hi32]
  show (if j = i.toNat then _ else _) = Int32.ofInt (zup M r i v r j)
  by_cases hj : (j : Int) = i
  · rw [if_pos (by omega), hj, zup_self]
    rcases (show v = 0 ∨ v = 1 by omega) with rfl | rfl <;> rfl
  · rw [if_neg (by omega), zup_ne hj]
theorem z_last (r : Nat) {n : Nat} {ri i v : Int} (hd : decode y.2.1 pc = .ok (.lastore, 1)) (hr : ri = (r : Int)) (hsh : S[r]? = some (2, n)) (hi : 0 ≤ i ∧ i < n) (kk : zW y d Q b S (pc + 1) L st (zup M ri i v)) : zW y d Q b S pc L (.inr (.inl v) :: .inl i :: .inr (.inr ri) :: st) M := by
  intro p l e R s m args below meth c D cA ad0 n0 Mn A Z hE hR ad H locs cells slots ls hW hL hs
  subst hr
  have hv64 : z64 v := zc_hd hs
  have hi32 : z32 i := zc_hd (zc_tl hs)
  rw [List.map_cons, List.map_cons, List.map_cons, zcl_ref, zc_int, zc_long]
  refine va_last hE.1 hE.2.1 hE.2.2.2.2.2.2.2.2.1 hW.2.2.2.1 hW.2.2.2.2.1 hW.2.2.2.2.2.1 r 2 (zWs_at hsh) (show (ztys cA)[2]? = some (cA .long, .long) from rfl) (zi_in hi.1 hi.2 hi32) hd fun H1 locs1 hP1 hD1 hS1 => ?_
  refine kk p l e R s m args below meth c D cA ad0 n0 Mn A Z hE hR ad H1 locs1 cells slots ls (zWd_upd (M' := zup M r i v) hW hsh ?_ (fun j _ hj => ⟨zup_row (by omega), zup_row (by omega)⟩) (fun x _ hx => zup_row (by omega)) (zcM_up hW.2.2.2.2.2.2.2.2 hsh (fun j _ _ => hv64)) hP1 hD1 hS1) hL (zc_tl (zc_tl (zc_tl hs)))
  show (Sum.inl (cA .long, n, Sum.inr (Sum.inl _)) : va_E) = Sum.inl (cA .long, n, Sum.inr (Sum.inl _))
  congr 4
  congr 1
  funext j
  rw [zi_nat hi32]
  show (if j = i.toNat then _ else _) = Int64.ofInt (zup M r i v r j)
  by_cases hj : (j : Int) = i
  · rw [if_pos (by omega), hj, zup_self]
  · rw [if_neg (by omega), zup_ne hj]
theorem z_alen (r : Nat) {kd n : Nat} {ri : Int} (hd : decode y.2.1 pc = .ok (.arraylength, 1)) (hr : ri = (r : Int)) (hsh : S[r]? = some (kd, n)) (hkd : kd < 3) (hn : n < 2147483648) (kk : zW y d Q b S (pc + 1) L (.inl (n : Int) :: st) M) : zW y d Q b S pc L (.inr (.inr ri) :: st) M := by
  intro p l e R s m args below meth c D cA ad0 n0 Mn A Z hE hR ad H locs cells slots ls hW hL hs
  subst hr
  have k := kk p l e R s m args below meth c D cA ad0 n0 Mn A Z hE hR ad H locs cells slots ls hW hL (zc_cons (show z32 n by unfold z32; omega) (zc_tl hs))
  rw [List.map_cons, zcl_ref]
  rw [List.map_cons, zc_int, Int32.ofInt_eq_ofNat] at k
  rcases (show kd = 0 ∨ kd = 1 ∨ kd = 2 by omega) with rfl | rfl | rfl
  · exact va_alen hE.1 hE.2.1 hE.2.2.2.2.2.2.2.2.1 hW.2.2.2.1 r 0 (zWs_at hsh) (show (ztys cA)[0]? = some (cA .int, .int) from rfl) rfl hd k
  · exact va_alen hE.1 hE.2.1 hE.2.2.2.2.2.2.2.2.1 hW.2.2.2.1 r 1 (zWs_at hsh) (show (ztys cA)[1]? = some (cA .boolean, .boolean) from rfl) rfl hd k
  · exact va_alen hE.1 hE.2.1 hE.2.2.2.2.2.2.2.2.1 hW.2.2.2.1 r 2 (zWs_at hsh) (show (ztys cA)[2]? = some (cA .long, .long) from rfl) rfl hd k
theorem z_sald {ri i : Int} (hd : decode y.2.1 pc = .ok (.iaload, 1)) (hr : ri = -2 ∨ ri = -3 ∨ ri = -4) (hi : 0 ≤ i ∧ i < M ri (-1)) (kk : zW y d Q b S (pc + 1) L (.inl (M ri i) :: st) M) : zW y d Q b S pc L (.inl i :: .inr (.inr ri) :: st) M := by
  intro p l e R s m args below meth c D cA ad0 n0 Mn A Z hE hR ad H locs cells slots ls hW hL hs
  have hi32 : z32 i := zc_hd hs
  obtain ⟨hT, h0, hmx, hz⟩ := hE.2.2.2.2.2.2.2.2.2.1.1 ri hr
  have hMr : M ri = Mn ri := hW.2.2.1 ri (by omega) (by omega)
  rw [hMr] at hi
  have had : ad ri = ad0 ri := hW.1 ri (by omega)
  have k := kk p l e R s m args below meth c D cA ad0 n0 Mn A Z hE hR ad H locs cells slots ls hW hL (zc_cons (by rw [hMr]; exact hz i hi.1 hi.2) (zc_tl (zc_tl hs)))
  rw [List.map_cons, List.map_cons, show zc ad (.inr (.inr ri)) = .ref (ad ri) from zrf_ne (by omega), zc_int, had]
  rw [List.map_cons, zc_int, hMr] at k
  refine va_ti hE.1 hE.2.1 hT hW.2.2.2.2.2.1 (zi_in hi.1 (by omega) hi32) ?_ hd k
  show Value.int (Int32.ofInt (Mn ri _)) = _
  rw [zi_nat hi32, Int.toNat_of_nonneg hi.1]
theorem z_slen {ri : Int} (hd : decode y.2.1 pc = .ok (.arraylength, 1)) (hr : ri = -2 ∨ ri = -3 ∨ ri = -4) (kk : zW y d Q b S (pc + 1) L (.inl (M ri (-1)) :: st) M) : zW y d Q b S pc L (.inr (.inr ri) :: st) M := by
  intro p l e R s m args below meth c D cA ad0 n0 Mn A Z hE hR ad H locs cells slots ls hW hL hs
  obtain ⟨hT, h0, hmx, hz⟩ := hE.2.2.2.2.2.2.2.2.2.1.1 ri hr
  have hMr : M ri = Mn ri := hW.2.2.1 ri (by omega) (by omega)
  have had : ad ri = ad0 ri := hW.1 ri (by omega)
  have k := kk p l e R s m args below meth c D cA ad0 n0 Mn A Z hE hR ad H locs cells slots ls hW hL (zc_cons (show z32 _ by rw [hMr]; unfold z32; omega) (zc_tl hs))
  rw [List.map_cons, show zc ad (.inr (.inr ri)) = .ref (ad ri) from zrf_ne (by omega), had]
  rw [List.map_cons, zc_int, hMr] at k
  refine va_tlen hE.1 hE.2.1 hT hW.2.2.2.2.2.1 ?_ hd k
  rw [← Int32.ofInt_eq_ofNat, Int.toNat_of_nonneg h0]
theorem z_gets {ri : Int} {idx : Nat} {nm : String} (hd : decode y.2.1 pc = .ok (.getstatic idx, 3)) (hlink : Cond.fieldLink y.1.cls idx "SixWalls$Cells" nm "[I" ∈ lw_tbl) (hr : (ri = -3 ∧ nm = "ABOVE") ∨ (ri = -4 ∧ nm = "BODIES")) (kk : zW y d Q b S (pc + 3) L (.inr (.inr ri) :: st) M) : zW y d Q b S pc L st M := by
  intro p l e R s m args below meth c D cA ad0 n0 Mn A Z hE hR ad H locs cells slots ls hW hL hs
  have hr3 : ri = -3 ∨ ri = -4 := by rcases hr with h | h; exact Or.inl h.1; exact Or.inr h.1
  have hZ : va_Z "SixWalls$Cells" nm "[I" (.ref (ad0 ri)) A s s.heap := by
    rcases hr with ⟨rfl, rfl⟩ | ⟨rfl, rfl⟩
    · exact hE.2.2.2.2.2.2.2.2.2.1.2.1
    · exact hE.2.2.2.2.2.2.2.2.2.1.2.2
  have had : ad ri = ad0 ri := hW.1 ri (by omega)
  have k := kk p l e R s m args below meth c D cA ad0 n0 Mn A Z hE hR ad H locs cells slots ls hW hL (zc_cons (show zrr _ ri by unfold zrr; omega) hs)
  rw [List.map_cons, show zc ad (.inr (.inr ri)) = .ref (ad ri) from zrf_ne (by omega), had] at k
  exact va_gets hE.1 hE.2.1 hZ hW.2.2.2.2.2.1 hE.2.2.2.1 (hE.2.2.2.2.1 _ (zT hlink rfl)) (fun x h => h) hd k
theorem z_getG (r ci : Nat) {n k idx : Nat} {ri : Int} {v : zV} {C : String} {T : u_T} (hd : decode y.2.1 pc = .ok (.getfield idx, 3)) (hr : ri = (r : Int)) (hsh : S[r]? = some (ci + 4, n)) (hcl : zcl[ci]? = some (C, T, n)) (hk : k < n) (hlink : Cond.fieldLink y.1.cls idx (T k).1 (T k).2.1 (T k).2.2.1 ∈ lw_tbl)
    (hv : ∀ ad, zc ad v = zfv ad (zty ci k) (M ri k) (M (-10 - ri) k)) (hcv : zok1 S.length (zty ci k) (M ri k) (M (-10 - ri) k) → zcV S.length v) (kk : zW y d Q b S (pc + 3) L (v :: st) M) : zW y d Q b S pc L (.inr (.inr ri) :: st) M := by
  intro p l e R s m args below meth c D cA ad0 n0 Mn A Z hE hR ad H locs cells slots ls hW hL hs
  subst hr
  have k9 := kk p l e R s m args below meth c D cA ad0 n0 Mn A Z hE hR ad H locs cells slots ls hW hL (zc_cons (hcv (hW.2.2.2.2.2.2.2.2 r (ci + 4, n) hsh k hk)) (zc_tl hs))
  rw [List.map_cons, zcl_ref]
  rw [List.map_cons, hv ad] at k9
  refine va_get hE.1 hE.2.1 hE.2.2.2.2.1 (zT_ws hcl) hE.2.2.2.1 hE.2.2.2.2.2.2.2.2.1 hW.2.2.2.1 r (zWs_at hsh) hcl k hk (hE.2.2.2.2.1 _ (zT hlink rfl)) (fun x h => h) ?_ hd k9
  show ((List.range n).map _)[k]? = _
  rw [List.getElem?_map, List.getElem?_range hk]
  rfl
theorem z_geti (r ci : Nat) {n k idx : Nat} {ri ki : Int} {C : String} {T : u_T} (hd : decode y.2.1 pc = .ok (.getfield idx, 3)) (hr : ri = (r : Int)) (hsh : S[r]? = some (ci + 4, n)) (hcl : zcl[ci]? = some (C, T, n)) (hk : k < n) (hki : ki = (k : Int)) (hty : zik (zty ci k) = 0) (hlink : Cond.fieldLink y.1.cls idx (T k).1 (T k).2.1 (T k).2.2.1 ∈ lw_tbl) (kk : zW y d Q b S (pc + 3) L (.inl (M ri ki) :: st) M) : zW y d Q b S pc L (.inr (.inr ri) :: st) M :=
  z_getG r ci hd hr hsh hcl hk hlink (fun ad => by rw [zfv_i hty, hki]; rfl) (fun h => by rw [hki]; exact zok1_i hty h) kk
theorem z_getl (r ci : Nat) {n k idx : Nat} {ri ki : Int} {C : String} {T : u_T} (hd : decode y.2.1 pc = .ok (.getfield idx, 3)) (hr : ri = (r : Int)) (hsh : S[r]? = some (ci + 4, n)) (hcl : zcl[ci]? = some (C, T, n)) (hk : k < n) (hki : ki = (k : Int)) (hty : zik (zty ci k) = 1) (hlink : Cond.fieldLink y.1.cls idx (T k).1 (T k).2.1 (T k).2.2.1 ∈ lw_tbl) (kk : zW y d Q b S (pc + 3) L (.inr (.inl (M ri ki)) :: st) M) : zW y d Q b S pc L (.inr (.inr ri) :: st) M :=
  z_getG r ci hd hr hsh hcl hk hlink (fun ad => by rw [zfv_l hty, hki]; rfl) (fun h => by rw [hki]; exact zok1_l hty h) kk
theorem z_getr (r ci : Nat) {n k idx : Nat} {ri rw1 ki r' : Int} {C : String} {T : u_T} (hd : decode y.2.1 pc = .ok (.getfield idx, 3)) (hr : ri = (r : Int)) (hrw : rw1 = -10 - ri) (hsh : S[r]? = some (ci + 4, n)) (hcl : zcl[ci]? = some (C, T, n)) (hk : k < n) (hki : ki = (k : Int)) (hty : zik (zty ci k) = 2) (hlink : Cond.fieldLink y.1.cls idx (T k).1 (T k).2.1 (T k).2.2.1 ∈ lw_tbl) (hM : M rw1 ki = r') (kk : zW y d Q b S (pc + 3) L (.inr (.inr r') :: st) M) : zW y d Q b S pc L (.inr (.inr ri) :: st) M :=
  z_getG r ci hd hr hsh hcl hk hlink (fun ad => by rw [zfv_r hty, ← hM, hki, hrw]; rfl) (fun h => by rw [← hM, hki, hrw]; exact zok1_r hty h) kk
theorem z_putG (r ci : Nat) {n k idx : Nat} {ri : Int} {v : zV} {M' : zMm} {C : String} {T : u_T} (hd : decode y.2.1 pc = .ok (.putfield idx, 3)) (hr : ri = (r : Int)) (hsh : S[r]? = some (ci + 4, n)) (hcl : zcl[ci]? = some (C, T, n)) (hk : k < n) (hlink : Cond.fieldLink y.1.cls idx (T k).1 (T k).2.1 (T k).2.2.1 ∈ lw_tbl) (hfin : (T k).2.2.2 = false ∨ (y.1.name = "<init>" ∧ (T k).1 = y.1.cls))
    (hv : ∀ ad, zc ad v = zfv ad (zty ci k) (M' ri k) (M' (-10 - ri) k)) (hnar : ∀ ad, zcV S.length v → narrow (zty ci k) (zc ad v) = zc ad v ∧ fits (zty ci k) (zc ad v) = true) (ho : ∀ j : Nat, j < n → j ≠ k → M' ri j = M ri j ∧ M' (-10 - ri) j = M (-10 - ri) j) (hrow : ∀ i : Nat, i ≠ r → M' i = M i ∧ M' (-10 - (i : Int)) = M (-10 - (i : Int))) (hneg : ∀ x : Int, -5 < x → x < 0 → M' x = M x) (hc : zcM S M → zcV S.length v → zcM S M') (kk : zW y d Q b S (pc + 3) L st M') : zW y d Q b S pc L (v :: .inr (.inr ri) :: st) M := by
  intro p l e R s m args below meth c D cA ad0 n0 Mn A Z hE hR ad H locs cells slots ls hW hL hs
  subst hr
  rw [List.map_cons, List.map_cons, zcl_ref]
  have hcl2 := zcl_ok ci _ hcl
  have hfs : k < ((List.range n).map (fun (j : Nat) => zfv ad (zty ci j) (M r j) (M (-10 - (r : Int)) j))).length := by simpa using hk
  have go : ∀ (H1 : Heap) (locs1 : List Loc), va_P D zcl ((zWs ad cA S M).set r (ad r, .inr (ci, ((List.range n).map (fun (j : Nat) => zfv ad (zty ci j) (M r j) (M (-10 - (r : Int)) j))).set k (zc ad v)))) H1 → va_D A ((zWs ad cA S M).set r (ad r, .inr (ci, ((List.range n).map (fun (j : Nat) => zfv ad (zty ci j) (M r j) (M (-10 - (r : Int)) j))).set k (zc ad v)))) → va_S A s.heap H1 locs1 → W p l e R s m args below meth c H1 locs1 cells slots Z (F0 m (pc + 3) ls (st.map (zc ad))) := by
    intro H1 locs1 hP1 hD1 hS1
    refine kk p l e R s m args below meth c D cA ad0 n0 Mn A Z hE hR ad H1 locs1 cells slots ls (zWd_upd (M' := M') hW hsh ?_ (fun j _ hj => hrow j hj) hneg (hc hW.2.2.2.2.2.2.2.2 (zc_hd hs)) hP1 hD1 hS1) hL (zc_tl (zc_tl hs))
    show (Sum.inr (ci, _) : va_E) = Sum.inr (ci, (List.range n).map (fun (j : Nat) => zfv ad (zty ci j) (M' r j) (M' (-10 - (r : Int)) j)))
    congr 2
    apply List.ext_getElem?
    intro j
    rw [List.getElem?_set]
    by_cases hj : k = j
    · subst hj
      rw [if_pos rfl, if_pos hfs, List.getElem?_map, List.getElem?_range hk]
      exact congrArg some (hv ad)
    · rw [if_neg hj, List.getElem?_map, List.getElem?_map]
      by_cases hjn : j < n
      · rw [List.getElem?_range hjn]
        show some (zfv ad (zty ci j) (M r j) (M (-10 - (r : Int)) j)) = some (zfv ad (zty ci j) (M' r j) (M' (-10 - (r : Int)) j))
        rw [(ho j hjn (fun h => hj h.symm)).1, (ho j hjn (fun h => hj h.symm)).2]
      · rw [List.getElem?_eq_none (by simpa using hjn)]
        rfl
  have hn := hnar ad (zc_hd hs)
  by_cases hf : (T k).2.2.2 = false
  · exact va_put hE.1 hE.2.1 hE.2.2.2.2.1 (zT_ws hcl) (zty ci) hcl2.2.1 hcl2.2.2 hE.2.2.2.1 hE.2.2.2.2.2.2.2.2.1 hW.2.2.2.1 hW.2.2.2.2.1 hW.2.2.2.2.2.1 r (zWs_at hsh) hcl k hk (hE.2.2.2.2.1 _ (zT hlink rfl)) (fun x h => h) hf (hcl2.2.1 k hk) hn.1 hn.2 hfs hd go
  · obtain ⟨h1, h2⟩ := hfin.resolve_left hf
    exact va_putF hE.1 hE.2.1 hE.2.2.2.2.1 (zT_ws hcl) (zty ci) hcl2.2.1 hcl2.2.2 hE.2.2.2.1 hE.2.2.2.2.2.2.2.2.1 hW.2.2.2.1 hW.2.2.2.2.1 hW.2.2.2.2.2.1 r (zWs_at hsh) hcl k hk (hE.2.2.2.2.1 _ (zT hlink rfl)) (fun x h => h) (by simpa using hf) (hE.2.2.2.2.2.2.2.1 h1) h2 (hcl2.2.1 k hk) hn.1 hn.2 hfs hd go
theorem z_puti (r ci : Nat) {n k idx : Nat} {ri ki v : Int} {C : String} {T : u_T} (hd : decode y.2.1 pc = .ok (.putfield idx, 3)) (hr : ri = (r : Int)) (hsh : S[r]? = some (ci + 4, n)) (hcl : zcl[ci]? = some (C, T, n)) (hk : k < n) (hki : ki = (k : Int)) (hty : zty ci k = .int) (hlink : Cond.fieldLink y.1.cls idx (T k).1 (T k).2.1 (T k).2.2.1 ∈ lw_tbl) (hfin : (T k).2.2.2 = false ∨ (y.1.name = "<init>" ∧ (T k).1 = y.1.cls)) (kk : zW y d Q b S (pc + 3) L st (zup M ri ki v)) : zW y d Q b S pc L (.inl v :: .inr (.inr ri) :: st) M := by
  subst hki
  subst hr
  refine z_putG r ci (M' := zup M r k v) hd rfl hsh hcl hk hlink hfin (fun ad => by rw [hty, zup_self]; rfl) (fun ad _ => by rw [hty]; exact ⟨rfl, rfl⟩) (fun j _ hj => ⟨zup_ne (by omega), by rw [zup_row (by omega)]⟩) (fun i hi => ⟨zup_row (by omega), zup_row (by omega)⟩) (fun x _ _ => zup_row (by omega)) (fun h hv => zcM_up h hsh (fun j hj _ => ?_)) kk
  show zok1 _ (zty ci j) v _
  rw [show j = k by omega, hty]
  exact hv
theorem z_putz (r ci : Nat) {n k idx : Nat} {ri ki v : Int} {C : String} {T : u_T} (hd : decode y.2.1 pc = .ok (.putfield idx, 3)) (hr : ri = (r : Int)) (hsh : S[r]? = some (ci + 4, n)) (hcl : zcl[ci]? = some (C, T, n)) (hk : k < n) (hki : ki = (k : Int)) (hty : zty ci k = .boolean) (hlink : Cond.fieldLink y.1.cls idx (T k).1 (T k).2.1 (T k).2.2.1 ∈ lw_tbl) (hfin : (T k).2.2.2 = false ∨ (y.1.name = "<init>" ∧ (T k).1 = y.1.cls)) (h01 : 0 ≤ v ∧ v ≤ 1) (kk : zW y d Q b S (pc + 3) L st (zup M ri ki v)) : zW y d Q b S pc L (.inl v :: .inr (.inr ri) :: st) M := by
  subst hki
  subst hr
  refine z_putG r ci (M' := zup M r k v) hd rfl hsh hcl hk hlink hfin (fun ad => by rw [hty, zup_self]; rfl) (fun ad _ => by rw [hty]; rcases (show v = 0 ∨ v = 1 by omega) with rfl | rfl <;> exact ⟨rfl, rfl⟩) (fun j _ hj => ⟨zup_ne (by omega), by rw [zup_row (by omega)]⟩) (fun i hi => ⟨zup_row (by omega), zup_row (by omega)⟩) (fun x _ _ => zup_row (by omega)) (fun h hv => zcM_up h hsh (fun j hj _ => ?_)) kk
  show zok1 _ (zty ci j) v _
  rw [show j = k by omega, hty]
  exact h01
theorem z_putl (r ci : Nat) {n k idx : Nat} {ri ki v : Int} {C : String} {T : u_T} (hd : decode y.2.1 pc = .ok (.putfield idx, 3)) (hr : ri = (r : Int)) (hsh : S[r]? = some (ci + 4, n)) (hcl : zcl[ci]? = some (C, T, n)) (hk : k < n) (hki : ki = (k : Int)) (hty : zty ci k = .long) (hlink : Cond.fieldLink y.1.cls idx (T k).1 (T k).2.1 (T k).2.2.1 ∈ lw_tbl) (hfin : (T k).2.2.2 = false ∨ (y.1.name = "<init>" ∧ (T k).1 = y.1.cls)) (kk : zW y d Q b S (pc + 3) L st (zup M ri ki v)) : zW y d Q b S pc L (.inr (.inl v) :: .inr (.inr ri) :: st) M := by
  subst hki
  subst hr
  refine z_putG r ci (M' := zup M r k v) hd rfl hsh hcl hk hlink hfin (fun ad => by rw [hty, zup_self]; rfl) (fun ad _ => by rw [hty]; exact ⟨rfl, rfl⟩) (fun j _ hj => ⟨zup_ne (by omega), by rw [zup_row (by omega)]⟩) (fun i hi => ⟨zup_row (by omega), zup_row (by omega)⟩) (fun x _ _ => zup_row (by omega)) (fun h hv => zcM_up h hsh (fun j hj _ => ?_)) kk
  show zok1 _ (zty ci j) v _
  rw [show j = k by omega, hty]
  exact hv
theorem zrf_fit {ad : Int → Nat} {ty : FieldType} {g : Int} (h : zik ty = 2) : narrow ty (zrf ad g) = zrf ad g ∧ fits ty (zrf ad g) = true := by
  unfold zrf
  cases ty <;> first | (simp [zik] at h; done) | (split <;> exact ⟨rfl, rfl⟩)
theorem zok1_r2 {n : Nat} {ty : FieldType} {x g : Int} (h : zik ty = 2) (hx : zrr n g) : zok1 n ty x g := by
  cases ty <;> first | exact hx | (simp [zik] at h)
theorem z_putr (r ci : Nat) {n k idx : Nat} {ri rw1 ki g : Int} {C : String} {T : u_T} (hd : decode y.2.1 pc = .ok (.putfield idx, 3)) (hr : ri = (r : Int)) (hrw : rw1 = -10 - ri) (hsh : S[r]? = some (ci + 4, n)) (hcl : zcl[ci]? = some (C, T, n)) (hk : k < n) (hki : ki = (k : Int)) (hty : zik (zty ci k) = 2) (hlink : Cond.fieldLink y.1.cls idx (T k).1 (T k).2.1 (T k).2.2.1 ∈ lw_tbl) (hfin : (T k).2.2.2 = false ∨ (y.1.name = "<init>" ∧ (T k).1 = y.1.cls)) (kk : zW y d Q b S (pc + 3) L st (zup M rw1 ki g)) : zW y d Q b S pc L (.inr (.inr g) :: .inr (.inr ri) :: st) M := by
  subst hki
  subst hrw
  subst hr
  refine z_putG r ci (M' := zup M (-10 - (r : Int)) k g) hd rfl hsh hcl hk hlink hfin (fun ad => by rw [zfv_r hty, zup_self]; rfl) (fun ad _ => zrf_fit hty) (fun j _ hj => ⟨by rw [zup_row (by omega)], zup_ne (by omega)⟩) (fun i hi => ⟨zup_row (by omega), zup_row (by omega)⟩) (fun x _ _ => zup_row (by omega)) (fun h hv => zcM_upr h hsh (fun j hj _ => ?_)) kk
  show zok1 _ (zty ci j) _ g
  rw [show j = k by omega]
  exact zok1_r2 hty hv
end
