/-! the rules of zW: new objects and rows, copies of rows -/
/-- a new cell n: all 0, all null -/
def znew (M : zMm) (n : Int) : zMm := fun c k => if c = n then 0 else if c = -10 - n then -1 else M c k
def zad (ad : Int → Nat) (n : Int) (q : Nat) : Int → Nat := fun r => if r = n then q else ad r
theorem znew_row {M : zMm} {n c : Int} (h1 : c ≠ n) (h2 : c ≠ -10 - n) : znew M n c = M c := by
  funext k
  simp [znew, h1, h2]
theorem znew_at {M : zMm} {n k : Int} : znew M n n k = 0 := by simp [znew]
theorem znew_ref {M : zMm} {n k : Int} (h : 0 ≤ n) : znew M n (-10 - n) k = -1 := by
  unfold znew
  rw [if_neg (by omega), if_pos rfl]
theorem zad_ne {ad : Int → Nat} {n r : Int} {q : Nat} (h : r ≠ n) : zad ad n q r = ad r := by simp [zad, h]
theorem zad_self {ad : Int → Nat} {n : Int} {q : Nat} : zad ad n q n = q := by simp [zad]
theorem zfv_congr {ad ad' : Int → Nat} {n : Nat} {ty : FieldType} {x g : Int} (h : ∀ r : Int, r < n → ad' r = ad r) (hc : zok1 n ty x g) : zfv ad' ty x g = zfv ad ty x g := by
  by_cases hk : zik ty = 2
  · rw [zfv_r hk, zfv_r hk]
    have hr := zok1_r hk hc
    unfold zrf
    rw [h g hr.2]
  · by_cases h1 : zik ty = 1
    · rw [zfv_l h1, zfv_l h1]
    · have h0 : zik ty = 0 := by cases ty <;> first | rfl | (simp [zik] at hk; done) | (simp [zik] at h1; done)
      rw [zfv_i h0, zfv_i h0]
theorem zE_congr {ad ad' : Int → Nat} {cA : FieldType → ClassId} {n : Nat} {sh : zSh} {f g : Int → Int} (h : ∀ r : Int, r < n → ad' r = ad r) (hc : ∀ j : Nat, j < sh.2 → zokE n sh j (f j) (g j)) : zE ad' cA sh f g = zE ad cA sh f g := by
  obtain ⟨kd, len⟩ := sh
  match kd, hc with
  | 0, _ => rfl
  | 1, _ => rfl
  | 2, _ => rfl
  | 3, hc =>
    show (Sum.inl (_, len, Sum.inr (Sum.inr (Sum.inr (Sum.inr _)))) : va_E) = Sum.inl (_, len, Sum.inr (Sum.inr (Sum.inr (Sum.inr _))))
    congr 7
    funext j
    show (if j < len then _ else none) = (if j < len then _ else none)
    by_cases hj : j < len
    · rw [if_pos hj, if_pos hj]
      have hr : zrr n (g j) := hc j hj
      rw [h (g j) hr.2]
    · rw [if_neg hj, if_neg hj]
  | ci + 4, hc =>
    show (Sum.inr (ci, _) : va_E) = Sum.inr (ci, _)
    congr 2
    apply List.map_congr_left
    intro j hj
    exact zfv_congr h (hc j (List.mem_range.mp hj))
theorem zc_congr {ad ad' : Int → Nat} {n : Nat} {v : zV} (h : ∀ r : Int, r < n → ad' r = ad r) (hc : zcV n v) : zc ad' v = zc ad v := by
  rcases v with x | x | x
  · rfl
  · rfl
  · show zrf ad' x = zrf ad x
    have hr : zrr n x := hc
    unfold zrf
    rw [h x hr.2]
theorem zcV_up {n n' : Nat} {v : zV} (h : n ≤ n') (hc : zcV n v) : zcV n' v := by
  rcases v with x | x | x
  · exact hc
  · exact hc
  · have hr : zrr n x := hc
    show zrr n' x
    unfold zrr at hr ⊢
    omega
theorem zok1_up {n n' : Nat} {ty : FieldType} {x g : Int} (h : n ≤ n') (hc : zok1 n ty x g) : zok1 n' ty x g := by
  by_cases hk : zik ty = 2
  · have hr := zok1_r hk hc
    exact zok1_r2 hk (by unfold zrr at hr ⊢; omega)
  · cases ty <;> first | exact hc | (simp [zik] at hk; done)
theorem zokE_up {n n' : Nat} {sh : zSh} {j : Nat} {x g : Int} (h : n ≤ n') (hc : zokE n sh j x g) : zokE n' sh j x g := by
  obtain ⟨kd, len⟩ := sh
  match kd, hc with
  | 0, hc => exact hc
  | 1, hc => exact hc
  | 2, hc => exact hc
  | 3, hc =>
    have hr : zrr n g := hc
    show zrr n' g
    unfold zrr at hr ⊢
    omega
  | ci + 4, hc => exact zok1_up (n := n) (n' := n') (ty := zty ci j) h hc
theorem zmap_congr {ad ad' : Int → Nat} {n : Nat} {st : List zV} (h : ∀ r : Int, r < n → ad' r = ad r) (hc : ∀ v ∈ st, zcV n v) : st.map (zc ad') = st.map (zc ad) := List.map_congr_left fun v hv => zc_congr h (hc v hv)
theorem zLs_up {nL n n' : Nat} {L : List (Nat × zV)} {ad ad' : Int → Nat} {ls : Array Slot} (h : zLs nL n L ad ls) (hn : n ≤ n') (had : ∀ r : Int, r < n → ad' r = ad r) : zLs nL n' L ad' ls := by
  refine ⟨?_, fun q hq => zcV_up hn (h.2 q hq)⟩
  have e : L.map (fun q => (q.1, zc ad' q.2)) = L.map (fun q => (q.1, zc ad q.2)) := List.map_congr_left fun q hq => by rw [zc_congr had (h.2 q hq)]
  rw [e]
  exact h.1
/-- one cell more at the end -/
theorem zWd_new {b b' : Nat × Nat} {S : List zSh} {M M' : zMm} {D : va_G} {cA : FieldType → ClassId} {ad0 : Int → Nat} {n0 : Nat} {Mn : zMm} {A : Nat → Prop} {R : Room} {s : State} {ad : Int → Nat} {H H1 : Heap} {locs locs1 : List Loc} {cells slots cells1 slots1 : Nat} (h : zWd b S M D cA ad0 n0 Mn A R s ad H locs cells slots) {sh : zSh} {e : va_E} {q : Nat}
    (hM1 : ∀ c : Int, c ≠ (S.length : Int) → c ≠ -10 - (S.length : Int) → M' c = M c) (he : e = zE (zad ad S.length q) cA sh (M' S.length) (M' (-10 - (S.length : Int)))) (hc : ∀ j : Nat, j < sh.2 → zokE (S.length + 1) sh j (M' S.length j) (M' (-10 - (S.length : Int)) j))
    (hP : va_P D zcl (zWs ad cA S M ++ [(q, e)]) H1) (hD : va_D A (zWs ad cA S M ++ [(q, e)])) (hS : va_S A s.heap H1 locs1) (hb1 : cells1 + b'.1 ≤ R.cells) (hb2 : slots1 + b'.2 ≤ R.slots) : zWd b' (S ++ [sh]) M' D cA ad0 n0 Mn A R s (zad ad S.length q) H1 locs1 cells1 slots1 := by
  obtain ⟨h1, h2, h3, h4, h5, h6, h7, h8, h9⟩ := h
  have had : ∀ r : Int, r < S.length → zad ad S.length q r = ad r := fun r hr => zad_ne (by omega)
  have e1 : zWs ad cA S M ++ [(q, e)] = zWs (zad ad S.length q) cA (S ++ [sh]) M' := by
    refine zWs_ext (by rw [List.length_append, zWs_len]; simp) fun i sh' hi => ?_
    by_cases hl : i < S.length
    · rw [List.getElem?_append_left hl] at hi
      rw [List.getElem?_append_left (by rw [zWs_len]; exact hl), zWs_at hi, hM1 i (by omega) (by omega), hM1 (-10 - (i : Int)) (by omega) (by omega), zE_congr had (h9 i sh' hi), had i (by omega)]
    · have hil : i = S.length := by
        have := (List.getElem?_eq_some_iff.mp hi).1
        rw [List.length_append] at this
        simp at this
        omega
      subst hil
      rw [List.getElem?_append_right (Nat.le_refl _), Nat.sub_self] at hi
      cases hi
      rw [List.getElem?_append_right (by rw [zWs_len]; exact Nat.le_refl _), zWs_len, Nat.sub_self, he, zad_self]
      rfl
  rw [e1] at hP hD
  refine ⟨fun r hr => (had r (by omega)).trans (h1 r hr), by rw [List.length_append]; omega, fun r hr hr2 => ?_, hP, hD, hS, hb1, hb2, ?_⟩
  · rw [hM1 r (by omega) (by omega)]
    exact h3 r hr hr2
  · intro i sh' hi j hj
    rw [List.length_append, List.length_singleton]
    by_cases hl : i < S.length
    · rw [List.getElem?_append_left hl] at hi
      rw [hM1 i (by omega) (by omega), hM1 (-10 - (i : Int)) (by omega) (by omega)]
      exact zokE_up (by omega) (h9 i sh' hi j hj)
    · have hil : i = S.length := by
        have := (List.getElem?_eq_some_iff.mp hi).1
        rw [List.length_append] at this
        simp at this
        omega
      subst hil
      rw [List.getElem?_append_right (Nat.le_refl _), Nat.sub_self] at hi
      cases hi
      exact hc j hj
section
variable {y : zM} {d : Nat} {Q : zPost} {b : Nat × Nat} {S : List zSh} {pc : Nat} {L : List (Nat × zV)} {st : List zV} {M : zMm}
theorem z_new (ci : Nat) {n idx : Nat} {C : String} {T : u_T} (hd : decode y.2.1 pc = .ok (.new idx, 3)) (hcl : zcl[ci]? = some (C, T, n)) (hlink : Cond.classLink y.1.cls idx C ∈ lw_tbl) (hins : Cond.instantiable C n ∈ lw_tbl) (hini : Cond.initialized C ∈ lw_tbl) (hdf : ∀ j : Nat, j < n → (zty ci j = .int ∨ zty ci j = .boolean ∨ zty ci j = .long ∨ zik (zty ci j) = 2))
    (kk : zW y d Q b (S ++ [(ci + 4, n)]) (pc + 3) L (.inr (.inr (S.length : Int)) :: st) (znew M S.length)) : zW y d Q (b.1 + 1, b.2 + n) S pc L st M := by
  intro p l e R s m args below meth c D cA ad0 n0 Mn A Z hE hR ad H locs cells slots ls hW hL hs
  have hcl2 := zcl_ok ci _ hcl
  have hb1 : cells + (b.1 + 1) ≤ R.cells := hW.2.2.2.2.2.2.1
  have hb2 : slots + (b.2 + n) ≤ R.slots := hW.2.2.2.2.2.2.2.1
  have had : ∀ (q : Nat) (r : Int), r < S.length → zad ad S.length q r = ad r := fun q r hr => zad_ne (by omega)
  refine va_new (ci := ci) (fs := (List.range n).map (fun (j : Nat) => zfv ad (zty ci j) 0 (-1))) hE.1 hE.2.1 hE.2.2.2.2.1 (zT_ws hcl) (zty ci) hcl2.2.1 hE.2.2.2.1 (hE.2.2.2.2.1 _ (zT hlink rfl)) (hE.2.2.2.2.1 _ (zT hins rfl)) (hE.2.2.2.2.1 _ (zT hini rfl)) hE.2.2.2.2.2.2.2.2.1 hW.2.2.2.1 hW.2.2.2.2.1 hW.2.2.2.2.2.1 hE.2.2.2.2.2.2.2.2.2.2.1 hcl ?_ (by omega) (show slots + n ≤ R.slots by omega) hd fun q H1 hP1 hD1 hS1 => ?_
  · intro j hj
    show _ = ((List.range n).map _).getD j Value.null
    rw [List.getD_eq_getElem?_getD, List.getElem?_map, List.getElem?_range hj]
    show _ = zfv ad (zty ci j) 0 (-1)
    rcases hdf j hj with h | h | h | h
    · rw [h]; rfl
    · rw [h]; rfl
    · rw [h]; rfl
    · rw [zfv_r h]
      revert h
      cases zty ci j <;> intro h <;> first | rfl | (simp [zik] at h; done)
  · have k := kk p l e R s m args below meth c D cA ad0 n0 Mn A Z hE hR (zad ad S.length q) H1 locs (cells + 1) (slots + n) ls (zWd_new (M' := znew M S.length) hW (sh := (ci + 4, n)) (q := q) (fun c h1 h2 => znew_row h1 h2) ?_ (fun j hj => ?_) hP1 hD1 hS1 (by omega) (by omega)) (zLs_up hL (by simp) (had q)) (zc_cons (show zrr _ _ by unfold zrr; simp; omega) (fun v hv => zcV_up (by simp) (hs v hv)))
    · rw [List.map_cons, zcl_ref, zad_self, zmap_congr (had q) hs] at k
      exact k
    · show (Sum.inr (ci, _) : va_E) = Sum.inr (ci, (List.range n).map (fun (j : Nat) => zfv (zad ad S.length q) (zty ci j) (znew M S.length S.length j) (znew M S.length (-10 - (S.length : Int)) j)))
      congr 2
      apply List.map_congr_left
      intro j hj
      rw [znew_at, znew_ref (by omega)]
      exact (zfv_congr (n := S.length) (had q) (by
        rcases hdf j (List.mem_range.mp hj) with h | h | h | h
        · rw [h]; show z32 0; unfold z32; omega
        · rw [h]; show (0 : Int) ≤ 0 ∧ (0 : Int) ≤ 1; omega
        · rw [h]; show z64 0; unfold z64; omega
        · exact zok1_r2 h (by unfold zrr; omega))).symm
    · show zok1 _ (zty ci j) _ _
      rw [znew_at, znew_ref (by omega)]
      rcases hdf j hj with h | h | h | h
      · rw [h]; show z32 0; unfold z32; omega
      · rw [h]; show (0 : Int) ≤ 0 ∧ (0 : Int) ≤ 1; omega
      · rw [h]; show z64 0; unfold z64; omega
      · exact zok1_r2 h (by unfold zrr; omega)
theorem z_newa (kd : Nat) {n : Nat} {i : Int} {atype : ArrayType} (hd : decode y.2.1 pc = .ok (.newarray atype, 2)) (hkd : (kd = 0 ∧ atype = .int) ∨ (kd = 1 ∧ atype = .boolean) ∨ (kd = 2 ∧ atype = .long)) (hw : Cond.arrayClass (newarray.typeOf atype) ∈ lw_tbl) (hi : i = (n : Int)) (hn : n ≤ 10000)
    (kk : zW y d Q b (S ++ [(kd, n)]) (pc + 2) L (.inr (.inr (S.length : Int)) :: st) (znew M S.length)) : zW y d Q (b.1 + 1, b.2 + n) S pc L (.inl i :: st) M := by
  intro p l e R s m args below meth c D cA ad0 n0 Mn A Z hE hR ad H locs cells slots ls hW hL hs
  subst hi
  have hb1 : cells + (b.1 + 1) ≤ R.cells := hW.2.2.2.2.2.2.1
  have hb2 : slots + (b.2 + n) ≤ R.slots := hW.2.2.2.2.2.2.2.1
  have had : ∀ (q : Nat) (r : Int), r < S.length → zad ad S.length q r = ad r := fun q r hr => zad_ne (by omega)
  have h32 : z32 (n : Int) := by unfold z32; omega
  have hnn : ¬ Int32.ofInt (n : Int) < 0 := by
    rw [show (0 : Int32) = Int32.ofInt 0 from rfl, zi_lt h32 (by unfold z32; omega)]
    omega
  have hnt : (Int32.ofInt (n : Int)).toNatClampNeg = n := by rw [zi_nat h32]; omega
  have fin : ∀ (q : Nat) (cA' : ClassId) (H1 : Heap) (e9 : va_E), e9 = zE (zad ad S.length q) cA (kd, n) (znew M S.length S.length) (znew M S.length (-10 - (S.length : Int))) → va_P D zcl (zWs ad cA S M ++ [(q, e9)]) H1 → va_D A (zWs ad cA S M ++ [(q, e9)]) → va_S A s.heap H1 locs → W p l e R s m args below meth c H1 locs (cells + 1) (slots + n) Z (F0 m (pc + 2) ls (.ref q :: st.map (zc ad))) := by
    intro q cA' H1 e9 he hP1 hD1 hS1
    have k := kk p l e R s m args below meth c D cA ad0 n0 Mn A Z hE hR (zad ad S.length q) H1 locs (cells + 1) (slots + n) ls (zWd_new (M' := znew M S.length) hW (sh := (kd, n)) (q := q) (fun c h1 h2 => znew_row h1 h2) he (fun j hj => ?_) hP1 hD1 hS1 (by omega) (by omega)) (zLs_up hL (by simp) (had q)) (zc_cons (show zrr _ _ by unfold zrr; simp; omega) (fun v hv => zcV_up (by simp) (zc_tl hs v hv)))
    · rw [List.map_cons, zcl_ref, zad_self, zmap_congr (had q) (zc_tl hs)] at k
      exact k
    · rw [znew_at, znew_ref (by omega)]
      rcases hkd with ⟨rfl, -⟩ | ⟨rfl, -⟩ | ⟨rfl, -⟩
      · show z32 0; unfold z32; omega
      · show (0 : Int) ≤ 0 ∧ (0 : Int) ≤ 1; omega
      · show z64 0; unfold z64; omega
  have same : ∀ (q : Nat) (cA' : ClassId) (ty : FieldType), (ty = .int ∨ ty = .boolean ∨ ty = .long) → va_K D zcl (ztys cA ++ [(cA', ty)]) s → cA' = cA ty := by
    intro q cA' ty hty hK
    have h4 := (hK.2 4 (cA', ty) rfl).2
    rcases hty with rfl | rfl | rfl
    · have h0 := (hK.2 0 (cA .int, .int) rfl).2
      exact Option.some.inj (h4.symm.trans h0)
    · have h0 := (hK.2 1 (cA .boolean, .boolean) rfl).2
      exact Option.some.inj (h4.symm.trans h0)
    · have h0 := (hK.2 2 (cA .long, .long) rfl).2
      exact Option.some.inj (h4.symm.trans h0)
  rw [List.map_cons, zc_int]
  rcases hkd with ⟨rfl, rfl⟩ | ⟨rfl, rfl⟩ | ⟨rfl, rfl⟩
  · refine va_newa (ty := .int) (N' := n) (a0 := (n, .inl (fun _ => 0))) hE.1 hE.2.1 (hE.2.2.2.2.1 _ (zT hw rfl)) rfl hE.2.2.2.2.2.2.2.2.1 hW.2.2.2.1 hW.2.2.2.2.1 hW.2.2.2.2.2.1 hE.2.2.2.2.2.2.2.2.2.2.1 (fun _ => rfl) hnn hnt (by show n * 4 ≤ _; omega) (by omega) (by omega) hd fun q cA' H1 hK1 hP1 hD1 hS1 => ?_
    have ec := same q cA' .int (Or.inl rfl) hK1
    subst ec
    refine fin q (cA .int) H1 _ ?_ hP1 hD1 hS1
    show (Sum.inl (cA .int, n, Sum.inl _) : va_E) = Sum.inl (cA .int, n, Sum.inl (fun (j : Nat) => Int32.ofInt (znew M S.length S.length j)))
    congr 3
    congr 1
    funext j
    rw [znew_at]
    rfl
  · refine va_newa (ty := .boolean) (N' := n) (a0 := (n, .inl (fun _ => 0))) hE.1 hE.2.1 (hE.2.2.2.2.1 _ (zT hw rfl)) rfl hE.2.2.2.2.2.2.2.2.1 hW.2.2.2.1 hW.2.2.2.2.1 hW.2.2.2.2.2.1 hE.2.2.2.2.2.2.2.2.2.2.1 (fun _ => rfl) hnn hnt (by show n * 1 ≤ _; omega) (by omega) (by omega) hd fun q cA' H1 hK1 hP1 hD1 hS1 => ?_
    have ec := same q cA' .boolean (Or.inr (Or.inl rfl)) hK1
    subst ec
    refine fin q (cA .boolean) H1 _ ?_ hP1 hD1 hS1
    show (Sum.inl (cA .boolean, n, Sum.inl _) : va_E) = Sum.inl (cA .boolean, n, Sum.inl (fun (j : Nat) => Int32.ofInt (znew M S.length S.length j)))
    congr 3
    congr 1
    funext j
    rw [znew_at]
    rfl
  · refine va_newa (ty := .long) (N' := n) (a0 := (n, .inr (.inl (fun _ => 0)))) hE.1 hE.2.1 (hE.2.2.2.2.1 _ (zT hw rfl)) rfl hE.2.2.2.2.2.2.2.2.1 hW.2.2.2.1 hW.2.2.2.2.1 hW.2.2.2.2.2.1 hE.2.2.2.2.2.2.2.2.2.2.1 (fun _ => rfl) hnn hnt (by show n * 8 ≤ _; omega) (by omega) (by omega) hd fun q cA' H1 hK1 hP1 hD1 hS1 => ?_
    have ec := same q cA' .long (Or.inr (Or.inr rfl)) hK1
    subst ec
    refine fin q (cA .long) H1 _ ?_ hP1 hD1 hS1
    show (Sum.inl (cA .long, n, Sum.inr (Sum.inl _)) : va_E) = Sum.inl (cA .long, n, Sum.inr (Sum.inl (fun (j : Nat) => Int64.ofInt (znew M S.length S.length j))))
    congr 4
    congr 1
    funext j
    rw [znew_at]
    rfl
theorem z_objInit {idx : Nat} {r : Int} (hd : decode y.2.1 pc = .ok (.invokespecial idx, 3)) (hlink : Cond.methodLink y.1.cls idx objectInit ∈ lw_tbl) (hinst : Cond.instanceMethod objectInit ∈ lw_tbl) (hcode : Cond.code objectInit ⟨#[0xb1]⟩ 1 none ∈ lw_tbl) (hr : r ≠ -1) (hd1 : 1 ≤ d) (hst : st = []) (kk : zW y d Q b S (pc + 3) L st M) : zW y d Q b S pc L (.inr (.inr r) :: st) M := by
  intro p l e R s m args below meth c D cA ad0 n0 Mn A Z hE hR ad H locs cells slots ls hW hL hs
  subst hst
  have k := kk p l e R s m args below meth c D cA ad0 n0 Mn A Z hE hR ad H locs cells slots ls hW hL (zc_tl hs)
  rw [List.map_cons, show zc ad (.inr (.inr r)) = .ref (ad r) from zrf_ne hr]
  have hf := hE.2.2.2.2.2.1
  have hlo := hE.2.2.2.2.2.2.1
  exact W.objInit hE.1 hE.2.1 hE.2.2.2.1 (hE.2.2.2.2.1 _ (zT hlink rfl)) (hE.2.2.2.2.1 _ (zT hinst rfl)) (hE.2.2.2.2.1 _ (zT hcode rfl)) rfl (by rw [hE.2.2.1]; exact hL.1.1) rfl hd (by omega) (by show 0 + 0 + 12 ≤ _; omega) k
def zcpy (M : zMm) (r0 i r1 j n : Int) : zMm := fun c k => if c = r1 ∧ j ≤ k ∧ k < j + n then M r0 (i + (k - j)) else M c k
theorem zcpy_row {M : zMm} {r0 i r1 j n c : Int} (h : c ≠ r1) : zcpy M r0 i r1 j n c = M c := by
  funext k
  simp [zcpy, h]
theorem z_copyi (r0 r1 : Nat) {n0' n1' idx : Nat} {ra rb i j n : Int} (hd : decode y.2.1 pc = .ok (.invokestatic idx, 3)) (hlink : Cond.methodLink y.1.cls idx arraycopyName ∈ lw_tbl) (hnat : Cond.native arraycopyName ∈ lw_tbl) (hstat : Cond.static arraycopyName ∈ lw_tbl) (hini : Cond.initialized "java/lang/System" ∈ lw_tbl) (hr0 : ra = (r0 : Int)) (hr1 : rb = (r1 : Int)) (hsh0 : S[r0]? = some (0, n0')) (hsh1 : S[r1]? = some (0, n1')) (hi : 0 ≤ i ∧ 0 ≤ n ∧ i + n ≤ n0') (hj : 0 ≤ j ∧ j + n ≤ n1') (hd1 : 1 ≤ d) (hst : st = [])
    (kk : zW y d Q b S (pc + 3) L st (zcpy M ra i rb j n)) : zW y d Q b S pc L (.inl n :: .inl j :: .inr (.inr rb) :: .inl i :: .inr (.inr ra) :: st) M := by
  intro p l e R s m args below meth c D cA ad0 n0 Mn A Z hE hR ad H locs cells slots ls hW hL hs
  subst hr0
  subst hr1
  subst hst
  have hn32 : z32 n := zc_hd hs
  have hj32 : z32 j := zc_hd (zc_tl hs)
  have hi32 : z32 i := zc_hd (zc_tl (zc_tl (zc_tl hs)))
  have neg : ∀ x : Int, z32 x → 0 ≤ x → ¬ Int32.ofInt x < 0 := fun x hx h0 => by
    rw [show (0 : Int32) = Int32.ofInt 0 from rfl, zi_lt hx (by unfold z32; omega)]
    omega
  rw [List.map_cons, List.map_cons, List.map_cons, List.map_cons, List.map_cons, zcl_ref, zcl_ref, zc_int, zc_int, zc_int]
  have hf := hE.2.2.2.2.2.1
  have hlo := hE.2.2.2.2.2.2.1
  refine va_copyi hE.1 hE.2.1 (by rw [hE.2.2.1]; exact hL.1.1.symm) hE.2.2.2.1 (hE.2.2.2.2.1 _ (zT hlink rfl)) (hE.2.2.2.2.1 _ (zT hnat rfl)) (hE.2.2.2.2.1 _ (zT hstat rfl)) (hE.2.2.2.2.1 _ (zT hini rfl)) hE.2.2.2.2.2.2.2.2.1 hW.2.2.2.1 hW.2.2.2.2.1 hW.2.2.2.2.2.1 r0 r1 0 0 (zWs_at hsh0) (zWs_at hsh1) (show (ztys cA)[0]? = some (cA .int, .int) from rfl) (show (ztys cA)[0]? = some (cA .int, .int) from rfl) rfl (neg i hi32 hi.1) (neg j hj32 hj.1) (neg n hn32 hi.2.1) (by rw [zi_nat hi32, zi_nat hn32]; omega) (by rw [zi_nat hj32, zi_nat hn32]; omega) (fun _ _ => rfl) (by omega) (by
    have e : nativeFrameWords "java/lang/System" "arraycopy" 5 + 11 ≤ 40 := by decide +kernel
    show 0 + (nativeFrameWords "java/lang/System" "arraycopy" 5 + 11) ≤ _
    omega) hd fun H1 locs1 hP1 hD1 hS1 => ?_
  refine kk p l e R s m args below meth c D cA ad0 n0 Mn A Z hE hR ad H1 locs1 cells slots ls (zWd_upd (M' := zcpy M r0 i r1 j n) hW hsh1 ?_ (fun a _ ha => ⟨zcpy_row (by omega), zcpy_row (by omega)⟩) (fun x _ hx => zcpy_row (by omega)) ?_ hP1 hD1 hS1) hL (fun v hv => by cases hv)
  · show (Sum.inl (cA .int, n1', Sum.inl _) : va_E) = Sum.inl (cA .int, n1', Sum.inl (fun (k : Nat) => Int32.ofInt (zcpy M r0 i r1 j n r1 k)))
    congr 3
    congr 1
    funext k
    rw [zi_nat hi32, zi_nat hj32, zi_nat hn32]
    show (if j.toNat ≤ k ∧ k < j.toNat + n.toNat then _ else _) = _
    unfold zcpy
    by_cases hk : j ≤ (k : Int) ∧ (k : Int) < j + n
    · rw [if_pos (by omega), if_pos ⟨rfl, hk.1, hk.2⟩]
      show Int32.ofInt (M r0 ((i.toNat + (k - j.toNat) : Nat) : Int)) = _
      rw [show ((i.toNat + (k - j.toNat) : Nat) : Int) = i + ((k : Int) - j) by omega]
    · rw [if_neg (by omega), if_neg (fun q => hk q.2)]
  · intro a sh' ha k hk
    have h9 := hW.2.2.2.2.2.2.2.2
    rw [zcpy_row (c := -10 - (a : Int)) (by omega)]
    by_cases har : a = r1
    · subst har
      rw [hsh1] at ha
      cases ha
      unfold zcpy
      by_cases hk2 : j ≤ (k : Int) ∧ (k : Int) < j + n
      · rw [if_pos ⟨rfl, hk2.1, hk2.2⟩]
        have h8 := h9 r0 (0, n0') hsh0 (i + ((k : Int) - j)).toNat (by show (i + ((k : Int) - j)).toNat < n0'; omega)
        rw [Int.toNat_of_nonneg (by omega)] at h8
        exact h8
      · rw [if_neg (fun q => hk2 q.2)]
        exact h9 a _ hsh1 k hk
    · rw [zcpy_row (by omega)]
      exact h9 a sh' ha k hk
theorem z_copyl (r0 r1 : Nat) {n0' n1' idx : Nat} {ra rb i j n : Int} (hd : decode y.2.1 pc = .ok (.invokestatic idx, 3)) (hlink : Cond.methodLink y.1.cls idx arraycopyName ∈ lw_tbl) (hnat : Cond.native arraycopyName ∈ lw_tbl) (hstat : Cond.static arraycopyName ∈ lw_tbl) (hini : Cond.initialized "java/lang/System" ∈ lw_tbl) (hr0 : ra = (r0 : Int)) (hr1 : rb = (r1 : Int)) (hsh0 : S[r0]? = some (2, n0')) (hsh1 : S[r1]? = some (2, n1')) (hi : 0 ≤ i ∧ 0 ≤ n ∧ i + n ≤ n0') (hj : 0 ≤ j ∧ j + n ≤ n1') (hd1 : 1 ≤ d) (hst : st = [])
    (kk : zW y d Q b S (pc + 3) L st (zcpy M ra i rb j n)) : zW y d Q b S pc L (.inl n :: .inl j :: .inr (.inr rb) :: .inl i :: .inr (.inr ra) :: st) M := by
  intro p l e R s m args below meth c D cA ad0 n0 Mn A Z hE hR ad H locs cells slots ls hW hL hs
  subst hr0
  subst hr1
  subst hst
  have hn32 : z32 n := zc_hd hs
  have hj32 : z32 j := zc_hd (zc_tl hs)
  have hi32 : z32 i := zc_hd (zc_tl (zc_tl (zc_tl hs)))
  have neg : ∀ x : Int, z32 x → 0 ≤ x → ¬ Int32.ofInt x < 0 := fun x hx h0 => by
    rw [show (0 : Int32) = Int32.ofInt 0 from rfl, zi_lt hx (by unfold z32; omega)]
    omega
  rw [List.map_cons, List.map_cons, List.map_cons, List.map_cons, List.map_cons, zcl_ref, zcl_ref, zc_int, zc_int, zc_int]
  have hf := hE.2.2.2.2.2.1
  have hlo := hE.2.2.2.2.2.2.1
  refine va_copyl hE.1 hE.2.1 (by rw [hE.2.2.1]; exact hL.1.1.symm) hE.2.2.2.1 (hE.2.2.2.2.1 _ (zT hlink rfl)) (hE.2.2.2.2.1 _ (zT hnat rfl)) (hE.2.2.2.2.1 _ (zT hstat rfl)) (hE.2.2.2.2.1 _ (zT hini rfl)) hE.2.2.2.2.2.2.2.2.1 hW.2.2.2.1 hW.2.2.2.2.1 hW.2.2.2.2.2.1 r0 r1 2 2 (zWs_at hsh0) (zWs_at hsh1) (show (ztys cA)[2]? = some (cA .long, .long) from rfl) (show (ztys cA)[2]? = some (cA .long, .long) from rfl) rfl (neg i hi32 hi.1) (neg j hj32 hj.1) (neg n hn32 hi.2.1) (by rw [zi_nat hi32, zi_nat hn32]; omega) (by rw [zi_nat hj32, zi_nat hn32]; omega) (fun _ _ => rfl) (by omega) (by
    have e : nativeFrameWords "java/lang/System" "arraycopy" 5 + 11 ≤ 40 := by decide +kernel
    show 0 + (nativeFrameWords "java/lang/System" "arraycopy" 5 + 11) ≤ _
    omega) hd fun H1 locs1 hP1 hD1 hS1 => ?_
  refine kk p l e R s m args below meth c D cA ad0 n0 Mn A Z hE hR ad H1 locs1 cells slots ls (zWd_upd (M' := zcpy M r0 i r1 j n) hW hsh1 ?_ (fun a _ ha => ⟨zcpy_row (by omega), zcpy_row (by omega)⟩) (fun x _ hx => zcpy_row (by omega)) ?_ hP1 hD1 hS1) hL (fun v hv => by cases hv)
  · show (Sum.inl (cA .long, n1', Sum.inr (Sum.inl _)) : va_E) = Sum.inl (cA .long, n1', Sum.inr (Sum.inl (fun (k : Nat) => Int64.ofInt (zcpy M r0 i r1 j n r1 k))))
    congr 4
    congr 1
    funext k
    rw [zi_nat hi32, zi_nat hj32, zi_nat hn32]
    show (if j.toNat ≤ k ∧ k < j.toNat + n.toNat then _ else _) = _
    unfold zcpy
    by_cases hk : j ≤ (k : Int) ∧ (k : Int) < j + n
    · rw [if_pos (by omega), if_pos ⟨rfl, hk.1, hk.2⟩]
      show Int64.ofInt (M r0 ((i.toNat + (k - j.toNat) : Nat) : Int)) = _
      rw [show ((i.toNat + (k - j.toNat) : Nat) : Int) = i + ((k : Int) - j) by omega]
    · rw [if_neg (by omega), if_neg (fun q => hk q.2)]
  · intro a sh' ha k hk
    have h9 := hW.2.2.2.2.2.2.2.2
    rw [zcpy_row (c := -10 - (a : Int)) (by omega)]
    by_cases har : a = r1
    · subst har
      rw [hsh1] at ha
      cases ha
      unfold zcpy
      by_cases hk2 : j ≤ (k : Int) ∧ (k : Int) < j + n
      · rw [if_pos ⟨rfl, hk2.1, hk2.2⟩]
        have h8 := h9 r0 (2, n0') hsh0 (i + ((k : Int) - j)).toNat (by show (i + ((k : Int) - j)).toNat < n0'; omega)
        rw [Int.toNat_of_nonneg (by omega)] at h8
        exact h8
      · rw [if_neg (fun q => hk2 q.2)]
        exact h9 a _ hsh1 k hk
    · rw [zcpy_row (by omega)]
      exact h9 a sh' ha k hk
end
