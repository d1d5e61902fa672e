/-! the rules of zW: constants, locals, numbers, branches, returns -/
def zcat2 (v : zV) : Bool := match v with
  | .inr (.inl _) => true
  | _ => false
def zkeep1 (i : Nat) (q : Nat × zV) : Bool := !(q.1 == i) && !(q.1 + 1 == i && zcat2 q.2)
def zkeep2 (i : Nat) (q : Nat × zV) : Bool := !(q.1 == i) && (!(q.1 == i + 1) && !(q.1 + 1 == i && zcat2 q.2))
def zins (i : Nat) (v : zV) : List (Nat × zV) → List (Nat × zV)
  | [] => [(i, v)]
  | q :: t => if Nat.ble i q.1 then (i, v) :: q :: t else q :: zins i v t
def zput (i : Nat) (v : zV) (L : List (Nat × zV)) : List (Nat × zV) := zins i v (L.filter (zkeep1 i))
def zput2 (i : Nat) (v : zV) (L : List (Nat × zV)) : List (Nat × zV) := zins i v (L.filter (zkeep2 i))
theorem zins_mem {i : Nat} {v : zV} {q : Nat × zV} : ∀ {L : List (Nat × zV)}, q ∈ zins i v L → q = (i, v) ∨ q ∈ L
  | [], h => by simpa [zins] using h
  | a :: t, h => by
    unfold zins at h
    split at h
    · simpa using h
    · rcases List.mem_cons.mp h with h | h
      · exact Or.inr (by simp [h])
      · rcases zins_mem h with h | h
        · exact Or.inl h
        · exact Or.inr (by simp [h])
theorem zcat_of (ad : Int → Nat) (v : zV) : ((zc ad v).category == 2) = zcat2 v := by
  rcases v with x | x | x
  · rfl
  · rfl
  · show ((zrf ad x).category == 2) = false
    unfold zrf
    split <;> rfl
theorem lv_mono {ls : Array Slot} {n : Nat} {l l' : List (Nat × Value)} (h : lv_has ls n l) (hs : ∀ q ∈ l', q ∈ l) : lv_has ls n l' := ⟨h.1, h.2.1, fun q hq => h.2.2 q (hs q hq)⟩
theorem zLs_at {nL n : Nat} {L : List (Nat × zV)} {ad : Int → Nat} {ls : Array Slot} (h : zLs nL n L ad ls) {j i : Nat} {v : zV} (hj : L[j]? = some (i, v)) : ls[i]? = some (.val (zc ad v)) := h.1.2.2 (i, zc ad v) (List.mem_map.mpr ⟨(i, v), List.mem_of_getElem? hj, rfl⟩)
theorem zLs_cat {nL n : Nat} {L : List (Nat × zV)} {ad : Int → Nat} {ls : Array Slot} (h : zLs nL n L ad ls) {j i : Nat} {v : zV} (hj : L[j]? = some (i, v)) : zcV n v := h.2 (i, v) (List.mem_of_getElem? hj)
theorem zLs_put {nL n : Nat} {L : List (Nat × zV)} {ad : Int → Nat} {ls ls' : Array Slot} (h : zLs nL n L ad ls) {i : Nat} {v : zV} (hv : zcV n v) (h' : lv_has ls' nL ((i, zc ad v) :: (L.map (fun q => (q.1, zc ad q.2))).filter (fun q => !(q.1 == i) && !(q.1 + 1 == i && q.2.category == 2)))) : zLs nL n (zput i v L) ad ls' := by
  refine ⟨lv_mono h' fun q hq => ?_, fun q hq => ?_⟩
  · obtain ⟨q0, h0, rfl⟩ := List.mem_map.mp hq
    rcases zins_mem h0 with h0 | h0
    · subst h0; exact List.mem_cons_self
    · obtain ⟨h1, h2⟩ := List.mem_filter.mp h0
      refine List.mem_cons_of_mem _ (List.mem_filter.mpr ⟨List.mem_map.mpr ⟨q0, h1, rfl⟩, ?_⟩)
      show (!(q0.1 == i) && !(q0.1 + 1 == i && (zc ad q0.2).category == 2)) = true
      rw [zcat_of]; exact h2
  · rcases zins_mem hq with h0 | h0
    · subst h0; exact hv
    · exact h.2 q (List.mem_filter.mp h0).1
theorem zLs_put2 {nL n : Nat} {L : List (Nat × zV)} {ad : Int → Nat} {ls ls' : Array Slot} (h : zLs nL n L ad ls) {i : Nat} {v : zV} (hv : zcV n v) (h' : lv_has ls' nL ((i, zc ad v) :: (L.map (fun q => (q.1, zc ad q.2))).filter (fun q => !(q.1 == i) && (!(q.1 == i + 1) && !(q.1 + 1 == i && q.2.category == 2))))) : zLs nL n (zput2 i v L) ad ls' := by
  refine ⟨lv_mono h' fun q hq => ?_, fun q hq => ?_⟩
  · obtain ⟨q0, h0, rfl⟩ := List.mem_map.mp hq
    rcases zins_mem h0 with h0 | h0
    · subst h0; exact List.mem_cons_self
    · obtain ⟨h1, h2⟩ := List.mem_filter.mp h0
      refine List.mem_cons_of_mem _ (List.mem_filter.mpr ⟨List.mem_map.mpr ⟨q0, h1, rfl⟩, ?_⟩)
      show (!(q0.1 == i) && (!(q0.1 == i + 1) && !(q0.1 + 1 == i && (zc ad q0.2).category == 2))) = true
      rw [zcat_of]; exact h2
  · rcases zins_mem hq with h0 | h0
    · subst h0; exact hv
    · exact h.2 q (List.mem_filter.mp h0).1
section
variable {y : zM} {d : Nat} {Q : zPost} {b : Nat × Nat} {S : List zSh} {pc : Nat} {L : List (Nat × zV)} {st : List zV} {M : zMm}
theorem zStep {pc' : Nat} {st0 st' : List zV} (h : ∀ (p : Program) (l : Launch) (e : Env) (R : Room) (s : State) (m : MethodId) (args : Array Value) (below : List Frame) (meth : Method) (c : Code) (Z : State → Prop) (ad : Int → Nat) (H : Heap) (locs : List Loc) (cells slots : Nat) (ls : Array Slot), p.tables.exec = Jvm.exec → c.code = y.2.1 → (s.vm.findClass y.1.cls = some m.cls ∧ ∀ w ∈ zTb, w.before args s = true) → zLs y.2.2.1 S.length L ad ls → (∀ v ∈ st0, zcV S.length v) → W p l e R s m args below meth c H locs cells slots Z (F0 m pc' ls (st'.map (zc ad))) → W p l e R s m args below meth c H locs cells slots Z (F0 m pc ls (st0.map (zc ad))))
    (hc : (∀ q ∈ L, zcV S.length q.2) → (∀ v ∈ st0, zcV S.length v) → ∀ v ∈ st', zcV S.length v) (k : zW y d Q b S pc' L st' M) : zW y d Q b S pc L st0 M :=
  fun p l e R s m args below meth c D cA ad0 n0 Mn A Z hE hR ad H locs cells slots ls hW hL hs =>
    h p l e R s m args below meth c Z ad H locs cells slots ls hE.1 hE.2.1 ⟨hE.2.2.2.1, hE.2.2.2.2.1⟩ hL hs (k p l e R s m args below meth c D cA ad0 n0 Mn A Z hE hR ad H locs cells slots ls hW hL (hc hL.2 hs))
theorem zStoreG {pc' : Nat} {L' : List (Nat × zV)} {st0 st' : List zV} (h : ∀ (p : Program) (l : Launch) (e : Env) (R : Room) (s : State) (m : MethodId) (args : Array Value) (below : List Frame) (meth : Method) (c : Code) (Z : State → Prop) (ad : Int → Nat) (H : Heap) (locs : List Loc) (cells slots : Nat) (ls : Array Slot), p.tables.exec = Jvm.exec → c.code = y.2.1 → zLs y.2.2.1 S.length L ad ls → (∀ v ∈ st0, zcV S.length v) → (∀ ls', zLs y.2.2.1 S.length L' ad ls' → W p l e R s m args below meth c H locs cells slots Z (F0 m pc' ls' (st'.map (zc ad)))) → W p l e R s m args below meth c H locs cells slots Z (F0 m pc ls (st0.map (zc ad))))
    (hc : (∀ v ∈ st0, zcV S.length v) → ∀ v ∈ st', zcV S.length v) (k : zW y d Q b S pc' L' st' M) : zW y d Q b S pc L st0 M :=
  fun p l e R s m args below meth c D cA ad0 n0 Mn A Z hE hR ad H locs cells slots ls hW hL hs =>
    h p l e R s m args below meth c Z ad H locs cells slots ls hE.1 hE.2.1 hL hs (fun ls' hL' => k p l e R s m args below meth c D cA ad0 n0 Mn A Z hE hR ad H locs cells slots ls' hW hL' (hc hs))
/-- what the walk knows of its numbers -/
theorem z_can (k : zcM S M → (∀ q ∈ L, zcV S.length q.2) → (∀ v ∈ st, zcV S.length v) → zW y d Q b S pc L st M) : zW y d Q b S pc L st M :=
  fun p l e R s m args below meth c D cA ad0 n0 Mn A Z hE hR ad H locs cells slots ls hW hL hs => k hW.2.2.2.2.2.2.2.2 hL.2 hs p l e R s m args below meth c D cA ad0 n0 Mn A Z hE hR ad H locs cells slots ls hW hL hs
theorem z_cM (k : zcM S M → zW y d Q b S pc L st M) : zW y d Q b S pc L st M := z_can fun h _ _ => k h
/-- fewer locals -/
theorem z_weak {L' : List (Nat × zV)} (h : ∀ q ∈ L', q ∈ L) (k : zW y d Q b S pc L' st M) : zW y d Q b S pc L st M :=
  fun p l e R s m args below meth c D cA ad0 n0 Mn A Z hE hR ad H locs cells slots ls hW hL hs => k p l e R s m args below meth c D cA ad0 n0 Mn A Z hE hR ad H locs cells slots ls hW ⟨lv_mono hL.1 fun q hq => by
    obtain ⟨q0, h0, rfl⟩ := List.mem_map.mp hq
    exact List.mem_map.mpr ⟨q0, h q0 h0, rfl⟩, fun q hq => hL.2 q (h q hq)⟩ hs
theorem z_mono {Q' : zPost} (h : ∀ rv S' M', Q' rv S' M' → Q rv S' M') (k : zW y d Q' b S pc L st M) : zW y d Q b S pc L st M :=
  fun p l e R s m args below meth c D cA ad0 n0 Mn A Z hE hR => k p l e R s m args below meth c D cA ad0 n0 Mn A Z hE (fun rv S' M' ad H locs cells slots pc ls hw hv hq => hR rv S' M' ad H locs cells slots pc ls hw hv (h _ _ _ hq))
theorem z_deep {d' : Nat} (hd : d' ≤ d) (k : zW y d' Q b S pc L st M) : zW y d Q b S pc L st M :=
  fun p l e R s m args below meth c D cA ad0 n0 Mn A Z hE hR => k p l e R s m args below meth c D cA ad0 n0 Mn A Z ⟨hE.1, hE.2.1, hE.2.2.1, hE.2.2.2.1, hE.2.2.2.2.1, Nat.le_trans hd hE.2.2.2.2.2.1, Nat.le_trans (Nat.mul_le_mul_left 40 hd) hE.2.2.2.2.2.2.1, hE.2.2.2.2.2.2.2⟩ hR
theorem zc_hd {n : Nat} {v : zV} {l : List zV} (h : ∀ w ∈ v :: l, zcV n w) : zcV n v := h v List.mem_cons_self
theorem zc_tl {n : Nat} {v : zV} {l : List zV} (h : ∀ w ∈ v :: l, zcV n w) : ∀ w ∈ l, zcV n w := fun w hw => h w (List.mem_cons_of_mem _ hw)
theorem zc_cons {n : Nat} {v : zV} {l : List zV} (hv : zcV n v) (h : ∀ w ∈ l, zcV n w) : ∀ w ∈ v :: l, zcV n w := List.forall_mem_cons.mpr ⟨hv, h⟩

theorem z_iconst (n : Int) (hd : decode y.2.1 pc = .ok (.iconst n, 1)) (hn : -128 ≤ n ∧ n < 128) (kk : zW y d Q b S (pc + 1) L (.inl n :: st) M) : zW y d Q b S pc L st M :=
  zStep (st0 := st) (st' := (.inl n :: st)) (fun p l e R s m args below meth c Z ad H locs cells slots ls hx hb ho hL hs k => lv_iconst hx hb hd rfl k) (fun hQ hs => zc_cons (show z32 n by unfold z32; omega) hs) kk
theorem zi8 {n : Int} (h : -128 ≤ n ∧ n < 128) : (Int8.ofInt n).toInt32 = Int32.ofInt n := by
  apply Int32.toInt_inj.mp
  rw [Int8.toInt_toInt32, Int8.toInt_ofInt_of_le (by omega) (by omega), zi_to (by unfold z32; omega)]
theorem zi16 {n : Int} (h : -32768 ≤ n ∧ n < 32768) : (Int16.ofInt n).toInt32 = Int32.ofInt n := by
  apply Int32.toInt_inj.mp
  rw [Int16.toInt_toInt32, Int16.toInt_ofInt_of_le (by omega) (by omega), zi_to (by unfold z32; omega)]
theorem z_bipush (n : Int) (hd : decode y.2.1 pc = .ok (.bipush n, 2)) (hn : -128 ≤ n ∧ n < 128) (kk : zW y d Q b S (pc + 2) L (.inl n :: st) M) : zW y d Q b S pc L st M :=
  zStep (st0 := st) (st' := (.inl n :: st)) (fun p l e R s m args below meth c Z ad H locs cells slots ls hx hb ho hL hs k => lv_bipush hx hb hd (zi8 hn) k) (fun hQ hs => zc_cons (show z32 n by unfold z32; omega) hs) kk
theorem z_sipush (n : Int) (hd : decode y.2.1 pc = .ok (.sipush n, 3)) (hn : -32768 ≤ n ∧ n < 32768) (kk : zW y d Q b S (pc + 3) L (.inl n :: st) M) : zW y d Q b S pc L st M :=
  zStep (st0 := st) (st' := (.inl n :: st)) (fun p l e R s m args below meth c Z ad H locs cells slots ls hx hb ho hL hs k => lv_sipush hx hb hd (zi16 hn) k) (fun hQ hs => zc_cons (show z32 n by unfold z32; omega) hs) kk
theorem z_lconst {n : Fin 2} (v : Int) (hd : decode y.2.1 pc = .ok (.lconst n, 1)) (hn : v = ((n : Nat) : Int)) (kk : zW y d Q b S (pc + 1) L (.inr (.inl v) :: st) M) : zW y d Q b S pc L st M :=
  zStep (st0 := st) (st' := (.inr (.inl v) :: st)) (fun p l e R s m args below meth c Z ad H locs cells slots ls hx hb ho hL hs k => lv_lconst hx hb hd (by rw [hn]; exact Int64.ofInt_eq_ofNat.symm) k) (fun hQ hs => zc_cons (show z64 v by have := n.isLt; unfold z64; omega) hs) kk
theorem z_ldc {idx : Nat} {w : Int32} (n : Int) (hd : decode y.2.1 pc = .ok (.ldc idx, 2)) (hw : Cond.constant y.1.cls idx w ∈ lw_tbl) (hn : Int32.ofInt n = w) (h32 : z32 n) (kk : zW y d Q b S (pc + 2) L (.inl n :: st) M) : zW y d Q b S pc L st M :=
  zStep (st0 := st) (st' := (.inl n :: st)) (fun p l e R s m args below meth c Z ad H locs cells slots ls hx hb ho hL hs k => lv_ldc hx hb ho.1 (ho.2 _ (zT hw rfl)) hd (by subst hn; exact k)) (fun hQ hs => zc_cons h32 hs) kk
theorem z_ldcw {idx : Nat} {w : Int32} (n : Int) (hd : decode y.2.1 pc = .ok (.ldc_w idx, 3)) (hw : Cond.constant y.1.cls idx w ∈ lw_tbl) (hn : Int32.ofInt n = w) (h32 : z32 n) (kk : zW y d Q b S (pc + 3) L (.inl n :: st) M) : zW y d Q b S pc L st M :=
  zStep (st0 := st) (st' := (.inl n :: st)) (fun p l e R s m args below meth c Z ad H locs cells slots ls hx hb ho hL hs k => lv_ldcw hx hb ho.1 (ho.2 _ (zT hw rfl)) hd (by subst hn; exact k)) (fun hQ hs => zc_cons h32 hs) kk
theorem z_ldc2 {idx : Nat} {w : Int64} (n : Int) (hd : decode y.2.1 pc = .ok (.ldc2_w idx, 3)) (hw : Cond.constantLong y.1.cls idx w ∈ lw_tbl) (hn : Int64.ofInt n = w) (h64 : z64 n) (kk : zW y d Q b S (pc + 3) L (.inr (.inl n) :: st) M) : zW y d Q b S pc L st M :=
  zStep (st0 := st) (st' := (.inr (.inl n) :: st)) (fun p l e R s m args below meth c Z ad H locs cells slots ls hx hb ho hL hs k => lv_ldc2 hx hb ho.1 (ho.2 _ (zT hw rfl)) hd (by subst hn; exact k)) (fun hQ hs => zc_cons h64 hs) kk
theorem z_iload_n (j : Nat) {kf : Fin 4} {i : Nat} {x : Int} (hd : decode y.2.1 pc = .ok (.iload_n kf, 1)) (hi : (kf : Nat) = i) (hl : L[j]? = some (i, (.inl x))) (kk : zW y d Q b S (pc + 1) L ((.inl x) :: st) M) : zW y d Q b S pc L st M :=
  zStep (st0 := st) (st' := ((.inl x) :: st)) (fun p l e R s m args below meth c Z ad H locs cells slots ls hx hb ho hL hs k => lv_iload_n hx hb hd hi (zLs_at hL hl) k) (fun hQ hs => zc_cons (hQ _ (List.mem_of_getElem? hl)) hs) kk
theorem z_iload (j : Nat) {i : Nat} {x : Int} (hd : decode y.2.1 pc = .ok (.iload i, 2)) (hl : L[j]? = some (i, (.inl x))) (kk : zW y d Q b S (pc + 2) L ((.inl x) :: st) M) : zW y d Q b S pc L st M :=
  zStep (st0 := st) (st' := ((.inl x) :: st)) (fun p l e R s m args below meth c Z ad H locs cells slots ls hx hb ho hL hs k => lv_iload hx hb hd (zLs_at hL hl) k) (fun hQ hs => zc_cons (hQ _ (List.mem_of_getElem? hl)) hs) kk
theorem z_lload_n (j : Nat) {kf : Fin 4} {i : Nat} {x : Int} (hd : decode y.2.1 pc = .ok (.lload_n kf, 1)) (hi : (kf : Nat) = i) (hl : L[j]? = some (i, (.inr (.inl x)))) (kk : zW y d Q b S (pc + 1) L ((.inr (.inl x)) :: st) M) : zW y d Q b S pc L st M :=
  zStep (st0 := st) (st' := ((.inr (.inl x)) :: st)) (fun p l e R s m args below meth c Z ad H locs cells slots ls hx hb ho hL hs k => lv_lload_n hx hb hd hi (zLs_at hL hl) k) (fun hQ hs => zc_cons (hQ _ (List.mem_of_getElem? hl)) hs) kk
theorem z_lload (j : Nat) {i : Nat} {x : Int} (hd : decode y.2.1 pc = .ok (.lload i, 2)) (hl : L[j]? = some (i, (.inr (.inl x)))) (kk : zW y d Q b S (pc + 2) L ((.inr (.inl x)) :: st) M) : zW y d Q b S pc L st M :=
  zStep (st0 := st) (st' := ((.inr (.inl x)) :: st)) (fun p l e R s m args below meth c Z ad H locs cells slots ls hx hb ho hL hs k => lv_lload hx hb hd (zLs_at hL hl) k) (fun hQ hs => zc_cons (hQ _ (List.mem_of_getElem? hl)) hs) kk
theorem zrf_ne {ad : Int → Nat} {r : Int} (h : r ≠ -1) : zrf ad r = .ref (ad r) := by unfold zrf; rw [if_neg h]
theorem z_aload_n (j : Nat) {kf : Fin 4} {i : Nat} {x : Int} (hd : decode y.2.1 pc = .ok (.aload_n kf, 1)) (hi : (kf : Nat) = i) (hl : L[j]? = some (i, .inr (.inr x))) (hx1 : x ≠ -1) (kk : zW y d Q b S (pc + 1) L (.inr (.inr x) :: st) M) : zW y d Q b S pc L st M :=
  zStep (st0 := st) (st' := (.inr (.inr x) :: st)) (fun p l e R s m args below meth c Z ad H locs cells slots ls hx hb ho hL hs k => lv_aload_n (x := ad x) hx hb hd hi (by rw [zLs_at hL hl]; show some (Slot.val (zrf ad x)) = _; rw [zrf_ne hx1]) (by rw [List.map_cons] at k; rw [show zc ad (.inr (.inr x)) = .ref (ad x) from zrf_ne hx1] at k; exact k)) (fun hQ hs => zc_cons (hQ _ (List.mem_of_getElem? hl)) hs) kk
theorem z_aload (j : Nat) {i : Nat} {x : Int} (hd : decode y.2.1 pc = .ok (.aload i, 2)) (hl : L[j]? = some (i, .inr (.inr x))) (hx1 : x ≠ -1) (kk : zW y d Q b S (pc + 2) L (.inr (.inr x) :: st) M) : zW y d Q b S pc L st M :=
  zStep (st0 := st) (st' := (.inr (.inr x) :: st)) (fun p l e R s m args below meth c Z ad H locs cells slots ls hx hb ho hL hs k => lv_aload (x := ad x) hx hb hd (by rw [zLs_at hL hl]; show some (Slot.val (zrf ad x)) = _; rw [zrf_ne hx1]) (by rw [List.map_cons] at k; rw [show zc ad (.inr (.inr x)) = .ref (ad x) from zrf_ne hx1] at k; exact k)) (fun hQ hs => zc_cons (hQ _ (List.mem_of_getElem? hl)) hs) kk
theorem z_istore_n {L' : List (Nat × zV)} {kf : Fin 4} {i : Nat} {x : Int} (hd : decode y.2.1 pc = .ok (.istore_n kf, 1)) (hi : (kf : Nat) = i) (hL' : zput i (.inl x) L = L') (hn : i < y.2.2.1) (kk : zW y d Q b S (pc + 1) L' st M) : zW y d Q b S pc L ((.inl x) :: st) M :=
  zStoreG (st0 := ((.inl x) :: st)) (st' := st) (fun p l e R s m args below meth c Z ad H locs cells slots ls hx hb hL hs k => lv_istore_n hx hb hd hi hL.1 hn rfl (fun ls' h' => k ls' (by rw [← hL']; exact zLs_put hL (zc_hd hs) h'))) zc_tl kk
theorem z_istore {L' : List (Nat × zV)} {i : Nat} {x : Int} (hd : decode y.2.1 pc = .ok (.istore i, 2)) (hL' : zput i (.inl x) L = L') (hn : i < y.2.2.1) (kk : zW y d Q b S (pc + 2) L' st M) : zW y d Q b S pc L ((.inl x) :: st) M :=
  zStoreG (st0 := ((.inl x) :: st)) (st' := st) (fun p l e R s m args below meth c Z ad H locs cells slots ls hx hb hL hs k => lv_istore hx hb hd hL.1 hn rfl (fun ls' h' => k ls' (by rw [← hL']; exact zLs_put hL (zc_hd hs) h'))) zc_tl kk
theorem z_lstore_n {L' : List (Nat × zV)} {kf : Fin 4} {i : Nat} {x : Int} (hd : decode y.2.1 pc = .ok (.lstore_n kf, 1)) (hi : (kf : Nat) = i) (hL' : zput2 i (.inr (.inl x)) L = L') (hn : i + 1 < y.2.2.1) (kk : zW y d Q b S (pc + 1) L' st M) : zW y d Q b S pc L (.inr (.inl x) :: st) M :=
  zStoreG (fun p l e R s m args below meth c Z ad H locs cells slots ls hx hb hL hs k => lv_lstore_n hx hb hd hi hL.1 hn rfl (fun ls' h' => k ls' (by rw [← hL']; exact zLs_put2 hL (zc_hd hs) h'))) zc_tl kk
theorem z_lstore {L' : List (Nat × zV)} {i : Nat} {x : Int} (hd : decode y.2.1 pc = .ok (.lstore i, 2)) (hL' : zput2 i (.inr (.inl x)) L = L') (hn : i + 1 < y.2.2.1) (kk : zW y d Q b S (pc + 2) L' st M) : zW y d Q b S pc L (.inr (.inl x) :: st) M :=
  zStoreG (fun p l e R s m args below meth c Z ad H locs cells slots ls hx hb hL hs k => lv_lstore hx hb hd hL.1 hn rfl (fun ls' h' => k ls' (by rw [← hL']; exact zLs_put2 hL (zc_hd hs) h'))) zc_tl kk
theorem z_astore_n {L' : List (Nat × zV)} {kf : Fin 4} {i : Nat} {x : Int} (hd : decode y.2.1 pc = .ok (.astore_n kf, 1)) (hi : (kf : Nat) = i) (hx1 : x ≠ -1) (hL' : zput i (.inr (.inr x)) L = L') (hn : i < y.2.2.1) (kk : zW y d Q b S (pc + 1) L' st M) : zW y d Q b S pc L (.inr (.inr x) :: st) M :=
  zStoreG (fun p l e R s m args below meth c Z ad H locs cells slots ls hx hb hL hs k => by
    rw [List.map_cons, show zc ad (.inr (.inr x)) = .ref (ad x) from zrf_ne hx1]
    exact lv_astore_n hx hb hd hi hL.1 hn rfl (fun ls' h' => k ls' (by rw [← hL']; exact zLs_put hL (zc_hd hs) (by rw [show zc ad (.inr (.inr x)) = .ref (ad x) from zrf_ne hx1]; exact h')))) zc_tl kk
theorem z_iinc {L' : List (Nat × zV)} (j : Nat) {i : Nat} {n x : Int} (hd : decode y.2.1 pc = .ok (.iinc i n, 3)) (hl : L[j]? = some (i, .inl x)) (hr : z32 (x + n)) (hL' : zput i (.inl (x + n)) L = L') (hn : i < y.2.2.1) (kk : zW y d Q b S (pc + 3) L' st M) : zW y d Q b S pc L st M :=
  zStoreG (fun p l e R s m args below meth c Z ad H locs cells slots ls hx hb hL hs k => lv_iinc (v := Int32.ofInt (x + n)) (k := j) hx hb hd hL.1 (by rw [List.getElem?_map, hl]; rfl) (Int32.ofInt_add x n).symm hn rfl (fun ls' h' => k ls' (by rw [← hL']; exact zLs_put hL (v := .inl (x + n)) hr h'))) (fun h => h) kk
theorem z_iaddw {x x' : Int} (hd : decode y.2.1 pc = .ok (.iadd, 1)) (kk : zW y d Q b S (pc + 1) L (.inl (zw (x + x')) :: st) M) : zW y d Q b S pc L (.inl x' :: .inl x :: st) M :=
  zStep (st0 := (.inl x' :: .inl x :: st)) (st' := (.inl (zw (x + x')) :: st)) (fun p l e R s m args below meth c Z ad H locs cells slots ls hx hb ho hL hs k => lv_iadd hx hb hd (by rw [List.map_cons] at k; rw [show zc ad (.inl (zw (x + x'))) = .int (Int32.ofInt x + Int32.ofInt x') from congrArg Value.int ((zi_ofw _).trans (Int32.ofInt_add _ _))] at k; exact k)) (fun hQ hs => zc_cons (zw_32 _) (zc_tl (zc_tl hs))) kk
theorem z_iadd {x x' : Int} (hd : decode y.2.1 pc = .ok (.iadd, 1)) (hr : z32 (x + x')) (kk : zW y d Q b S (pc + 1) L (.inl (x + x') :: st) M) : zW y d Q b S pc L (.inl x' :: .inl x :: st) M := z_iaddw hd (by rw [zw_id hr]; exact kk)
theorem z_isubw {x x' : Int} (hd : decode y.2.1 pc = .ok (.isub, 1)) (kk : zW y d Q b S (pc + 1) L (.inl (zw (x - x')) :: st) M) : zW y d Q b S pc L (.inl x' :: .inl x :: st) M :=
  zStep (st0 := (.inl x' :: .inl x :: st)) (st' := (.inl (zw (x - x')) :: st)) (fun p l e R s m args below meth c Z ad H locs cells slots ls hx hb ho hL hs k => lv_isub hx hb hd (by rw [List.map_cons] at k; rw [show zc ad (.inl (zw (x - x'))) = .int (Int32.ofInt x - Int32.ofInt x') from congrArg Value.int ((zi_ofw _).trans (Int32.ofInt_sub _ _))] at k; exact k)) (fun hQ hs => zc_cons (zw_32 _) (zc_tl (zc_tl hs))) kk
theorem z_isub {x x' : Int} (hd : decode y.2.1 pc = .ok (.isub, 1)) (hr : z32 (x - x')) (kk : zW y d Q b S (pc + 1) L (.inl (x - x') :: st) M) : zW y d Q b S pc L (.inl x' :: .inl x :: st) M := z_isubw hd (by rw [zw_id hr]; exact kk)
theorem z_imulw {x x' : Int} (hd : decode y.2.1 pc = .ok (.imul, 1)) (kk : zW y d Q b S (pc + 1) L (.inl (zw (x * x')) :: st) M) : zW y d Q b S pc L (.inl x' :: .inl x :: st) M :=
  zStep (st0 := (.inl x' :: .inl x :: st)) (st' := (.inl (zw (x * x')) :: st)) (fun p l e R s m args below meth c Z ad H locs cells slots ls hx hb ho hL hs k => lv_imul hx hb hd (by rw [List.map_cons] at k; rw [show zc ad (.inl (zw (x * x'))) = .int (Int32.ofInt x * Int32.ofInt x') from congrArg Value.int ((zi_ofw _).trans (Int32.ofInt_mul _ _))] at k; exact k)) (fun hQ hs => zc_cons (zw_32 _) (zc_tl (zc_tl hs))) kk
theorem z_imul {x x' : Int} (hd : decode y.2.1 pc = .ok (.imul, 1)) (hr : z32 (x * x')) (kk : zW y d Q b S (pc + 1) L (.inl (x * x') :: st) M) : zW y d Q b S pc L (.inl x' :: .inl x :: st) M := z_imulw hd (by rw [zw_id hr]; exact kk)
theorem z_inegw {x : Int} (hd : decode y.2.1 pc = .ok (.ineg, 1)) (kk : zW y d Q b S (pc + 1) L (.inl (zw (-x)) :: st) M) : zW y d Q b S pc L (.inl x :: st) M :=
  zStep (st0 := (.inl x :: st)) (st' := (.inl (zw (-x)) :: st)) (fun p l e R s m args below meth c Z ad H locs cells slots ls hx hb ho hL hs k => lv_ineg hx hb hd (by rw [List.map_cons] at k; rw [show zc ad (.inl (zw (-x))) = .int (-Int32.ofInt x) from congrArg Value.int ((zi_ofw _).trans (Int32.ofInt_neg _))] at k; exact k)) (fun hQ hs => zc_cons (zw_32 _) (zc_tl hs)) kk
theorem z_ineg {x : Int} (hd : decode y.2.1 pc = .ok (.ineg, 1)) (hr : z32 (-x)) (kk : zW y d Q b S (pc + 1) L (.inl (-x) :: st) M) : zW y d Q b S pc L (.inl x :: st) M := z_inegw hd (by rw [zw_id hr]; exact kk)
theorem zi_div {x x' : Int} (h : z32 x) (h' : z32 x') : Int32.ofInt (zw (x.tdiv x')) = Int32.ofInt x / Int32.ofInt x' := by
  rw [zi_ofw]
  apply Int32.toInt_inj.mp
  rw [Int32.toInt_div, zi_to h, zi_to h', Int32.toInt_ofInt]
theorem zi_mod {x x' : Int} (h : z32 x) (h' : z32 x') : Int32.ofInt (zw (x.tmod x')) = Int32.ofInt x % Int32.ofInt x' := by
  rw [zi_ofw]
  apply Int32.toInt_inj.mp
  rw [Int32.toInt_mod, zi_to h, zi_to h', ← zi_to h, ← zi_to h', ← Int32.toInt_mod, Int32.ofInt_toInt]
theorem zi_ne0 {x : Int} (h : z32 x) (hn : x ≠ 0) : ¬ Int32.ofInt x = 0 := fun e => hn ((zi_inj h (by unfold z32; omega)).mp e)
theorem z_idivw {x x' : Int} (hd : decode y.2.1 pc = .ok (.idiv, 1)) (hn : x' ≠ 0) (kk : zW y d Q b S (pc + 1) L (.inl (zw (x.tdiv x')) :: st) M) : zW y d Q b S pc L (.inl x' :: .inl x :: st) M :=
  zStep (st0 := (.inl x' :: .inl x :: st)) (st' := (.inl (zw (x.tdiv x')) :: st)) (fun p l e R s m args below meth c Z ad H locs cells slots ls hx hb ho hL hs k => lv_idiv hx hb hd (zi_ne0 (zc_hd hs) hn) (by rw [List.map_cons] at k; rw [show zc ad (.inl (zw (x.tdiv x'))) = .int (Int32.ofInt x / Int32.ofInt x') from congrArg Value.int (zi_div (zc_hd (zc_tl hs)) (zc_hd hs))] at k; exact k)) (fun hQ hs => zc_cons (zw_32 _) (zc_tl (zc_tl hs))) kk
theorem z_iremw {x x' : Int} (hd : decode y.2.1 pc = .ok (.irem, 1)) (hn : x' ≠ 0) (kk : zW y d Q b S (pc + 1) L (.inl (zw (x.tmod x')) :: st) M) : zW y d Q b S pc L (.inl x' :: .inl x :: st) M :=
  zStep (st0 := (.inl x' :: .inl x :: st)) (st' := (.inl (zw (x.tmod x')) :: st)) (fun p l e R s m args below meth c Z ad H locs cells slots ls hx hb ho hL hs k => lv_irem hx hb hd (zi_ne0 (zc_hd hs) hn) (by rw [List.map_cons] at k; rw [show zc ad (.inl (zw (x.tmod x'))) = .int (Int32.ofInt x - Int32.ofInt x / Int32.ofInt x' * Int32.ofInt x') from congrArg Value.int ((zi_mod (zc_hd (zc_tl hs)) (zc_hd hs)).trans (irem_eq_mod _ _).symm)] at k; exact k)) (fun hQ hs => zc_cons (zw_32 _) (zc_tl (zc_tl hs))) kk
def zand (x x' : Int) : Int := (Int32.ofInt x &&& Int32.ofInt x').toInt
def zor (x x' : Int) : Int := (Int32.ofInt x ||| Int32.ofInt x').toInt
def zxor (x x' : Int) : Int := (Int32.ofInt x ^^^ Int32.ofInt x').toInt
def zshl (x x' : Int) : Int := (Int32.ofInt x <<< (Int32.ofInt x' &&& 31)).toInt
def zshr (x x' : Int) : Int := (Int32.ofInt x >>> (Int32.ofInt x' &&& 31)).toInt
def zushr (x x' : Int) : Int := ((Int32.ofInt x).toUInt32 >>> ((Int32.ofInt x').toUInt32 &&& Int32.toUInt32 31)).toInt32.toInt
def zi2b (x : Int) : Int := (Int32.ofInt x).toInt8.toInt32.toInt
def zi2s (x : Int) : Int := (Int32.ofInt x).toInt16.toInt32.toInt
def zlw (x : Int) : Int := (x + 9223372036854775808) % 18446744073709551616 - 9223372036854775808
def zland (x x' : Int) : Int := (Int64.ofInt x &&& Int64.ofInt x').toInt
def zlor (x x' : Int) : Int := (Int64.ofInt x ||| Int64.ofInt x').toInt
def zlshl (x x' : Int) : Int := (Int64.ofInt x <<< ((Int32.ofInt x').toInt64 &&& 63)).toInt
def zlshr (x x' : Int) : Int := (Int64.ofInt x >>> ((Int32.ofInt x').toInt64 &&& 63)).toInt
def zlushr (x x' : Int) : Int := ((Int64.ofInt x).toUInt64 >>> ((Int32.ofInt x').toInt64.toUInt64 &&& Int64.toUInt64 63)).toInt64.toInt
def zcmp (x x' : Int) : Int := if x > x' then 1 else if x = x' then 0 else -1
theorem zi_of (v : Int32) : Value.int (Int32.ofInt v.toInt) = .int v := congrArg Value.int (Int32.ofInt_toInt v)
theorem zl_of (v : Int64) : Value.long (Int64.ofInt v.toInt) = .long v := congrArg Value.long (Int64.ofInt_toInt v)
theorem zlw_id {x : Int} (h : z64 x) : zlw x = x := by unfold z64 at h; unfold zlw; omega
theorem zlw_64 (x : Int) : z64 (zlw x) := by unfold z64 zlw; omega
theorem zl_w (x : Int) : (Int64.ofInt x).toInt = zlw x := by
  rw [Int64.toInt_ofInt]
  have h := Int.bmod_def x Int64.size
  rw [h]
  show _ = (x + 9223372036854775808) % 18446744073709551616 - 9223372036854775808
  have e : ((Int64.size : Nat) : Int) = 18446744073709551616 := by decide
  rw [e]
  split <;> omega
theorem zl_ofw (x : Int) : Int64.ofInt (zlw x) = Int64.ofInt x := by rw [← zl_w, Int64.ofInt_toInt]
theorem z_iand {x x' : Int} (hd : decode y.2.1 pc = .ok (.iand, 1)) (kk : zW y d Q b S (pc + 1) L (.inl (zand x x') :: st) M) : zW y d Q b S pc L (.inl x' :: .inl x :: st) M :=
  zStep (st0 := (.inl x' :: .inl x :: st)) (st' := (.inl (zand x x') :: st)) (fun p l e R s m args below meth c Z ad H locs cells slots ls hx hb ho hL hs k => lv_iand hx hb hd (by rw [List.map_cons] at k; rw [show zc ad (.inl (zand x x')) = _ from zi_of _] at k; exact k)) (fun hQ hs => zc_cons (z32_of _) (zc_tl (zc_tl hs))) kk
theorem z_ior {x x' : Int} (hd : decode y.2.1 pc = .ok (.ior, 1)) (kk : zW y d Q b S (pc + 1) L (.inl (zor x x') :: st) M) : zW y d Q b S pc L (.inl x' :: .inl x :: st) M :=
  zStep (st0 := (.inl x' :: .inl x :: st)) (st' := (.inl (zor x x') :: st)) (fun p l e R s m args below meth c Z ad H locs cells slots ls hx hb ho hL hs k => lv_ior hx hb hd (by rw [List.map_cons] at k; rw [show zc ad (.inl (zor x x')) = _ from zi_of _] at k; exact k)) (fun hQ hs => zc_cons (z32_of _) (zc_tl (zc_tl hs))) kk
theorem z_ixor {x x' : Int} (hd : decode y.2.1 pc = .ok (.ixor, 1)) (kk : zW y d Q b S (pc + 1) L (.inl (zxor x x') :: st) M) : zW y d Q b S pc L (.inl x' :: .inl x :: st) M :=
  zStep (st0 := (.inl x' :: .inl x :: st)) (st' := (.inl (zxor x x') :: st)) (fun p l e R s m args below meth c Z ad H locs cells slots ls hx hb ho hL hs k => lv_ixor hx hb hd (by rw [List.map_cons] at k; rw [show zc ad (.inl (zxor x x')) = _ from zi_of _] at k; exact k)) (fun hQ hs => zc_cons (z32_of _) (zc_tl (zc_tl hs))) kk
theorem z_ishl {x x' : Int} (hd : decode y.2.1 pc = .ok (.ishl, 1)) (kk : zW y d Q b S (pc + 1) L (.inl (zshl x x') :: st) M) : zW y d Q b S pc L (.inl x' :: .inl x :: st) M :=
  zStep (st0 := (.inl x' :: .inl x :: st)) (st' := (.inl (zshl x x') :: st)) (fun p l e R s m args below meth c Z ad H locs cells slots ls hx hb ho hL hs k => lv_ishl hx hb hd (by rw [List.map_cons] at k; rw [show zc ad (.inl (zshl x x')) = _ from zi_of _] at k; exact k)) (fun hQ hs => zc_cons (z32_of _) (zc_tl (zc_tl hs))) kk
theorem z_ishr {x x' : Int} (hd : decode y.2.1 pc = .ok (.ishr, 1)) (kk : zW y d Q b S (pc + 1) L (.inl (zshr x x') :: st) M) : zW y d Q b S pc L (.inl x' :: .inl x :: st) M :=
  zStep (st0 := (.inl x' :: .inl x :: st)) (st' := (.inl (zshr x x') :: st)) (fun p l e R s m args below meth c Z ad H locs cells slots ls hx hb ho hL hs k => lv_ishr hx hb hd (by rw [List.map_cons] at k; rw [show zc ad (.inl (zshr x x')) = _ from zi_of _] at k; exact k)) (fun hQ hs => zc_cons (z32_of _) (zc_tl (zc_tl hs))) kk
theorem z_iushr {x x' : Int} (hd : decode y.2.1 pc = .ok (.iushr, 1)) (kk : zW y d Q b S (pc + 1) L (.inl (zushr x x') :: st) M) : zW y d Q b S pc L (.inl x' :: .inl x :: st) M :=
  zStep (st0 := (.inl x' :: .inl x :: st)) (st' := (.inl (zushr x x') :: st)) (fun p l e R s m args below meth c Z ad H locs cells slots ls hx hb ho hL hs k => lv_iushr hx hb hd rfl (by rw [List.map_cons] at k; rw [show zc ad (.inl (zushr x x')) = _ from zi_of _] at k; exact k)) (fun hQ hs => zc_cons (z32_of _) (zc_tl (zc_tl hs))) kk
theorem z_i2b {x : Int} (hd : decode y.2.1 pc = .ok (.i2b, 1)) (kk : zW y d Q b S (pc + 1) L (.inl (zi2b x) :: st) M) : zW y d Q b S pc L (.inl x :: st) M :=
  zStep (st0 := (.inl x :: st)) (st' := (.inl (zi2b x) :: st)) (fun p l e R s m args below meth c Z ad H locs cells slots ls hx hb ho hL hs k => lv_i2b hx hb hd rfl (by rw [List.map_cons] at k; rw [show zc ad (.inl (zi2b x)) = _ from zi_of _] at k; exact k)) (fun hQ hs => zc_cons (z32_of _) (zc_tl hs)) kk
theorem z_i2s {x : Int} (hd : decode y.2.1 pc = .ok (.i2s, 1)) (kk : zW y d Q b S (pc + 1) L (.inl (zi2s x) :: st) M) : zW y d Q b S pc L (.inl x :: st) M :=
  zStep (st0 := (.inl x :: st)) (st' := (.inl (zi2s x) :: st)) (fun p l e R s m args below meth c Z ad H locs cells slots ls hx hb ho hL hs k => lv_i2s hx hb hd rfl (by rw [List.map_cons] at k; rw [show zc ad (.inl (zi2s x)) = _ from zi_of _] at k; exact k)) (fun hQ hs => zc_cons (z32_of _) (zc_tl hs)) kk
theorem zi2l {x : Int} (h : z32 x) : (Int32.ofInt x).toInt64 = Int64.ofInt x := by
  apply Int64.toInt_inj.mp
  rw [Int32.toInt_toInt64, zi_to h, zl_to (by unfold z32 at h; unfold z64; omega)]
theorem z_i2l {x : Int} (hd : decode y.2.1 pc = .ok (.i2l, 1)) (kk : zW y d Q b S (pc + 1) L (.inr (.inl x) :: st) M) : zW y d Q b S pc L (.inl x :: st) M :=
  zStep (st0 := (.inl x :: st)) (st' := (.inr (.inl x) :: st)) (fun p l e R s m args below meth c Z ad H locs cells slots ls hx hb ho hL hs k => lv_i2l hx hb hd (zi2l (zc_hd hs)) k) (fun hQ hs => zc_cons (show z64 x by have h : z32 x := zc_hd hs; unfold z32 at h; unfold z64; omega) (zc_tl hs)) kk
theorem z_l2i {x : Int} (hd : decode y.2.1 pc = .ok (.l2i, 1)) (kk : zW y d Q b S (pc + 1) L (.inl (zw x) :: st) M) : zW y d Q b S pc L (.inr (.inl x) :: st) M :=
  zStep (st0 := (.inr (.inl x) :: st)) (st' := (.inl (zw x) :: st)) (fun p l e R s m args below meth c Z ad H locs cells slots ls hx hb ho hL hs k => lv_l2i hx hb hd rfl (by rw [List.map_cons] at k; rw [show zc ad (.inl (zw x)) = .int (Int64.ofInt x).toInt32 from congrArg Value.int ((zi_ofw x).trans (Int64.toInt32_ofInt (n := x)).symm)] at k; exact k)) (fun hQ hs => zc_cons (zw_32 _) (zc_tl hs)) kk
theorem z_land {x x' : Int} (hd : decode y.2.1 pc = .ok (.land, 1)) (kk : zW y d Q b S (pc + 1) L (.inr (.inl (zland x x')) :: st) M) : zW y d Q b S pc L (.inr (.inl x') :: .inr (.inl x) :: st) M :=
  zStep (st0 := (.inr (.inl x') :: .inr (.inl x) :: st)) (st' := (.inr (.inl (zland x x')) :: st)) (fun p l e R s m args below meth c Z ad H locs cells slots ls hx hb ho hL hs k => lv_land hx hb hd (by rw [List.map_cons] at k; rw [show zc ad (.inr (.inl (zland x x'))) = _ from zl_of _] at k; exact k)) (fun hQ hs => zc_cons (z64_of _) (zc_tl (zc_tl hs))) kk
theorem z_lor {x x' : Int} (hd : decode y.2.1 pc = .ok (.lor, 1)) (kk : zW y d Q b S (pc + 1) L (.inr (.inl (zlor x x')) :: st) M) : zW y d Q b S pc L (.inr (.inl x') :: .inr (.inl x) :: st) M :=
  zStep (st0 := (.inr (.inl x') :: .inr (.inl x) :: st)) (st' := (.inr (.inl (zlor x x')) :: st)) (fun p l e R s m args below meth c Z ad H locs cells slots ls hx hb ho hL hs k => lv_lor hx hb hd (by rw [List.map_cons] at k; rw [show zc ad (.inr (.inl (zlor x x'))) = _ from zl_of _] at k; exact k)) (fun hQ hs => zc_cons (z64_of _) (zc_tl (zc_tl hs))) kk
theorem z_laddw {x x' : Int} (hd : decode y.2.1 pc = .ok (.ladd, 1)) (kk : zW y d Q b S (pc + 1) L (.inr (.inl (zlw (x + x'))) :: st) M) : zW y d Q b S pc L (.inr (.inl x') :: .inr (.inl x) :: st) M :=
  zStep (st0 := (.inr (.inl x') :: .inr (.inl x) :: st)) (st' := (.inr (.inl (zlw (x + x'))) :: st)) (fun p l e R s m args below meth c Z ad H locs cells slots ls hx hb ho hL hs k => lv_ladd hx hb hd (by rw [List.map_cons] at k; rw [show zc ad (.inr (.inl (zlw (x + x')))) = .long (Int64.ofInt x + Int64.ofInt x') from congrArg Value.long ((zl_ofw _).trans (Int64.ofInt_add _ _))] at k; exact k)) (fun hQ hs => zc_cons (zlw_64 _) (zc_tl (zc_tl hs))) kk
theorem z_lsubw {x x' : Int} (hd : decode y.2.1 pc = .ok (.lsub, 1)) (kk : zW y d Q b S (pc + 1) L (.inr (.inl (zlw (x - x'))) :: st) M) : zW y d Q b S pc L (.inr (.inl x') :: .inr (.inl x) :: st) M :=
  zStep (st0 := (.inr (.inl x') :: .inr (.inl x) :: st)) (st' := (.inr (.inl (zlw (x - x'))) :: st)) (fun p l e R s m args below meth c Z ad H locs cells slots ls hx hb ho hL hs k => lv_lsub hx hb hd (by rw [List.map_cons] at k; rw [show zc ad (.inr (.inl (zlw (x - x')))) = .long (Int64.ofInt x - Int64.ofInt x') from congrArg Value.long ((zl_ofw _).trans (Int64.ofInt_sub _ _))] at k; exact k)) (fun hQ hs => zc_cons (zlw_64 _) (zc_tl (zc_tl hs))) kk
theorem z_lshl {x x' : Int} (hd : decode y.2.1 pc = .ok (.lshl, 1)) (kk : zW y d Q b S (pc + 1) L (.inr (.inl (zlshl x x')) :: st) M) : zW y d Q b S pc L (.inl x' :: .inr (.inl x) :: st) M :=
  zStep (st0 := (.inl x' :: .inr (.inl x) :: st)) (st' := (.inr (.inl (zlshl x x')) :: st)) (fun p l e R s m args below meth c Z ad H locs cells slots ls hx hb ho hL hs k => lv_lshl hx hb hd rfl (by rw [List.map_cons] at k; rw [show zc ad (.inr (.inl (zlshl x x'))) = _ from zl_of _] at k; exact k)) (fun hQ hs => zc_cons (z64_of _) (zc_tl (zc_tl hs))) kk
theorem z_lshr {x x' : Int} (hd : decode y.2.1 pc = .ok (.lshr, 1)) (kk : zW y d Q b S (pc + 1) L (.inr (.inl (zlshr x x')) :: st) M) : zW y d Q b S pc L (.inl x' :: .inr (.inl x) :: st) M :=
  zStep (st0 := (.inl x' :: .inr (.inl x) :: st)) (st' := (.inr (.inl (zlshr x x')) :: st)) (fun p l e R s m args below meth c Z ad H locs cells slots ls hx hb ho hL hs k => lv_lshr hx hb hd rfl (by rw [List.map_cons] at k; rw [show zc ad (.inr (.inl (zlshr x x'))) = _ from zl_of _] at k; exact k)) (fun hQ hs => zc_cons (z64_of _) (zc_tl (zc_tl hs))) kk
theorem z_lushr {x x' : Int} (hd : decode y.2.1 pc = .ok (.lushr, 1)) (kk : zW y d Q b S (pc + 1) L (.inr (.inl (zlushr x x')) :: st) M) : zW y d Q b S pc L (.inl x' :: .inr (.inl x) :: st) M :=
  zStep (st0 := (.inl x' :: .inr (.inl x) :: st)) (st' := (.inr (.inl (zlushr x x')) :: st)) (fun p l e R s m args below meth c Z ad H locs cells slots ls hx hb ho hL hs k => lv_lushr hx hb hd rfl (by rw [List.map_cons] at k; rw [show zc ad (.inr (.inl (zlushr x x'))) = _ from zl_of _] at k; exact k)) (fun hQ hs => zc_cons (z64_of _) (zc_tl (zc_tl hs))) kk
theorem zl_lt {x y : Int} (hx : z64 x) (hy : z64 y) : Int64.ofInt x < Int64.ofInt y ↔ x < y := by rw [Int64.lt_iff_toInt_lt, zl_to hx, zl_to hy]
theorem zl_inj {x y : Int} (hx : z64 x) (hy : z64 y) : Int64.ofInt x = Int64.ofInt y ↔ x = y := ⟨fun h => by rw [← zl_to hx, ← zl_to hy, h], fun h => by rw [h]⟩
theorem zl_cmp {x x' : Int} (h : z64 x) (h' : z64 x') : lg_cmp (Int64.ofInt x) (Int64.ofInt x') = Int32.ofInt (zcmp x x') := by
  unfold lg_cmp zcmp
  show (if Int64.ofInt x' < Int64.ofInt x then _ else _) = _
  by_cases h1 : x' < x
  · rw [if_pos ((zl_lt h' h).mpr h1), if_pos h1]; rfl
  · rw [if_neg (fun q => h1 ((zl_lt h' h).mp q)), if_neg (fun q => h1 q)]
    by_cases h2 : x = x'
    · rw [if_pos ((zl_inj h h').mpr h2), if_pos h2]; rfl
    · rw [if_neg (fun q => h2 ((zl_inj h h').mp q)), if_neg h2]; rfl
theorem zcmp_32 (x x' : Int) : z32 (zcmp x x') := by unfold zcmp z32; split <;> (try split) <;> omega
theorem z_lcmp {x x' : Int} (hd : decode y.2.1 pc = .ok (.lcmp, 1)) (kk : zW y d Q b S (pc + 1) L (.inl (zcmp x x') :: st) M) : zW y d Q b S pc L (.inr (.inl x') :: .inr (.inl x) :: st) M :=
  zStep (st0 := (.inr (.inl x') :: .inr (.inl x) :: st)) (st' := (.inl (zcmp x x') :: st)) (fun p l e R s m args below meth c Z ad H locs cells slots ls hx hb ho hL hs k => W.lcmp hx hb hd (by rw [zl_cmp (zc_hd (zc_tl hs)) (zc_hd hs)]; exact k)) (fun hQ hs => zc_cons (zcmp_32 _ _) (zc_tl (zc_tl hs))) kk
theorem zcat1 (ad : Int → Nat) {v : zV} (h : zcat2 v = false) : (zc ad v).category = 1 := by
  rcases v with x | x | x
  · rfl
  · simp [zcat2] at h
  · show (zrf ad x).category = 1
    unfold zrf
    split <;> rfl
theorem z_dup {v : zV} (hd : decode y.2.1 pc = .ok (.dup, 1)) (hv : zcat2 v = false) (kk : zW y d Q b S (pc + 1) L (v :: v :: st) M) : zW y d Q b S pc L (v :: st) M :=
  zStep (st0 := (v :: st)) (st' := (v :: v :: st)) (fun p l e R s m args below meth c Z ad H locs cells slots ls hx hb ho hL hs k => lv_dup hx hb hd (zcat1 ad hv) k) (fun hQ hs => zc_cons (zc_hd hs) hs) kk
theorem z_dup2 {v w : zV} (hd : decode y.2.1 pc = .ok (.dup2, 1)) (hv : zcat2 v = false) (hw : zcat2 w = false) (kk : zW y d Q b S (pc + 1) L (v :: w :: v :: w :: st) M) : zW y d Q b S pc L (v :: w :: st) M :=
  zStep (st0 := (v :: w :: st)) (st' := (v :: w :: v :: w :: st)) (fun p l e R s m args below meth c Z ad H locs cells slots ls hx hb ho hL hs k => lv_dup2_11 hx hb hd (zcat1 ad hv) (zcat1 ad hw) k) (fun hQ hs => zc_cons (zc_hd hs) (zc_cons (zc_hd (zc_tl hs)) hs)) kk
theorem z_pop {v : zV} (hd : decode y.2.1 pc = .ok (.pop, 1)) (hv : zcat2 v = false) (kk : zW y d Q b S (pc + 1) L st M) : zW y d Q b S pc L (v :: st) M :=
  zStep (st0 := (v :: st)) (st' := st) (fun p l e R s m args below meth c Z ad H locs cells slots ls hx hb ho hL hs k => lv_pop hx hb hd (zcat1 ad hv) k) (fun hQ hs => zc_tl hs) kk
theorem z_goto {off : Int} (tgt : Nat) (hd : decode y.2.1 pc = .ok (.goto off, 3)) (ht : (pc : Int) + off = (tgt : Int)) (kk : zW y d Q b S tgt L st M) : zW y d Q b S pc L st M :=
  zStep (st0 := st) (st' := st) (fun p l e R s m args below meth c Z ad H locs cells slots ls hx hb ho hL hs k => lv_goto hx hb hd ht k) (fun hQ hs => hs) kk
theorem z_if_eq {x off : Int} (tgt : Nat) (hd : decode y.2.1 pc = .ok (.ifCond .eq off, 3)) (ht : (pc : Int) + off = (tgt : Int)) (kt : x = 0 → zW y d Q b S tgt L st M) (kf : ¬ (x = 0) → zW y d Q b S (pc + 3) L st M) : zW y d Q b S pc L (.inl x :: st) M :=
  fun p l e R s m args below meth c D cA ad0 n0 Mn A Z hE hR ad H locs cells slots ls hW hL hs => lv_if_eq hE.1 hE.2.1 hd ht (fun q => kt ((zi_inj (show z32 x from zc_hd hs) (show z32 0 by unfold z32; omega)).mp q) p l e R s m args below meth c D cA ad0 n0 Mn A Z hE hR ad H locs cells slots ls hW hL (zc_tl hs)) (fun q => kf (fun q2 => q ((zi_inj (show z32 x from zc_hd hs) (show z32 0 by unfold z32; omega)).mpr q2)) p l e R s m args below meth c D cA ad0 n0 Mn A Z hE hR ad H locs cells slots ls hW hL (zc_tl hs))
theorem z_icmp_eq {x x' off : Int} (tgt : Nat) (hd : decode y.2.1 pc = .ok (.if_icmp .eq off, 3)) (ht : (pc : Int) + off = (tgt : Int)) (kt : x = x' → zW y d Q b S tgt L st M) (kf : ¬ (x = x') → zW y d Q b S (pc + 3) L st M) : zW y d Q b S pc L (.inl x' :: .inl x :: st) M :=
  fun p l e R s m args below meth c D cA ad0 n0 Mn A Z hE hR ad H locs cells slots ls hW hL hs => lv_icmp_eq hE.1 hE.2.1 hd ht (fun q => kt ((zi_inj (show z32 x from zc_hd (zc_tl hs)) (show z32 x' from zc_hd hs)).mp q) p l e R s m args below meth c D cA ad0 n0 Mn A Z hE hR ad H locs cells slots ls hW hL (zc_tl (zc_tl hs))) (fun q => kf (fun q2 => q ((zi_inj (show z32 x from zc_hd (zc_tl hs)) (show z32 x' from zc_hd hs)).mpr q2)) p l e R s m args below meth c D cA ad0 n0 Mn A Z hE hR ad H locs cells slots ls hW hL (zc_tl (zc_tl hs)))
theorem z_if_ne {x off : Int} (tgt : Nat) (hd : decode y.2.1 pc = .ok (.ifCond .ne off, 3)) (ht : (pc : Int) + off = (tgt : Int)) (kt : x ≠ 0 → zW y d Q b S tgt L st M) (kf : ¬ (x ≠ 0) → zW y d Q b S (pc + 3) L st M) : zW y d Q b S pc L (.inl x :: st) M :=
  fun p l e R s m args below meth c D cA ad0 n0 Mn A Z hE hR ad H locs cells slots ls hW hL hs => lv_if_ne hE.1 hE.2.1 hd ht (fun q => kt ((not_congr (zi_inj (show z32 x from zc_hd hs) (show z32 0 by unfold z32; omega))).mp q) p l e R s m args below meth c D cA ad0 n0 Mn A Z hE hR ad H locs cells slots ls hW hL (zc_tl hs)) (fun q => kf (fun q2 => q2 ((zi_inj (show z32 x from zc_hd hs) (show z32 0 by unfold z32; omega)).mp q)) p l e R s m args below meth c D cA ad0 n0 Mn A Z hE hR ad H locs cells slots ls hW hL (zc_tl hs))
theorem z_icmp_ne {x x' off : Int} (tgt : Nat) (hd : decode y.2.1 pc = .ok (.if_icmp .ne off, 3)) (ht : (pc : Int) + off = (tgt : Int)) (kt : x ≠ x' → zW y d Q b S tgt L st M) (kf : ¬ (x ≠ x') → zW y d Q b S (pc + 3) L st M) : zW y d Q b S pc L (.inl x' :: .inl x :: st) M :=
  fun p l e R s m args below meth c D cA ad0 n0 Mn A Z hE hR ad H locs cells slots ls hW hL hs => lv_icmp_ne hE.1 hE.2.1 hd ht (fun q => kt ((not_congr (zi_inj (show z32 x from zc_hd (zc_tl hs)) (show z32 x' from zc_hd hs))).mp q) p l e R s m args below meth c D cA ad0 n0 Mn A Z hE hR ad H locs cells slots ls hW hL (zc_tl (zc_tl hs))) (fun q => kf (fun q2 => q2 ((zi_inj (show z32 x from zc_hd (zc_tl hs)) (show z32 x' from zc_hd hs)).mp q)) p l e R s m args below meth c D cA ad0 n0 Mn A Z hE hR ad H locs cells slots ls hW hL (zc_tl (zc_tl hs)))
theorem z_if_lt {x off : Int} (tgt : Nat) (hd : decode y.2.1 pc = .ok (.ifCond .lt off, 3)) (ht : (pc : Int) + off = (tgt : Int)) (kt : x < 0 → zW y d Q b S tgt L st M) (kf : ¬ (x < 0) → zW y d Q b S (pc + 3) L st M) : zW y d Q b S pc L (.inl x :: st) M :=
  fun p l e R s m args below meth c D cA ad0 n0 Mn A Z hE hR ad H locs cells slots ls hW hL hs => lv_if_lt hE.1 hE.2.1 hd ht (fun q => kt ((zi_lt (show z32 x from zc_hd hs) (show z32 0 by unfold z32; omega)).mp q) p l e R s m args below meth c D cA ad0 n0 Mn A Z hE hR ad H locs cells slots ls hW hL (zc_tl hs)) (fun q => kf (fun q2 => q ((zi_lt (show z32 x from zc_hd hs) (show z32 0 by unfold z32; omega)).mpr q2)) p l e R s m args below meth c D cA ad0 n0 Mn A Z hE hR ad H locs cells slots ls hW hL (zc_tl hs))
theorem z_icmp_lt {x x' off : Int} (tgt : Nat) (hd : decode y.2.1 pc = .ok (.if_icmp .lt off, 3)) (ht : (pc : Int) + off = (tgt : Int)) (kt : x < x' → zW y d Q b S tgt L st M) (kf : ¬ (x < x') → zW y d Q b S (pc + 3) L st M) : zW y d Q b S pc L (.inl x' :: .inl x :: st) M :=
  fun p l e R s m args below meth c D cA ad0 n0 Mn A Z hE hR ad H locs cells slots ls hW hL hs => lv_icmp_lt hE.1 hE.2.1 hd ht (fun q => kt ((zi_lt (show z32 x from zc_hd (zc_tl hs)) (show z32 x' from zc_hd hs)).mp q) p l e R s m args below meth c D cA ad0 n0 Mn A Z hE hR ad H locs cells slots ls hW hL (zc_tl (zc_tl hs))) (fun q => kf (fun q2 => q ((zi_lt (show z32 x from zc_hd (zc_tl hs)) (show z32 x' from zc_hd hs)).mpr q2)) p l e R s m args below meth c D cA ad0 n0 Mn A Z hE hR ad H locs cells slots ls hW hL (zc_tl (zc_tl hs)))
theorem z_if_ge {x off : Int} (tgt : Nat) (hd : decode y.2.1 pc = .ok (.ifCond .ge off, 3)) (ht : (pc : Int) + off = (tgt : Int)) (kt : 0 ≤ x → zW y d Q b S tgt L st M) (kf : ¬ (0 ≤ x) → zW y d Q b S (pc + 3) L st M) : zW y d Q b S pc L (.inl x :: st) M :=
  fun p l e R s m args below meth c D cA ad0 n0 Mn A Z hE hR ad H locs cells slots ls hW hL hs => lv_if_ge hE.1 hE.2.1 hd ht (fun q => kt ((zi_le (show z32 0 by unfold z32; omega) (show z32 x from zc_hd hs)).mp q) p l e R s m args below meth c D cA ad0 n0 Mn A Z hE hR ad H locs cells slots ls hW hL (zc_tl hs)) (fun q => kf (fun q2 => q ((zi_le (show z32 0 by unfold z32; omega) (show z32 x from zc_hd hs)).mpr q2)) p l e R s m args below meth c D cA ad0 n0 Mn A Z hE hR ad H locs cells slots ls hW hL (zc_tl hs))
theorem z_icmp_ge {x x' off : Int} (tgt : Nat) (hd : decode y.2.1 pc = .ok (.if_icmp .ge off, 3)) (ht : (pc : Int) + off = (tgt : Int)) (kt : x' ≤ x → zW y d Q b S tgt L st M) (kf : ¬ (x' ≤ x) → zW y d Q b S (pc + 3) L st M) : zW y d Q b S pc L (.inl x' :: .inl x :: st) M :=
  fun p l e R s m args below meth c D cA ad0 n0 Mn A Z hE hR ad H locs cells slots ls hW hL hs => lv_icmp_ge hE.1 hE.2.1 hd ht (fun q => kt ((zi_le (show z32 x' from zc_hd hs) (show z32 x from zc_hd (zc_tl hs))).mp q) p l e R s m args below meth c D cA ad0 n0 Mn A Z hE hR ad H locs cells slots ls hW hL (zc_tl (zc_tl hs))) (fun q => kf (fun q2 => q ((zi_le (show z32 x' from zc_hd hs) (show z32 x from zc_hd (zc_tl hs))).mpr q2)) p l e R s m args below meth c D cA ad0 n0 Mn A Z hE hR ad H locs cells slots ls hW hL (zc_tl (zc_tl hs)))
theorem z_if_gt {x off : Int} (tgt : Nat) (hd : decode y.2.1 pc = .ok (.ifCond .gt off, 3)) (ht : (pc : Int) + off = (tgt : Int)) (kt : 0 < x → zW y d Q b S tgt L st M) (kf : ¬ (0 < x) → zW y d Q b S (pc + 3) L st M) : zW y d Q b S pc L (.inl x :: st) M :=
  fun p l e R s m args below meth c D cA ad0 n0 Mn A Z hE hR ad H locs cells slots ls hW hL hs => lv_if_gt hE.1 hE.2.1 hd ht (fun q => kt ((zi_lt (show z32 0 by unfold z32; omega) (show z32 x from zc_hd hs)).mp q) p l e R s m args below meth c D cA ad0 n0 Mn A Z hE hR ad H locs cells slots ls hW hL (zc_tl hs)) (fun q => kf (fun q2 => q ((zi_lt (show z32 0 by unfold z32; omega) (show z32 x from zc_hd hs)).mpr q2)) p l e R s m args below meth c D cA ad0 n0 Mn A Z hE hR ad H locs cells slots ls hW hL (zc_tl hs))
theorem z_icmp_gt {x x' off : Int} (tgt : Nat) (hd : decode y.2.1 pc = .ok (.if_icmp .gt off, 3)) (ht : (pc : Int) + off = (tgt : Int)) (kt : x' < x → zW y d Q b S tgt L st M) (kf : ¬ (x' < x) → zW y d Q b S (pc + 3) L st M) : zW y d Q b S pc L (.inl x' :: .inl x :: st) M :=
  fun p l e R s m args below meth c D cA ad0 n0 Mn A Z hE hR ad H locs cells slots ls hW hL hs => lv_icmp_gt hE.1 hE.2.1 hd ht (fun q => kt ((zi_lt (show z32 x' from zc_hd hs) (show z32 x from zc_hd (zc_tl hs))).mp q) p l e R s m args below meth c D cA ad0 n0 Mn A Z hE hR ad H locs cells slots ls hW hL (zc_tl (zc_tl hs))) (fun q => kf (fun q2 => q ((zi_lt (show z32 x' from zc_hd hs) (show z32 x from zc_hd (zc_tl hs))).mpr q2)) p l e R s m args below meth c D cA ad0 n0 Mn A Z hE hR ad H locs cells slots ls hW hL (zc_tl (zc_tl hs)))
theorem z_if_le {x off : Int} (tgt : Nat) (hd : decode y.2.1 pc = .ok (.ifCond .le off, 3)) (ht : (pc : Int) + off = (tgt : Int)) (kt : x ≤ 0 → zW y d Q b S tgt L st M) (kf : ¬ (x ≤ 0) → zW y d Q b S (pc + 3) L st M) : zW y d Q b S pc L (.inl x :: st) M :=
  fun p l e R s m args below meth c D cA ad0 n0 Mn A Z hE hR ad H locs cells slots ls hW hL hs => lv_if_le hE.1 hE.2.1 hd ht (fun q => kt ((zi_le (show z32 x from zc_hd hs) (show z32 0 by unfold z32; omega)).mp q) p l e R s m args below meth c D cA ad0 n0 Mn A Z hE hR ad H locs cells slots ls hW hL (zc_tl hs)) (fun q => kf (fun q2 => q ((zi_le (show z32 x from zc_hd hs) (show z32 0 by unfold z32; omega)).mpr q2)) p l e R s m args below meth c D cA ad0 n0 Mn A Z hE hR ad H locs cells slots ls hW hL (zc_tl hs))
theorem z_icmp_le {x x' off : Int} (tgt : Nat) (hd : decode y.2.1 pc = .ok (.if_icmp .le off, 3)) (ht : (pc : Int) + off = (tgt : Int)) (kt : x ≤ x' → zW y d Q b S tgt L st M) (kf : ¬ (x ≤ x') → zW y d Q b S (pc + 3) L st M) : zW y d Q b S pc L (.inl x' :: .inl x :: st) M :=
  fun p l e R s m args below meth c D cA ad0 n0 Mn A Z hE hR ad H locs cells slots ls hW hL hs => lv_icmp_le hE.1 hE.2.1 hd ht (fun q => kt ((zi_le (show z32 x from zc_hd (zc_tl hs)) (show z32 x' from zc_hd hs)).mp q) p l e R s m args below meth c D cA ad0 n0 Mn A Z hE hR ad H locs cells slots ls hW hL (zc_tl (zc_tl hs))) (fun q => kf (fun q2 => q ((zi_le (show z32 x from zc_hd (zc_tl hs)) (show z32 x' from zc_hd hs)).mpr q2)) p l e R s m args below meth c D cA ad0 n0 Mn A Z hE hR ad H locs cells slots ls hW hL (zc_tl (zc_tl hs)))
theorem z_tsw {x dflt lo hi : Int} {offs : Array Int} {len : Nat} (hd : decode y.2.1 pc = .ok (.tableswitch dflt lo hi offs, len)) (hsz : (offs.size : Int) = hi - lo + 1)
    (kin : ∀ (j : Nat) (off : Int), offs.toList[j]? = some off → x = lo + j → ∃ tgt : Nat, (pc : Int) + off = (tgt : Int) ∧ zW y d Q b S tgt L st M) (kout : x < lo ∨ hi < x → ∃ tgt : Nat, (pc : Int) + dflt = (tgt : Int) ∧ zW y d Q b S tgt L st M) : zW y d Q b S pc L (.inl x :: st) M := by
  intro p l e R s m args below meth c D cA ad0 n0 Mn A Z hE hR ad H locs cells slots ls hW hL hs
  have hx : (Int32.ofInt x).toInt = x := zi_to (zc_hd hs)
  by_cases ho : x < lo ∨ hi < x
  · obtain ⟨tgt, ht, k⟩ := kout ho
    exact lv_tableOut hE.1 hE.2.1 hd (by rw [hx]; exact ho) ht (k p l e R s m args below meth c D cA ad0 n0 Mn A Z hE hR ad H locs cells slots ls hW hL (zc_tl hs))
  · have h1 : ¬ x < lo := fun h => ho (Or.inl h)
    have h2 : ¬ hi < x := fun h => ho (Or.inr h)
    have hlt : (x - lo).toNat < offs.size := by omega
    obtain ⟨tgt, ht, k⟩ := kin (x - lo).toNat offs[(x - lo).toNat] (by rw [Array.getElem?_toList, Array.getElem?_eq_getElem hlt]) (by omega)
    exact lv_tableIn hE.1 hE.2.1 hd (by rw [hx]; exact h1) (by rw [hx]; exact h2) (by rw [hx, Array.getElem?_eq_getElem hlt]) ht (k p l e R s m args below meth c D cA ad0 n0 Mn A Z hE hR ad H locs cells slots ls hW hL (zc_tl hs))
theorem z_lsw {x dflt : Int} {ps : Array (Int × Int)} {len : Nat} {off : Int} (tgt : Nat) (hd : decode y.2.1 pc = .ok (.lookupswitch dflt ps, len)) (hp : (ps.toList.zip (ps.toList.drop 1)).all (fun (a, next) => a.1 < next.1) = true) (ho : Op.lookupswitch.offset ps.toList dflt x = off) (ht : (pc : Int) + off = (tgt : Int)) (k : zW y d Q b S tgt L st M) : zW y d Q b S pc L (.inl x :: st) M := by
  intro p l e R s m args below meth c D cA ad0 n0 Mn A Z hE hR ad H locs cells slots ls hW hL hs
  exact lv_lookup hE.1 hE.2.1 hd hp (by rw [zi_to (zc_hd hs)]; exact ho) ht (k p l e R s m args below meth c D cA ad0 n0 Mn A Z hE hR ad H locs cells slots ls hW hL (zc_tl hs))
theorem zWd_0 {D : va_G} {cA : FieldType → ClassId} {ad0 : Int → Nat} {n0 : Nat} {Mn : zMm} {A : Nat → Prop} {R : Room} {s : State} {ad : Int → Nat} {H : Heap} {locs : List Loc} {cells slots : Nat} (h : zWd b S M D cA ad0 n0 Mn A R s ad H locs cells slots) : zWd (0, 0) S M D cA ad0 n0 Mn A R s ad H locs cells slots := by
  obtain ⟨h1, h2, h3, h4, h5, h6, h7, h8, h9⟩ := h
  exact ⟨h1, h2, h3, h4, h5, h6, by show cells + 0 ≤ _; omega, by show slots + 0 ≤ _; omega, h9⟩
theorem z_iret {x : Int} (hd : decode y.2.1 pc = .ok (.ireturn, 1)) (hr : y.2.2.2 = some .int) (hq : Q (some (.inl x)) S M) : zW y d Q b S pc L [.inl x] M :=
  fun p l e R s m args below meth c D cA ad0 n0 Mn A Z hE hR ad H locs cells slots ls hW hL hs => hR (some (.inl x)) S M ad H locs cells slots pc ls (zWd_0 hW) (fun v hv => by cases hv; exact zc_hd hs) hq (by rw [hr]; exact zc_hd hs) hd
theorem z_zret {x : Int} (hd : decode y.2.1 pc = .ok (.ireturn, 1)) (hr : y.2.2.2 = some .boolean) (hx : 0 ≤ x ∧ x ≤ 1) (hq : Q (some (.inl x)) S M) : zW y d Q b S pc L [.inl x] M :=
  fun p l e R s m args below meth c D cA ad0 n0 Mn A Z hE hR ad H locs cells slots ls hW hL hs => hR (some (.inl x)) S M ad H locs cells slots pc ls (zWd_0 hW) (fun v hv => by cases hv; exact zc_hd hs) hq (by rw [hr]; exact hx) hd
theorem z_lret {x : Int} (hd : decode y.2.1 pc = .ok (.lreturn, 1)) (hr : y.2.2.2 = some .long) (hq : Q (some (.inr (.inl x))) S M) : zW y d Q b S pc L [.inr (.inl x)] M :=
  fun p l e R s m args below meth c D cA ad0 n0 Mn A Z hE hR ad H locs cells slots ls hW hL hs => hR (some (.inr (.inl x))) S M ad H locs cells slots pc ls (zWd_0 hW) (fun v hv => by cases hv; exact zc_hd hs) hq (by rw [hr]; exact zc_hd hs) hd
theorem z_vret (hd : decode y.2.1 pc = .ok (.return_, 1)) (hr : y.2.2.2 = none) (hq : Q none S M) : zW y d Q b S pc L [] M :=
  fun p l e R s m args below meth c D cA ad0 n0 Mn A Z hE hR ad H locs cells slots ls hW hL hs => hR none S M ad H locs cells slots pc ls (zWd_0 hW) (fun v hv => by cases hv) hq (by rw [hr]; trivial) hd
end
