/-! a small machine of whole numbers over the kit's machine: values, shapes, a memory, and the judgement zW over them -/
abbrev zV : Type := Int ⊕ Int ⊕ Int
abbrev zSh : Type := Nat × Nat
abbrev zMm : Type := Int → Int → Int
def zrf (ad : Int → Nat) (r : Int) : Value := if r = -1 then .null else .ref (ad r)
def zc (ad : Int → Nat) (v : zV) : Value := match v with
  | .inl x => .int (Int32.ofInt x)
  | .inr (.inl x) => .long (Int64.ofInt x)
  | .inr (.inr r) => zrf ad r
def zisr (ty : FieldType) : Bool := match ty with
  | .object _ => true
  | .array _ => true
  | _ => false
def zfv (ad : Int → Nat) (ty : FieldType) (x g : Int) : Value := match ty with
  | .long => .long (Int64.ofInt x)
  | .object _ => zrf ad g
  | .array _ => zrf ad g
  | _ => .int (Int32.ofInt x)
/-- a cell: its shape (0 ints, 1 booleans, 2 longs, 3 rows of longs, ci + 4 an object of class ci), its row of numbers, its row of references -/
def zE (ad : Int → Nat) (cA : FieldType → ClassId) (sh : zSh) (f g : Int → Int) : va_E := match sh.1 with
  | 0 => .inl (cA .int, sh.2, .inl (fun (j : Nat) => Int32.ofInt (f j)))
  | 1 => .inl (cA .boolean, sh.2, .inl (fun (j : Nat) => Int32.ofInt (f j)))
  | 2 => .inl (cA .long, sh.2, .inr (.inl (fun (j : Nat) => Int64.ofInt (f j))))
  | 3 => .inl (cA (.array .long), sh.2, .inr (.inr (.inr (.inr (fun (j : Nat) => if j < sh.2 then (if g j = -1 then none else some (ad (g j))) else none)))))
  | ci + 4 => .inr (ci, (List.range sh.2).map (fun (j : Nat) => zfv ad (zty ci j) (f j) (g j)))
/-- the references of cell r lie in row -10 - r -/
def zWs (ad : Int → Nat) (cA : FieldType → ClassId) (S : List zSh) (M : zMm) : va_W := (List.range S.length).map (fun (i : Nat) => (ad i, zE ad cA (S.getD i (0, 0)) (M i) (M (-10 - (i : Int)))))
def ztys (cA : FieldType → ClassId) : List (ClassId × FieldType) := [(cA .int, .int), (cA .boolean, .boolean), (cA .long, .long), (cA (.array .long), .array .long)]
def zup (M : zMm) (c k v : Int) : zMm := fun c' k' => if c' = c ∧ k' = k then v else M c' k'
def z32 (x : Int) : Prop := -2147483648 ≤ x ∧ x < 2147483648
def z64 (x : Int) : Prop := -9223372036854775808 ≤ x ∧ x < 9223372036854775808
def zrr (n : Nat) (r : Int) : Prop := -4 ≤ r ∧ r < n
def zok1 (n : Nat) (ty : FieldType) (x g : Int) : Prop := match ty with
  | .boolean => 0 ≤ x ∧ x ≤ 1
  | .long => z64 x
  | .object _ => zrr n g
  | .array _ => zrr n g
  | _ => z32 x
def zokE (n : Nat) (sh : zSh) (j : Nat) (x g : Int) : Prop := match sh.1 with
  | 0 => z32 x
  | 1 => 0 ≤ x ∧ x ≤ 1
  | 2 => z64 x
  | 3 => zrr n g
  | ci + 4 => zok1 n (zty ci j) x g
def zcM (S : List zSh) (M : zMm) : Prop := ∀ (i : Nat) (sh : zSh), S[i]? = some sh → ∀ j : Nat, j < sh.2 → zokE S.length sh j (M i j) (M (-10 - (i : Int)) j)
def zcV (n : Nat) (v : zV) : Prop := match v with
  | .inl x => z32 x
  | .inr (.inl x) => z64 x
  | .inr (.inr r) => zrr n r
def zw (x : Int) : Int := (x + 2147483648) % 4294967296 - 2147483648
theorem zw_id {x : Int} (h : z32 x) : zw x = x := by unfold z32 at h; unfold zw; omega
theorem zw_32 (x : Int) : z32 (zw x) := by unfold z32 zw; omega
theorem z32_of (v : Int32) : z32 v.toInt := by
  have h1 := v.le_toInt
  have h2 := v.toInt_lt
  unfold z32; omega
theorem z64_of (v : Int64) : z64 v.toInt := by
  have h1 := v.le_toInt
  have h2 := v.toInt_lt
  unfold z64; omega
theorem zi_to {x : Int} (h : z32 x) : (Int32.ofInt x).toInt = x := Int32.toInt_ofInt_of_le (by unfold z32 at h; omega) (by unfold z32 at h; omega)
theorem zl_to {x : Int} (h : z64 x) : (Int64.ofInt x).toInt = x := Int64.toInt_ofInt_of_le (by unfold z64 at h; omega) (by unfold z64 at h; omega)
theorem zi_w (x : Int) : (Int32.ofInt x).toInt = zw x := by
  rw [Int32.toInt_ofInt]
  have h := Int.bmod_def x Int32.size
  rw [h]
  show _ = (x + 2147483648) % 4294967296 - 2147483648
  have e : ((Int32.size : Nat) : Int) = 4294967296 := by decide
  rw [e]
  split <;> omega
theorem zi_ofw (x : Int) : Int32.ofInt (zw x) = Int32.ofInt x := by rw [← zi_w, Int32.ofInt_toInt]
theorem zi_inj {x y : Int} (hx : z32 x) (hy : z32 y) : Int32.ofInt x = Int32.ofInt y ↔ x = y := ⟨fun h => by rw [← zi_to hx, ← zi_to hy, h], fun h => by rw [h]⟩
theorem zi_lt {x y : Int} (hx : z32 x) (hy : z32 y) : Int32.ofInt x < Int32.ofInt y ↔ x < y := by rw [Int32.lt_iff_toInt_lt, zi_to hx, zi_to hy]
theorem zi_le {x y : Int} (hx : z32 x) (hy : z32 y) : Int32.ofInt x ≤ Int32.ofInt y ↔ x ≤ y := by rw [Int32.le_iff_toInt_le, zi_to hx, zi_to hy]
theorem zi_nat {x : Int} (hx : z32 x) : (Int32.ofInt x).toNatClampNeg = x.toNat := by
  show (Int32.ofInt x).toInt.toNat = _
  rw [zi_to hx]
theorem zi_in {x : Int} {n : Nat} (h0 : 0 ≤ x) (h1 : x < n) (hx : z32 x) : vp_in (Int32.ofInt x) n := by
  unfold vp_in
  rw [zi_nat hx]
  rintro (h | h)
  · rw [show (0 : Int32) = Int32.ofInt 0 from rfl, zi_lt hx (by unfold z32; omega)] at h
    omega
  · omega
-- the static part of a walk of method y: the machine, the tables, the classes, the row of numbers outside (script -2, ABOVE -3, BODIES -4), and how a return ends
def zSt (ad0 : Int → Nat) (Mn : zMm) (A : Nat → Prop) (s : State) (H : Heap) : Prop :=
  (∀ r : Int, r = -2 ∨ r = -3 ∨ r = -4 → va_T .int (ad0 r) (Mn r (-1)).toNat (fun (j : Nat) => .int (Int32.ofInt (Mn r j))) A s H ∧ 0 ≤ Mn r (-1) ∧ Mn r (-1) < 2147483648 ∧ ∀ j : Int, 0 ≤ j → j < Mn r (-1) → z32 (Mn r j)) ∧
  va_Z "SixWalls$Cells" "ABOVE" "[I" (.ref (ad0 (-3))) A s H ∧ va_Z "SixWalls$Cells" "BODIES" "[I" (.ref (ad0 (-4))) A s H
def zret (rv : Option zV) : Instr := match rv with
  | none => .return_
  | some (.inl _) => .ireturn
  | some (.inr (.inl _)) => .lreturn
  | some (.inr (.inr _)) => .areturn
def zretOk (ret : Option FieldType) (rv : Option zV) : Prop := match ret, rv with
  | none, none => True
  | some .int, some (.inl x) => z32 x
  | some .boolean, some (.inl x) => 0 ≤ x ∧ x ≤ 1
  | some .long, some (.inr (.inl x)) => z64 x
  | _, _ => False
/-- the world of a walk: what the memory says is in the heap; nothing else has changed -/
def zWd (b : Nat × Nat) (S : List zSh) (M : zMm) (D : va_G) (cA : FieldType → ClassId) (ad0 : Int → Nat) (n0 : Nat) (Mn : zMm) (A : Nat → Prop) (R : Room) (s : State) (ad : Int → Nat) (H : Heap) (locs : List Loc) (cells slots : Nat) : Prop :=
  (∀ r : Int, r < n0 → ad r = ad0 r) ∧ n0 ≤ S.length ∧ (∀ r : Int, -5 < r → r < 0 → M r = Mn r) ∧ va_P D zcl (zWs ad cA S M) H ∧ va_D A (zWs ad cA S M) ∧ va_S A s.heap H locs ∧ cells + b.1 ≤ R.cells ∧ slots + b.2 ≤ R.slots ∧ zcM S M
def zLs (nL : Nat) (n : Nat) (L : List (Nat × zV)) (ad : Int → Nat) (ls : Array Slot) : Prop := lv_has ls nL (L.map (fun q => (q.1, zc ad q.2))) ∧ ∀ q ∈ L, zcV n q.2
/-- the tables' words that every method may take along; and those that go by the state -/
def zTb : List Cond := lw_tbl.filter goodWord
theorem zT {w : Cond} (h : w ∈ lw_tbl) (hg : goodWord w = true) : w ∈ zTb := List.mem_filter.mpr ⟨h, hg⟩
theorem zT_ws {ci : Nat} {C : String} {T : u_T} {N : Nat} (h : zcl[ci]? = some (C, T, N)) : ∀ w ∈ u_ws C T N, w ∈ zTb := by
  intro w hw
  refine zT ((zcl_ok ci _ h).1 w hw) ?_
  obtain ⟨k, -, rfl⟩ := List.mem_map.mp hw
  unfold u_lay
  split <;> rfl
def zNs (s : State) : Prop := (∀ (a : String) (i : Nat) (x : MethodName) (h : String), Cond.methodLinkNest a i x h ∈ lw_tbl → va_Nw (.methodLinkNest a i x h) s) ∧ (Cond.arrayOver (.array .long)).before #[] s = true
def zPost : Type := Option zV → List zSh → zMm → Prop
def zEnv (y : zM) (d : Nat) (p : Program) (R : Room) (s : State) (m : MethodId) (args : Array Value) (meth : Method) (c : Code) (D : va_G) (cA : FieldType → ClassId) (ad0 : Int → Nat) (Mn : zMm) (A : Nat → Prop) : Prop :=
  p.tables.exec = Jvm.exec ∧ c.code = y.2.1 ∧ c.maxLocals = y.2.2.1 ∧ s.vm.findClass y.1.cls = some m.cls ∧ (∀ w ∈ zTb, w.before args s = true) ∧ d ≤ R.frames ∧ 40 * d ≤ R.locals ∧ (y.1.name = "<init>" → meth.name = "<init>") ∧ va_K D zcl (ztys cA) s ∧ zSt ad0 Mn A s s.heap ∧ (∀ q, s.heap.size ≤ q → A q) ∧ zNs s
def zRet (y : zM) (Q : zPost) (p : Program) (l : Launch) (e : Env) (R : Room) (s : State) (m : MethodId) (args : Array Value) (below : List Frame) (meth : Method) (c : Code) (D : va_G) (cA : FieldType → ClassId) (ad0 : Int → Nat) (n0 : Nat) (Mn : zMm) (A : Nat → Prop) (Z : State → Prop) : Prop :=
  ∀ (rv : Option zV) (S : List zSh) (M : zMm) (ad : Int → Nat) (H : Heap) (locs : List Loc) (cells slots pc : Nat) (ls : Array Slot), zWd (0, 0) S M D cA ad0 n0 Mn A R s ad H locs cells slots → (∀ v ∈ rv, zcV S.length v) → Q rv S M → zretOk y.2.2.2 rv → decode y.2.1 pc = .ok (zret rv, 1) →
    W p l e R s m args below meth c H locs cells slots Z (F0 m pc ls (rv.toList.map (zc ad)))
/-- THE JUDGEMENT: from the frame at pc with these locals and stack and this memory, method y (in room for d frames, b cells and slots more) returns with Q -/
def zW (y : zM) (d : Nat) (Q : zPost) (b : Nat × Nat) (S : List zSh) (pc : Nat) (L : List (Nat × zV)) (st : List zV) (M : zMm) : Prop :=
  ∀ (p : Program) (l : Launch) (e : Env) (R : Room) (s : State) (m : MethodId) (args : Array Value) (below : List Frame) (meth : Method) (c : Code) (D : va_G) (cA : FieldType → ClassId) (ad0 : Int → Nat) (n0 : Nat) (Mn : zMm) (A : Nat → Prop) (Z : State → Prop),
    zEnv y d p R s m args meth c D cA ad0 Mn A → zRet y Q p l e R s m args below meth c D cA ad0 n0 Mn A Z →
    ∀ (ad : Int → Nat) (H : Heap) (locs : List Loc) (cells slots : Nat) (ls : Array Slot), zWd b S M D cA ad0 n0 Mn A R s ad H locs cells slots → zLs y.2.2.1 S.length L ad ls → (∀ v ∈ st, zcV S.length v) →
      W p l e R s m args below meth c H locs cells slots Z (F0 m pc ls (st.map (zc ad)))
theorem zWs_len {ad : Int → Nat} {cA : FieldType → ClassId} {S : List zSh} {M : zMm} : (zWs ad cA S M).length = S.length := by simp [zWs]
theorem zWs_at {ad : Int → Nat} {cA : FieldType → ClassId} {S : List zSh} {M : zMm} {i : Nat} {sh : zSh} (h : S[i]? = some sh) : (zWs ad cA S M)[i]? = some (ad i, zE ad cA sh (M i) (M (-10 - (i : Int)))) := by
  have hi : i < S.length := (List.getElem?_eq_some_iff.mp h).1
  unfold zWs
  rw [List.getElem?_map, List.getElem?_range hi]
  simp only [Option.map_some, List.getD_eq_getElem?_getD, h, Option.getD_some]
theorem zWs_ext {ad' : Int → Nat} {cA : FieldType → ClassId} {S : List zSh} {M' : zMm} {ws : va_W} (hl : ws.length = S.length) (h : ∀ (i : Nat) (sh : zSh), S[i]? = some sh → ws[i]? = some (ad' i, zE ad' cA sh (M' i) (M' (-10 - (i : Int))))) : ws = zWs ad' cA S M' := by
  apply List.ext_getElem?
  intro i
  by_cases hi : i < S.length
  · obtain ⟨sh, hs⟩ : ∃ sh, S[i]? = some sh := ⟨S[i], List.getElem?_eq_getElem hi⟩
    rw [h i sh hs, zWs_at hs]
  · rw [List.getElem?_eq_none (by omega), List.getElem?_eq_none (by rw [zWs_len]; omega)]
theorem zWs_set {ad : Int → Nat} {cA : FieldType → ClassId} {S : List zSh} {M M' : zMm} {r : Nat} {sh : zSh} {e : va_E} (hr : S[r]? = some sh) (he : e = zE ad cA sh (M' r) (M' (-10 - (r : Int)))) (hk : ∀ i : Nat, i < S.length → i ≠ r → M' i = M i ∧ M' (-10 - (i : Int)) = M (-10 - (i : Int))) : (zWs ad cA S M).set r (ad r, e) = zWs ad cA S M' := by
  refine zWs_ext (by rw [List.length_set, zWs_len]) fun i sh' hi => ?_
  have hi' : i < S.length := (List.getElem?_eq_some_iff.mp hi).1
  rw [List.getElem?_set]
  by_cases hir : r = i
  · subst hir
    rw [hr] at hi
    cases hi
    rw [if_pos rfl, if_pos (by rw [zWs_len]; exact hi'), he]
  · rw [if_neg hir, zWs_at hi, (hk i hi' (fun h => hir h.symm)).1, (hk i hi' (fun h => hir h.symm)).2]
