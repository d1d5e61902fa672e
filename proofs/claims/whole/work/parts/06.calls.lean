/-! the rules of zW: calls. A walk from a method's entry is a contract; a contract is used at every call -/
def zws (y : zM) : List Cond := .code y.1 y.2.1 y.2.2.1 y.2.2.2 :: zTb
def zrm (d : Nat) (b : Nat × Nat) : Room := { frames := d, cells := b.1, slots := b.2, locals := 40 * d }
def zargs : Nat → List zV → List (Nat × zV)
  | _, [] => []
  | i, v :: vs => (i, v) :: zargs (if zcat2 v = true then i + 2 else i + 1) vs
theorem zargs_lv (ad : Int → Nat) : ∀ (vs : List zV) (i : Nat), lv_args i (vs.map (zc ad)) = (zargs i vs).map (fun q => (q.1, zc ad q.2))
  | [], _ => rfl
  | v :: vs, i => by
    rw [List.map_cons]
    unfold lv_args zargs
    rw [List.map_cons, ← zargs_lv ad vs]
    have h := zcat_of ad v
    by_cases hc : zcat2 v = true
    · rw [hc] at h
      rw [if_pos hc, if_pos (by simpa using h)]
    · rw [if_neg hc, if_neg (fun q => hc (by rw [← h]; simpa using q))]
def zlen : List zV → Nat
  | [] => 0
  | v :: vs => (if zcat2 v = true then 2 else 1) + zlen vs
theorem zlen_cons (v : zV) (vs : List zV) : zlen (v :: vs) = (if zcat2 v = true then 2 else 1) + zlen vs := rfl
theorem zlen_lg (ad : Int → Nat) : ∀ vs : List zV, (lg_sl (vs.map (zc ad))).length = zlen vs
  | [] => rfl
  | v :: vs => by
    have ih := zlen_lg ad vs
    unfold lg_sl at ih ⊢
    rw [List.map_cons, List.flatMap_cons, List.length_append, ih, zlen_cons]
    have h := zcat_of ad v
    by_cases hc : zcat2 v = true
    · rw [hc] at h
      rw [if_pos hc, if_pos (by simpa using h)]
      rfl
    · rw [if_neg hc, if_neg (fun q => hc (by rw [← h]; simpa using q))]
      rfl
def zPre (S : List zSh) (M : zMm) (args : List zV) (D : va_G) (cA : FieldType → ClassId) (ad : Int → Nat) (Mn : zMm) (A : Nat → Prop) (U : State) : Prop :=
  va_P D zcl (zWs ad cA S M) U.heap ∧ va_D A (zWs ad cA S M) ∧ va_K D zcl (ztys cA) U ∧ zSt ad Mn A U U.heap ∧ (∀ q, U.heap.size ≤ q → A q) ∧ zNs U ∧ zcM S M ∧ (∀ v ∈ args, zcV S.length v) ∧ ∀ r : Int, -5 < r → r < 0 → M r = Mn r
def zQc (Q : zPost) (S : List zSh) (D : va_G) (cA : FieldType → ClassId) (ad : Int → Nat) (Mn : zMm) (A : Nat → Prop) : Array Value → State → Outcome → State → Prop := fun _ st o t =>
  ∃ (rv : Option zV) (S' : List zSh) (M' : zMm) (ad' : Int → Nat), o = .returned (rv.map (zc ad')) ∧ Q rv S' M' ∧ (∀ r : Int, r < S.length → ad' r = ad r) ∧ S.length ≤ S'.length ∧ (∀ r : Int, -5 < r → r < 0 → M' r = Mn r) ∧ va_P D zcl (zWs ad' cA S' M') t.heap ∧ va_D A (zWs ad' cA S' M') ∧ va_F A st t ∧ zcM S' M' ∧ ∀ v ∈ rv, zcV S'.length v
theorem zSt_to {ad ad' : Int → Nat} {Mn : zMm} {A : Nat → Prop} {s U : State} {H H' : Heap} (h : zSt ad Mn A s H) (hvm : s.vm.Alike U.vm) (hq : ∀ a : Nat, a < H.size → ¬ A a → H'[a]? = H[a]?) (had : ∀ r : Int, r = -2 ∨ r = -3 ∨ r = -4 → ad' r = ad r) : zSt ad' Mn A U H' := by
  obtain ⟨h1, h2, h3⟩ := h
  refine ⟨fun r hr => ?_, ?_, ?_⟩
  · rw [had r hr]
    exact ⟨((h1 r hr).1.kept hq).moved hvm, (h1 r hr).2⟩
  · rw [had (-3) (by omega)]
    exact (h2.kept hq).moved hvm
  · rw [had (-4) (by omega)]
    exact (h3.kept hq).moved hvm
theorem zMet_of {y : zM} {d : Nat} {b : Nat × Nat} {S : List zSh} {args : List zV} {M : zMm} {Q : zPost} (hpl : plainName y.1.cls = true) (hmax : zlen args ≤ y.2.2.1) (h : zW y d Q b S 0 (zargs 0 args) [] M) (l : Launch) (D : va_G) (cA : FieldType → ClassId) (ad : Int → Nat) (Mn : zMm) (A : Nat → Prop) :
    Met l y.1 (zws y) (zrm d b) (va_Pc (args.map (zc ad)) (zPre S M args D cA ad Mn A)) (zQc Q S D cA ad Mn A) b.1 b.2 A := by
  refine Met.ofW (cc := y.2.1) (maxL := y.2.2.1) (ret := y.2.2.2) hpl rfl ?_
  intro p e s m args' below meth c s₁ B hml hv
  obtain ⟨rfl, hP, hD, hK, hSt, hA, hNs, hcM, hcA, hneg⟩ := hv
  have hts := atoms_spec (ws := zws y) B.pre
  have hown := findClass_of_methodNamed B.named
  have hlocks : meth.locks = false := B.notSynchronized
  have hS0 : va_S A s.heap s.heap [] := va_S.rf
  rw [lg_entry_eq]
  have hl := lv_entry (args.map (zc ad)) (n := y.2.2.1) (by rw [zlen_lg]; exact hmax)
  rw [zargs_lv] at hl
  have hac : ∀ (vs : List zV) (i : Nat), (∀ v ∈ vs, zcV S.length v) → ∀ q ∈ zargs i vs, zcV S.length q.2 := by
    intro vs
    induction vs with
    | nil => intro i _ q hq; cases hq
    | cons v vs ih =>
      intro i hv q hq
      rcases List.mem_cons.mp hq with rfl | hq
      · exact hv v List.mem_cons_self
      · exact ih _ (fun w hw => hv w (List.mem_cons_of_mem _ hw)) q hq
  refine h p l e (headSpec (zws y) (zrm d b)).room s m _ below meth c D cA ad S.length Mn A _ ⟨B.exec, B.bytes, hml, hown, fun w hw => hts w (List.mem_cons_of_mem _ hw), Nat.le_refl _, Nat.le_refl _, fun hn => (name_of_methodNamed B.named B.method).1.trans hn, hK, hSt, hA, hNs⟩ ?_ ad s.heap [] 0 0 _ ⟨fun _ _ => rfl, Nat.le_refl _, hneg, hP, hD, hS0, by show 0 + b.1 ≤ b.1; omega, by show 0 + b.2 ≤ b.2; omega, hcM⟩ ⟨hl, hac args 0 hcA⟩ (fun v hv => by cases hv)
  intro rv S' M' ad' H locs cells slots pc ls hw hrv hq hok hdec
  obtain ⟨w1, w2, w3, w4, w5, w6, w7, w8, w9⟩ := hw
  have hc1 : cells ≤ b.1 := by have : cells + 0 ≤ b.1 := w7; omega
  have hc2 : slots ≤ b.2 := by have : slots + 0 ≤ b.2 := w8; omega
  refine W.widen hc1 hc2 ?_
  have hend : ∀ t : State, t.heap = H → zQc Q S D cA ad Mn A (args.map (zc ad)).toArray s (.returned (rv.map (zc ad'))) t := fun t ht => ⟨rv, S', M', ad', rfl, hq, w1, w2, w3, by rw [ht]; exact w4, w5, ⟨by rw [ht]; exact w6.1, fun q h1 h2 => by rw [ht]; exact w6.2.1 q h1 h2⟩, w9, hrv⟩
  have hr := B.returns
  rcases rv with _ | v
  · have hret : y.2.2.2 = none := by
      revert hok; cases y.2.2.2 with
      | none => intro _; rfl
      | some ty => intro hok; cases ty <;> exact hok.elim
    rw [hret] at hr
    exact W.vret B.exec B.bytes hr (fun t ht _ => hend t ht) w6.2.2 hdec
  · rcases v with x | x | x
    · rw [Option.toList_some, List.map_cons, List.map_nil, zc_int]
      rcases hty : y.2.2.2 with _ | ty
      · rw [hty] at hok; exact hok.elim
      · rw [hty] at hok hr
        have hn : narrow ty (.int (Int32.ofInt x)) = .int (Int32.ofInt x) := by
          cases ty <;> first | rfl | exact hok.elim | (have h2 : 0 ≤ x ∧ x ≤ 1 := hok; rcases (show x = 0 ∨ x = 1 by omega) with rfl | rfl <;> rfl)
        exact W.zret B.exec B.bytes hr hn (fun t ht _ => hend t ht) w6.2.2 hdec
    · rw [Option.toList_some, List.map_cons, List.map_nil, zc_long]
      have hret : y.2.2.2 = some .long := by
        revert hok; cases y.2.2.2 with
        | none => intro hok; exact hok.elim
        | some ty => intro hok; cases ty <;> first | rfl | exact hok.elim
      rw [hret] at hr
      exact W.lret B.exec B.bytes hr (fun t ht _ => hend t ht) w6.2.2 hdec
    · exfalso
      revert hok; cases y.2.2.2 with
      | none => intro hok; exact hok
      | some ty => intro hok; cases ty <;> exact hok
/-- what the tables say of a method that is called -/
def zokB (z : zM) (n : Nat) : Prop := Cond.initialized z.1.cls ∈ lw_tbl ∧ Cond.code z.1 z.2.1 z.2.2.1 z.2.2.2 ∈ lw_tbl ∧ plainName z.1.cls = true ∧ (z.1.cls ≠ "java/lang/invoke/MethodHandle" ∧ z.1.cls ≠ "java/lang/invoke/VarHandle") ∧ (parseMethodDescriptor z.1.desc).map (fun d => d.parameters.length) = some n ∧ z.2.2.1 ≤ 21
def zokV (z : zM) (n : Nat) : Prop := zokB z n ∧ Cond.instanceMethod z.1 ∈ lw_tbl ∧ Cond.selects z.1.cls z.1 z.1 ∈ lw_tbl
def zokS (z : zM) (n : Nat) : Prop := zokB z n ∧ Cond.static z.1 ∈ lw_tbl
def zokI (z : zM) (n : Nat) : Prop := zokB z n ∧ Cond.instanceMethod z.1 ∈ lw_tbl ∧ z.1.name = "<init>" ∧ z.2.2.2 = none
theorem zgd {w : Cond} (h : w ∈ zTb) : w ∈ zTb ∧ ((w.onTables && w.keeps) = true ∨ ∃ ty, w = .arrayClass ty) := ⟨h, good_of_word (List.mem_filter.mp h).2⟩
theorem zgin {z : zM} {n : Nat} (h : zokB z n) : GoodIn zTb (zws z) := by
  intro w hw
  rcases List.mem_cons.mp hw with rfl | hw
  · exact zgd (zT h.2.1 rfl)
  · exact zgd hw
theorem zidx {u U : State} (hvm : u.vm.Alike U.vm) (f : Class → Bool) (hf : ∀ x y : Class, x.kind = y.kind → f x = f y) : u.vm.classes.findIdx? f = U.vm.classes.findIdx? f := by
  have e : ∀ v : Vm, v.bare.classes.findIdx? f = v.classes.findIdx? f := by
    intro v
    simp only [Vm.bare, Array.findIdx?_map]
    congr 1
    funext x
    exact hf _ _ rfl
  rw [← e u.vm, ← e U.vm, hvm.bare_eq]
theorem zAO_moved {u U : State} (hvm : u.vm.Alike U.vm) (h : (Cond.arrayOver (.array .long)).before #[] u = true) : (Cond.arrayOver (.array .long)).before #[] U = true := by
  unfold Cond.before Cond.holds at h ⊢
  simp only [Cond.value] at h ⊢
  rw [hvm.findClass]
  revert h
  cases u.vm.findClass (FieldType.array .long).toString with
  | none => intro h; exact h
  | some comp =>
    simp only [Option.bind_some]
    rw [zidx hvm _ (by intro x y hk; simp only [hk])]
    cases (Array.findIdx? _ U.vm.classes) with
    | none => intro h; exact h
    | some c =>
      simp only [Option.bind_some]
      intro h
      cases hc : u.vm.classes[c]? with
      | none => rw [hc] at h; simp at h
      | some k =>
        obtain ⟨k', hk', he⟩ := hvm.2.2 _ _ hc
        rw [hc] at h
        rw [hk']
        simp only [Option.map_some] at h ⊢
        rw [he, hvm.findClass]
        exact h
theorem zNs_to {s U : State} (hW : s.WarmedH U.vm) (h : zNs s) : zNs U := ⟨fun x1 x2 x3 x4 hw => va_Nw.warmM hW (h.1 x1 x2 x3 x4 hw), zAO_moved hW.alike h.2⟩
theorem zblind {args : List zV} {S : List zSh} {M : zMm} {as : List zV} {D : va_G} {cA : FieldType → ClassId} {ad : Int → Nat} {Mn : zMm} {A : Nat → Prop} : FrameBlind (va_Pc (args.map (zc ad)) (zPre S M as D cA ad Mn A)) := by
  intro a U g mk h
  obtain ⟨h0, h1, h2, h3, h4, h5, h9, h6, h7, h8⟩ := h
  exact ⟨h0, h1, h2, va_K.moved (u := U) (U := U.calling g mk a) (Vm.Alike.refl U.vm) h3, zSt_to (s := U) (U := U.calling g mk a) h4 (Vm.Alike.refl U.vm) (fun _ _ _ => rfl) (fun _ _ => rfl), h5, ⟨fun x1 x2 x3 x4 hw => va_Nw.same rfl rfl (h9.1 x1 x2 x3 x4 hw), zAO_moved (u := U) (U := U.calling g mk a) (Vm.Alike.refl U.vm) h9.2⟩, h6, h7, h8⟩
section
variable {y : zM} {d : Nat} {Q : zPost} {b : Nat × Nat} {S : List zSh} {pc : Nat} {L : List (Nat × zV)} {st : List zV} {M : zMm}
/-- a world in the state before a call, as the callee's pre says it -/
theorem zPre_of {p : Program} {R : Room} {s : State} {m : MethodId} {args : Array Value} {meth : Method} {c : Code} {D : va_G} {cA : FieldType → ClassId} {ad0 ad : Int → Nat} {n0 : Nat} {Mn : zMm} {A : Nat → Prop} {H : Heap} {locs : List Loc} {cells slots : Nat} {as : List zV} (hn0 : n0 ≤ S.length) (hE : zEnv y d p R s m args meth c D cA ad0 Mn A) (hW : zWd b S M D cA ad0 n0 Mn A R s ad H locs cells slots) (hs : ∀ v ∈ as, zcV S.length v) (U : State) (hU : U.heap = H) (hw : s.WarmedH U.vm) : zPre S M as D cA ad Mn A U := by
  refine ⟨by rw [hU]; exact hW.2.2.2.1, hW.2.2.2.2.1, va_K.moved hw.alike hE.2.2.2.2.2.2.2.2.1, ?_, fun q hq => hE.2.2.2.2.2.2.2.2.2.2.1 q (Nat.le_trans hW.2.2.2.2.2.1.1 (by rw [hU] at hq; exact hq)), zNs_to hw hE.2.2.2.2.2.2.2.2.2.2.2, hW.2.2.2.2.2.2.2.2, hs, hW.2.2.1⟩
  refine zSt_to hE.2.2.2.2.2.2.2.2.2.1 hw.alike (fun a h1 h2 => by rw [hU]; exact hW.2.2.2.2.2.1.2.1 a h1 h2) (fun r hr => hW.1 r (by omega))
/-- behind a call -/
theorem z_back {p : Program} {l : Launch} {e : Env} {R : Room} {s : State} {m : MethodId} {args : Array Value} {below : List Frame} {meth : Method} {c : Code} {D : va_G} {cA : FieldType → ClassId} {ad0 ad : Int → Nat} {n0 : Nat} {Mn : zMm} {A : Nat → Prop} {Z : State → Prop} {H : Heap} {locs : List Loc} {cells slots : Nat} {ls : Array Slot} {bz b' : Nat × Nat} {Qz : zPost} {As : Array Value} {st0 : List Value}
    (hE : zEnv y d p R s m args meth c D cA ad0 Mn A) (hR : zRet y Q p l e R s m args below meth c D cA ad0 n0 Mn A Z) (hW : zWd b S M D cA ad0 n0 Mn A R s ad H locs cells slots) (hL : zLs y.2.2.1 S.length L ad ls) (hs : ∀ v ∈ st, zcV S.length v) (hb : bz.1 + b'.1 ≤ b.1 ∧ bz.2 + b'.2 ≤ b.2)
    (hr : ∀ T : State, T.heap = H → Stand p l e R s m args below meth c T locs cells slots → ∃ (v : Option Value) (st₀ t T' : State) (Lc : List Loc), st₀.heap = H ∧ Stand p l e R s m args below meth c T' (locs ++ Lc) (cells + bz.1) (slots + bz.2) ∧ (∀ q ∈ Lc, A q.base) ∧ T'.heap = t.heap ∧ zQc Qz S D cA ad Mn A As st₀ (.returned v) t ∧ Goes p e below T (F0 m pc ls st0) T' (F0 m (pc + 3) ls (v.toList ++ st.map (zc ad))))
    (kk : ∀ (rv : Option zV) (S' : List zSh) (M' : zMm), Qz rv S' M' → zW y d Q b' S' (pc + 3) L (rv.toList ++ st) M') : W p l e R s m args below meth c H locs cells slots Z (F0 m pc ls st0) := by
  intro T hT X
  obtain ⟨v, st₀, t, T', Lc, h0, X', hLc, e1, ⟨rv, S', M', ad', hv, hq, a1, a2, a3, a4, a5, a6, a7, a8⟩, go⟩ := hr T hT X
  obtain ⟨w1, w2, w3, w4, w5, w6, w7, w8, w9⟩ := hW
  cases hv
  have hd : zWd b' S' M' D cA ad0 n0 Mn A R s ad' T'.heap (locs ++ Lc) (cells + bz.1) (slots + bz.2) := by
    refine ⟨fun r hr => (a1 r (by omega)).trans (w1 r hr), by omega, a3, by rw [e1]; exact a4, a5, ⟨?_, fun q h1 h2 => ?_, fun q hq => ?_⟩, by omega, by omega, a7⟩
    · rw [e1]
      have h6 := a6.1
      rw [h0] at h6
      exact Nat.le_trans w6.1 h6
    · rw [e1, a6.2 q (by rw [h0]; exact Nat.lt_of_lt_of_le h1 w6.1) h2, h0]
      exact w6.2.1 q h1 h2
    · rcases List.mem_append.mp hq with hq | hq
      · exact w6.2.2 q hq
      · exact hLc q hq
  have k := kk rv S' M' hq p l e R s m args below meth c D cA ad0 n0 Mn A Z hE hR ad' T'.heap (locs ++ Lc) (cells + bz.1) (slots + bz.2) ls hd (zLs_up hL a2 a1) (fun v hv => by
    rcases List.mem_append.mp hv with hv | hv
    · exact a8 v (by simpa using hv)
    · exact zcV_up a2 (hs v hv))
  obtain ⟨t2, s1, s2⟩ := k T' rfl X'
  refine ⟨t2, go t2 ?_, s2⟩
  have e3 : (rv.map (zc ad')).toList ++ st.map (zc ad) = (rv.toList ++ st).map (zc ad') := by
    rw [List.map_append, zmap_congr a1 hs]
    cases rv <;> rfl
  rw [e3]
  exact s1
theorem zcat_sum {ad : Int → Nat} : ∀ {st : List zV}, ((st.map (zc ad)).map fun v => v.category).sum = (st.map fun v => if zcat2 v = true then 2 else 1).sum
  | [] => rfl
  | v :: st => by
    rw [List.map_cons, List.map_cons, List.map_cons, List.sum_cons, List.sum_cons, zcat_sum]
    have h := zcat_of ad v
    by_cases hc : zcat2 v = true
    · rw [hc] at h
      rw [if_pos hc, show (zc ad v).category = 2 by simpa using h]
    · rw [if_neg hc, zcat1 ad (by simpa using hc)]
/-- invokevirtual: of the object at r, the arguments as (last first) on the stack -/
theorem z_inv (z : zM) (r ci : Nat) (as : List zV) {n d1 idx : Nat} {bz b' : Nat × Nat} {Qz : zPost} {ri : Int} {st0 : List zV} {C : String} {T : u_T} {N : Nat} (hd : decode y.2.1 pc = .ok (.invokevirtual idx, 3)) (hlink : Cond.methodLink y.1.cls idx z.1 ∈ lw_tbl) (hz : zokV z n) (hr : ri = (r : Int)) (hsh : S[r]? = some (ci + 4, N)) (hcl : zcl[ci]? = some (C, T, N)) (hC : z.1.cls = C) (has : as.length = n) (hst : st0 = as.reverse ++ .inr (.inr ri) :: st) (hsum : (st.map fun v => if zcat2 v = true then 2 else 1).sum ≤ 8) (hd1 : d1 + 1 ≤ d) (hb : bz.1 + b'.1 ≤ b.1 ∧ bz.2 + b'.2 ≤ b.2) (hmax : zlen (.inr (.inr ri) :: as) ≤ z.2.2.1)
    (hM : zW z d1 Qz bz S 0 (zargs 0 (.inr (.inr ri) :: as)) [] M) (kk : ∀ (rv : Option zV) (S' : List zSh) (M' : zMm), Qz rv S' M' → zW y d Q b' S' (pc + 3) L (rv.toList ++ st) M') : zW y d Q b S pc L st0 M := by
  intro p l e R s m args below meth c D cA ad0 n0 Mn A Z hE hR ad H locs cells slots ls hW hL hs
  subst hr
  subst hst
  obtain ⟨⟨z1, z2, z3, z4, z5, z6⟩, z7, z8⟩ := hz
  have hs2 : ∀ v ∈ st, zcV S.length v := fun v hv => hs v (List.mem_append_right _ (List.mem_cons_of_mem _ hv))
  have hs3 : ∀ v ∈ .inr (.inr (r : Int)) :: as, zcV S.length v := fun v hv => by
    rcases List.mem_cons.mp hv with rfl | hv
    · exact hs _ (List.mem_append_right _ List.mem_cons_self)
    · exact hs v (List.mem_append_left _ (List.mem_reverse.mpr hv))
  have hM9 := zMet_of z3 hmax hM l D cA ad Mn A
  have hfr := hE.2.2.2.2.2.1
  have hlo := hE.2.2.2.2.2.2.1
  have hgin : GoodIn zTb (wsV y.1.cls idx C z.1 (zws z)) := by
    intro w hw
    rcases List.mem_append.mp hw with hw | hw
    · rw [← hC] at hw
      simp only [List.mem_cons, List.not_mem_nil, or_false] at hw
      rcases hw with rfl | rfl | rfl | rfl
      · exact zgd (zT hlink rfl)
      · exact zgd (zT z7 rfl)
      · exact zgd (zT z8 rfl)
      · exact zgd (zT z1 rfl)
    · exact zgin (n := n) ⟨z1, z2, z3, z4, z5, z6⟩ w hw
  have hmap : (as.map (zc ad)).length = n := by rw [List.length_map]; exact has
  have hrun := W.runV (R := R) (H := H) (locs := locs) (cells := cells) (slots := slots) (l := l) (e := e) (below := below) (meth := meth) (g := F0 m pc ls ((as.map (zc ad)).reverse ++ .ref (ad r) :: st.map (zc ad))) (As := as.map (zc ad)) (b := ad r) (rest := st.map (zc ad)) (n := n) (nL := y.2.2.1) (cc := y.2.1) (Ts := zTb) (own := y.1.cls) (index := idx) (C := C) (maxL := z.2.2.1) (bytes := z.2.1) (ret := z.2.2.2) ⟨hE.1, hE.2.1, hE.2.2.1, hE.2.2.2.1, hE.2.2.2.2.1⟩ hM9
    (cwV n hE.2.2.2.2.1 hgin rfl rfl rfl ⟨hC, z4.1, z4.2, z5⟩ ⟨by show d1 + 1 ≤ _; omega, by show 8 + (z.2.2.1 + 11) + 40 * d1 ≤ _; omega⟩)
    ⟨by
      have hbl := zblind (args := .inr (.inr (r : Int)) :: as) (S := S) (M := M) (as := .inr (.inr (r : Int)) :: as) (D := D) (cA := cA) (ad := ad) (Mn := Mn) (A := A)
      exact hbl, by
      obtain ⟨cell, c1, c2, c3⟩ := va_recv hE.2.2.2.2.2.2.2.2.1 hW.2.2.2.1 hcl (zWs_at hsh)
      exact ⟨cell, c1, c2, c3⟩, fun U hU hw => ⟨by rw [List.map_cons, zcl_ref], zPre_of hW.2.1 hE hW hs3 U hU hw⟩⟩
    rfl hmap hL.1.1 rfl (lv_room (by rw [zcat_sum]; exact hsum)) hd ⟨by have := hW.2.2.2.2.2.2.1; omega, by have := hW.2.2.2.2.2.2.2.1; omega⟩
  refine z_back (bz := bz) (b' := b') (Qz := Qz) (As := (Value.ref (ad r) :: as.map (zc ad)).toArray) hE hR hW hL hs2 hb (fun T hT X => ?_) kk
  have e4 : (as.reverse ++ .inr (.inr (r : Int)) :: st).map (zc ad) = (as.map (zc ad)).reverse ++ .ref (ad r) :: st.map (zc ad) := by
    rw [List.map_append, List.map_reverse, List.map_cons, zcl_ref]
  rw [e4]
  obtain ⟨v, st₀, t, T', Lc, q1, q2, q3, q4, q5, q6⟩ := hrun T hT X
  exact ⟨v, st₀, t, T', Lc, q1, q2, q3, q4, q5, q6⟩
/-- invokestatic of the class's own -/
theorem z_invs (z : zM) (as : List zV) {n d1 idx : Nat} {bz b' : Nat × Nat} {Qz : zPost} {st0 : List zV} (hd : decode y.2.1 pc = .ok (.invokestatic idx, 3)) (hlink : Cond.methodLink y.1.cls idx z.1 ∈ lw_tbl ∨ Cond.methodLinkNest y.1.cls idx z.1 "SixWalls" ∈ lw_tbl) (hz : zokS z n) (has : as.length = n) (hst : st0 = as.reverse ++ st) (hsum : (st.map fun v => if zcat2 v = true then 2 else 1).sum ≤ 8) (hd1 : d1 + 1 ≤ d) (hb : bz.1 + b'.1 ≤ b.1 ∧ bz.2 + b'.2 ≤ b.2) (hmax : zlen as ≤ z.2.2.1)
    (hM : zW z d1 Qz bz S 0 (zargs 0 as) [] M) (kk : ∀ (rv : Option zV) (S' : List zSh) (M' : zMm), Qz rv S' M' → zW y d Q b' S' (pc + 3) L (rv.toList ++ st) M') : zW y d Q b S pc L st0 M := by
  intro p l e R s m args below meth c D cA ad0 n0 Mn A Z hE hR ad H locs cells slots ls hW hL hs
  subst hst
  obtain ⟨⟨z1, z2, z3, z4, z5, z6⟩, z7⟩ := hz
  have hs2 : ∀ v ∈ st, zcV S.length v := fun v hv => hs v (List.mem_append_right _ hv)
  have hs3 : ∀ v ∈ as, zcV S.length v := fun v hv => hs v (List.mem_append_left _ (List.mem_reverse.mpr hv))
  have hM9 := zMet_of z3 hmax hM l D cA ad Mn A
  have hfr := hE.2.2.2.2.2.1
  have hlo := hE.2.2.2.2.2.2.1
  have hmap : (as.map (zc ad)).length = n := by rw [List.length_map]; exact has
  have e4 : (as.reverse ++ st).map (zc ad) = (as.map (zc ad)).reverse ++ st.map (zc ad) := by
    rw [List.map_append, List.map_reverse]
  rw [e4]
  have hpre : PreS s H (va_Pc (as.map (zc ad)) (zPre S M as D cA ad Mn A)) (as.map (zc ad)) := ⟨zblind, fun U hU hw => ⟨rfl, zPre_of hW.2.1 hE hW hs3 U hU hw⟩⟩
  have hroom : (zrm d1 bz).frames + 1 ≤ R.frames ∧ 8 + (z.2.2.1 + 11) + (zrm d1 bz).locals ≤ R.locals := ⟨by show d1 + 1 ≤ _; omega, by show 8 + (z.2.2.1 + 11) + 40 * d1 ≤ _; omega⟩
  have hbud : cells + bz.1 ≤ R.cells ∧ slots + bz.2 ≤ R.slots := ⟨by have := hW.2.2.2.2.2.2.1; omega, by have := hW.2.2.2.2.2.2.2.1; omega⟩
  rcases hlink with hlink | hlink
  · have hrun := W.runS (R := R) (H := H) (locs := locs) (cells := cells) (slots := slots) (l := l) (e := e) (below := below) (meth := meth) (g := F0 m pc ls ((as.map (zc ad)).reverse ++ st.map (zc ad))) (As := as.map (zc ad)) (rest := st.map (zc ad)) (n := n) (nL := y.2.2.1) (cc := y.2.1) (Ts := zTb) (own := y.1.cls) (index := idx) (maxL := z.2.2.1) (bytes := z.2.1) (ret := z.2.2.2) ⟨hE.1, hE.2.1, hE.2.2.1, hE.2.2.2.1, hE.2.2.2.2.1⟩ hM9
      ⟨callB_of n hE.2.2.2.2.1 (zgin (n := n) ⟨z1, z2, z3, z4, z5, z6⟩) rfl rfl rfl (hE.2.2.2.2.1 _ (zT z1 rfl)) (hE.2.2.2.2.1 _ (zT hlink rfl)) ⟨z4.1, z4.2, z5⟩ hroom, hE.2.2.2.2.1 _ (zT z7 rfl)⟩
      hpre rfl hmap hL.1.1 rfl (lv_room (by rw [zcat_sum]; exact hsum)) hd hbud
    refine z_back (bz := bz) (b' := b') (Qz := Qz) (As := (as.map (zc ad)).toArray) hE hR hW hL hs2 hb (fun T hT X => ?_) kk
    obtain ⟨v, st₀, t, T', Lc, q1, q2, q3, q4, q5, q6⟩ := hrun T hT X
    exact ⟨v, st₀, t, T', Lc, q1, q2, q3, q4, q5, q6⟩
  · have hrun := va_runSN (R := R) (H := H) (locs := locs) (cells := cells) (slots := slots) (l := l) (e := e) (below := below) (meth := meth) (g := F0 m pc ls ((as.map (zc ad)).reverse ++ st.map (zc ad))) (As := as.map (zc ad)) (rest := st.map (zc ad)) (n := n) (nL := y.2.2.1) (cc := y.2.1) (Ts := zTb) (own := y.1.cls) (index := idx) (host := "SixWalls") (maxL := z.2.2.1) (bytes := z.2.1) (ret := z.2.2.2) ⟨hE.1, hE.2.1, hE.2.2.1, hE.2.2.2.1, hE.2.2.2.2.1⟩ hM9
      ⟨va_cnB n hE.2.2.2.2.1 (zgin (n := n) ⟨z1, z2, z3, z4, z5, z6⟩) rfl rfl rfl (hE.2.2.2.2.2.2.2.2.2.2.2.1 _ _ _ _ hlink) (hE.2.2.2.2.1 _ (zT z1 rfl)) ⟨z4.1, z4.2, z5⟩ hroom, hE.2.2.2.2.1 _ (zT z7 rfl), trivial⟩
      hpre rfl hmap hL.1.1 rfl (lv_room (by rw [zcat_sum]; exact hsum)) hd hbud
    refine z_back (bz := bz) (b' := b') (Qz := Qz) (As := (as.map (zc ad)).toArray) hE hR hW hL hs2 hb (fun T hT X => ?_) kk
    obtain ⟨v, st₀, t, T', Lc, q1, q2, q3, q4, -, q5, q6⟩ := hrun T hT X
    exact ⟨v, st₀, t, T', Lc, q1, q2, q3, q4, q5, q6⟩
/-- invokespecial of a constructor -/
theorem z_init (z : zM) (as : List zV) {n d1 idx : Nat} {bz b' : Nat × Nat} {Qz : zPost} {ri : Int} {st0 : List zV} (hd : decode y.2.1 pc = .ok (.invokespecial idx, 3)) (hlink : Cond.methodLink y.1.cls idx z.1 ∈ lw_tbl ∨ Cond.methodLinkNest y.1.cls idx z.1 "SixWalls" ∈ lw_tbl) (hz : zokI z n) (hri : ri ≠ -1) (has : as.length = n) (hst : st0 = as.reverse ++ .inr (.inr ri) :: st) (hsum : (st.map fun v => if zcat2 v = true then 2 else 1).sum ≤ 8) (hd1 : d1 + 1 ≤ d) (hb : bz.1 + b'.1 ≤ b.1 ∧ bz.2 + b'.2 ≤ b.2) (hmax : zlen (.inr (.inr ri) :: as) ≤ z.2.2.1)
    (hM : zW z d1 Qz bz S 0 (zargs 0 (.inr (.inr ri) :: as)) [] M) (kk : ∀ (rv : Option zV) (S' : List zSh) (M' : zMm), Qz rv S' M' → zW y d Q b' S' (pc + 3) L (rv.toList ++ st) M') : zW y d Q b S pc L st0 M := by
  intro p l e R s m args below meth c D cA ad0 n0 Mn A Z hE hR ad H locs cells slots ls hW hL hs
  subst hst
  obtain ⟨⟨z1, z2, z3, z4, z5, z6⟩, z7, z8, z9⟩ := hz
  have hs2 : ∀ v ∈ st, zcV S.length v := fun v hv => hs v (List.mem_append_right _ (List.mem_cons_of_mem _ hv))
  have hs3 : ∀ v ∈ .inr (.inr ri) :: as, zcV S.length v := fun v hv => by
    rcases List.mem_cons.mp hv with rfl | hv
    · exact hs _ (List.mem_append_right _ List.mem_cons_self)
    · exact hs v (List.mem_append_left _ (List.mem_reverse.mpr hv))
  have hM9 := zMet_of z3 hmax hM l D cA ad Mn A
  have hfr := hE.2.2.2.2.2.1
  have hlo := hE.2.2.2.2.2.2.1
  have hmap : (as.map (zc ad)).length = n := by rw [List.length_map]; exact has
  have e5 : zc ad (.inr (.inr ri)) = .ref (ad ri) := zrf_ne hri
  have e4 : (as.reverse ++ .inr (.inr ri) :: st).map (zc ad) = (as.map (zc ad)).reverse ++ .ref (ad ri) :: st.map (zc ad) := by
    rw [List.map_append, List.map_reverse, List.map_cons, e5]
  rw [e4]
  have hpre : PreS s H (va_Pc ((.inr (.inr ri) :: as).map (zc ad)) (zPre S M (.inr (.inr ri) :: as) D cA ad Mn A)) (.ref (ad ri) :: as.map (zc ad)) := ⟨zblind, fun U hU hw => ⟨by rw [List.map_cons, e5], zPre_of hW.2.1 hE hW hs3 U hU hw⟩⟩
  have hroom : (zrm d1 bz).frames + 1 ≤ R.frames ∧ 8 + (z.2.2.1 + 11) + (zrm d1 bz).locals ≤ R.locals := ⟨by show d1 + 1 ≤ _; omega, by show 8 + (z.2.2.1 + 11) + 40 * d1 ≤ _; omega⟩
  have hbud : cells + bz.1 ≤ R.cells ∧ slots + bz.2 ≤ R.slots := ⟨by have := hW.2.2.2.2.2.2.1; omega, by have := hW.2.2.2.2.2.2.2.1; omega⟩
  have hwz : zws z = Cond.code z.1 z.2.1 z.2.2.1 none :: zTb := by unfold zws; rw [z9]
  rcases hlink with hlink | hlink
  · have hrun := W.runI (R := R) (H := H) (locs := locs) (cells := cells) (slots := slots) (l := l) (e := e) (below := below) (meth := meth) (g := F0 m pc ls ((as.map (zc ad)).reverse ++ .ref (ad ri) :: st.map (zc ad))) (As := as.map (zc ad)) (b := ad ri) (rest := st.map (zc ad)) (n := n) (nL := y.2.2.1) (cc := y.2.1) (Ts := zTb) (own := y.1.cls) (index := idx) (maxL := z.2.2.1) (bytes := z.2.1) ⟨hE.1, hE.2.1, hE.2.2.1, hE.2.2.2.1, hE.2.2.2.2.1⟩ hM9
      ⟨callB_of n hE.2.2.2.2.1 (zgin (n := n) ⟨z1, z2, z3, z4, z5, z6⟩) hwz rfl rfl (hE.2.2.2.2.1 _ (zT z1 rfl)) (hE.2.2.2.2.1 _ (zT hlink rfl)) ⟨z4.1, z4.2, z5⟩ hroom, z8, hE.2.2.2.2.1 _ (zT z7 rfl)⟩
      hpre rfl hmap hL.1.1 rfl (lv_room (by rw [zcat_sum]; exact hsum)) hd hbud
    refine z_back (bz := bz) (b' := b') (Qz := Qz) (As := (Value.ref (ad ri) :: as.map (zc ad)).toArray) hE hR hW hL hs2 hb (fun T hT X => ?_) kk
    obtain ⟨v, st₀, t, T', Lc, q1, q2, q3, q4, q5, q6⟩ := hrun T hT X
    exact ⟨v, st₀, t, T', Lc, q1, q2, q3, q4, q5, q6⟩
  · have hrun := va_runIN (R := R) (H := H) (locs := locs) (cells := cells) (slots := slots) (l := l) (e := e) (below := below) (meth := meth) (g := F0 m pc ls ((as.map (zc ad)).reverse ++ .ref (ad ri) :: st.map (zc ad))) (As := as.map (zc ad)) (b := ad ri) (rest := st.map (zc ad)) (n := n) (nL := y.2.2.1) (cc := y.2.1) (Ts := zTb) (own := y.1.cls) (index := idx) (host := "SixWalls") (maxL := z.2.2.1) (bytes := z.2.1) ⟨hE.1, hE.2.1, hE.2.2.1, hE.2.2.2.1, hE.2.2.2.2.1⟩ hM9
      ⟨va_cnB n hE.2.2.2.2.1 (zgin (n := n) ⟨z1, z2, z3, z4, z5, z6⟩) hwz rfl rfl (hE.2.2.2.2.2.2.2.2.2.2.2.1 _ _ _ _ hlink) (hE.2.2.2.2.1 _ (zT z1 rfl)) ⟨z4.1, z4.2, z5⟩ hroom, z8, hE.2.2.2.2.1 _ (zT z7 rfl)⟩
      hpre rfl hmap hL.1.1 rfl (lv_room (by rw [zcat_sum]; exact hsum)) hd hbud
    refine z_back (bz := bz) (b' := b') (Qz := Qz) (As := (Value.ref (ad ri) :: as.map (zc ad)).toArray) hE hR hW hL hs2 hb (fun T hT X => ?_) kk
    obtain ⟨v, st₀, t, T', Lc, q1, q2, q3, q4, -, q5, q6⟩ := hrun T hT X
    exact ⟨v, st₀, t, T', Lc, q1, q2, q3, q4, q5, q6⟩
end
