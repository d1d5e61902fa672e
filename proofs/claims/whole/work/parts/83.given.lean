/-! what the start gives: the tables of acts, the classes, the rows' classes -/
theorem zls_A : Cond.laysStatic "SixWalls$Cells" "ABOVE" "[I" ∈ lw_tbl := zt4 (List.mem_of_getElem? (i := 113) rfl)
theorem zls_B : Cond.laysStatic "SixWalls$Cells" "BODIES" "[I" ∈ lw_tbl := zt4 (List.mem_of_getElem? (i := 135) rfl)
theorem zao_l : Cond.arrayOver (.array .long) ∈ lw_tbl := zt2 (List.mem_of_getElem? (i := 75) rfl)
def zad0 (b tA tB : Nat) : Int → Nat := fun r => if r = -2 then b else if r = -3 then tA else tB
theorem zabv_w (k : Int) : -1 ≤ zabv k ∧ zabv k < 8 := zgetD (P := fun x => -1 ≤ x ∧ x < 8) (by decide) (by decide) _
theorem zbod_w (k : Int) : 0 ≤ zbod k ∧ zbod k < 82 := zgetD (P := fun x => 0 ≤ x ∧ x < 82) (by decide) (by decide) _
theorem zel_A : ∀ j : Fin 8, Cond.eq (.elem (.static "SixWalls$Cells" "ABOVE" "[I") (.int (Int32.ofNat j.val))) (.int (Int32.ofInt (zabv j.val))) ∈ flatC (Jvm.Cond.and given_1 narrow_1) := by decide +kernel
theorem zel_B : ∀ j : Fin 32, Cond.eq (.elem (.static "SixWalls$Cells" "BODIES" "[I") (.int (Int32.ofNat j.val))) (.int (Int32.ofInt (zbod j.val))) ∈ flatC (Jvm.Cond.and given_1 narrow_1) := by decide +kernel
theorem zrow_A {s : State} {args : Array Value} {A : Nat → Prop} (h : ∀ c ∈ flatC (Jvm.Cond.and given_1 narrow_1), c.before args s = true) (hA : ∀ a : Nat, a < s.heap.size → ¬ A a) : ∃ t : Nat, (Term.static "SixWalls$Cells" "ABOVE" "[I").eval args s none [] s = some (.ref t) ∧ va_T .int t 8 (fun j : Nat => .int (Int32.ofInt (zabv j))) A s s.heap :=
  va_Tof (N := 8) (by decide) (h _ (by decide +kernel)) (va_eqt (h (Cond.eq (.length (.static "SixWalls$Cells" "ABOVE" "[I")) (.int 8)) (by decide +kernel))) (fun j hj => va_eqt (h _ (zel_A ⟨j, hj⟩))) hA
theorem zrow_B {s : State} {args : Array Value} {A : Nat → Prop} (h : ∀ c ∈ flatC (Jvm.Cond.and given_1 narrow_1), c.before args s = true) (hA : ∀ a : Nat, a < s.heap.size → ¬ A a) : ∃ t : Nat, (Term.static "SixWalls$Cells" "BODIES" "[I").eval args s none [] s = some (.ref t) ∧ va_T .int t 32 (fun j : Nat => .int (Int32.ofInt (zbod j))) A s s.heap :=
  va_Tof (N := 32) (by decide) (h _ (by decide +kernel)) (va_eqt (h (Cond.eq (.length (.static "SixWalls$Cells" "BODIES" "[I")) (.int 32)) (by decide +kernel))) (fun j hj => va_eqt (h _ (zel_B ⟨j, hj⟩))) hA
theorem zknow_cl {s : State} {args : Array Value} (hts : ∀ w ∈ lw_tbl, w.before args s = true) : ∃ D : va_G, ∀ (c : Nat) (q : vw_C), zcl[c]? = some q → u_Kn s q.1 q.2.1 q.2.2 (D.1 c) (D.2 c) := by
  have one : ∀ c : Nat, ∃ (x : ClassId) (y : Nat → Nat), ∀ q : vw_C, zcl[c]? = some q → u_Kn s q.1 q.2.1 q.2.2 x y := by
    intro c
    by_cases h : c < 11
    · have hin : ∀ q : vw_C, zcl[c]? = some q → ∃ n : Nat, Cond.instantiable q.1 n ∈ lw_tbl := fun q hq => by
        match c, hq with
        | 0, hq => cases hq; exact ⟨_, zins_SixWalls_Cells⟩
        | 1, hq => cases hq; exact ⟨_, zins_SixWalls_Comb⟩
        | 2, hq => cases hq; exact ⟨_, zins_SixWalls_Families⟩
        | 3, hq => cases hq; exact ⟨_, zins_SixWalls_History⟩
        | 4, hq => cases hq; exact ⟨_, zins_SixWalls_LawText⟩
        | 5, hq => cases hq; exact ⟨_, zins_SixWalls_Masonry⟩
        | 6, hq => cases hq; exact ⟨_, zins_SixWalls_Shelves⟩
        | 7, hq => cases hq; exact ⟨_, zins_SixWalls_Ways⟩
        | 8, hq => cases hq; exact ⟨_, zins_SixWalls_Winter⟩
        | 9, hq => cases hq; exact ⟨_, zins_SixWalls⟩
        | 10, hq => cases hq; exact ⟨_, zins_SixWallsModel⟩
        | k + 11, hq => simp [zcl] at hq
      obtain ⟨q, hq⟩ : ∃ q, zcl[c]? = some q := ⟨zcl[c]'(by show c < 11; exact h), List.getElem?_eq_getElem _⟩
      obtain ⟨n, hn⟩ := hin q hq
      obtain ⟨x, y, k⟩ := u_known (C := q.1) (T := q.2.1) (N := q.2.2) hts (zcl_ok c q hq).1 (hts _ hn)
      exact ⟨x, y, fun q2 h2 => by rw [hq] at h2; cases h2; exact k⟩
    · refine ⟨default, fun _ => 0, fun q hq => ?_⟩
      have := (List.getElem?_eq_some_iff.mp hq).1
      exact absurd this h
  exact ⟨(fun c => (one c).choose, fun c => (one c).choose_spec.choose), fun c q hq => (one c).choose_spec.choose_spec q hq⟩
theorem zknow_ar {s : State} {args : Array Value} (hts : ∀ w ∈ lw_tbl, w.before args s = true) : ∃ cA : FieldType → ClassId, ∀ (k : Nat) (q : ClassId × FieldType), (ztys cA)[k]? = some q → ArrOfT s q.1 q.2 ∧ va_RA s q.1 q.2 := by
  obtain ⟨c0, k0, e0, a1, a2, a3⟩ := Cond.arrayClass_spec (hts _ zac_0)
  obtain ⟨c1, k1, e1, b1, b2, b3⟩ := Cond.arrayClass_spec (hts _ zac_1)
  obtain ⟨c2, k2, e2, d1, d2, d3⟩ := Cond.arrayClass_spec (hts _ zac_2)
  obtain ⟨e3, c3, k3, f1, f2, f3, f4⟩ := Cond.arrayOver_specA (hts _ zao_l)
  refine ⟨fun t => match t with
    | .int => c0
    | .boolean => c1
    | .long => c2
    | _ => c3, fun k q hq => ?_⟩
  match k, hq with
  | 0, hq => cases hq; exact ⟨fun n z => ⟨fun k h => (by cases h), k0, a2, e0, a3⟩, a1⟩
  | 1, hq => cases hq; exact ⟨fun n z => ⟨fun k h => (by cases h), k1, b2, e1, b3⟩, b1⟩
  | 2, hq => cases hq; exact ⟨fun n z => ⟨fun k h => (by cases h), k2, d2, e2, d3⟩, d1⟩
  | 3, hq => cases hq; exact ⟨fun n z => ⟨fun k h => (by cases h), k3, f2, e3, f3⟩, f4⟩
  | k + 4, hq => simp [ztys] at hq
theorem zao_b {args : Array Value} {s : State} (h : (Cond.arrayOver (.array .long)).before args s = true) : (Cond.arrayOver (.array .long)).before #[] s = true := by
  unfold Cond.before at h ⊢
  simp only [Cond.holds, Cond.value] at h ⊢
  exact h
