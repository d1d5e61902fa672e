/-! the world behind both constructors, its references, some more rules -/
def zS0 : List zSh := [(13, 9), (5, 14), (0, 33), (0, 33), (0, 16), (0, 96), (0, 96), (0, 16), (0, 16), (0, 16), (0, 16), (0, 33), (0, 33), (0, 33), (8, 11), (0, 120), (0, 121), (0, 121), (0, 121), (0, 121), (0, 121), (12, 8), (0, 16), (0, 16), (0, 33), (0, 16), (0, 33), (9, 4), (0, 33), (0, 16), (0, 33), (11, 3), (0, 16), (0, 16), (6, 4), (0, 16), (0, 16), (7, 7), (0, 40), (0, 40), (0, 40), (0, 40), (4, 5), (0, 50), (0, 24), (10, 4), (0, 6), (0, 6), (0, 6), (3, 6), (2, 60), (2, 60), (2, 60), (2, 60), (2, 60), (2, 60), (14, 44), (0, 133), (0, 40), (0, 40), (0, 40), (0, 33), (0, 33), (0, 16), (1, 16), (0, 120), (0, 120), (0, 5), (0, 16), (0, 16), (0, 33), (0, 33), (0, 33), (0, 33), (0, 16), (0, 33), (0, 16), (1, 16), (0, 50), (0, 24), (0, 6), (0, 6), (2, 360), (2, 60)]
theorem shp0 : zS0[0]? = some (13, 9) := rfl
theorem shp1 : zS0[1]? = some (5, 14) := rfl
theorem shp2 : zS0[2]? = some (0, 33) := rfl
theorem shp3 : zS0[3]? = some (0, 33) := rfl
theorem shp4 : zS0[4]? = some (0, 16) := rfl
theorem shp5 : zS0[5]? = some (0, 96) := rfl
theorem shp6 : zS0[6]? = some (0, 96) := rfl
theorem shp7 : zS0[7]? = some (0, 16) := rfl
theorem shp8 : zS0[8]? = some (0, 16) := rfl
theorem shp9 : zS0[9]? = some (0, 16) := rfl
theorem shp10 : zS0[10]? = some (0, 16) := rfl
theorem shp11 : zS0[11]? = some (0, 33) := rfl
theorem shp12 : zS0[12]? = some (0, 33) := rfl
theorem shp13 : zS0[13]? = some (0, 33) := rfl
theorem shp14 : zS0[14]? = some (8, 11) := rfl
theorem shp15 : zS0[15]? = some (0, 120) := rfl
theorem shp16 : zS0[16]? = some (0, 121) := rfl
theorem shp17 : zS0[17]? = some (0, 121) := rfl
theorem shp18 : zS0[18]? = some (0, 121) := rfl
theorem shp19 : zS0[19]? = some (0, 121) := rfl
theorem shp20 : zS0[20]? = some (0, 121) := rfl
theorem shp21 : zS0[21]? = some (12, 8) := rfl
theorem shp22 : zS0[22]? = some (0, 16) := rfl
theorem shp23 : zS0[23]? = some (0, 16) := rfl
theorem shp24 : zS0[24]? = some (0, 33) := rfl
theorem shp25 : zS0[25]? = some (0, 16) := rfl
theorem shp26 : zS0[26]? = some (0, 33) := rfl
theorem shp27 : zS0[27]? = some (9, 4) := rfl
theorem shp28 : zS0[28]? = some (0, 33) := rfl
theorem shp29 : zS0[29]? = some (0, 16) := rfl
theorem shp30 : zS0[30]? = some (0, 33) := rfl
theorem shp31 : zS0[31]? = some (11, 3) := rfl
theorem shp32 : zS0[32]? = some (0, 16) := rfl
theorem shp33 : zS0[33]? = some (0, 16) := rfl
theorem shp34 : zS0[34]? = some (6, 4) := rfl
theorem shp35 : zS0[35]? = some (0, 16) := rfl
theorem shp36 : zS0[36]? = some (0, 16) := rfl
theorem shp37 : zS0[37]? = some (7, 7) := rfl
theorem shp38 : zS0[38]? = some (0, 40) := rfl
theorem shp39 : zS0[39]? = some (0, 40) := rfl
theorem shp40 : zS0[40]? = some (0, 40) := rfl
theorem shp41 : zS0[41]? = some (0, 40) := rfl
theorem shp42 : zS0[42]? = some (4, 5) := rfl
theorem shp43 : zS0[43]? = some (0, 50) := rfl
theorem shp44 : zS0[44]? = some (0, 24) := rfl
theorem shp45 : zS0[45]? = some (10, 4) := rfl
theorem shp46 : zS0[46]? = some (0, 6) := rfl
theorem shp47 : zS0[47]? = some (0, 6) := rfl
theorem shp48 : zS0[48]? = some (0, 6) := rfl
theorem shp49 : zS0[49]? = some (3, 6) := rfl
theorem shp50 : zS0[50]? = some (2, 60) := rfl
theorem shp51 : zS0[51]? = some (2, 60) := rfl
theorem shp52 : zS0[52]? = some (2, 60) := rfl
theorem shp53 : zS0[53]? = some (2, 60) := rfl
theorem shp54 : zS0[54]? = some (2, 60) := rfl
theorem shp55 : zS0[55]? = some (2, 60) := rfl
theorem shp56 : zS0[56]? = some (14, 44) := rfl
theorem shp57 : zS0[57]? = some (0, 133) := rfl
theorem shp58 : zS0[58]? = some (0, 40) := rfl
theorem shp59 : zS0[59]? = some (0, 40) := rfl
theorem shp60 : zS0[60]? = some (0, 40) := rfl
theorem shp61 : zS0[61]? = some (0, 33) := rfl
theorem shp62 : zS0[62]? = some (0, 33) := rfl
theorem shp63 : zS0[63]? = some (0, 16) := rfl
theorem shp64 : zS0[64]? = some (1, 16) := rfl
theorem shp65 : zS0[65]? = some (0, 120) := rfl
theorem shp66 : zS0[66]? = some (0, 120) := rfl
theorem shp67 : zS0[67]? = some (0, 5) := rfl
theorem shp68 : zS0[68]? = some (0, 16) := rfl
theorem shp69 : zS0[69]? = some (0, 16) := rfl
theorem shp70 : zS0[70]? = some (0, 33) := rfl
theorem shp71 : zS0[71]? = some (0, 33) := rfl
theorem shp72 : zS0[72]? = some (0, 33) := rfl
theorem shp73 : zS0[73]? = some (0, 33) := rfl
theorem shp74 : zS0[74]? = some (0, 16) := rfl
theorem shp75 : zS0[75]? = some (0, 33) := rfl
theorem shp76 : zS0[76]? = some (0, 16) := rfl
theorem shp77 : zS0[77]? = some (1, 16) := rfl
theorem shp78 : zS0[78]? = some (0, 50) := rfl
theorem shp79 : zS0[79]? = some (0, 24) := rfl
theorem shp80 : zS0[80]? = some (0, 6) := rfl
theorem shp81 : zS0[81]? = some (0, 6) := rfl
theorem shp82 : zS0[82]? = some (2, 360) := rfl
theorem shp83 : zS0[83]? = some (2, 60) := rfl
def ztab : List (Int × Int × Int) := [((-10), 0, 1), ((-10), 1, 14), ((-10), 2, 21), ((-10), 3, 27), ((-10), 4, 31), ((-10), 5, 34), ((-10), 6, 37), ((-10), 7, 42), ((-10), 8, 45), ((-11), 0, 2), ((-11), 1, 3), ((-11), 2, 4), ((-11), 3, 5), ((-11), 4, 6), ((-11), 5, 7), ((-11), 6, 8), ((-11), 7, 9), ((-11), 8, 10), ((-11), 9, 11), ((-11), 10, 12), ((-11), 11, 13), ((-24), 0, 15), ((-24), 10, 20), ((-31), 0, 1), ((-31), 1, 14), ((-31), 2, 22), ((-31), 3, 23), ((-31), 4, 24), ((-31), 5, 25), ((-31), 6, 26), ((-37), 0, 1), ((-37), 1, 28), ((-37), 2, 29), ((-37), 3, 30), ((-41), 0, 1), ((-41), 1, 32), ((-41), 2, 33), ((-44), 0, 1), ((-44), 1, 35), ((-44), 2, 36), ((-47), 0, 1), ((-47), 1, 38), ((-47), 2, 39), ((-47), 3, 40), ((-47), 4, 41), ((-52), 0, 43), ((-52), 2, 44), ((-55), 0, 46), ((-55), 1, 47), ((-55), 2, 48), ((-55), 3, 49), ((-59), 0, 50), ((-59), 1, 51), ((-59), 2, 52), ((-59), 3, 53), ((-59), 4, 54), ((-59), 5, 55), ((-66), 0, 57), ((-66), 1, 58), ((-66), 2, 59), ((-66), 3, 60), ((-66), 7, 61), ((-66), 8, 62), ((-66), 9, 63), ((-66), 10, 64), ((-66), 11, 65), ((-66), 13, 66), ((-66), 20, 67), ((-66), 21, 68), ((-66), 22, 69), ((-66), 23, 70), ((-66), 24, 71), ((-66), 26, 72), ((-66), 27, 73), ((-66), 28, 74), ((-66), 30, 75), ((-66), 32, 76), ((-66), 33, 77), ((-66), 35, 78), ((-66), 36, 79), ((-66), 40, 80), ((-66), 41, 81), ((-66), 42, 82), ((-66), 43, 83)]
def zP (M : zMm) : Prop := ∀ q ∈ ztab, M q.1 q.2.1 = q.2.2
theorem zPa {M : zMm} (h : zP M) (i : Nat) {a b c : Int} (hi : ztab[i]? = some (a, b, c)) : M a b = c := h (a, b, c) (List.mem_of_getElem? hi)
theorem ztab_neg : ∀ q ∈ ztab, q.1 < -5 := by decide +kernel
theorem zP_of {M M' : zMm} (h : zP M) (hn : ∀ r : Int, r < 0 → M' r = M r) : zP M' := fun q hq => by rw [hn q.1 (by have := ztab_neg q hq; omega)]; exact h q hq
theorem zP_up {M : zMm} {c k v : Int} (h : zP M) (hc : 0 ≤ c) : zP (zup M c k v) := zP_of h fun r hr => zup_row (by omega)
theorem zP_cpy {M : zMm} {r0 i r1 j n : Int} (h : zP M) (hc : 0 ≤ r1) : zP (zcpy M r0 i r1 j n) := zP_of h fun r hr => zcpy_row (by omega)
theorem zoi1 : Cond.instanceMethod objectInit ∈ lw_tbl := zt1 (List.mem_of_getElem? (i := 22) rfl)
theorem zoi2 : Cond.code objectInit ⟨#[0xb1]⟩ 1 none ∈ lw_tbl := zt1 (List.mem_of_getElem? (i := 23) rfl)
theorem zcp1 : Cond.native arraycopyName ∈ lw_tbl := zt2 (List.mem_of_getElem? (i := 165) rfl)
theorem zcp2 : Cond.static arraycopyName ∈ lw_tbl := zt2 (List.mem_of_getElem? (i := 164) rfl)
theorem zcp3 : Cond.initialized "java/lang/System" ∈ lw_tbl := zt1 (List.mem_of_getElem? (i := 13) rfl)
section
variable {y : zM} {d : Nat} {Q : zPost} {b : Nat × Nat} {S : List zSh} {pc : Nat} {L : List (Nat × zV)} {st : List zV} {M : zMm}
theorem zms_max : Cond.static Lib.Math.max.name ∈ lw_tbl := zt2 (List.mem_of_getElem? (i := 198) rfl)
theorem zmc_max : Cond.code Lib.Math.max.name Lib.Math.max.code 2 (some .int) ∈ lw_tbl := zt2 (List.mem_of_getElem? (i := 199) rfl)
theorem z_mmax {x x' : Int} {idx : Nat} (hd : decode y.2.1 pc = .ok (.invokestatic idx, 3)) (hlink : Cond.methodLink y.1.cls idx Lib.Math.max.name ∈ lw_tbl) (hd1 : 1 ≤ d) (hsum : (st.map fun v => if zcat2 v = true then 2 else 1).sum ≤ 8) (kk : zW y d Q b S (pc + 3) L (.inl (if x < x' then x' else x) :: st) M) : zW y d Q b S pc L (.inl x' :: .inl x :: st) M := by
  intro p l e R s m args below meth c D cA ad0 n0 Mn A Z hE hR ad H locs cells slots ls hW hL hs
  have k := kk p l e R s m args below meth c D cA ad0 n0 Mn A Z hE hR ad H locs cells slots ls hW hL (zc_cons (by split; exact zc_hd hs; exact zc_hd (zc_tl hs)) (zc_tl (zc_tl hs)))
  rw [List.map_cons, List.map_cons, zc_int, zc_int]
  have hf := hE.2.2.2.2.2.1
  have hlo := hE.2.2.2.2.2.2.1
  refine va_mmax hE.1 hE.2.1 (by rw [hE.2.2.1]; exact hL.1.1.symm) hE.2.2.2.1 (hE.2.2.2.2.1 _ (zT hlink rfl)) (hE.2.2.2.2.1 _ (zT zms_max rfl)) (hE.2.2.2.2.1 _ (zT zini_JMath rfl)) (hE.2.2.2.2.1 _ (zT zmc_max rfl)) (by omega) (by rw [zcat_sum]; omega) (by have := hW.2.2.2.2.2.2.1; omega) (by have := hW.2.2.2.2.2.2.2.1; omega) hd ?_
  have e1 : Value.int (if Int32.ofInt x < Int32.ofInt x' then Int32.ofInt x' else Int32.ofInt x) = zc ad (.inl (if x < x' then x' else x)) := by
    have hlt : Int32.ofInt x < Int32.ofInt x' ↔ x < x' := zi_lt (zc_hd (zc_tl hs)) (zc_hd hs)
    by_cases hc : x < x'
    · rw [if_pos hc, if_pos (hlt.mpr hc)]; rfl
    · rw [if_neg hc, if_neg (fun q => hc (hlt.mp q))]; rfl
  rw [e1]
  exact k
theorem zms_min : Cond.static Lib.Math.min.name ∈ lw_tbl := zt2 (List.mem_of_getElem? (i := 201) rfl)
theorem zmc_min : Cond.code Lib.Math.min.name Lib.Math.min.code 2 (some .int) ∈ lw_tbl := zt2 (List.mem_of_getElem? (i := 202) rfl)
theorem z_mmin {x x' : Int} {idx : Nat} (hd : decode y.2.1 pc = .ok (.invokestatic idx, 3)) (hlink : Cond.methodLink y.1.cls idx Lib.Math.min.name ∈ lw_tbl) (hd1 : 1 ≤ d) (hsum : (st.map fun v => if zcat2 v = true then 2 else 1).sum ≤ 8) (kk : zW y d Q b S (pc + 3) L (.inl (if x' < x then x' else x) :: st) M) : zW y d Q b S pc L (.inl x' :: .inl x :: st) M := by
  intro p l e R s m args below meth c D cA ad0 n0 Mn A Z hE hR ad H locs cells slots ls hW hL hs
  have k := kk p l e R s m args below meth c D cA ad0 n0 Mn A Z hE hR ad H locs cells slots ls hW hL (zc_cons (by split; exact zc_hd hs; exact zc_hd (zc_tl hs)) (zc_tl (zc_tl hs)))
  rw [List.map_cons, List.map_cons, zc_int, zc_int]
  have hf := hE.2.2.2.2.2.1
  have hlo := hE.2.2.2.2.2.2.1
  refine va_mmin hE.1 hE.2.1 (by rw [hE.2.2.1]; exact hL.1.1.symm) hE.2.2.2.1 (hE.2.2.2.2.1 _ (zT hlink rfl)) (hE.2.2.2.2.1 _ (zT zms_min rfl)) (hE.2.2.2.2.1 _ (zT zini_JMath rfl)) (hE.2.2.2.2.1 _ (zT zmc_min rfl)) (by omega) (by rw [zcat_sum]; omega) (by have := hW.2.2.2.2.2.2.1; omega) (by have := hW.2.2.2.2.2.2.2.1; omega) hd ?_
  have e1 : Value.int (if Int32.ofInt x' < Int32.ofInt x then Int32.ofInt x' else Int32.ofInt x) = zc ad (.inl (if x' < x then x' else x)) := by
    have hlt : Int32.ofInt x' < Int32.ofInt x ↔ x' < x := zi_lt (zc_hd hs) (zc_hd (zc_tl hs))
    by_cases hc : x' < x
    · rw [if_pos hc, if_pos (hlt.mpr hc)]; rfl
    · rw [if_neg hc, if_neg (fun q => hc (hlt.mp q))]; rfl
  rw [e1]
  exact k
theorem zms_abs : Cond.static Lib.Math.abs.name ∈ lw_tbl := zt1 (List.mem_of_getElem? (i := 38) rfl)
theorem zmc_abs : Cond.code Lib.Math.abs.name Lib.Math.abs.code 1 (some .int) ∈ lw_tbl := zt1 (List.mem_of_getElem? (i := 39) rfl)
theorem z_mabs {x : Int} {idx : Nat} (hd : decode y.2.1 pc = .ok (.invokestatic idx, 3)) (hlink : Cond.methodLink y.1.cls idx Lib.Math.abs.name ∈ lw_tbl) (hd1 : 1 ≤ d) (hsum : (st.map fun v => if zcat2 v = true then 2 else 1).sum ≤ 8) (hr : -2147483648 < x) (kk : zW y d Q b S (pc + 3) L (.inl (if 0 ≤ x then x else -x) :: st) M) : zW y d Q b S pc L (.inl x :: st) M := by
  intro p l e R s m args below meth c D cA ad0 n0 Mn A Z hE hR ad H locs cells slots ls hW hL hs
  have h32 : z32 x := zc_hd hs
  have k := kk p l e R s m args below meth c D cA ad0 n0 Mn A Z hE hR ad H locs cells slots ls hW hL (zc_cons (by show z32 _; unfold z32 at *; split <;> omega) (zc_tl hs))
  rw [List.map_cons, zc_int]
  have hf := hE.2.2.2.2.2.1
  have hlo := hE.2.2.2.2.2.2.1
  refine va_mabs hE.1 hE.2.1 (by rw [hE.2.2.1]; exact hL.1.1.symm) hE.2.2.2.1 (hE.2.2.2.2.1 _ (zT hlink rfl)) (hE.2.2.2.2.1 _ (zT zms_abs rfl)) (hE.2.2.2.2.1 _ (zT zini_JMath rfl)) (hE.2.2.2.2.1 _ (zT zmc_abs rfl)) (by omega) (by rw [zcat_sum]; omega) (by have := hW.2.2.2.2.2.2.1; omega) (by have := hW.2.2.2.2.2.2.2.1; omega) hd ?_
  have e1 : Value.int (if 0 ≤ Int32.ofInt x then Int32.ofInt x else 0 - Int32.ofInt x) = zc ad (.inl (if 0 ≤ x then x else -x)) := by
    have hlt : (0 : Int32) ≤ Int32.ofInt x ↔ 0 ≤ x := by rw [show (0 : Int32) = Int32.ofInt 0 from rfl, zi_le (by unfold z32; omega) h32]
    by_cases hc : 0 ≤ x
    · rw [if_pos hc, if_pos (hlt.mpr hc)]; rfl
    · rw [if_neg hc, if_neg (fun q => hc (hlt.mp q))]
      show Value.int (0 - Int32.ofInt x) = Value.int (Int32.ofInt (-x))
      rw [show (0 : Int32) = Int32.ofInt 0 from rfl, ← Int32.ofInt_sub, Int.zero_sub]
  rw [e1]
  exact k
theorem z_idivp {x x' : Int} (hd : decode y.2.1 pc = .ok (.idiv, 1)) (hx : 0 ≤ x) (hx' : 0 < x') (kk : zW y d Q b S (pc + 1) L (.inl (x / x') :: st) M) : zW y d Q b S pc L (.inl x' :: .inl x :: st) M := by
  refine z_can fun _ _ hs => z_idivw hd (by omega) ?_
  have h32 : z32 x := zc_hd (zc_tl hs)
  have e1 : zw (x.tdiv x') = x / x' := by
    rw [Int.tdiv_eq_ediv_of_nonneg hx]
    have h1 : 0 ≤ x / x' := Int.ediv_nonneg hx (by omega)
    have h2 : x / x' ≤ x := Int.ediv_le_self x' hx
    exact zw_id (by unfold z32 at *; omega)
  rw [e1]
  exact kk
theorem z_iremp {x x' : Int} (hd : decode y.2.1 pc = .ok (.irem, 1)) (hx : 0 ≤ x) (hx' : 0 < x') (kk : zW y d Q b S (pc + 1) L (.inl (x % x') :: st) M) : zW y d Q b S pc L (.inl x' :: .inl x :: st) M := by
  refine z_can fun _ _ hs => z_iremw hd (by omega) ?_
  have h32 : z32 x' := zc_hd hs
  have e1 : zw (x.tmod x') = x % x' := by
    rw [Int.tmod_eq_emod_of_nonneg hx]
    have h1 : 0 ≤ x % x' := Int.emod_nonneg x (by omega)
    have h2 : x % x' < x' := Int.emod_lt_of_pos x hx'
    exact zw_id (by unfold z32 at *; omega)
  rw [e1]
  exact kk
end
