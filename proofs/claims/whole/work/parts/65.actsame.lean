/-! the acts -/
theorem zcs00 (K self : Int) (f : Nat) (x : Int) (M : zMm) : zcF K self (f + 1) 0 0 x M = (zw (x + self), (ztr M 1)) := by
  show (if zfk 0 8 0 < 0 then (0, M) else zcP (zcF K self f) K self (zbod (zfk 0 8 0 * 4 + 0)) (zabv (zfk 0 8 0)) x (ztr M (zbod (zfk 0 8 0 * 4 + 0)))) = _
  rw [show zfk 0 8 0 = 0 by decide, if_neg (by decide), show zbod (0 * 4 + 0) = 1 by decide, show zabv 0 = -1 by decide]
  rfl
theorem zcs01 (K self : Int) (f : Nat) (x : Int) (M : zMm) : zcF K self (f + 1) 0 1 x M = (zw ((zcF K self f K 0 x (ztr M 10)).1 * 2), (zcF K self f K 0 x (ztr M 10)).2) := by
  show (if zfk 1 8 0 < 0 then (0, M) else zcP (zcF K self f) K self (zbod (zfk 1 8 0 * 4 + 1)) (zabv (zfk 1 8 0)) x (ztr M (zbod (zfk 1 8 0 * 4 + 1)))) = _
  rw [show zfk 1 8 0 = 0 by decide, if_neg (by decide), show zbod (0 * 4 + 1) = 10 by decide, show zabv 0 = -1 by decide]
  rfl
theorem zcs02 (K self : Int) (f : Nat) (x : Int) (M : zMm) : zcF K self (f + 1) 0 2 x M = (zxor x self, (ztr M 11)) := by
  show (if zfk 2 8 0 < 0 then (0, M) else zcP (zcF K self f) K self (zbod (zfk 2 8 0 * 4 + 2)) (zabv (zfk 2 8 0)) x (ztr M (zbod (zfk 2 8 0 * 4 + 2)))) = _
  rw [show zfk 2 8 0 = 0 by decide, if_neg (by decide), show zbod (0 * 4 + 2) = 11 by decide, show zabv 0 = -1 by decide]
  rfl
theorem zcs03 (K self : Int) (f : Nat) (x : Int) (M : zMm) : zcF K self (f + 1) 0 3 x M = (zw ((zcF K self f K 1 x (ztr M 2)).1 - (zcF K self f K 2 1 (zcF K self f K 1 x (ztr M 2)).2).1), (zcF K self f K 2 1 (zcF K self f K 1 x (ztr M 2)).2).2) := by
  show (if zfk 3 8 0 < 0 then (0, M) else zcP (zcF K self f) K self (zbod (zfk 3 8 0 * 4 + 3)) (zabv (zfk 3 8 0)) x (ztr M (zbod (zfk 3 8 0 * 4 + 3)))) = _
  rw [show zfk 3 8 0 = 0 by decide, if_neg (by decide), show zbod (0 * 4 + 3) = 2 by decide, show zabv 0 = -1 by decide]
  rfl
theorem zcs10 (K self : Int) (f : Nat) (x : Int) (M : zMm) : zcF K self (f + 1) 1 0 x M = (zw ((zcF K self f 0 0 x (ztr M 20)).1 + 3), (zcF K self f 0 0 x (ztr M 20)).2) := by
  show (if zfk 0 8 1 < 0 then (0, M) else zcP (zcF K self f) K self (zbod (zfk 0 8 1 * 4 + 0)) (zabv (zfk 0 8 1)) x (ztr M (zbod (zfk 0 8 1 * 4 + 0)))) = _
  rw [show zfk 0 8 1 = 1 by decide, if_neg (by decide), show zbod (1 * 4 + 0) = 20 by decide, show zabv 1 = 0 by decide]
  rfl
theorem zcs11 (K self : Int) (f : Nat) (x : Int) (M : zMm) : zcF K self (f + 1) 1 1 x M = (zw ((zcF K self f K 0 x (ztr M 10)).1 * 2), (zcF K self f K 0 x (ztr M 10)).2) := by
  show (if zfk 1 8 1 < 0 then (0, M) else zcP (zcF K self f) K self (zbod (zfk 1 8 1 * 4 + 1)) (zabv (zfk 1 8 1)) x (ztr M (zbod (zfk 1 8 1 * 4 + 1)))) = _
  rw [show zfk 1 8 1 = 0 by decide, if_neg (by decide), show zbod (0 * 4 + 1) = 10 by decide, show zabv 0 = -1 by decide]
  rfl
theorem zcs12 (K self : Int) (f : Nat) (x : Int) (M : zMm) : zcF K self (f + 1) 1 2 x M = (zxor x self, (ztr M 11)) := by
  show (if zfk 2 8 1 < 0 then (0, M) else zcP (zcF K self f) K self (zbod (zfk 2 8 1 * 4 + 2)) (zabv (zfk 2 8 1)) x (ztr M (zbod (zfk 2 8 1 * 4 + 2)))) = _
  rw [show zfk 2 8 1 = 0 by decide, if_neg (by decide), show zbod (0 * 4 + 2) = 11 by decide, show zabv 0 = -1 by decide]
  rfl
theorem zcs13 (K self : Int) (f : Nat) (x : Int) (M : zMm) : zcF K self (f + 1) 1 3 x M = (zw ((zcF K self f K 1 x (ztr M 2)).1 - (zcF K self f K 2 1 (zcF K self f K 1 x (ztr M 2)).2).1), (zcF K self f K 2 1 (zcF K self f K 1 x (ztr M 2)).2).2) := by
  show (if zfk 3 8 1 < 0 then (0, M) else zcP (zcF K self f) K self (zbod (zfk 3 8 1 * 4 + 3)) (zabv (zfk 3 8 1)) x (ztr M (zbod (zfk 3 8 1 * 4 + 3)))) = _
  rw [show zfk 3 8 1 = 0 by decide, if_neg (by decide), show zbod (0 * 4 + 3) = 2 by decide, show zabv 0 = -1 by decide]
  rfl
theorem zcs20 (K self : Int) (f : Nat) (x : Int) (M : zMm) : zcF K self (f + 1) 2 0 x M = (zw (x + self), (ztr M 1)) := by
  show (if zfk 0 8 2 < 0 then (0, M) else zcP (zcF K self f) K self (zbod (zfk 0 8 2 * 4 + 0)) (zabv (zfk 0 8 2)) x (ztr M (zbod (zfk 0 8 2 * 4 + 0)))) = _
  rw [show zfk 0 8 2 = 0 by decide, if_neg (by decide), show zbod (0 * 4 + 0) = 1 by decide, show zabv 0 = -1 by decide]
  rfl
theorem zcs21 (K self : Int) (f : Nat) (x : Int) (M : zMm) : zcF K self (f + 1) 2 1 x M = (zw (-(zcF K self f 0 1 x (ztr M 30)).1), (zcF K self f 0 1 x (ztr M 30)).2) := by
  show (if zfk 1 8 2 < 0 then (0, M) else zcP (zcF K self f) K self (zbod (zfk 1 8 2 * 4 + 1)) (zabv (zfk 1 8 2)) x (ztr M (zbod (zfk 1 8 2 * 4 + 1)))) = _
  rw [show zfk 1 8 2 = 2 by decide, if_neg (by decide), show zbod (2 * 4 + 1) = 30 by decide, show zabv 2 = 0 by decide]
  rfl
theorem zcs22 (K self : Int) (f : Nat) (x : Int) (M : zMm) : zcF K self (f + 1) 2 2 x M = (zxor x self, (ztr M 11)) := by
  show (if zfk 2 8 2 < 0 then (0, M) else zcP (zcF K self f) K self (zbod (zfk 2 8 2 * 4 + 2)) (zabv (zfk 2 8 2)) x (ztr M (zbod (zfk 2 8 2 * 4 + 2)))) = _
  rw [show zfk 2 8 2 = 0 by decide, if_neg (by decide), show zbod (0 * 4 + 2) = 11 by decide, show zabv 0 = -1 by decide]
  rfl
theorem zcs23 (K self : Int) (f : Nat) (x : Int) (M : zMm) : zcF K self (f + 1) 2 3 x M = (zw ((zcF K self f K 1 x (ztr M 2)).1 - (zcF K self f K 2 1 (zcF K self f K 1 x (ztr M 2)).2).1), (zcF K self f K 2 1 (zcF K self f K 1 x (ztr M 2)).2).2) := by
  show (if zfk 3 8 2 < 0 then (0, M) else zcP (zcF K self f) K self (zbod (zfk 3 8 2 * 4 + 3)) (zabv (zfk 3 8 2)) x (ztr M (zbod (zfk 3 8 2 * 4 + 3)))) = _
  rw [show zfk 3 8 2 = 0 by decide, if_neg (by decide), show zbod (0 * 4 + 3) = 2 by decide, show zabv 0 = -1 by decide]
  rfl
theorem zcs30 (K self : Int) (f : Nat) (x : Int) (M : zMm) : zcF K self (f + 1) 3 0 x M = (zw (x + self), (ztr M 1)) := by
  show (if zfk 0 8 3 < 0 then (0, M) else zcP (zcF K self f) K self (zbod (zfk 0 8 3 * 4 + 0)) (zabv (zfk 0 8 3)) x (ztr M (zbod (zfk 0 8 3 * 4 + 0)))) = _
  rw [show zfk 0 8 3 = 0 by decide, if_neg (by decide), show zbod (0 * 4 + 0) = 1 by decide, show zabv 0 = -1 by decide]
  rfl
theorem zcs31 (K self : Int) (f : Nat) (x : Int) (M : zMm) : zcF K self (f + 1) 3 1 x M = zcF K self f 2 1 (zw (x + 1)) (ztr M 41) := by
  show (if zfk 1 8 3 < 0 then (0, M) else zcP (zcF K self f) K self (zbod (zfk 1 8 3 * 4 + 1)) (zabv (zfk 1 8 3)) x (ztr M (zbod (zfk 1 8 3 * 4 + 1)))) = _
  rw [show zfk 1 8 3 = 3 by decide, if_neg (by decide), show zbod (3 * 4 + 1) = 41 by decide, show zabv 3 = 2 by decide]
  rfl
theorem zcs32 (K self : Int) (f : Nat) (x : Int) (M : zMm) : zcF K self (f + 1) 3 2 x M = (zw ((zcF K self f 2 2 x (ztr M 40)).1 * 3), (zcF K self f 2 2 x (ztr M 40)).2) := by
  show (if zfk 2 8 3 < 0 then (0, M) else zcP (zcF K self f) K self (zbod (zfk 2 8 3 * 4 + 2)) (zabv (zfk 2 8 3)) x (ztr M (zbod (zfk 2 8 3 * 4 + 2)))) = _
  rw [show zfk 2 8 3 = 3 by decide, if_neg (by decide), show zbod (3 * 4 + 2) = 40 by decide, show zabv 3 = 2 by decide]
  rfl
theorem zcs33 (K self : Int) (f : Nat) (x : Int) (M : zMm) : zcF K self (f + 1) 3 3 x M = (zw ((zcF K self f K 1 x (ztr M 2)).1 - (zcF K self f K 2 1 (zcF K self f K 1 x (ztr M 2)).2).1), (zcF K self f K 2 1 (zcF K self f K 1 x (ztr M 2)).2).2) := by
  show (if zfk 3 8 3 < 0 then (0, M) else zcP (zcF K self f) K self (zbod (zfk 3 8 3 * 4 + 3)) (zabv (zfk 3 8 3)) x (ztr M (zbod (zfk 3 8 3 * 4 + 3)))) = _
  rw [show zfk 3 8 3 = 0 by decide, if_neg (by decide), show zbod (0 * 4 + 3) = 2 by decide, show zabv 0 = -1 by decide]
  rfl
theorem zcs40 (K self : Int) (f : Nat) (x : Int) (M : zMm) : zcF K self (f + 1) 4 0 x M = (zw ((zcF K self f 0 0 x (ztr M 20)).1 + 3), (zcF K self f 0 0 x (ztr M 20)).2) := by
  show (if zfk 0 8 4 < 0 then (0, M) else zcP (zcF K self f) K self (zbod (zfk 0 8 4 * 4 + 0)) (zabv (zfk 0 8 4)) x (ztr M (zbod (zfk 0 8 4 * 4 + 0)))) = _
  rw [show zfk 0 8 4 = 1 by decide, if_neg (by decide), show zbod (1 * 4 + 0) = 20 by decide, show zabv 1 = 0 by decide]
  rfl
theorem zcs41 (K self : Int) (f : Nat) (x : Int) (M : zMm) : zcF K self (f + 1) 4 1 x M = (zw ((zcF K self f K 0 x (ztr M 10)).1 * 2), (zcF K self f K 0 x (ztr M 10)).2) := by
  show (if zfk 1 8 4 < 0 then (0, M) else zcP (zcF K self f) K self (zbod (zfk 1 8 4 * 4 + 1)) (zabv (zfk 1 8 4)) x (ztr M (zbod (zfk 1 8 4 * 4 + 1)))) = _
  rw [show zfk 1 8 4 = 0 by decide, if_neg (by decide), show zbod (0 * 4 + 1) = 10 by decide, show zabv 0 = -1 by decide]
  rfl
theorem zcs42 (K self : Int) (f : Nat) (x : Int) (M : zMm) : zcF K self (f + 1) 4 2 x M = (zw ((zcF K self f 1 2 x (ztr M 50)).1 - (zcF K self f K 0 2 (zcF K self f 1 2 x (ztr M 50)).2).1), (zcF K self f K 0 2 (zcF K self f 1 2 x (ztr M 50)).2).2) := by
  show (if zfk 2 8 4 < 0 then (0, M) else zcP (zcF K self f) K self (zbod (zfk 2 8 4 * 4 + 2)) (zabv (zfk 2 8 4)) x (ztr M (zbod (zfk 2 8 4 * 4 + 2)))) = _
  rw [show zfk 2 8 4 = 4 by decide, if_neg (by decide), show zbod (4 * 4 + 2) = 50 by decide, show zabv 4 = 1 by decide]
  rfl
theorem zcs43 (K self : Int) (f : Nat) (x : Int) (M : zMm) : zcF K self (f + 1) 4 3 x M = (zw ((zcF K self f K 1 x (ztr M 2)).1 - (zcF K self f K 2 1 (zcF K self f K 1 x (ztr M 2)).2).1), (zcF K self f K 2 1 (zcF K self f K 1 x (ztr M 2)).2).2) := by
  show (if zfk 3 8 4 < 0 then (0, M) else zcP (zcF K self f) K self (zbod (zfk 3 8 4 * 4 + 3)) (zabv (zfk 3 8 4)) x (ztr M (zbod (zfk 3 8 4 * 4 + 3)))) = _
  rw [show zfk 3 8 4 = 0 by decide, if_neg (by decide), show zbod (0 * 4 + 3) = 2 by decide, show zabv 0 = -1 by decide]
  rfl
theorem zcs50 (K self : Int) (f : Nat) (x : Int) (M : zMm) : zcF K self (f + 1) 5 0 x M = (zw (x + self), (ztr M 1)) := by
  show (if zfk 0 8 5 < 0 then (0, M) else zcP (zcF K self f) K self (zbod (zfk 0 8 5 * 4 + 0)) (zabv (zfk 0 8 5)) x (ztr M (zbod (zfk 0 8 5 * 4 + 0)))) = _
  rw [show zfk 0 8 5 = 0 by decide, if_neg (by decide), show zbod (0 * 4 + 0) = 1 by decide, show zabv 0 = -1 by decide]
  rfl
theorem zcs51 (K self : Int) (f : Nat) (x : Int) (M : zMm) : zcF K self (f + 1) 5 1 x M = zcF K self f 2 1 (zw (x + 1)) (ztr M 41) := by
  show (if zfk 1 8 5 < 0 then (0, M) else zcP (zcF K self f) K self (zbod (zfk 1 8 5 * 4 + 1)) (zabv (zfk 1 8 5)) x (ztr M (zbod (zfk 1 8 5 * 4 + 1)))) = _
  rw [show zfk 1 8 5 = 3 by decide, if_neg (by decide), show zbod (3 * 4 + 1) = 41 by decide, show zabv 3 = 2 by decide]
  rfl
theorem zcs52 (K self : Int) (f : Nat) (x : Int) (M : zMm) : zcF K self (f + 1) 5 2 x M = (zw ((zcF K self f 2 2 x (ztr M 40)).1 * 3), (zcF K self f 2 2 x (ztr M 40)).2) := by
  show (if zfk 2 8 5 < 0 then (0, M) else zcP (zcF K self f) K self (zbod (zfk 2 8 5 * 4 + 2)) (zabv (zfk 2 8 5)) x (ztr M (zbod (zfk 2 8 5 * 4 + 2)))) = _
  rw [show zfk 2 8 5 = 3 by decide, if_neg (by decide), show zbod (3 * 4 + 2) = 40 by decide, show zabv 3 = 2 by decide]
  rfl
theorem zcs53 (K self : Int) (f : Nat) (x : Int) (M : zMm) : zcF K self (f + 1) 5 3 x M = (zxor (zcF K self f 3 3 x (ztr M 60)).1 5, (zcF K self f 3 3 x (ztr M 60)).2) := by
  show (if zfk 3 8 5 < 0 then (0, M) else zcP (zcF K self f) K self (zbod (zfk 3 8 5 * 4 + 3)) (zabv (zfk 3 8 5)) x (ztr M (zbod (zfk 3 8 5 * 4 + 3)))) = _
  rw [show zfk 3 8 5 = 5 by decide, if_neg (by decide), show zbod (5 * 4 + 3) = 60 by decide, show zabv 5 = 3 by decide]
  rfl
theorem zcs60 (K self : Int) (f : Nat) (x : Int) (M : zMm) : zcF K self (f + 1) 6 0 x M = (zw ((zcF K self f 0 0 x (ztr M 70)).1 * 2), (zcF K self f 0 0 x (ztr M 70)).2) := by
  show (if zfk 0 8 6 < 0 then (0, M) else zcP (zcF K self f) K self (zbod (zfk 0 8 6 * 4 + 0)) (zabv (zfk 0 8 6)) x (ztr M (zbod (zfk 0 8 6 * 4 + 0)))) = _
  rw [show zfk 0 8 6 = 6 by decide, if_neg (by decide), show zbod (6 * 4 + 0) = 70 by decide, show zabv 6 = 0 by decide]
  rfl
theorem zcs61 (K self : Int) (f : Nat) (x : Int) (M : zMm) : zcF K self (f + 1) 6 1 x M = (zw ((zcF K self f K 0 x (ztr M 10)).1 * 2), (zcF K self f K 0 x (ztr M 10)).2) := by
  show (if zfk 1 8 6 < 0 then (0, M) else zcP (zcF K self f) K self (zbod (zfk 1 8 6 * 4 + 1)) (zabv (zfk 1 8 6)) x (ztr M (zbod (zfk 1 8 6 * 4 + 1)))) = _
  rw [show zfk 1 8 6 = 0 by decide, if_neg (by decide), show zbod (0 * 4 + 1) = 10 by decide, show zabv 0 = -1 by decide]
  rfl
theorem zcs62 (K self : Int) (f : Nat) (x : Int) (M : zMm) : zcF K self (f + 1) 6 2 x M = (zxor x self, (ztr M 11)) := by
  show (if zfk 2 8 6 < 0 then (0, M) else zcP (zcF K self f) K self (zbod (zfk 2 8 6 * 4 + 2)) (zabv (zfk 2 8 6)) x (ztr M (zbod (zfk 2 8 6 * 4 + 2)))) = _
  rw [show zfk 2 8 6 = 0 by decide, if_neg (by decide), show zbod (0 * 4 + 2) = 11 by decide, show zabv 0 = -1 by decide]
  rfl
theorem zcs63 (K self : Int) (f : Nat) (x : Int) (M : zMm) : zcF K self (f + 1) 6 3 x M = (zw ((zcF K self f K 1 x (ztr M 2)).1 - (zcF K self f K 2 1 (zcF K self f K 1 x (ztr M 2)).2).1), (zcF K self f K 2 1 (zcF K self f K 1 x (ztr M 2)).2).2) := by
  show (if zfk 3 8 6 < 0 then (0, M) else zcP (zcF K self f) K self (zbod (zfk 3 8 6 * 4 + 3)) (zabv (zfk 3 8 6)) x (ztr M (zbod (zfk 3 8 6 * 4 + 3)))) = _
  rw [show zfk 3 8 6 = 0 by decide, if_neg (by decide), show zbod (0 * 4 + 3) = 2 by decide, show zabv 0 = -1 by decide]
  rfl
theorem zcs70 (K self : Int) (f : Nat) (x : Int) (M : zMm) : zcF K self (f + 1) 7 0 x M = (zw ((zcF K self f 0 0 x (ztr M 20)).1 + 3), (zcF K self f 0 0 x (ztr M 20)).2) := by
  show (if zfk 0 8 7 < 0 then (0, M) else zcP (zcF K self f) K self (zbod (zfk 0 8 7 * 4 + 0)) (zabv (zfk 0 8 7)) x (ztr M (zbod (zfk 0 8 7 * 4 + 0)))) = _
  rw [show zfk 0 8 7 = 1 by decide, if_neg (by decide), show zbod (1 * 4 + 0) = 20 by decide, show zabv 1 = 0 by decide]
  rfl
theorem zcs71 (K self : Int) (f : Nat) (x : Int) (M : zMm) : zcF K self (f + 1) 7 1 x M = (zw ((zcF K self f 4 1 x (ztr M 80)).1 + (zcF K self f K 2 2 (zcF K self f 4 1 x (ztr M 80)).2).1), (zcF K self f K 2 2 (zcF K self f 4 1 x (ztr M 80)).2).2) := by
  show (if zfk 1 8 7 < 0 then (0, M) else zcP (zcF K self f) K self (zbod (zfk 1 8 7 * 4 + 1)) (zabv (zfk 1 8 7)) x (ztr M (zbod (zfk 1 8 7 * 4 + 1)))) = _
  rw [show zfk 1 8 7 = 7 by decide, if_neg (by decide), show zbod (7 * 4 + 1) = 80 by decide, show zabv 7 = 4 by decide]
  rfl
theorem zcs72 (K self : Int) (f : Nat) (x : Int) (M : zMm) : zcF K self (f + 1) 7 2 x M = (zw ((zcF K self f 1 2 x (ztr M 50)).1 - (zcF K self f K 0 2 (zcF K self f 1 2 x (ztr M 50)).2).1), (zcF K self f K 0 2 (zcF K self f 1 2 x (ztr M 50)).2).2) := by
  show (if zfk 2 8 7 < 0 then (0, M) else zcP (zcF K self f) K self (zbod (zfk 2 8 7 * 4 + 2)) (zabv (zfk 2 8 7)) x (ztr M (zbod (zfk 2 8 7 * 4 + 2)))) = _
  rw [show zfk 2 8 7 = 4 by decide, if_neg (by decide), show zbod (4 * 4 + 2) = 50 by decide, show zabv 4 = 1 by decide]
  rfl
theorem zcs73 (K self : Int) (f : Nat) (x : Int) (M : zMm) : zcF K self (f + 1) 7 3 x M = (zw ((zcF K self f 4 3 x (ztr M 81)).1 - 1), (zcF K self f 4 3 x (ztr M 81)).2) := by
  show (if zfk 3 8 7 < 0 then (0, M) else zcP (zcF K self f) K self (zbod (zfk 3 8 7 * 4 + 3)) (zabv (zfk 3 8 7)) x (ztr M (zbod (zfk 3 8 7 * 4 + 3)))) = _
  rw [show zfk 3 8 7 = 7 by decide, if_neg (by decide), show zbod (7 * 4 + 3) = 81 by decide, show zabv 7 = 4 by decide]
  rfl
theorem zcF_t {K act : Int} (hK : 0 ≤ K ∧ K < 8) (ha : 0 ≤ act ∧ act < 4) (self x : Int) (M : zMm) : zcF K self 10 K act x M = (zact K self act x, (zactT K act).foldl ztr M) := by
  have tK : K = 0 ∨ K = 1 ∨ K = 2 ∨ K = 3 ∨ K = 4 ∨ K = 5 ∨ K = 6 ∨ K = 7 := by omega
  have ta : act = 0 ∨ act = 1 ∨ act = 2 ∨ act = 3 := by omega
  rcases tK with rfl | rfl | rfl | rfl | rfl | rfl | rfl | rfl <;> rcases ta with rfl | rfl | rfl | rfl <;> simp [zcs00, zcs01, zcs02, zcs03, zcs10, zcs11, zcs12, zcs13, zcs20, zcs21, zcs22, zcs23, zcs30, zcs31, zcs32, zcs33, zcs40, zcs41, zcs42, zcs43, zcs50, zcs51, zcs52, zcs53, zcs60, zcs61, zcs62, zcs63, zcs70, zcs71, zcs72, zcs73, zact, zactT, zaw, zaw0, zawT, zap, zapT, zal0, zal0T, zal2, zal2T, zal, zalT, zat0, zat0T, ztl, ztlT]
theorem zactT_n : ∀ K : Fin 8, ∀ a : Fin 4, (zactT (K.val : Int) (a.val : Int)).length ≤ 20 := by decide +kernel
/-- the traces side by side -/
def zTc (P N : zMm) : Prop := 0 ≤ P 42 3 ∧ N 56 37 = P 42 3 ∧ ∀ i : Int, 0 ≤ i → i < 24 → i < P 42 3 → N 79 i = P 44 i
theorem zTc.go {P N : zMm} (h : zTc P N) (b : Int) : zTc (ztr P b) (ztrR N b) := by
  obtain ⟨h0, h1, h2⟩ := h
  have e1 : ztr P b 42 3 = P 42 3 + 1 := by unfold ztr; rw [zup_self]
  have e2 : ztrR N b 56 37 = P 42 3 + 1 := by unfold ztrR; rw [zup_self, h1]
  refine ⟨by omega, by rw [e1, e2], fun i i0 i1 i2 => ?_⟩
  rw [e1] at i2
  unfold ztr ztrR
  rw [zup_row (by decide), zup_row (by decide), h1]
  by_cases c : P 42 3 < 24
  · rw [if_pos c, if_pos c]
    by_cases e : i = P 42 3
    · rw [e, zup_self, zup_self]
    · rw [zup_ne e, zup_ne e]; exact h2 i i0 i1 (by omega)
  · rw [if_neg c, if_neg c]; exact h2 i i0 i1 (by omega)
theorem zTc.all : ∀ (l : List Int) {P N : zMm}, zTc P N → zTc (l.foldl ztr P) (zla l N) := by
  intro l
  induction l with
  | nil => intro P N h; exact h
  | cons b l ih => intro P N h; exact ih (h.go b)
theorem ztr_all : ∀ (l : List Int) (P : zMm), (∀ c : Int, c ≠ 42 → c ≠ 44 → l.foldl ztr P c = P c) ∧ (∀ j : Int, j ≠ 3 → l.foldl ztr P 42 j = P 42 j) ∧ l.foldl ztr P 42 3 = P 42 3 + l.length := by
  intro l
  induction l with
  | nil => intro P; exact ⟨fun _ _ _ => rfl, fun _ _ => rfl, by simp⟩
  | cons b l ih =>
    intro P
    have i := ih (ztr P b)
    have r : ∀ c : Int, c ≠ 42 → c ≠ 44 → ztr P b c = P c := fun c c1 c2 => by
      unfold ztr; rw [zup_row c1]; split
      · exact zup_row c2
      · rfl
    have r2 : ∀ j : Int, j ≠ 3 → ztr P b 42 j = P 42 j := fun j hj => by
      unfold ztr; rw [zup_42 hj]; split
      · rw [zup_row (by decide)]
      · rfl
    have r3 : ztr P b 42 3 = P 42 3 + 1 := by unfold ztr; rw [zup_self]
    refine ⟨fun c a d => (i.1 c a d).trans (r c a d), fun j hj => (i.2.1 j hj).trans (r2 j hj), ?_⟩
    show (l.foldl ztr (ztr P b)) 42 3 = _
    rw [i.2.2, r3, List.length_cons]
    omega
theorem ztrR_all : ∀ (l : List Int) (N : zMm), (∀ c : Int, c ≠ 56 → c ≠ 79 → zla l N c = N c) ∧ (∀ j : Int, j ≠ 37 → zla l N 56 j = N 56 j) := by
  intro l
  induction l with
  | nil => intro N; exact ⟨fun _ _ _ => rfl, fun _ _ => rfl⟩
  | cons b l ih =>
    intro N
    have i := ih (ztrR N b)
    have r : ∀ c : Int, c ≠ 56 → c ≠ 79 → ztrR N b c = N c := fun c c1 c2 => by
      unfold ztrR; rw [zup_row c1]; split
      · exact zup_row c2
      · rfl
    have r2 : ∀ j : Int, j ≠ 37 → ztrR N b 56 j = N 56 j := fun j hj => by
      unfold ztrR; rw [zup_ne hj]; split
      · rw [zup_row (by decide)]
      · rfl
    exact ⟨fun c a d => (i.1 c a d).trans (r c a d), fun j hj => (i.2 j hj).trans (r2 j hj)⟩
/-- the bodies after a call that only traces -/
theorem zI.act {M M2 : zMm} (hI : zI M) (fr : ∀ c : Int, c ∉ ([56, 42, 44, 79] : List Int) → M2 c = M c) (f56 : ∀ j : Int, j ∉ ([37, 38, 39] : List Int) → M2 56 j = M 56 j) (f42 : ∀ j : Int, j ≠ 3 → j ≠ 4 → M2 42 j = M 42 j) (n : M2 42 3 ≤ 1000000) (t : zTc M2 M2) : zI M2 := by
  have ib := hI.2.2.2.2.2.2.2.1
  have ik := hI.2.2.2.2.2.2.2.2.2
  obtain ⟨t1, t2, t3, t4, t5, t6⟩ := ib
  refine hI.go (L := [42, 44, 79]) (J := [37, 38, 39]) fr f56 (ub := Or.inr ⟨⟨?_, ⟨t.1, n⟩, ?_⟩, ⟨?_, ?_, ?_⟩, ?_, t.2.1, ?_, t.2.2⟩) (uk := Or.inr fun s s0 s1 s2 => ?_)
  · rw [f42 1 (by decide) (by decide)]; exact t1.1
  · rw [fr 43 (by decide)]; exact t1.2.2
  · rw [f56 34 (by decide)]; exact t2.1
  · rw [t.2.1]; exact ⟨t.1, n⟩
  · rw [fr 78 (by decide)]; exact t2.2.2
  · rw [f56 34 (by decide), f42 1 (by decide) (by decide)]; exact t3
  · rw [fr 78 (by decide), fr 43 (by decide)]; exact t5
  · rw [fr 46 (by decide)] at s2
    rw [fr 47 (by decide), f42 1 (by decide) (by decide)]; exact ik s s0 s1 s2
set_option maxHeartbeats 4000000 in
theorem zK_act {M : zMm} (hI : zI M) (b : Int) (a : Int) (x : Int) : zW mX9_act 33 (fun rv S' M1 => S' = zS0 ∧ ∃ r : Int, rv = some (.inl r) ∧ zW mX10_act 9 (fun rv2 S2 M2 => S2 = zS0 ∧ rv2 = some (.inl r) ∧ zI M2) (0, 0) zS0 0 (zargs 0 [.inr (.inr 56), .inl b, .inl a, .inl x]) [] M1) (0, 0) zS0 0 (zargs 0 [.inr (.inr 0), .inl b, .inl a, .inl x]) [] M := by
  have ix := hI.1
  have ic := hI.2.1
  have ih := hI.2.2.1
  have it := hI.2.2.2.1
  have il := hI.2.2.2.2.1
  have iw := hI.2.2.2.2.2.1
  have ii := hI.2.2.2.2.2.2.1
  have ib := hI.2.2.2.2.2.2.2.1
  have is := hI.2.2.2.2.2.2.2.2.1
  have ik := hI.2.2.2.2.2.2.2.2.2
  refine zW_mono (cX9_act ix.1 ib.1 ix.2.1 b a x) fun rv S M1 h => ?_
  obtain ⟨rfl, h⟩ := h
  have e34 := ib.2.2.1
  rcases h with ⟨c, rfl, e1⟩ | ⟨c, rfl, e1⟩
  · have kc : zKc M M1 := zKc.of fun c hc => by rw [e1, zup_row (by omega)]
    have e56 : M1 56 = M 56 := kc.1 56 (by decide)
    refine ⟨rfl, _, rfl, zW_mono (cX10_act (kc.P ix.1) (kc.cr ib.2.1) b a x) fun rv S M2 h => ?_⟩
    obtain ⟨rfl, h⟩ := h
    rw [e56, e34] at h
    rcases h with ⟨d, rfl, e2⟩ | ⟨d, d2, rfl, e2⟩ | ⟨d, _⟩
    · subst e1; subst e2
      refine ⟨rfl, rfl, hI.act (fun c hc => by simp only [List.mem_cons, List.not_mem_nil, not_or, or_false, not_false_eq_true, and_true, true_and] at hc; repeat (rw [zup_row (by omega)])) (fun j hc => by simp only [List.mem_cons, List.not_mem_nil, not_or, or_false, not_false_eq_true, and_true, true_and] at hc; repeat (first | rw [zup_row (by decide)] | rw [zup_ne (by omega)])) (fun j j3 j4 => ?_) ?_ ⟨?_, ?_, fun i i0 i1 i2 => ?_⟩⟩
      · rw [zup_row (by decide), zup_ne j3]
      · rw [zup_row (by decide), zup_self]; decide
      · rw [zup_row (by decide), zup_self]; exact Int.le_refl 0
      · rw [zup_self, zup_row (by decide), zup_self]
      · rw [zup_row (by decide), zup_self] at i2; omega
    · subst e1; subst e2
      unfold zacM
      refine ⟨rfl, rfl, hI.act (fun c hc => by simp only [List.mem_cons, List.not_mem_nil, not_or, or_false, not_false_eq_true, and_true, true_and] at hc; repeat (rw [zup_row (by omega)])) (fun j hc => by simp only [List.mem_cons, List.not_mem_nil, not_or, or_false, not_false_eq_true, and_true, true_and] at hc; repeat (first | rw [zup_row (by decide)] | rw [zup_ne (by omega)])) (fun j j3 j4 => ?_) ?_ ⟨?_, ?_, fun i i0 i1 i2 => ?_⟩⟩
      · rw [zup_row (by decide), zup_row (by decide), zup_row (by decide), zup_ne j3]
      · rw [zup_row (by decide), zup_row (by decide), zup_row (by decide), zup_self]; decide
      · rw [zup_row (by decide), zup_row (by decide), zup_row (by decide), zup_self]; exact Int.le_refl 0
      · rw [zup_ne (by decide), zup_ne (by decide), zup_self, zup_row (by decide), zup_row (by decide), zup_row (by decide), zup_self]
      · rw [zup_row (by decide), zup_row (by decide), zup_row (by decide), zup_self] at i2; omega
    · exact absurd d c
  · have hk := ib.1.2.2 b c.1.1 (by have := ib.1.1.2; omega)
    have e78 : M 78 b = M 43 b := ib.2.2.2.2.1 b c.1.1 (by have := ib.1.1.2; omega)
    rw [zcF_t hk c.2] at e1 ⊢
    have a1 := ztr_all (zactT (M 43 b) a) (zrun0 M b)
    replace e1 : M1 = (zactT (M 43 b) a).foldl ztr (zrun0 M b) := e1
    have r0 : ∀ k : Int, k ≠ 42 → zrun0 M b k = M k := fun k hk => by unfold zrun0; rw [zup_row hk, zup_row hk]
    have kc : zKc M M1 := zKc.of fun k hk => by rw [e1, a1.1 k (by omega) (by omega), r0 k (by omega)]
    have e56 : M1 56 = M 56 := kc.1 56 (by decide)
    have e78b : M1 78 = M 78 := kc.1 78 (by decide)
    refine ⟨rfl, _, rfl, zW_mono (cX10_act (kc.P ix.1) (kc.cr ib.2.1) b a x) fun rv S M2 h => ?_⟩
    obtain ⟨rfl, h⟩ := h
    rw [e56, e34, e78b, e78] at h
    rcases h with ⟨d, _⟩ | ⟨_, d, _⟩ | ⟨_, rfl, e2⟩
    · exact absurd c.1 d
    · exact absurd c.2 d
    have a2 := ztrR_all (zactT (M 43 b) a) (zacM M1 b)
    rw [← e2] at a2
    have z0 : ∀ k : Int, k ≠ 56 → zacM M1 b k = M1 k := fun k hk => by unfold zacM; rw [zup_row hk, zup_row hk, zup_row hk]
    have zt : zTc (zrun0 M b) (zacM M1 b) := by
      have c0 : zrun0 M b 42 3 = 0 := by unfold zrun0; rw [zup_42 (by decide), zup_self]
      refine ⟨by omega, ?_, fun i i0 i1 i2 => by omega⟩
      rw [c0]; unfold zacM; rw [zup_ne (by decide), zup_ne (by decide), zup_self]
    have zt2 := zTc.all (zactT (M 43 b) a) zt
    rw [← e1, ← e2] at zt2
    have m42 : M2 42 = M1 42 := by rw [a2.1 42 (by decide) (by decide), z0 42 (by decide)]
    have m44 : M2 44 = M1 44 := by rw [a2.1 44 (by decide) (by decide), z0 44 (by decide)]
    have ln := zactT_n ⟨(M 43 b).toNat, by omega⟩ ⟨a.toNat, by omega⟩
    simp only [show (((M 43 b).toNat : Nat) : Int) = M 43 b by omega, show ((a.toNat : Nat) : Int) = a by omega] at ln
    have c3 : M1 42 3 = (zactT (M 43 b) a).length := by
      rw [e1, a1.2.2]; unfold zrun0; rw [zup_42 (by decide), zup_self]; omega
    refine ⟨rfl, rfl, hI.act (fun c hc => by simp only [List.mem_cons, List.not_mem_nil, not_or, or_false, not_false_eq_true, and_true, true_and] at hc; rw [a2.1 c (by omega) (by omega), z0 c (by omega), e1, a1.1 c (by omega) (by omega), r0 c (by omega)]) (fun j hc => by simp only [List.mem_cons, List.not_mem_nil, not_or, or_false, not_false_eq_true, and_true, true_and] at hc; rw [a2.2 j (by omega)]; unfold zacM; rw [zup_ne (by omega), zup_ne (by omega), zup_ne (by omega), e56]) (fun j j3 j4 => ?_) (by rw [m42, c3]; omega) ?_⟩
    · rw [m42, e1, a1.2.1 j j3]; unfold zrun0; rw [zup_42 j4, zup_42 j3]
    · unfold zTc at zt2 ⊢
      rw [m42, m44]; exact zt2
