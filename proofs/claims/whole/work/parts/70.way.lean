/-! way -/
theorem zbit1n : ∀ h : Fin 16, ∀ X : BitVec 32, ((X.sshiftRight h.val &&& 1#32) = 1#32) ↔ X.getLsbD h.val = true := by
  intro h X
  have hl := h.isLt
  constructor
  · intro e
    have t := congrArg (fun v => v.getLsbD 0) e
    simp only [BitVec.getLsbD_and, BitVec.getLsbD_sshiftRight] at t
    simp at t
    rw [if_pos (by omega)] at t
    exact t
  · intro e
    apply BitVec.eq_of_getLsbD_eq
    intro i hi
    by_cases q : i = 0
    · subst q
      simp only [BitVec.getLsbD_and, BitVec.getLsbD_sshiftRight]
      simp [e]
      omega
    · simp only [BitVec.getLsbD_and, BitVec.getLsbD_one]
      simp [q]
theorem zsh_t : ∀ h : Fin 16, ∀ X : Int32, (X >>> (Int32.ofInt (h.val : Int) &&& 31)).toBitVec = X.toBitVec.sshiftRight h.val := by
  intro h X
  rw [Int32.toBitVec_shiftRight]
  have e : ((Int32.ofInt (h.val : Int) &&& 31).toBitVec.smod 32).toNat = h.val := by
    revert h
    decide +kernel
  show X.toBitVec.sshiftRight _ = _
  rw [e]
theorem zbit1 {r h : Int} (h0 : 0 ≤ h) (h1 : h < 16) : zand (zshr r h) 1 = 1 ↔ zbi r h.toNat = true := by
  have e := zsh_t ⟨h.toNat, by omega⟩ (Int32.ofInt r)
  simp only [show ((h.toNat : Nat) : Int) = h by omega] at e
  unfold zand zshr zbi
  rw [Int32.ofInt_toInt, show (1 : Int) = (Int32.ofInt 1).toInt by decide, Int32.ofInt_toInt, Int32.toInt_inj, ← Int32.toBitVec_inj, Int32.toBitVec_and, e]
  exact zbit1n ⟨h.toNat, by omega⟩ _
