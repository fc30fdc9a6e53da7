/-! The fields of a code. -/
theorem shr_32 (n : Nat) (h : n < 2147483648) : (yi_shr (n : Int) 4 = ((n / 16 : Nat) : Int)) ∧ (yi_shr (n : Int) 8 = ((n / 256 : Nat) : Int)) ∧ (yi_shr (n : Int) 12 = ((n / 4096 : Nat) : Int)) ∧ (yi_shr (n : Int) 16 = ((n / 65536 : Nat) : Int)) := by
  have key : ∀ (s : Int) (k : Nat), (BitVec.smod (Int32.ofInt s &&& 31).toBitVec 32).toNat = k → k < 32 → yi_shr (n : Int) s = ((n / 2 ^ k : Nat) : Int) := by
    intro s k hs hk
    show ((BitVec.ofInt 32 (n : Int)).sshiftRight (BitVec.smod (Int32.ofInt s &&& 31).toBitVec 32).toNat).toInt = _
    rw [hs, BitVec.toInt_sshiftRight, BitVec.toInt_ofInt, Int.shiftRight_eq_div_pow]
    have e : ((n : Int)).bmod (2 ^ 32) = (n : Int) := by
      rw [Int.bmod_def]
      split <;> omega
    rw [e]
    rfl
  exact ⟨key 4 4 (by decide) (by omega), key 8 8 (by decide) (by omega), key 12 12 (by decide) (by omega), key 16 16 (by decide) (by omega)⟩
theorem cd_get {x w a b c d : Nat} (h : cdF x w a b c d) : yi_iand (x : Int) 15 = (w : Int) ∧ yi_iand (yi_shr (x : Int) 4) 15 = (a : Int) ∧ yi_iand (yi_shr (x : Int) 8) 15 = (b : Int) ∧ yi_iand (yi_shr (x : Int) 12) 15 = (c : Int) ∧ yi_iand (yi_shr (x : Int) 16) 15 = (d : Int) := by
  obtain ⟨h1, h2, h3, h4, h5, h6⟩ := h
  obtain ⟨s1, s2, s3, s4⟩ := shr_32 x (by omega)
  rw [s1, s2, s3, s4, i15_32 x (by omega), i15_32 (x / 16) (by omega), i15_32 (x / 256) (by omega), i15_32 (x / 4096) (by omega), i15_32 (x / 65536) (by omega)]
  refine ⟨?_, ?_, ?_, ?_, ?_⟩ <;> omega
