/-! ===== Int32 by its bits: bt x i ===== -/
def bt (x : Int32) (i : Nat) : Bool := x.toBitVec.getLsbD i
theorem b_ext {x y : Int32} (h : ∀ i, i < 32 → bt x i = bt y i) : x = y := Int32.toBitVec_inj.mp (BitVec.eq_of_getLsbD_eq (fun i hi => h i hi))
theorem b_or (x y : Int32) (i : Nat) : bt (x ||| y) i = (bt x i || bt y i) := by unfold bt; rw [Int32.toBitVec_or, BitVec.getLsbD_or]
theorem b_and (x y : Int32) (i : Nat) : bt (x &&& y) i = (bt x i && bt y i) := by unfold bt; rw [Int32.toBitVec_and, BitVec.getLsbD_and]
theorem b_xor (x y : Int32) (i : Nat) : bt (x ^^^ y) i = (bt x i ^^ bt y i) := by unfold bt; rw [Int32.toBitVec_xor, BitVec.getLsbD_xor]
theorem b_big {x : Int32} {i : Nat} (h : 32 ≤ i) : bt x i = false := BitVec.getLsbD_of_ge _ _ h
theorem b_0 (i : Nat) : bt 0 i = false := BitVec.getLsbD_zero
theorem s_l : ∀ n, n < 32 → ((nI n &&& 31).toBitVec.smod 32).toNat = n := by decide +kernel
theorem s_u : ∀ n, n < 32 → (((nI n).toUInt32 &&& Int32.toUInt32 31).toBitVec % 32).toNat = n := by decide +kernel
theorem b_shl (n : Nat) (hn : n < 32) (x : Int32) {i : Nat} (hi : i < 32) : bt (x <<< (nI n &&& 31)) i = (decide (n ≤ i) && bt x (i - n)) := by
  unfold bt
  rw [Int32.toBitVec_shiftLeft]
  show (x.toBitVec <<< ((nI n &&& 31).toBitVec.smod 32).toNat).getLsbD i = _
  rw [s_l n hn, BitVec.getLsbD_shiftLeft]
  rcases Nat.lt_or_ge i n with h | h
  · simp [h, Nat.not_le.mpr h]
  · simp [hi, h, Nat.not_lt.mpr h]
theorem b_ushr (n : Nat) (hn : n < 32) (x : Int32) (i : Nat) : bt ((x.toUInt32 >>> ((nI n).toUInt32 &&& Int32.toUInt32 31)).toInt32) i = bt x (n + i) := by
  show (x.toUInt32 >>> ((nI n).toUInt32 &&& Int32.toUInt32 31)).toBitVec.getLsbD i = x.toUInt32.toBitVec.getLsbD (n + i)
  rw [UInt32.toBitVec_shiftRight]
  show (x.toUInt32.toBitVec >>> (((nI n).toUInt32 &&& Int32.toUInt32 31).toBitVec % 32).toNat).getLsbD i = _
  rw [s_u n hn, BitVec.getLsbD_ushiftRight]
theorem b_sshr (n : Nat) (hn : n < 32) (x : Int32) {i : Nat} (hi : i < 32) : bt (x >>> (nI n &&& 31)) i = if n + i < 32 then bt x (n + i) else bt x 31 := by
  unfold bt
  rw [Int32.toBitVec_shiftRight]
  show (x.toBitVec.sshiftRight ((nI n &&& 31).toBitVec.smod 32).toNat).getLsbD i = _
  rw [s_l n hn, BitVec.getLsbD_sshiftRight, BitVec.msb_eq_getLsbD_last]
  simp [hi]
/-! the bits of an int as the second interpreter has it -/
theorem b_1 (i : Nat) : bt 1 i = decide (i = 0) := by
  rcases Nat.lt_or_ge i 32 with h | h
  · exact (by decide +kernel : ∀ i, i < 32 → bt 1 i = decide (i = 0)) i h
  · rw [b_big h, decide_eq_false (by omega)]
theorem yi_nI {j : Nat} (hj : j < 2 ^ 31) : Int32.ofInt (j : Int) = nI j := by
  rw [zi_ieq, yi_ofInt, nI_toInt hj]
  exact yi_wn (by omega) (by omega)
theorem yi_bit {x : Int} {j : Nat} (hj : j < 32) : yi_iand (yi_shr x j) 1 = 1 ↔ bt (Int32.ofInt x) j = true := by
  unfold yi_iand yi_shr
  rw [Int32.ofInt_toInt, yi_nI (by omega), show Int32.ofInt 1 = 1 by decide]
  have e1 : (Int32.ofInt x >>> (nI j &&& 31) &&& 1).toInt = 1 ↔ Int32.ofInt x >>> (nI j &&& 31) &&& 1 = 1 := by
    rw [zi_ieq]
    exact Iff.rfl
  rw [e1]
  have e2 : bt (Int32.ofInt x >>> (nI j &&& 31)) 0 = bt (Int32.ofInt x) j := by
    rw [b_sshr j hj _ (by omega), Nat.add_zero, if_pos hj]
  constructor
  · intro h
    have h0 : bt (Int32.ofInt x >>> (nI j &&& 31) &&& 1) 0 = bt 1 0 := by rw [h]
    rw [b_and, b_1, e2] at h0
    simpa using h0
  · intro h
    apply b_ext
    intro i hi
    rw [b_and, b_1]
    by_cases hi0 : i = 0
    · subst hi0
      rw [e2, h]
      rfl
    · simp [hi0]
/-- one more is in the set -/
theorem yi_or_bit {x : Int} {w j : Nat} (hw : w < 32) (hj : j < 32) : bt (Int32.ofInt (yi_ior x (yi_shl 1 w))) j = (bt (Int32.ofInt x) j || decide (j = w)) := by
  unfold yi_ior yi_shl
  rw [Int32.ofInt_toInt, Int32.ofInt_toInt, yi_nI (by omega), show Int32.ofInt 1 = 1 by decide, b_or, b_shl w hw _ hj, b_1]
  by_cases h : j = w
  · subst h
    simp
  · by_cases h2 : w ≤ j
    · have : ¬ j - w = 0 := by omega
      simp [h, this]
    · simp [h, h2]
/-- how many of the six are not in it -/
def ym_un (x : Int) : Nat := ((List.range 6).filter (fun j => !bt (Int32.ofInt x) j)).length
theorem ym_un_lt {x : Int} {w : Nat} (hw : w < 6) (h : ¬ yi_iand (yi_shr x w) 1 = 1) : ym_un (yi_ior x (yi_shl 1 w)) < ym_un x := by
  have hb : bt (Int32.ofInt x) w = false := by
    cases hc : bt (Int32.ofInt x) w with
    | false => rfl
    | true => exact absurd ((yi_bit (by omega)).mpr hc) h
  unfold ym_un
  have e : ∀ j, j < 6 → (!bt (Int32.ofInt (yi_ior x (yi_shl 1 w))) j) = (!bt (Int32.ofInt x) j && !decide (j = w)) := by
    intro j hj
    rw [yi_or_bit (by omega) (by omega), Bool.not_or]
  have r : List.range 6 = [0, 1, 2, 3, 4, 5] := rfl
  rw [r]
  simp only [List.filter_cons, List.filter_nil, e 0 (by omega), e 1 (by omega), e 2 (by omega), e 3 (by omega), e 4 (by omega), e 5 (by omega)]
  rcases (show w = 0 ∨ w = 1 ∨ w = 2 ∨ w = 3 ∨ w = 4 ∨ w = 5 by omega) with z | z | z | z | z | z <;> subst z <;> simp only [hb] <;>
    (cases bt (Int32.ofInt x) 0 <;> cases bt (Int32.ofInt x) 1 <;> cases bt (Int32.ofInt x) 2 <;> cases bt (Int32.ofInt x) 3 <;> cases bt (Int32.ofInt x) 4 <;> cases bt (Int32.ofInt x) 5 <;> simp)
