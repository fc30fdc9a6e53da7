/-! Sixty-four futures at once, bit by bit. -/
theorem yb_dur {g : Nat → Int} {lo i : Nat} : ∀ k, yb (durL g lo k) i = dur (fun d => yb (g d) i) lo k
  | 0 => yb_0 i
  | k + 1 => by
    show yb (yi_lor (durL g lo k) (g (lo + k))) i = (dur (fun d => yb (g d) i) lo k || yb (g (lo + k)) i)
    rw [yb_or, yb_dur k]
theorem yb_prT {g g' : Nat → Int} {i : Nat} : ∀ k, yb (prTL g g' k) i = prT (fun d => yb (g d) i) (fun d => yb (g' d) i) k
  | 0 => yb_0 i
  | k + 1 => by
    show yb (yi_lor (prTL g g' k) (yi_land (g (k + 1)) (g' (k + 1)))) i = (prT (fun d => yb (g d) i) (fun d => yb (g' d) i) k || (yb (g (k + 1)) i && yb (g' (k + 1)) i))
    rw [yb_or, yb_and, yb_prT k]
theorem yb_prA {g g' : Nat → Int} {i : Nat} (hi : i < 64) : ∀ k, yb (prAL g g' k) i = prA (fun d => yb (g d) i) (fun d => yb (g' d) i) k
  | 0 => yb_0 i
  | k + 1 => by
    show yb (yi_lor (prAL g g' k) (yi_land (g (k + 1)) (yi_lxor (durL g' 1 (k + 1)) (-1)))) i = (prA (fun d => yb (g d) i) (fun d => yb (g' d) i) k || (yb (g (k + 1)) i && !dur (fun d => yb (g' d) i) 1 (k + 1)))
    rw [yb_or, yb_and, yb_not _ hi, yb_dur, yb_prA hi k]
/-- the fields of a code -/
def cdF (x w a b c d : Nat) : Prop := w < 16 ∧ a < 16 ∧ b < 16 ∧ c < 16 ∧ d < 16 ∧ x = w + 16 * a + 256 * b + 4096 * c + 65536 * d
theorem i15_32 (n : Nat) (h : n < 2147483648) : yi_iand (n : Int) 15 = ((n % 16 : Nat) : Int) := by
  show (Int32.ofInt (n : Int) &&& Int32.ofInt 15).toInt = _
  have e1 : Int32.ofInt (n : Int) = Int32.ofNat n := rfl
  rw [e1]
  show ((BitVec.ofInt 32 (n : Int)) &&& (BitVec.ofInt 32 15)).toInt = _
  rw [BitVec.toInt_eq_toNat_of_lt]
  · rw [BitVec.toNat_and, BitVec.toNat_ofInt, BitVec.toNat_ofInt, show ((15 : Int) % (2 ^ 32 : Nat)).toNat = 2 ^ 4 - 1 by decide, Nat.and_two_pow_sub_one_eq_mod]
    omega
  · rw [BitVec.toNat_and, BitVec.toNat_ofInt, BitVec.toNat_ofInt, show ((15 : Int) % (2 ^ 32 : Nat)).toNat = 2 ^ 4 - 1 by decide, Nat.and_two_pow_sub_one_eq_mod]
    omega
