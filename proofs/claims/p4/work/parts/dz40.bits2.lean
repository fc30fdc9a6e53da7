/-! A long, bit by bit. -/
def yb (v : Int) (i : Nat) : Bool := (BitVec.ofInt 64 v).getLsbD i
/-- a number that a long holds -/
def b64 (v : Int) : Prop := (BitVec.ofInt 64 v).toInt = v
theorem yb_and (a b : Int) (i : Nat) : yb (yi_land a b) i = (yb a i && yb b i) := by
  show (BitVec.ofInt 64 ((BitVec.ofInt 64 a &&& BitVec.ofInt 64 b).toInt)).getLsbD i = _
  rw [BitVec.ofInt_toInt, BitVec.getLsbD_and]
  rfl
theorem yb_or (a b : Int) (i : Nat) : yb (yi_lor a b) i = (yb a i || yb b i) := by
  show (BitVec.ofInt 64 ((BitVec.ofInt 64 a ||| BitVec.ofInt 64 b).toInt)).getLsbD i = _
  rw [BitVec.ofInt_toInt, BitVec.getLsbD_or]
  rfl
theorem yb_xor (a b : Int) (i : Nat) : yb (yi_lxor a b) i = (yb a i ^^ yb b i) := by
  show (BitVec.ofInt 64 ((BitVec.ofInt 64 a ^^^ BitVec.ofInt 64 b).toInt)).getLsbD i = _
  rw [BitVec.ofInt_toInt, BitVec.getLsbD_xor]
  rfl
theorem yb_m1 {i : Nat} (h : i < 64) : yb (-1) i = true := by
  show (BitVec.ofInt 64 (-1)).getLsbD i = true
  rw [show BitVec.ofInt 64 (-1) = BitVec.allOnes 64 by decide, BitVec.getLsbD_allOnes]
  exact decide_eq_true h
theorem yb_0 (i : Nat) : yb 0 i = false := by
  show (BitVec.ofInt 64 0).getLsbD i = false
  rw [show BitVec.ofInt 64 0 = 0#64 by decide, BitVec.getLsbD_zero]
theorem yb_not (a : Int) {i : Nat} (h : i < 64) : yb (yi_lxor a (-1)) i = !yb a i := by
  rw [yb_xor, yb_m1 h, Bool.xor_true]
theorem yb_hi (a : Int) {i : Nat} (h : 64 ≤ i) : yb a i = false := BitVec.getLsbD_of_ge _ _ h
theorem b64_land (a b : Int) : b64 (yi_land a b) := by
  show (BitVec.ofInt 64 ((BitVec.ofInt 64 a &&& BitVec.ofInt 64 b).toInt)).toInt = (BitVec.ofInt 64 a &&& BitVec.ofInt 64 b).toInt
  rw [BitVec.ofInt_toInt]
theorem b64_lor (a b : Int) : b64 (yi_lor a b) := by
  show (BitVec.ofInt 64 ((BitVec.ofInt 64 a ||| BitVec.ofInt 64 b).toInt)).toInt = (BitVec.ofInt 64 a ||| BitVec.ofInt 64 b).toInt
  rw [BitVec.ofInt_toInt]
theorem b64_lxor (a b : Int) : b64 (yi_lxor a b) := by
  show (BitVec.ofInt 64 ((BitVec.ofInt 64 a ^^^ BitVec.ofInt 64 b).toInt)).toInt = (BitVec.ofInt 64 a ^^^ BitVec.ofInt 64 b).toInt
  rw [BitVec.ofInt_toInt]
theorem b64_0 : b64 0 := by show (BitVec.ofInt 64 0).toInt = 0; decide
theorem b64_m1 : b64 (-1) := by show (BitVec.ofInt 64 (-1)).toInt = -1; decide
theorem yb_ext {a b : Int} (ha : b64 a) (hb : b64 b) (h : ∀ i, i < 64 → yb a i = yb b i) : a = b := by
  unfold b64 at ha hb
  rw [← ha, ← hb]
  exact congrArg BitVec.toInt (BitVec.eq_of_getLsbD_eq (fun i hi => h i hi))
/-- one bit -/
theorem yb_one : ∀ s : Nat, s < 64 → ∀ i : Nat, i < 64 → yb (yi_lshl 1 (s : Int)) i = decide (i = s) := by decide +kernel
theorem b64_one : ∀ s : Nat, s < 64 → (BitVec.ofInt 64 (yi_lshl 1 (s : Int))).toInt = yi_lshl 1 (s : Int) := by decide +kernel
/-- the low bits -/
theorem yb_low : ∀ s : Nat, s < 64 → ∀ i : Nat, i < 64 → yb (yi_W (yi_lshl 1 (s : Int) - 1)) i = decide (i < s) := by decide +kernel
theorem yb_lshl : ∀ s : Nat, s < 64 → ∀ i : Nat, i < 64 → yb (yi_lshl (-1) (s : Int)) i = decide (s ≤ i) := by decide +kernel
theorem yb_ushr : ∀ s : Nat, s < 64 → ∀ i : Nat, i < 64 → yb (yi_lushr (-1) (s : Int)) i = decide (i + s < 64) := by decide +kernel
