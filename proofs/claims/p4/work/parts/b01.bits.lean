/-! How many bits of a long. -/
def yu (a : Int) : Nat := (BitVec.ofInt 64 a).toNat
theorem yu_e (a : Int) : yu a = (a % 18446744073709551616).toNat := by
  unfold yu
  rw [BitVec.toNat_ofInt]
  rfl
theorem yu_lt (a : Int) : yu a < 18446744073709551616 := (BitVec.ofInt 64 a).isLt
theorem yu_W (z : Int) : yu (yi_W z) = yu z := by
  rw [yu_e, yu_e]
  unfold yi_W
  omega
theorem yu_land (a b : Int) : yu (yi_land a b) = yu a &&& yu b := by
  show (BitVec.ofInt 64 ((BitVec.ofInt 64 a &&& BitVec.ofInt 64 b).toInt)).toNat = _
  rw [BitVec.ofInt_toInt, BitVec.toNat_and]
  rfl
theorem yu_sub {a b : Int} (h : yu b ≤ yu a) : yu (a - b) = yu a - yu b := by
  rw [yu_e, yu_e] at h
  rw [yu_e, yu_e, yu_e]
  omega
theorem yu_add {a b : Int} (h : yu a + yu b < 18446744073709551616) : yu (a + b) = yu a + yu b := by
  rw [yu_e, yu_e] at h
  rw [yu_e, yu_e, yu_e]
  omega
theorem yu_mul (a : Int) : yu (a * 72340172838076673) = yu a * 72340172838076673 % 18446744073709551616 := by
  rw [yu_e, yu_e]
  omega
theorem yu_sh1 (a : Int) : yi_lushr a 1 = ((yu a / 2 : Nat) : Int) := by
  have hb : ((Int32.ofInt 1).toInt64.toUInt64 &&& Int64.toUInt64 63).toNat % 64 = 1 := by decide
  unfold yi_lushr
  generalize ((Int32.ofInt 1).toInt64.toUInt64 &&& Int64.toUInt64 63) = c at hb ⊢
  show ((Int64.ofInt a).toUInt64 >>> c).toBitVec.toInt = _
  have e : ((Int64.ofInt a).toUInt64 >>> c).toBitVec.toNat = yu a / 2 := by
    show ((Int64.ofInt a).toUInt64 >>> c).toNat = _
    rw [UInt64.toNat_shiftRight, hb, Nat.shiftRight_eq_div_pow]
    rfl
  have hl := yu_lt a
  rw [BitVec.toInt_eq_toNat_cond, e, if_pos (by omega)]
theorem yu_us1 (a : Int) : yu (yi_lushr a 1) = yu a / 2 := by
  have hl := yu_lt a
  rw [yu_sh1, yu_e]
  omega
theorem yu_sh2 (a : Int) : yi_lushr a 2 = ((yu a / 4 : Nat) : Int) := by
  have hb : ((Int32.ofInt 2).toInt64.toUInt64 &&& Int64.toUInt64 63).toNat % 64 = 2 := by decide
  unfold yi_lushr
  generalize ((Int32.ofInt 2).toInt64.toUInt64 &&& Int64.toUInt64 63) = c at hb ⊢
  show ((Int64.ofInt a).toUInt64 >>> c).toBitVec.toInt = _
  have e : ((Int64.ofInt a).toUInt64 >>> c).toBitVec.toNat = yu a / 4 := by
    show ((Int64.ofInt a).toUInt64 >>> c).toNat = _
    rw [UInt64.toNat_shiftRight, hb, Nat.shiftRight_eq_div_pow]
    rfl
  have hl := yu_lt a
  rw [BitVec.toInt_eq_toNat_cond, e, if_pos (by omega)]
theorem yu_us2 (a : Int) : yu (yi_lushr a 2) = yu a / 4 := by
  have hl := yu_lt a
  rw [yu_sh2, yu_e]
  omega
theorem yu_sh4 (a : Int) : yi_lushr a 4 = ((yu a / 16 : Nat) : Int) := by
  have hb : ((Int32.ofInt 4).toInt64.toUInt64 &&& Int64.toUInt64 63).toNat % 64 = 4 := by decide
  unfold yi_lushr
  generalize ((Int32.ofInt 4).toInt64.toUInt64 &&& Int64.toUInt64 63) = c at hb ⊢
  show ((Int64.ofInt a).toUInt64 >>> c).toBitVec.toInt = _
  have e : ((Int64.ofInt a).toUInt64 >>> c).toBitVec.toNat = yu a / 16 := by
    show ((Int64.ofInt a).toUInt64 >>> c).toNat = _
    rw [UInt64.toNat_shiftRight, hb, Nat.shiftRight_eq_div_pow]
    rfl
  have hl := yu_lt a
  rw [BitVec.toInt_eq_toNat_cond, e, if_pos (by omega)]
theorem yu_us4 (a : Int) : yu (yi_lushr a 4) = yu a / 16 := by
  have hl := yu_lt a
  rw [yu_sh4, yu_e]
  omega
theorem yu_sh56 (a : Int) : yi_lushr a 56 = ((yu a / 72057594037927936 : Nat) : Int) := by
  have hb : ((Int32.ofInt 56).toInt64.toUInt64 &&& Int64.toUInt64 63).toNat % 64 = 56 := by decide
  unfold yi_lushr
  generalize ((Int32.ofInt 56).toInt64.toUInt64 &&& Int64.toUInt64 63) = c at hb ⊢
  show ((Int64.ofInt a).toUInt64 >>> c).toBitVec.toInt = _
  have e : ((Int64.ofInt a).toUInt64 >>> c).toBitVec.toNat = yu a / 72057594037927936 := by
    show ((Int64.ofInt a).toUInt64 >>> c).toNat = _
    rw [UInt64.toNat_shiftRight, hb, Nat.shiftRight_eq_div_pow]
    rfl
  have hl := yu_lt a
  rw [BitVec.toInt_eq_toNat_cond, e, if_pos (by omega)]
theorem yu_us56 (a : Int) : yu (yi_lushr a 56) = yu a / 72057594037927936 := by
  have hl := yu_lt a
  rw [yu_sh56, yu_e]
  omega
def y8 (a b c d e f g h : Nat) : Nat := a + 256 * (b + 256 * (c + 256 * (d + 256 * (e + 256 * (f + 256 * (g + 256 * h))))))
theorem y_and1 {b c y m : Nat} (hb : b < 256) (hc : c < 256) : (b + 256 * y) &&& (c + 256 * m) = (b &&& c) + 256 * (y &&& m) := by
  apply Nat.eq_of_testBit_eq
  intro i
  have e1 : ∀ x z : Nat, x < 256 → (x + 256 * z).testBit i = if i < 8 then x.testBit i else z.testBit (i - 8) := fun x z hx => by
    rw [Nat.add_comm]
    exact Nat.testBit_two_pow_mul_add z (i := 8) hx i
  rw [Nat.testBit_and, e1 _ _ hb, e1 _ _ hc, e1 _ _ (Nat.and_lt_two_pow (n := 8) _ hc)]
  split
  · rw [Nat.testBit_and]
  · rw [Nat.testBit_and]
theorem y8_and {m b0 b1 b2 b3 b4 b5 b6 b7 : Nat} (hm : m < 256) (h0 : b0 < 256) (h1 : b1 < 256) (h2 : b2 < 256) (h3 : b3 < 256) (h4 : b4 < 256) (h5 : b5 < 256) (h6 : b6 < 256) : y8 b0 b1 b2 b3 b4 b5 b6 b7 &&& y8 m m m m m m m m = y8 (b0 &&& m) (b1 &&& m) (b2 &&& m) (b3 &&& m) (b4 &&& m) (b5 &&& m) (b6 &&& m) (b7 &&& m) := by
  unfold y8
  rw [y_and1 h0 hm, y_and1 h1 hm, y_and1 h2 hm, y_and1 h3 hm, y_and1 h4 hm, y_and1 h5 hm, y_and1 h6 hm]
def y1 (b : Nat) : Nat := b - (b / 2 &&& 85)
def y2 (c : Nat) : Nat := (c &&& 51) + (c / 4 &&& 51)
def y_p (b : Nat) : Nat := b % 2 + b / 2 % 2 + b / 4 % 2 + b / 8 % 2 + b / 16 % 2 + b / 32 % 2 + b / 64 % 2 + b / 128 % 2
theorem y_t1 : ∀ b, b < 256 → ∀ c, c < 2 → ((b / 2 + 128 * c) &&& 85) = (b / 2 &&& 85) ∧ (b / 2 &&& 85) ≤ b := by decide +kernel
theorem y_t2 : ∀ b, b < 256 → ∀ c, c < 4 → ((b / 4 + 64 * c) &&& 51) = (b / 4 &&& 51) ∧ (b &&& 51) ≤ 51 ∧ (b / 4 &&& 51) ≤ 51 := by decide +kernel
theorem y_t3 : ∀ b, b < 256 → y2 (y1 b) % 16 ≤ 4 ∧ y2 (y1 b) + y2 (y1 b) / 16 ≤ 72 ∧ ((y2 (y1 b) + y2 (y1 b) / 16) &&& 15) = y_p b ∧ y_p b ≤ 8 ∧ y1 b < 256 := by decide +kernel
theorem y_t4 : ∀ e, e < 73 → ∀ q, q < 5 → ((e + 16 * q) &&& 15) = (e &&& 15) := by decide +kernel
theorem y_s1 {b0 b1 b2 b3 b4 b5 b6 b7 : Nat} (h0 : b0 < 256) (h1 : b1 < 256) (h2 : b2 < 256) (h3 : b3 < 256) (h4 : b4 < 256) (h5 : b5 < 256) (h6 : b6 < 256) (h7 : b7 < 256) : y8 b0 b1 b2 b3 b4 b5 b6 b7 - ((y8 b0 b1 b2 b3 b4 b5 b6 b7) / 2 &&& 6148914691236517205) = y8 (y1 b0) (y1 b1) (y1 b2) (y1 b3) (y1 b4) (y1 b5) (y1 b6) (y1 b7) := by
  have e0 : (y8 b0 b1 b2 b3 b4 b5 b6 b7) / 2 = y8 (b0 / 2 + 128 * (b1 % 2)) (b1 / 2 + 128 * (b2 % 2)) (b2 / 2 + 128 * (b3 % 2)) (b3 / 2 + 128 * (b4 % 2)) (b4 / 2 + 128 * (b5 % 2)) (b5 / 2 + 128 * (b6 % 2)) (b6 / 2 + 128 * (b7 % 2)) (b7 / 2) := by
    unfold y8
    omega
  have em : (6148914691236517205 : Nat) = y8 85 85 85 85 85 85 85 85 := by decide
  rw [e0, em, y8_and (by omega) (by omega) (by omega) (by omega) (by omega) (by omega) (by omega) (by omega)]
  obtain ⟨q0, r0⟩ := y_t1 b0 h0 (b1 % 2) (by omega)
  obtain ⟨q1, r1⟩ := y_t1 b1 h1 (b2 % 2) (by omega)
  obtain ⟨q2, r2⟩ := y_t1 b2 h2 (b3 % 2) (by omega)
  obtain ⟨q3, r3⟩ := y_t1 b3 h3 (b4 % 2) (by omega)
  obtain ⟨q4, r4⟩ := y_t1 b4 h4 (b5 % 2) (by omega)
  obtain ⟨q5, r5⟩ := y_t1 b5 h5 (b6 % 2) (by omega)
  obtain ⟨q6, r6⟩ := y_t1 b6 h6 (b7 % 2) (by omega)
  have r7 := (y_t1 b7 h7 0 (by omega)).2
  rw [q0, q1, q2, q3, q4, q5, q6]
  unfold y8 y1
  omega
theorem y_s2 {b0 b1 b2 b3 b4 b5 b6 b7 : Nat} (h0 : b0 < 256) (h1 : b1 < 256) (h2 : b2 < 256) (h3 : b3 < 256) (h4 : b4 < 256) (h5 : b5 < 256) (h6 : b6 < 256) (h7 : b7 < 256) : (y8 b0 b1 b2 b3 b4 b5 b6 b7 &&& 3689348814741910323) + ((y8 b0 b1 b2 b3 b4 b5 b6 b7) / 4 &&& 3689348814741910323) = y8 (y2 b0) (y2 b1) (y2 b2) (y2 b3) (y2 b4) (y2 b5) (y2 b6) (y2 b7) := by
  have e0 : (y8 b0 b1 b2 b3 b4 b5 b6 b7) / 4 = y8 (b0 / 4 + 64 * (b1 % 4)) (b1 / 4 + 64 * (b2 % 4)) (b2 / 4 + 64 * (b3 % 4)) (b3 / 4 + 64 * (b4 % 4)) (b4 / 4 + 64 * (b5 % 4)) (b5 / 4 + 64 * (b6 % 4)) (b6 / 4 + 64 * (b7 % 4)) (b7 / 4) := by
    unfold y8
    omega
  have em : (3689348814741910323 : Nat) = y8 51 51 51 51 51 51 51 51 := by decide
  rw [e0, em, y8_and (by omega) h0 h1 h2 h3 h4 h5 h6, y8_and (by omega) (by omega) (by omega) (by omega) (by omega) (by omega) (by omega) (by omega)]
  have q0 := (y_t2 b0 h0 (b1 % 4) (by omega)).1
  have q1 := (y_t2 b1 h1 (b2 % 4) (by omega)).1
  have q2 := (y_t2 b2 h2 (b3 % 4) (by omega)).1
  have q3 := (y_t2 b3 h3 (b4 % 4) (by omega)).1
  have q4 := (y_t2 b4 h4 (b5 % 4) (by omega)).1
  have q5 := (y_t2 b5 h5 (b6 % 4) (by omega)).1
  have q6 := (y_t2 b6 h6 (b7 % 4) (by omega)).1
  rw [q0, q1, q2, q3, q4, q5, q6]
  unfold y8 y2
  omega
theorem y_s3 {b0 b1 b2 b3 b4 b5 b6 b7 : Nat} (h0 : b0 % 16 ≤ 4) (k0 : b0 + b0 / 16 ≤ 72) (h1 : b1 % 16 ≤ 4) (k1 : b1 + b1 / 16 ≤ 72) (h2 : b2 % 16 ≤ 4) (k2 : b2 + b2 / 16 ≤ 72) (h3 : b3 % 16 ≤ 4) (k3 : b3 + b3 / 16 ≤ 72) (h4 : b4 % 16 ≤ 4) (k4 : b4 + b4 / 16 ≤ 72) (h5 : b5 % 16 ≤ 4) (k5 : b5 + b5 / 16 ≤ 72) (h6 : b6 % 16 ≤ 4) (k6 : b6 + b6 / 16 ≤ 72) (h7 : b7 % 16 ≤ 4) (k7 : b7 + b7 / 16 ≤ 72) : ((y8 b0 b1 b2 b3 b4 b5 b6 b7) + (y8 b0 b1 b2 b3 b4 b5 b6 b7) / 16 &&& 1085102592571150095) = y8 (b0 + b0 / 16 &&& 15) (b1 + b1 / 16 &&& 15) (b2 + b2 / 16 &&& 15) (b3 + b3 / 16 &&& 15) (b4 + b4 / 16 &&& 15) (b5 + b5 / 16 &&& 15) (b6 + b6 / 16 &&& 15) (b7 + b7 / 16 &&& 15) := by
  have e0 : (y8 b0 b1 b2 b3 b4 b5 b6 b7) + (y8 b0 b1 b2 b3 b4 b5 b6 b7) / 16 = y8 (b0 + b0 / 16 + 16 * (b1 % 16)) (b1 + b1 / 16 + 16 * (b2 % 16)) (b2 + b2 / 16 + 16 * (b3 % 16)) (b3 + b3 / 16 + 16 * (b4 % 16)) (b4 + b4 / 16 + 16 * (b5 % 16)) (b5 + b5 / 16 + 16 * (b6 % 16)) (b6 + b6 / 16 + 16 * (b7 % 16)) (b7 + b7 / 16) := by
    unfold y8
    omega
  have em : (1085102592571150095 : Nat) = y8 15 15 15 15 15 15 15 15 := by decide
  rw [e0, em, y8_and (by omega) (by omega) (by omega) (by omega) (by omega) (by omega) (by omega) (by omega)]
  have q0 := y_t4 (b0 + b0 / 16) (by omega) (b1 % 16) (by omega)
  have q1 := y_t4 (b1 + b1 / 16) (by omega) (b2 % 16) (by omega)
  have q2 := y_t4 (b2 + b2 / 16) (by omega) (b3 % 16) (by omega)
  have q3 := y_t4 (b3 + b3 / 16) (by omega) (b4 % 16) (by omega)
  have q4 := y_t4 (b4 + b4 / 16) (by omega) (b5 % 16) (by omega)
  have q5 := y_t4 (b5 + b5 / 16) (by omega) (b6 % 16) (by omega)
  have q6 := y_t4 (b6 + b6 / 16) (by omega) (b7 % 16) (by omega)
  rw [q0, q1, q2, q3, q4, q5, q6]
theorem y_s4 {b0 b1 b2 b3 b4 b5 b6 b7 : Nat} (h0 : b0 ≤ 8) (h1 : b1 ≤ 8) (h2 : b2 ≤ 8) (h3 : b3 ≤ 8) (h4 : b4 ≤ 8) (h5 : b5 ≤ 8) (h6 : b6 ≤ 8) (h7 : b7 ≤ 8) : (y8 b0 b1 b2 b3 b4 b5 b6 b7) * 72340172838076673 % 18446744073709551616 / 72057594037927936 = b0 + b1 + b2 + b3 + b4 + b5 + b6 + b7 := by
  have e : (y8 b0 b1 b2 b3 b4 b5 b6 b7) * 72340172838076673 = (1 * (b0) + 256 * (b0 + b1) + 65536 * (b0 + b1 + b2) + 16777216 * (b0 + b1 + b2 + b3) + 4294967296 * (b0 + b1 + b2 + b3 + b4) + 1099511627776 * (b0 + b1 + b2 + b3 + b4 + b5) + 281474976710656 * (b0 + b1 + b2 + b3 + b4 + b5 + b6) + 72057594037927936 * (b0 + b1 + b2 + b3 + b4 + b5 + b6 + b7)) + 18446744073709551616 * (1 * b1 + 257 * b2 + 65793 * b3 + 16843009 * b4 + 4311810305 * b5 + 1103823438081 * b6 + 282578800148737 * b7) := by
    unfold y8
    omega
  rw [e, Nat.add_mul_mod_self_left, Nat.mod_eq_of_lt (by omega)]
  omega
theorem y_on {v : Int} {b0 b1 b2 b3 b4 b5 b6 b7 : Nat} (h0 : b0 < 256) (h1 : b1 < 256) (h2 : b2 < 256) (h3 : b3 < 256) (h4 : b4 < 256) (h5 : b5 < 256) (h6 : b6 < 256) (h7 : b7 < 256) (hv : yu v = y8 b0 b1 b2 b3 b4 b5 b6 b7) : ym_on v = ((y_p b0 + y_p b1 + y_p b2 + y_p b3 + y_p b4 + y_p b5 + y_p b6 + y_p b7 : Nat) : Int) := by
  have m1 : yu 6148914691236517205 = 6148914691236517205 := by rw [yu_e]; rfl
  have m2 : yu 3689348814741910323 = 3689348814741910323 := by rw [yu_e]; rfl
  have m4 : yu 1085102592571150095 = 1085102592571150095 := by rw [yu_e]; rfl
  obtain ⟨s0, t0, u0, p0, c0⟩ := y_t3 b0 h0
  obtain ⟨s1, t1, u1, p1, c1⟩ := y_t3 b1 h1
  obtain ⟨s2, t2, u2, p2, c2⟩ := y_t3 b2 h2
  obtain ⟨s3, t3, u3, p3, c3⟩ := y_t3 b3 h3
  obtain ⟨s4, t4, u4, p4, c4⟩ := y_t3 b4 h4
  obtain ⟨s5, t5, u5, p5, c5⟩ := y_t3 b5 h5
  obtain ⟨s6, t6, u6, p6, c6⟩ := y_t3 b6 h6
  obtain ⟨s7, t7, u7, p7, c7⟩ := y_t3 b7 h7
  have x1 : yu (yi_land (yi_lushr v 1) 6148914691236517205) = (yu v / 2 &&& 6148914691236517205) := by rw [yu_land, yu_us1, m1]
  have le1 : yu (yi_land (yi_lushr v 1) 6148914691236517205) ≤ yu v := by
    rw [x1]
    exact Nat.le_trans Nat.and_le_left (Nat.div_le_self _ _)
  have eA : yu (yi_W (v - yi_land (yi_lushr v 1) 6148914691236517205)) = y8 (y1 b0) (y1 b1) (y1 b2) (y1 b3) (y1 b4) (y1 b5) (y1 b6) (y1 b7) := by
    rw [yu_W, yu_sub le1, x1, hv]
    exact y_s1 h0 h1 h2 h3 h4 h5 h6 h7
  unfold ym_on
  generalize yi_W (v - yi_land (yi_lushr v 1) 6148914691236517205) = a at eA ⊢
  have eB : yu (yi_W (yi_land a 3689348814741910323 + yi_land (yi_lushr a 2) 3689348814741910323)) = y8 (y2 (y1 b0)) (y2 (y1 b1)) (y2 (y1 b2)) (y2 (y1 b3)) (y2 (y1 b4)) (y2 (y1 b5)) (y2 (y1 b6)) (y2 (y1 b7)) := by
    have z := y_s2 c0 c1 c2 c3 c4 c5 c6 c7
    have l0 : y8 (y2 (y1 b0)) (y2 (y1 b1)) (y2 (y1 b2)) (y2 (y1 b3)) (y2 (y1 b4)) (y2 (y1 b5)) (y2 (y1 b6)) (y2 (y1 b7)) < 18446744073709551616 := by
      unfold y8
      omega
    rw [yu_W, yu_add (by rw [yu_land, yu_land, yu_us2, m2, eA, z]; exact l0), yu_land, yu_land, yu_us2, m2, eA, z]
  generalize yi_W (yi_land a 3689348814741910323 + yi_land (yi_lushr a 2) 3689348814741910323) = b at eB ⊢
  have eC : yu (yi_land (yi_W (b + yi_lushr b 4)) 1085102592571150095) = y8 (y_p b0) (y_p b1) (y_p b2) (y_p b3) (y_p b4) (y_p b5) (y_p b6) (y_p b7) := by
    have z := y_s3 s0 t0 s1 t1 s2 t2 s3 t3 s4 t4 s5 t5 s6 t6 s7 t7
    have l0 : (y8 (y2 (y1 b0)) (y2 (y1 b1)) (y2 (y1 b2)) (y2 (y1 b3)) (y2 (y1 b4)) (y2 (y1 b5)) (y2 (y1 b6)) (y2 (y1 b7))) + (y8 (y2 (y1 b0)) (y2 (y1 b1)) (y2 (y1 b2)) (y2 (y1 b3)) (y2 (y1 b4)) (y2 (y1 b5)) (y2 (y1 b6)) (y2 (y1 b7))) / 16 < 18446744073709551616 := by
      unfold y8
      omega
    rw [yu_land, yu_W, yu_add (by rw [yu_us4, eB]; exact l0), yu_us4, eB, m4, z, u0, u1, u2, u3, u4, u5, u6, u7]
  generalize yi_land (yi_W (b + yi_lushr b 4)) 1085102592571150095 = c at eC ⊢
  have eD : yi_lushr (yi_W (c * 72340172838076673)) 56 = ((y_p b0 + y_p b1 + y_p b2 + y_p b3 + y_p b4 + y_p b5 + y_p b6 + y_p b7 : Nat) : Int) := by
    rw [yu_sh56, yu_W, yu_mul, eC, y_s4 p0 p1 p2 p3 p4 p5 p6 p7]
  rw [eD]
  exact yi_wn (by omega) (by omega)
def y_c (v : Nat) : Nat → Nat
  | 0 => 0
  | i + 1 => y_c v i + v / 2 ^ i % 2
theorem y_c8 (v i : Nat) : y_c v (i + 8) = y_c v i + y_p (v / 2 ^ i % 256) := by
  have e : ∀ k : Nat, v / 2 ^ (i + k) = v / 2 ^ i / 2 ^ k := fun k => by rw [Nat.pow_add, ← Nat.div_div_eq_div_mul]
  show y_c v i + v / 2 ^ i % 2 + v / 2 ^ (i + 1) % 2 + v / 2 ^ (i + 2) % 2 + v / 2 ^ (i + 3) % 2 + v / 2 ^ (i + 4) % 2 + v / 2 ^ (i + 5) % 2 + v / 2 ^ (i + 6) % 2 + v / 2 ^ (i + 7) % 2 = _
  rw [e 1, e 2, e 3, e 4, e 5, e 6, e 7]
  generalize v / 2 ^ i = w
  unfold y_p
  omega
theorem y_c64 (v : Nat) : y_c v 64 = y_p (v / 1 % 256) + y_p (v / 256 % 256) + y_p (v / 65536 % 256) + y_p (v / 16777216 % 256) + y_p (v / 4294967296 % 256) + y_p (v / 1099511627776 % 256) + y_p (v / 281474976710656 % 256) + y_p (v / 72057594037927936 % 256) := by
  have h7 : y_c v 64 = y_c v 56 + y_p (v / 72057594037927936 % 256) := y_c8 v 56
  have h6 : y_c v 56 = y_c v 48 + y_p (v / 281474976710656 % 256) := y_c8 v 48
  have h5 : y_c v 48 = y_c v 40 + y_p (v / 1099511627776 % 256) := y_c8 v 40
  have h4 : y_c v 40 = y_c v 32 + y_p (v / 4294967296 % 256) := y_c8 v 32
  have h3 : y_c v 32 = y_c v 24 + y_p (v / 16777216 % 256) := y_c8 v 24
  have h2 : y_c v 24 = y_c v 16 + y_p (v / 65536 % 256) := y_c8 v 16
  have h1 : y_c v 16 = y_c v 8 + y_p (v / 256 % 256) := y_c8 v 8
  have h0 : y_c v 8 = y_c v 0 + y_p (v / 1 % 256) := y_c8 v 0
  have z : y_c v 0 = 0 := rfl
  omega
theorem y_pop (v : Int) : ym_on v = ((y_c (yu v) 64 : Nat) : Int) := by
  have hl := yu_lt v
  rw [y_c64]
  exact y_on (Nat.mod_lt _ (by decide)) (Nat.mod_lt _ (by decide)) (Nat.mod_lt _ (by decide)) (Nat.mod_lt _ (by decide)) (Nat.mod_lt _ (by decide)) (Nat.mod_lt _ (by decide)) (Nat.mod_lt _ (by decide)) (Nat.mod_lt _ (by decide)) (by unfold y8; omega)
theorem y_sh : ∀ n : Nat, n < 64 → (((Int32.ofInt ((n : Nat) : Int)).toInt64 &&& 63).toBitVec.smod 64).toNat = n := by decide +kernel
theorem y_bit {v : Int} {i : Nat} (hi : i < 64) : yi_land (yi_lshr v i) 1 = 1 ↔ yu v / 2 ^ i % 2 = 1 := by
  have e1 : yu (yi_lshr v i) % 2 = yu v / 2 ^ i % 2 := by
    have z : yu (yi_lshr v i) = ((BitVec.ofInt 64 v).sshiftRight i).toNat := by
      show (BitVec.ofInt 64 ((Int64.ofInt v >>> ((Int32.ofInt (i : Int)).toInt64 &&& 63)).toBitVec.toInt)).toNat = _
      rw [BitVec.ofInt_toInt, Int64.toBitVec_shiftRight]
      show ((BitVec.ofInt 64 v).sshiftRight (((Int32.ofInt (i : Int)).toInt64 &&& 63).toBitVec.smod 64).toNat).toNat = _
      rw [y_sh i hi]
    have b := BitVec.getLsbD_sshiftRight (BitVec.ofInt 64 v) i 0
    rw [Nat.add_zero, if_pos hi] at b
    have b2 : ((BitVec.ofInt 64 v).sshiftRight i).toNat.testBit 0 = (yu v).testBit i := by
      have b : ((BitVec.ofInt 64 v).sshiftRight i).toNat.testBit 0 = _ := b
      rw [b]
      rfl
    rw [Nat.testBit_eq_decide_div_mod_eq, Nat.testBit_eq_decide_div_mod_eq, Nat.pow_zero, Nat.div_one] at b2
    rw [z]
    have b3 := decide_eq_decide.mp b2
    omega
  have e2 : yu (yi_land (yi_lshr v i) 1) = yu v / 2 ^ i % 2 := by
    rw [yu_land, show yu 1 = 1 by rw [yu_e]; rfl, Nat.and_one_is_mod, e1]
  have hb : -9223372036854775808 ≤ yi_land (yi_lshr v i) 1 ∧ yi_land (yi_lshr v i) 1 < 9223372036854775808 := by
    unfold yi_land
    exact ⟨by have := Int64.le_toInt (Int64.ofInt (yi_lshr v i) &&& Int64.ofInt 1); omega, by have := Int64.toInt_lt (Int64.ofInt (yi_lshr v i) &&& Int64.ofInt 1); omega⟩
  rw [yu_e] at e2
  omega
/-- whether a place of a row is set, and how many are below one -/
def y_st (g : Nat → Int) (f : Nat) : Prop := yi_land (yi_lshr (g (f / 64)) ((f % 64 : Nat) : Int)) 1 = 1
def y_cb (g : Nat → Int) : Nat → Nat
  | 0 => 0
  | f + 1 => y_cb g f + yu (g (f / 64)) / 2 ^ (f % 64) % 2
theorem y_st_i (g : Nat → Int) (f : Nat) : y_st g f ↔ yu (g (f / 64)) / 2 ^ (f % 64) % 2 = 1 := y_bit (Nat.mod_lt _ (by decide))
theorem y_cb_r (g : Nat → Int) (n : Nat) : ∀ i : Nat, i ≤ 64 → y_cb g (64 * n + i) = y_cb g (64 * n) + y_c (yu (g n)) i
  | 0, _ => rfl
  | i + 1, h => by
    have ih := y_cb_r g n i (by omega)
    show y_cb g (64 * n + i) + yu (g ((64 * n + i) / 64)) / 2 ^ ((64 * n + i) % 64) % 2 = y_cb g (64 * n) + (y_c (yu (g n)) i + yu (g n) / 2 ^ i % 2)
    rw [show (64 * n + i) / 64 = n by omega, show (64 * n + i) % 64 = i by omega, ih]
    omega
theorem y_cb_m (g : Nat → Int) (f : Nat) : ∀ k : Nat, y_cb g f ≤ y_cb g (f + k)
  | 0 => Nat.le_refl _
  | k + 1 => by
    have ih := y_cb_m g f k
    show y_cb g f ≤ y_cb g (f + k) + _
    omega
theorem y_cb_b (g : Nat → Int) : ∀ f : Nat, y_cb g f ≤ f
  | 0 => Nat.le_refl _
  | f + 1 => by
    have ih := y_cb_b g f
    show y_cb g f + yu (g (f / 64)) / 2 ^ (f % 64) % 2 ≤ f + 1
    omega
theorem y_ct (g : Nat → Int) : ∀ n : Nat, n ≤ 512 → ym_ct g n = ((y_cb g (64 * n) : Nat) : Int)
  | 0, _ => rfl
  | n + 1, h => by
    have ih := y_ct g n (by omega)
    have b1 := y_cb_b g (64 * (n + 1))
    have e := y_cb_r g n 64 (Nat.le_refl _)
    rw [show 64 * n + 64 = 64 * (n + 1) by omega] at e
    show yi_w (ym_ct g n + ym_on (g n)) = _
    rw [ih, y_pop, e]
    exact yi_wn (by omega) (by omega)
