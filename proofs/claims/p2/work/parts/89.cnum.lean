theorem cl_and15 (x : Int) : 0 ≤ yi_iand x 15 ∧ yi_iand x 15 ≤ 15 := by
  unfold yi_iand
  obtain ⟨j, hj, e⟩ := pk_andE (Int32.ofInt x) (m := 15) 4 (by decide)
  have e1 : Int32.ofInt 15 = 15 := by decide
  rw [e1, e, nI_toInt (by omega)]
  omega
theorem cl_xor16 {x : Int} (h0 : 0 ≤ x) (h1 : x ≤ 31) : 0 ≤ yi_ixor x 16 := by
  rcases (show x = 0 ∨ x = 1 ∨ x = 2 ∨ x = 3 ∨ x = 4 ∨ x = 5 ∨ x = 6 ∨ x = 7 ∨ x = 8 ∨ x = 9 ∨ x = 10 ∨ x = 11 ∨ x = 12 ∨ x = 13 ∨ x = 14 ∨ x = 15 ∨ x = 16 ∨ x = 17 ∨ x = 18 ∨ x = 19 ∨ x = 20 ∨ x = 21 ∨ x = 22 ∨ x = 23 ∨ x = 24 ∨ x = 25 ∨ x = 26 ∨ x = 27 ∨ x = 28 ∨ x = 29 ∨ x = 30 ∨ x = 31 by omega) with z | z | z | z | z | z | z | z | z | z | z | z | z | z | z | z | z | z | z | z | z | z | z | z | z | z | z | z | z | z | z | z <;> subst z <;> decide
