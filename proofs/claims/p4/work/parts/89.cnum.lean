theorem cl_and15 (x : Int) : 0 ≤ yi_iand x 15 ∧ yi_iand x 15 ≤ 15 := by
  unfold yi_iand
  obtain ⟨j, hj, e⟩ := pk_andE (Int32.ofInt x) (m := 15) 4 (by decide)
  have e1 : Int32.ofInt 15 = 15 := by decide
  rw [e1, e, nI_toInt (by omega)]
  omega
theorem cl_xor16 {x : Int} (h0 : 0 ≤ x) (h1 : x ≤ 31) : 0 ≤ yi_ixor x 16 := by
  rcases (show x = 0 ∨ x = 1 ∨ x = 2 ∨ x = 3 ∨ x = 4 ∨ x = 5 ∨ x = 6 ∨ x = 7 ∨ x = 8 ∨ x = 9 ∨ x = 10 ∨ x = 11 ∨ x = 12 ∨ x = 13 ∨ x = 14 ∨ x = 15 ∨ x = 16 ∨ x = 17 ∨ x = 18 ∨ x = 19 ∨ x = 20 ∨ x = 21 ∨ x = 22 ∨ x = 23 ∨ x = 24 ∨ x = 25 ∨ x = 26 ∨ x = 27 ∨ x = 28 ∨ x = 29 ∨ x = 30 ∨ x = 31 by omega) with z | z | z | z | z | z | z | z | z | z | z | z | z | z | z | z | z | z | z | z | z | z | z | z | z | z | z | z | z | z | z | z <;> subst z <;> decide
section CG
variable {Ms : List zi_M} {d : Nat} {M : zi_M} {Q : yi_R → Prop} {pc n : Nat} {al : List (Nat × yi_V)} {st : List yi_V} {I L : cl_I} {R : cl_Rr} {Y : cl_Y} {nc ns : Nat}
theorem cl_G_sbl {o : List Nat} {x : Int} (h1 : zi_lk2 pc M.2.2.2.2.1 = some (.baload, n, o)) (h0 : 0 ≤ x) (hx : x < 8) (hg : ∀ v : Int, yi_G Ms d M (pc + n, al, .inl v :: st, (I, L, R, Y), nc, ns) Q) : yi_G Ms d M (pc, al, .inl x :: .inr (.inr (some 6)) :: st, (I, L, R, Y), nc, ns) Q := yi_G_bald _ h1 (by
  show ((bif decide (0 ≤ x) && decide (x < 8) then some (.inl (pc + n, al, .inl ((zi_sb.getD 2 []).getD x.toNat 0).toInt :: st, (I, L, R, Y), nc, ns)) else none) : yi_O) = _
  rw [decide_eq_true h0, decide_eq_true hx]
  rfl) (hg _)
end CG
