/-! Cells made. -/
section CM
variable {E : List Nat} {I L I' L' : cl_I} {R R' : cl_Rr} {Y Y' : cl_Y}
theorem cl_mk (h : cl_P E I L R Y I' L' R' Y') (c : Nat) : ∃ (e : Nat) (I2 L2 : cl_I) (R2 : cl_Rr) (Y2 : cl_Y), (I2 = cl_nf I' Y'.2.2 ∧ L2 = cl_nf L' Y'.2.2 ∧ R2 = cl_nr R' Y'.2.2 ∧ Y2 = cl_ny Y' c 0 ∧ e = Y'.2.2) ∧ cl_P (e :: E) I L R Y I2 L2 R2 Y2 ∧ cl_X Y' Y2 ∧ (∀ p t, cl_T E Y' p t → cl_T (e :: E) Y2 p t) ∧ (∀ k, I2 e k = 0) ∧ (∀ k, R2 e k = none) ∧ Y2.1 e = c ∧ (10 ≤ e ∧ e < Y2.2.2 ∧ 108 < e) ∧ e ∉ E ∧ (∀ p k, p < Y'.2.2 → R2 p k = R' p k ∧ I2 p k = I' p k) := by
  have big := h.1.2.2.1.1
  refine ⟨_, _, _, _, _, ⟨rfl, rfl, rfl, rfl, rfl⟩, cl_P_o h c 0 (by omega), cl_X_n _ _ _, fun p t ht => cl_T_c ht, fun k => if_pos rfl, fun k => if_pos rfl, if_pos rfl, ⟨by omega, Nat.lt_succ_self _, by omega⟩, fun z => Nat.lt_irrefl _ (h.1.2.2.2.2.1 _ z).2, fun p k hp => ⟨if_neg (by omega), if_neg (by omega)⟩⟩
theorem cl_mka (h : cl_P E I L R Y I' L' R' Y') (c n : Nat) (hn : n ≤ 1000000) (hc : 20 ≤ c ∧ c ≤ 26) : ∃ (e : Nat) (I2 L2 : cl_I) (R2 : cl_Rr) (Y2 : cl_Y), (I2 = cl_nf I' Y'.2.2 ∧ L2 = cl_nf L' Y'.2.2 ∧ R2 = cl_nr R' Y'.2.2 ∧ Y2 = cl_ny Y' c n ∧ e = Y'.2.2) ∧ cl_P E I L R Y I2 L2 R2 Y2 ∧ cl_X Y' Y2 ∧ cl_T E Y2 e c ∧ Y2.2.1 e = n ∧ (∀ p k, p < Y'.2.2 → R2 p k = R' p k ∧ I2 p k = I' p k) := by
  obtain ⟨a, b, d⟩ := cl_P_a h c n hn hc
  exact ⟨_, _, _, _, _, ⟨rfl, rfl, rfl, rfl, rfl⟩, a, cl_X_n _ _ _, b, d, fun p k hp => ⟨if_neg (by omega), if_neg (by omega)⟩⟩
end CM
section CG
variable {Ms : List zi_M} {d : Nat} {M : zi_M} {Q : yi_R → Prop} {pc n : Nat} {al : List (Nat × yi_V)} {st : List yi_V} {I L I' L' : cl_I} {R R' : cl_Rr} {Y Y' : cl_Y} {nc ns : Nat} {E : List Nat}
theorem cl_G_mka {j : ArrayType} {t : Nat} {o : List Nat} {x : Int} (h1 : zi_lk2 pc M.2.2.2.2.1 = some (.newarray j, n, t :: o)) (hP : cl_P E I L R Y I' L' R' Y') (h0 : 0 ≤ x) (hx : x ≤ 1000000) (ht : t ≤ 6) (hg : ∀ (e : Nat) (I2 L2 : cl_I) (R2 : cl_Rr) (Y2 : cl_Y), e = Y'.2.2 → cl_P E I L R Y I2 L2 R2 Y2 → cl_X Y' Y2 → cl_T E Y2 e (20 + t) → Y2.2.1 e = x.toNat → (∀ p k, p < Y'.2.2 → R2 p k = R' p k ∧ I2 p k = I' p k) → yi_G Ms d M (pc + n, al, .inr (.inr (some e)) :: st, (I2, L2, R2, Y2), nc + 1, ns + x.toNat) Q) : yi_G Ms d M (pc, al, .inl x :: st, (I', L', R', Y'), nc, ns) Q := by
  obtain ⟨a, b, c⟩ := cl_P_a hP (20 + t) x.toNat (by omega) (by omega)
  exact cl_G_nwa h1 h0 hx ht (hg _ _ _ _ _ rfl a (cl_X_n _ _ _) b c (fun p k hp => ⟨if_neg (by omega), if_neg (by omega)⟩))
theorem cl_G_mkr {j t : Nat} {o : List Nat} {x : Int} (h1 : zi_lk2 pc M.2.2.2.2.1 = some (.anewarray j, n, t :: o)) (hP : cl_P E I L R Y I' L' R' Y') (h0 : 0 ≤ x) (hx : x ≤ 1000000) (ht : t ≤ 6) (hg : ∀ (e : Nat) (I2 L2 : cl_I) (R2 : cl_Rr) (Y2 : cl_Y), e = Y'.2.2 → cl_P E I L R Y I2 L2 R2 Y2 → cl_X Y' Y2 → cl_T E Y2 e (20 + t) → Y2.2.1 e = x.toNat → (∀ p k, p < Y'.2.2 → R2 p k = R' p k ∧ I2 p k = I' p k) → yi_G Ms d M (pc + n, al, .inr (.inr (some e)) :: st, (I2, L2, R2, Y2), nc + 1, ns + x.toNat) Q) : yi_G Ms d M (pc, al, .inl x :: st, (I', L', R', Y'), nc, ns) Q := by
  obtain ⟨a, b, c⟩ := cl_P_a hP (20 + t) x.toNat (by omega) (by omega)
  exact cl_G_anw h1 h0 hx ht (hg _ _ _ _ _ rfl a (cl_X_n _ _ _) b c (fun p k hp => ⟨if_neg (by omega), if_neg (by omega)⟩))
theorem cl_G_mko {j ci m : Nat} {o : List Nat} (h1 : zi_lk2 pc M.2.2.2.2.1 = some (.new j, n, ci :: o)) (hP : cl_P E I L R Y I' L' R' Y') (hc : Nat.ble (ci + 1) 12 = true) (hm : (zi_Fs.getD ci ("", [])).2.length = m) (hg : ∀ (e : Nat) (I2 L2 : cl_I) (R2 : cl_Rr) (Y2 : cl_Y), e = Y'.2.2 → cl_P (e :: E) I L R Y I2 L2 R2 Y2 → cl_X Y' Y2 → (∀ p t, cl_T E Y' p t → cl_T (e :: E) Y2 p t) → (∀ k, I2 e k = 0) → (∀ k, R2 e k = none) → Y2.1 e = ci → (10 ≤ e ∧ e < Y2.2.2 ∧ 108 < e) → e ∉ E → (∀ p k, p < Y'.2.2 → R2 p k = R' p k ∧ I2 p k = I' p k) → yi_G Ms d M (pc + n, al, .inr (.inr (some e)) :: st, (I2, L2, R2, Y2), nc + 1, ns + m) Q) : yi_G Ms d M (pc, al, st, (I', L', R', Y'), nc, ns) Q := by
  have big := hP.1.2.2.1.1
  exact cl_G_new h1 hc hm (hg _ _ _ _ _ rfl (cl_P_o hP ci 0 (by omega)) (cl_X_n _ _ _) (fun p t ht => cl_T_c ht) (fun k => if_pos rfl) (fun k => if_pos rfl) (if_pos rfl) ⟨by omega, Nat.lt_succ_self _, by omega⟩ (fun z => Nat.lt_irrefl _ (hP.1.2.2.2.2.1 _ z).2) (fun p k hp => ⟨if_neg (by omega), if_neg (by omega)⟩))
end CG
