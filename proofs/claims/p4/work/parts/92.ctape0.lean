/-! The tape's length. -/
theorem cl_us (f : cl_I) (p k : Nat) : yi_u f p k (f p k) = f := by
  funext q j
  by_cases e : q = p ∧ j = k
  · obtain ⟨rfl, rfl⟩ := e
    exact yi_u_eq _ _ _ _
  · exact yi_u_ne _ _ e
theorem cl_uu (f : cl_I) (p k : Nat) (a b : Int) : yi_u (yi_u f p k a) p k b = yi_u f p k b := by
  funext q j
  by_cases e : q = p ∧ j = k
  · obtain ⟨rfl, rfl⟩ := e
    rw [yi_u_eq, yi_u_eq]
  · rw [yi_u_ne _ _ e, yi_u_ne _ _ e, yi_u_ne _ _ e]
section CT
variable {E : List Nat} {I L I' L' I2 L2 : cl_I} {R R' R2 : cl_Rr} {Y Y' Y2 : cl_Y}
theorem cl_P_len {v : Int} (h : cl_P E I L R Y I' L' R' Y') (h0 : 0 ≤ v) (h1 : v ≤ 1000) : cl_P E (yi_u I 12 5 v) L R Y (yi_u I' 12 5 v) L' R' Y' := by
  refine ⟨cl_C_uI h.1 (cl_12 h.1) (cl_hv rfl h0 h1), h.2.1, fun p k a b => ?_, by rw [yi_u_eq, yi_u_eq]⟩
  rw [yi_u_ne _ _ (by omega), yi_u_ne _ _ (by omega)]
  exact h.2.2.1 p k a b
theorem cl_P_t0 {E' : List Nat} {v : Int} (h : cl_P E I L R Y I' L' R' Y') (h2 : cl_P E' (yi_u I' 12 5 v) L' R' Y' I2 L2 R2 Y2) : cl_P E' (yi_u I 12 5 v) L R Y I2 L2 R2 Y2 := by
  refine ⟨h2.1, cl_X_t h.2.1 h2.2.1, fun p k a b => ?_, ?_⟩
  · have x := h.2.2.1 p k a b
    have y := h2.2.2.1 p k a b
    rw [yi_u_ne _ _ (by omega)] at y ⊢
    exact ⟨y.1.trans x.1, y.2.1.trans x.2.1, y.2.2.trans x.2.2⟩
  · have y := h2.2.2.2
    rw [yi_u_eq] at y ⊢
    exact y
end CT
