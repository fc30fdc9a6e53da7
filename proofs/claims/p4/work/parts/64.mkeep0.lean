/-! Who was tried. -/
def ym_tm (I : Nat → Nat → Int) : Int := I 107 0 + I 107 1 + I 107 2 + I 107 3
def ym_tg (I J : Nat → Nat → Int) : Prop := ∀ q : Nat, q < 4 → (J 107 q = 0 ∨ J 107 q = 1) ∧ I 107 q ≤ J 107 q
theorem ym_tg_m {I J : Nat → Nat → Int} (h : ym_tg I J) : ym_tm I ≤ ym_tm J ∧ ym_tm J ≤ 4 := by
  have a0 := h 0 (by omega)
  have a1 := h 1 (by omega)
  have a2 := h 2 (by omega)
  have a3 := h 3 (by omega)
  unfold ym_tm
  omega
theorem ym_tg_t {I J K : Nat → Nat → Int} (h1 : ym_tg I J) (h2 : ym_tg J K) : ym_tg I K := fun q hq => ⟨(h2 q hq).1, Int.le_trans (h1 q hq).2 (h2 q hq).2⟩
theorem ym_tg_u {I : Nat → Nat → Int} {p : Int} (h0 : 0 ≤ p) (h1 : p ≤ 3) (h : ym_tg I I) (hz : I 107 p.toNat = 0) : ym_tg I (yi_u I 107 p.toNat 1) ∧ ym_tm (yi_u I 107 p.toNat 1) = ym_tm I + 1 := by
  refine ⟨fun q hq => ?_, ?_⟩
  · by_cases e : q = p.toNat
    · subst e
      rw [yi_u_eq]
      omega
    · rw [yi_u_ne _ _ (by omega)]
      exact h q hq
  · unfold ym_tm
    rcases (show p = 0 ∨ p = 1 ∨ p = 2 ∨ p = 3 by omega) with z | z | z | z
    · subst z
      have hz : I 107 0 = 0 := hz
      show yi_u I 107 0 1 107 0 + yi_u I 107 0 1 107 1 + yi_u I 107 0 1 107 2 + yi_u I 107 0 1 107 3 = _
      rw [yi_u_eq, yi_u_ne _ _ (by omega), yi_u_ne _ _ (by omega), yi_u_ne _ _ (by omega)]
      omega
    · subst z
      have hz : I 107 1 = 0 := hz
      show yi_u I 107 1 1 107 0 + yi_u I 107 1 1 107 1 + yi_u I 107 1 1 107 2 + yi_u I 107 1 1 107 3 = _
      rw [yi_u_ne _ _ (by omega), yi_u_eq, yi_u_ne _ _ (by omega), yi_u_ne _ _ (by omega)]
      omega
    · subst z
      have hz : I 107 2 = 0 := hz
      show yi_u I 107 2 1 107 0 + yi_u I 107 2 1 107 1 + yi_u I 107 2 1 107 2 + yi_u I 107 2 1 107 3 = _
      rw [yi_u_ne _ _ (by omega), yi_u_ne _ _ (by omega), yi_u_eq, yi_u_ne _ _ (by omega)]
      omega
    · subst z
      have hz : I 107 3 = 0 := hz
      show yi_u I 107 3 1 107 0 + yi_u I 107 3 1 107 1 + yi_u I 107 3 1 107 2 + yi_u I 107 3 1 107 3 = _
      rw [yi_u_ne _ _ (by omega), yi_u_ne _ _ (by omega), yi_u_ne _ _ (by omega), yi_u_eq]
      omega
theorem ym_tg_r {I J : Nat → Nat → Int} (h : ym_tg I J) : ym_tg J J := fun q hq => ⟨(h q hq).1, Int.le_refl _⟩
