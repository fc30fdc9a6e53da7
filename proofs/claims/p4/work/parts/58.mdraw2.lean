theorem w_draw {D : Nat} {I L : Nat → Nat → Int} {X : ym_X} (hD : 1 ≤ D) (hS : ym_S X) {m : Int} (h0 : 1 ≤ m) (h1 : m ≤ 100000) (g0 : 0 ≤ L 82 43 ∧ L 82 43 < 2147483648) : yi_E zi_Ms D 19 [.inr (.inr (some 82)), .inl m] (I, L, X) (fun r => ∃ z L', r = (some (.inl z), (I, L', X), 0, 0) ∧ (0 ≤ z ∧ z < m) ∧ (0 ≤ L' 82 43 ∧ L' 82 43 < 2147483648) ∧ ∀ p k, ¬ (p = 82 ∧ k = 43) → L' p k = L p k) := (c_draw D hD hS h0 h1 g0).imp (fun r h => by
  obtain ⟨z, g', e, hz, hg⟩ := h
  exact ⟨z, _, e, hz, by rw [yi_u_eq]; exact hg, fun p k hp => yi_u_ne _ _ hp⟩)
