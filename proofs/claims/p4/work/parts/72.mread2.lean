/-! What a reader of formulas gives. -/
abbrev ym_RQ (I L : Nat → Nat → Int) (X : ym_X) (te n : Int) (r : yi_R) : Prop := ∃ I', r = (none, (I', L, X), 0, 0) ∧ (∀ p k, ¬ (p = 82 ∧ k = 7) ∧ ¬ (p = 82 ∧ k = 8) ∧ ¬ (p = 82 ∧ k = 13) ∧ p ≠ 89 ∧ p ≠ 90 → I' p k = I p k) ∧ (I 82 7 ≤ I' 82 7 ∧ I' 82 7 ≤ te) ∧ 0 ≤ I' 82 8 ∧ (n ≤ I' 82 13 ∧ I' 82 13 - n ≤ I' 82 7 - I 82 7 + 1) ∧ (I' 82 8 = 0 → I 82 8 = 0 ∧ I' 82 13 - n ≤ I' 82 7 - I 82 7) ∧ ym_LW I I' n ∧ (I' 82 8 = 0 → ym_SG I' n (I' 82 13) 0 1)
/-- the days that clauses are told of -/
def ym_DY (I : Nat → Nat → Int) : Prop := (I 82 20 = 0 ∨ I 82 20 = 50) ∧ 1 ≤ I 88 (I 82 20).toNat ∧ I 88 (I 82 20).toNat ≤ 6
theorem ym_DY_t {I J : Nat → Nat → Int} (e : J 82 20 = I 82 20) (e2 : ∀ k, J 88 k = I 88 k) (h : ym_DY I) : ym_DY J := by
  unfold ym_DY at h ⊢
  rw [e, e2]
  exact h
def ym_RC (X : ym_X) (mi m : Nat) (dep : Int) : Prop := ∀ D : Nat, m ≤ D → ∀ (I L : Nat → Nat → Int) (te n : Int), ym_TK I te → (0 ≤ I 82 7 ∧ I 82 7 ≤ te) → 0 ≤ I 82 8 → (0 ≤ I 82 18 ∧ I 82 18 ≤ 13) → (0 ≤ I 82 19 ∧ I 82 19 ≤ 13) → ym_DY I → I 82 13 = n → (0 ≤ n ∧ n ≤ I 82 7 + 5) → yi_E zi_Ms D mi [.inr (.inr (some 82)), .inl dep] (I, L, X) (ym_RQ I L X te n)
theorem ym_CV_of {w ev wh n z : Int} (hz : z = ((w * 4 + ev) * 16 + wh) * 8 + n) (w0 : 0 ≤ w ∧ w ≤ 5) (e0 : 0 ≤ ev ∧ ev ≤ 3) (h0 : 0 ≤ wh ∧ wh ≤ 8) (n0 : 0 ≤ n ∧ n ≤ 7) (h1 : wh ≤ 2 → 1 ≤ n ∧ n ≤ 6) (h2 : 7 ≤ wh → w ≤ 3 ∧ n ≤ 3) : ym_CV z := by
  subst hz
  unfold ym_CV
  refine ⟨by omega, by omega, fun h => ?_, fun h => ?_⟩
  · have := h1 (by omega)
    omega
  · have := h2 (by omega)
    omega
