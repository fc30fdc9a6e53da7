/-! Formulas and prices, at every depth; the land that is being read. -/
theorem ym_RC_m {X : ym_X} {mi m m' : Nat} {dep : Int} (h : ym_RC X mi m dep) (hm : m ≤ m') : ym_RC X mi m' dep := fun D hD => h D (by omega)
theorem c_readItem {X : ym_X} (hS : ym_S X) : ∀ n : Nat, n ≤ 5 → ym_RC X 97 (3 * n + 7) (5 - n)
  | 0, _ => c_readItem_of (m := 6) hS (by omega) (by omega) (fun h => absurd h (by omega)) (fun h => absurd h (by omega))
  | n + 1, hn => by
    have hi := c_readItem hS n (by omega)
    have hf := c_readFormula_of hS (by omega) (c_readTerm_of hS (by omega) hi)
    have e : (5 : Int) - ((n + 1 : Nat) : Int) + 1 = 5 - (n : Int) := by omega
    refine c_readItem_of (m := 3 * n + 9) hS (by omega) (by omega) (fun _ => ?_) (fun _ => ?_)
    · rw [e]
      exact ym_RC_m hi (by omega)
    · rw [e]
      exact ym_RC_m hf (by omega)
theorem c_formula0 {X : ym_X} (hS : ym_S X) : ym_RC X 96 24 0 := c_readFormula_of hS (by omega) (c_readTerm_of hS (by omega) (c_readItem hS 5 (by omega)))
theorem c_takePart {X : ym_X} (hS : ym_S X) : ∀ n : Nat, n ≤ 5 → ym_RC X 117 (5 * n + 7) (5 - n)
  | 0, _ => c_takePart_of (m := 6) hS (by omega) (by omega) (fun h => absurd h (by omega)) (fun h => absurd h (by omega))
  | n + 1, hn => by
    have hi := c_takePart hS n (by omega)
    have hf := c_ors_of hS (by omega) (c_test_of hS (by omega) (c_sums_of hS (by omega) (c_products_of hS (by omega) hi)))
    have e : (5 : Int) - ((n + 1 : Nat) : Int) + 1 = 5 - (n : Int) := by omega
    refine c_takePart_of (m := 5 * n + 11) hS (by omega) (by omega) (fun _ => ?_) (fun _ => ?_)
    · rw [e]
      exact ym_RC_m hi (by omega)
    · rw [e]
      exact ym_RC_m hf (by omega)
theorem c_ors0 {X : ym_X} (hS : ym_S X) : ym_RC X 87 36 0 := c_ors_of hS (by omega) (c_test_of hS (by omega) (c_sums_of hS (by omega) (c_products_of hS (by omega) (c_takePart hS 5 (by omega)))))
/-- the numbers of the land that is read -/
def ym_LD (I : Nat → Nat → Int) : Prop := (1 ≤ I 88 50 ∧ I 88 50 ≤ 6) ∧ (0 ≤ I 88 51 ∧ I 88 51 ≤ 4) ∧ (0 ≤ I 88 52 ∧ I 88 52 ≤ 4) ∧ (0 ≤ I 88 53 ∧ I 88 53 ≤ 5) ∧ (0 ≤ I 88 54 ∧ I 88 54 ≤ 4) ∧ (0 ≤ I 88 55 ∧ I 88 55 ≤ 6) ∧ I 82 19 = I 88 51 + I 88 52 + I 88 53 ∧ 1 ≤ ym_fo (I 88 50) (I 88 51) (I 88 52)
/-- a programme among what is read -/
def ym_QG (I : Nat → Nat → Int) (fr : Int) : Prop := 0 ≤ fr ∧ ∃ e, ym_SG I fr e 0 1 ∧ I 89 (1100 + e).toNat = 0 ∧ e < I 82 13
theorem ym_QG_t {I J : Nat → Nat → Int} {fr : Int} (h : ym_QG I fr) (lw : ym_LW I J (I 82 13)) (hm : I 82 13 ≤ J 82 13) : ym_QG J fr := by
  obtain ⟨h0, e, h1, h2, h3⟩ := h
  have a := h1.2.1
  refine ⟨h0, e, ym_SG_t h1 (fun k hk => lw k (by omega)), ?_, by omega⟩
  rw [(lw (1100 + e).toNat (by omega)).1]
  exact h2
theorem ym_QG_n {I J : Nat → Nat → Int} {n m : Int} (h : ym_SG I n m 0 1) (e : ym_EM I J m 0 0) (hm : J 82 13 = m + 1) : ym_QG J n := by
  have a := h.1
  have b := h.2.1
  exact ⟨a, m, ym_SG_t h (ym_LW_e e (Int.le_refl _) (by omega)), e.1, by omega⟩
/-- its programmes -/
def ym_LP (I : Nat → Nat → Int) : Prop := (∀ k : Int, 0 ≤ k → k < I 88 54 → ym_QG I (I 88 (71 + k).toNat)) ∧ (∀ w : Int, 0 ≤ w → w < I 88 55 → (0 ≤ I 88 (75 + 3 * w).toNat ∧ I 88 (75 + 3 * w).toNat ≤ 4) ∧ ym_QG I (I 88 (75 + 3 * w + 2).toNat)) ∧ (I 88 56 < 0 ∨ ym_QG I (I 88 56))
theorem ym_LP_t {I J : Nat → Nat → Int} (h : ym_LP I) (lw : ym_LW I J (I 82 13)) (hm : I 82 13 ≤ J 82 13) (b4 : I 88 54 ≤ 4) (b5 : I 88 55 ≤ 6) (e4 : J 88 54 = I 88 54) (e5 : J 88 55 = I 88 55) (e6 : J 88 56 = I 88 56) (el : ∀ k : Nat, 71 ≤ k → k < 100 → J 88 k = I 88 k) : ym_LP J := by
  obtain ⟨h1, h2, h3⟩ := h
  refine ⟨fun k a b => ?_, fun w a b => ?_, ?_⟩
  · rw [e4] at b
    rw [el _ (by omega) (by omega)]
    exact ym_QG_t (h1 k a b) lw hm
  · rw [e5] at b
    rw [el _ (by omega) (by omega), el _ (by omega) (by omega)]
    exact ⟨(h2 w a b).1, ym_QG_t (h2 w a b).2 lw hm⟩
  · rw [e6]
    exact h3.imp id (fun z => ym_QG_t z lw hm)
theorem ym_LP_l {I J : Nat → Nat → Int} (h : ym_LP I) (lw : ym_LW I J (I 82 13)) (hm : I 82 13 ≤ J 82 13) (b4 : 0 ≤ I 88 54 ∧ I 88 54 ≤ 3) (b5 : I 88 55 ≤ 6) (e4 : J 88 54 = I 88 54 + 1) (e5 : J 88 55 = I 88 55) (e6 : J 88 56 = I 88 56) (el : ∀ k : Nat, 71 ≤ k → k < 100 → k ≠ (71 + I 88 54).toNat → J 88 k = I 88 k) (hq : ym_QG J (J 88 (71 + I 88 54).toNat)) : ym_LP J := by
  obtain ⟨h1, h2, h3⟩ := h
  refine ⟨fun k a b => ?_, fun w a b => ?_, ?_⟩
  · by_cases hk : k = I 88 54
    · subst hk
      exact hq
    · rw [el _ (by omega) (by omega) (by omega)]
      exact ym_QG_t (h1 k a (by omega)) lw hm
  · rw [e5] at b
    rw [el _ (by omega) (by omega) (by omega), el _ (by omega) (by omega) (by omega)]
    exact ⟨(h2 w a b).1, ym_QG_t (h2 w a b).2 lw hm⟩
  · rw [e6]
    exact h3.imp id (fun z => ym_QG_t z lw hm)
theorem ym_LP_w {I J : Nat → Nat → Int} (h : ym_LP I) (lw : ym_LW I J (I 82 13)) (hm : I 82 13 ≤ J 82 13) (b4 : I 88 54 ≤ 4) (b5 : 0 ≤ I 88 55 ∧ I 88 55 ≤ 5) (e4 : J 88 54 = I 88 54) (e5 : J 88 55 = I 88 55 + 1) (e6 : J 88 56 = I 88 56) (el : ∀ k : Nat, 71 ≤ k → k < 75 + 3 * I 88 55 → J 88 k = I 88 k) (hw : 0 ≤ J 88 (75 + 3 * I 88 55).toNat ∧ J 88 (75 + 3 * I 88 55).toNat ≤ 4) (hq : ym_QG J (J 88 (75 + 3 * I 88 55 + 2).toNat)) : ym_LP J := by
  obtain ⟨h1, h2, h3⟩ := h
  refine ⟨fun k a b => ?_, fun w a b => ?_, ?_⟩
  · rw [e4] at b
    rw [el _ (by omega) (by omega)]
    exact ym_QG_t (h1 k a b) lw hm
  · by_cases hk : w = I 88 55
    · subst hk
      exact ⟨hw, hq⟩
    · rw [el _ (by omega) (by omega), el _ (by omega) (by omega)]
      exact ⟨(h2 w a (by omega)).1, ym_QG_t (h2 w a (by omega)).2 lw hm⟩
  · rw [e6]
    exact h3.imp id (fun z => ym_QG_t z lw hm)
theorem ym_LP_p {I J : Nat → Nat → Int} (h : ym_LP I) (lw : ym_LW I J (I 82 13)) (hm : I 82 13 ≤ J 82 13) (b4 : I 88 54 ≤ 4) (b5 : I 88 55 ≤ 6) (e4 : J 88 54 = I 88 54) (e5 : J 88 55 = I 88 55) (el : ∀ k : Nat, 71 ≤ k → k < 100 → J 88 k = I 88 k) (hq : ym_QG J (J 88 56)) : ym_LP J := by
  obtain ⟨h1, h2, h3⟩ := h
  refine ⟨fun k a b => ?_, fun w a b => ?_, Or.inr hq⟩
  · rw [e4] at b
    rw [el _ (by omega) (by omega)]
    exact ym_QG_t (h1 k a b) lw hm
  · rw [e5] at b
    rw [el _ (by omega) (by omega), el _ (by omega) (by omega)]
    exact ⟨(h2 w a b).1, ym_QG_t (h2 w a b).2 lw hm⟩
theorem ym_DY_50 {J : Nat → Nat → Int} (e : J 82 20 = 50) (e2 : 1 ≤ J 88 50 ∧ J 88 50 ≤ 6) : ym_DY J := ⟨Or.inr e, by rw [e]; exact e2⟩
