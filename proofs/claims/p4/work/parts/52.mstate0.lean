/-! The check's state: blocks of 110. -/
def ym_gw (F : Nat → Nat → Int) (P : Nat) (a n : Int) (f : Nat → Int) : Nat → Nat → Int := fun p i => if p = P ∧ a ≤ (i : Int) ∧ (i : Int) < a + n then f ((i : Int) - a).toNat else F p i
theorem ym_gw_0 (F : Nat → Nat → Int) (P : Nat) (a : Int) (f : Nat → Int) : ym_gw F P a 0 f = F := by
  funext p i
  exact if_neg (by omega)
theorem ym_gw_p (F : Nat → Nat → Int) (P : Nat) (a n : Int) (f : Nat → Int) {p i : Nat} (hp : p ≠ P) : ym_gw F P a n f p i = F p i := if_neg (fun z => hp z.1)
theorem ym_gw_o (F : Nat → Nat → Int) (P : Nat) (a n : Int) (f : Nat → Int) {i : Nat} (h : ¬ (a ≤ (i : Int) ∧ (i : Int) < a + n)) : ym_gw F P a n f P i = F P i := if_neg (fun z => h z.2)
theorem ym_gw_i (F : Nat → Nat → Int) (P : Nat) (a n : Int) (f : Nat → Int) {i : Nat} (h : a ≤ (i : Int) ∧ (i : Int) < a + n) : ym_gw F P a n f P i = f ((i : Int) - a).toNat := if_pos ⟨rfl, h⟩
theorem ym_gw_s {F : Nat → Nat → Int} {P : Nat} {a k : Int} {f : Nat → Int} {v : Int} (h0 : 0 ≤ a) (hk : 0 ≤ k) (hv : v = f k.toNat) : yi_u (ym_gw F P a k f) P (a + k).toNat v = ym_gw F P a (k + 1) f := by
  funext p i
  by_cases hp : p = P ∧ i = (a + k).toNat
  · obtain ⟨rfl, rfl⟩ := hp
    rw [yi_u_eq, ym_gw_i _ _ _ _ _ (by omega), hv]
    congr 1
    omega
  · rw [yi_u_ne _ _ hp]
    by_cases hP : p = P
    · subst hP
      have hi : i ≠ (a + k).toNat := fun z => hp ⟨rfl, z⟩
      by_cases hc : a ≤ (i : Int) ∧ (i : Int) < a + k
      · rw [ym_gw_i _ _ _ _ _ hc, ym_gw_i _ _ _ _ _ (by omega)]
      · rw [ym_gw_o _ _ _ _ _ hc, ym_gw_o _ _ _ _ _ (by omega)]
    · rw [ym_gw_p _ _ _ _ _ hP, ym_gw_p _ _ _ _ _ hP]
/-- a block is as it must be -/
def ym_SB (I : Nat → Nat → Int) (b : Int) : Prop := (0 ≤ I 100 (110 * b).toNat ∧ I 100 (110 * b).toNat ≤ 12) ∧ (1 ≤ I 100 (110 * b + 1).toNat ∧ I 100 (110 * b + 1).toNat ≤ 7) ∧ (0 ≤ I 100 (110 * b + 2).toNat ∧ I 100 (110 * b + 2).toNat ≤ 20) ∧ (∀ s : Int, 0 ≤ s → s < 12 → 0 ≤ I 100 (110 * b + (8 + 3 * s)).toNat ∧ I 100 (110 * b + (8 + 3 * s)).toNat ≤ 4) ∧ (∀ k : Int, 0 ≤ k → k < 24 → -1 ≤ I 100 (110 * b + (44 + k)).toNat ∧ I 100 (110 * b + (44 + k)).toNat ≤ 3)
def ym_S0 (I : Nat → Nat → Int) : Prop := (0 ≤ I 100 0 ∧ I 100 0 ≤ 12) ∧ (1 ≤ I 100 1 ∧ I 100 1 ≤ 7) ∧ (0 ≤ I 100 2 ∧ I 100 2 ≤ 20) ∧ (∀ s : Int, 0 ≤ s → s < 12 → 0 ≤ I 100 (8 + 3 * s).toNat ∧ I 100 (8 + 3 * s).toNat ≤ 4) ∧ (∀ k : Int, 0 ≤ k → k < 24 → -1 ≤ I 100 (44 + k).toNat ∧ I 100 (44 + k).toNat ≤ 3)
theorem ym_S0_iff (I : Nat → Nat → Int) : ym_S0 I ↔ ym_SB I 0 := by
  unfold ym_S0 ym_SB
  have e0 : ((110 : Int) * 0).toNat = 0 := rfl
  have e1 : ((110 : Int) * 0 + 1).toNat = 1 := rfl
  have e2 : ((110 : Int) * 0 + 2).toNat = 2 := rfl
  have e3 : ∀ x : Int, (110 : Int) * 0 + x = x := fun x => by omega
  simp only [e0, e1, e2, e3]
  exact Iff.rfl
/-- a block copied -/
theorem ym_SB_cp {I J : Nat → Nat → Int} {b c : Int} (hb : 0 ≤ b) (hc : 0 ≤ c) (e : ∀ k : Int, 0 ≤ k → k < 110 → J 100 (110 * c + k).toNat = I 100 (110 * b + k).toNat) (h : ym_SB I b) : ym_SB J c := by
  obtain ⟨h1, h2, h3, h4, h5⟩ := h
  have a0 := e 0 (by omega) (by omega)
  rw [Int.add_zero, Int.add_zero] at a0
  refine ⟨by rw [a0]; exact h1, by rw [e 1 (by omega) (by omega)]; exact h2, by rw [e 2 (by omega) (by omega)]; exact h3, fun s s0 s1 => by rw [e _ (by omega) (by omega)]; exact h4 s s0 s1, fun k k0 k1 => by rw [e _ (by omega) (by omega)]; exact h5 k k0 k1⟩
theorem ym_S0_t {I J : Nat → Nat → Int} (e : ∀ k, J 100 k = I 100 k) (h : ym_S0 I) : ym_S0 J := by
  unfold ym_S0 at h ⊢
  simp only [e]
  exact h
