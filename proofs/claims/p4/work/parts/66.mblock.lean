/-! Blocks, copied. -/
theorem ym_SB_t {I J : Nat → Nat → Int} {b : Int} (hb : 0 ≤ b) (e : ∀ k, J 100 k = I 100 k) (h : ym_SB I b) : ym_SB J b := ym_SB_cp hb hb (fun k _ _ => e _) h
def ym_cp (I : Nat → Nat → Int) (fr to : Int) : Nat → Nat → Int := ym_gw I 100 (110 * to) 110 (fun j => I 100 (110 * fr + j).toNat)
theorem ym_cp_to {I : Nat → Nat → Int} {fr to : Int} (hf : 0 ≤ fr) (ht : 0 ≤ to) (h : ym_SB I fr) : ym_SB (ym_cp I fr to) to := ym_SB_cp hf ht (fun k a b => by unfold ym_cp; rw [ym_gw_i _ _ _ _ _ (by omega)]; congr 1; omega) h
theorem ym_cp_ne {I : Nat → Nat → Int} {fr to b : Int} (hb : 0 ≤ b) (ht : 0 ≤ to) (hn : b ≠ to) (h : ym_SB I b) : ym_SB (ym_cp I fr to) b := ym_SB_cp hb hb (fun k a c => by unfold ym_cp; rw [ym_gw_o _ _ _ _ _ (by omega)]) h
theorem ym_cp_all {I : Nat → Nat → Int} {fr to b : Int} (hb : 0 ≤ b) (hf : 0 ≤ fr) (ht : 0 ≤ to) (hF : ym_SB I fr) (h : b ≠ to → ym_SB I b) : ym_SB (ym_cp I fr to) b := by
  by_cases e : b = to
  · subst e; exact ym_cp_to hf ht hF
  · exact ym_cp_ne hb ht e (h e)
theorem ym_cp_p {I : Nat → Nat → Int} {fr to : Int} {p k : Nat} (hp : p ≠ 100) : ym_cp I fr to p k = I p k := ym_gw_p _ _ _ _ _ hp
theorem ym_cp_o {I : Nat → Nat → Int} {fr to : Int} {k : Nat} (hk : ¬ (110 * to ≤ (k : Int) ∧ (k : Int) < 110 * to + 110)) : ym_cp I fr to 100 k = I 100 k := ym_gw_o _ _ _ _ _ hk
theorem ym_SB_0 {I : Nat → Nat → Int} {b : Int} (h : ym_SB I b) : 0 ≤ I 100 (110 * b).toNat ∧ I 100 (110 * b).toNat ≤ 12 := h.1
/-- the undos -/
def ym_UB (I : Nat → Nat → Int) : Prop := (0 ≤ I 82 30 ∧ I 82 30 ≤ 16) ∧ ∀ u : Int, 0 ≤ u → u < I 82 30 → ym_SB I (5 + u)
