/-! The check: rows as sets of futures. -/
/-- is a future in a row -/
def rbt (L : Nat → Nat → Int) (a f : Nat) : Bool := yb (L 97 (512 * a + f / 64)) (f % 64)
/-- a row's longs are longs -/
def rok (L : Nat → Nat → Int) (a n : Nat) : Prop := ∀ k, k < n → b64 (L 97 (512 * a + k))
theorem q_sets {d : Nat} {I L : Nat → Nat → Int} {R : Nat → Nat → Option Nat} {Y : (Nat → Nat) × (Nat → Nat) × Nat} {a f : Nat} {x y : Int} (hS : ym_S (R, Y)) (hx : x = (a : Int)) (hy : y = (f : Int)) (ha : a ≤ 311) (hf : f < 32768) : yi_P zi_Ms d 108 [.inr (.inr (some 82)), .inl x, .inl y] (I, L, R, Y) (fun r => ∃ L', r = (none, (I, L', R, Y), 0, 0) ∧ (∀ f', rbt L' a f' = (rbt L a f' || decide (f' = f))) ∧ (∀ n, rok L a n → rok L' a n) ∧ ∀ p i, ¬ (p = 97 ∧ i = 512 * a + f / 64) → L' p i = L p i) := by
  subst hx hy
  refine (yi_EP (c_sets (X := (R, Y)) 1 (by omega) hS (by omega) (by omega) (by omega) (by omega))).imp (fun r e => ⟨_, e, fun f' => ?_, fun n h k hk => ?_, fun p i h => ?_⟩)
  all_goals rw [show (512 * (a : Int) + (f : Int) / 64).toNat = 512 * a + f / 64 by omega, show (f : Int) % 64 = ((f % 64 : Nat) : Int) by omega]
  · unfold rbt
    by_cases c : f' / 64 = f / 64
    · rw [c, yi_u_eq, yb_or, yb_one (f % 64) (by omega) (f' % 64) (by omega)]
      congr 1
      by_cases c2 : f' = f
      · rw [c2, decide_eq_true rfl, decide_eq_true rfl]
      · rw [decide_eq_false c2, decide_eq_false (by omega)]
    · rw [yi_u_ne _ _ (by omega), decide_eq_false (by intro z; exact c (by rw [z])), Bool.or_false]
  · by_cases c : k = f / 64
    · rw [c, yi_u_eq]
      exact b64_lor _ _
    · rw [yi_u_ne _ _ (by omega)]
      exact h k hk
  · exact yi_u_ne _ _ h
