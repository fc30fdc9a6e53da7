/-! A code of the class says what the check's clause says. -/
/-- what a code does, its two numbers, for a clause -/
def cdW (da : Nat) (vg : Prop) [Decidable vg] (wh n : Nat) : Nat × Nat × Nat := if wh = 0 then (4, (if vg then 1 else n), n) else if wh = 1 then (4, 1, n) else if wh = 2 then (4, n, da) else if wh = 3 then (4, 1, da) else if wh = 4 then (5, 0, 0) else if wh = 5 then (5, n, n) else if wh = 6 then (5, 0, n) else if wh = 7 then (6, n, 0) else (7, n, 0)
theorem dq_ho {g : Nat → Nat → Bool} {da wh n p : Nat} {vg : Prop} [Decidable vg] (h6 : wh ≤ 6) (hn : wh ≤ 2 → 1 ≤ n ∧ n ≤ da) : dq g da (cdW da vg wh n).1 (cdW da vg wh n).2.1 (cdW da vg wh n).2.2 p = ho (g p) da vg wh n := by
  have c0 := cnt_0 (g := g p) da
  have one : dur (g p) n 1 = g p n := by
    show (false || g p (n + 0)) = g p n
    rw [Bool.false_or, Nat.add_zero]
  rcases (show wh = 0 ∨ wh = 1 ∨ wh = 2 ∨ wh = 3 ∨ wh = 4 ∨ wh = 5 ∨ wh = 6 by omega) with e | e | e | e | e | e | e <;> subst e
  · show dq g da 4 (if vg then 1 else n) n p = (if vg then dur (g p) 1 n else g p n)
    unfold dq
    rw [if_neg (by omega)]
    by_cases c : vg
    · rw [if_pos c, if_pos c, show n + 1 - 1 = n by omega]
    · rw [if_neg c, if_neg c, show n + 1 - n = 1 by omega, one]
  · show dq g da 4 1 n p = dur (g p) 1 n
    unfold dq
    rw [if_neg (by omega), show n + 1 - 1 = n by omega]
  · show dq g da 4 n da p = dur (g p) n (da + 1 - n)
    unfold dq
    rw [if_neg (by omega)]
  · show dq g da 4 1 da p = dur (g p) 1 da
    unfold dq
    rw [if_neg (by omega), show da + 1 - 1 = da by omega]
  · show dq g da 5 0 0 p = !dur (g p) 1 da
    unfold dq
    rw [if_pos rfl, Bool.eq_iff_iff, decide_eq_true_iff, Bool.not_eq_true', ← Bool.not_eq_true, ← c0.1]
    omega
  · show dq g da 5 n n p = decide (cnt (g p) da = n)
    unfold dq
    rw [if_pos rfl, decide_eq_decide]
    omega
  · show dq g da 5 0 n p = decide (cnt (g p) da ≤ n)
    unfold dq
    rw [if_pos rfl, decide_eq_decide]
    omega
theorem so_one {q : Nat → Bool} {who : Nat} : ∀ k, so (fun p => decide (p = who) && q p) k = (decide (who < k) && q who)
  | 0 => by rw [decide_eq_false (by omega), Bool.false_and]; rfl
  | k + 1 => by
    show (so (fun p => decide (p = who) && q p) k || (decide (k = who) && q k)) = _
    rw [so_one k]
    by_cases c : k = who
    · subst c
      rw [decide_eq_false (by omega), decide_eq_true rfl, decide_eq_true (by omega)]
      simp
    · rw [decide_eq_false c, Bool.false_and, Bool.or_false, show decide (who < k + 1) = decide (who < k) by rw [decide_eq_decide]; omega]
/-- class and check say the same, where the words are the same -/
theorem dcl_hC {g : Nat → Nat → Bool} {h : Nat → Int} {pe ev da who e wh n : Nat} {vg : Prop} [Decidable vg] (hk : cvk pe da who e wh n) (hw : wh ≤ 6 → who < 4 → who < pe) (hg : ∀ p, p < pe → ∀ d, 1 ≤ d → d ≤ da → g p d = hb h pe ev p (e : Int) d) : dcl g pe da (cdW da vg wh n).1 who (cdW da vg wh n).2.1 (cdW da vg wh n).2.2 = hC h pe ev da vg who e wh n := by
  obtain ⟨k1, k2, k3, k4, k5, k6⟩ := hk
  by_cases c8 : wh = 8
  · subst c8
    have z := k5 (by omega)
    show prA (g who) (g n) da = hC h pe ev da vg who e 8 n
    unfold hC
    rw [if_pos rfl]
    exact prA_c da (fun d h1 h2 => ⟨hg _ z.1 d h1 h2, hg _ z.2 d h1 h2⟩)
  by_cases c7 : wh = 7
  · subst c7
    have z := k5 (by omega)
    show prT (g who) (g n) da = hC h pe ev da vg who e 7 n
    unfold hC
    rw [if_neg (by omega), if_pos rfl]
    exact prT_c da (fun d h1 h2 => ⟨hg _ z.1 d h1 h2, hg _ z.2 d h1 h2⟩)
  have h6 : wh ≤ 6 := by omega
  have hq : ∀ p, p < pe → dq g da (cdW da vg wh n).1 (cdW da vg wh n).2.1 (cdW da vg wh n).2.2 p = ho (hb h pe ev p (e : Int)) da vg wh n := fun p hp => (dq_ho h6 k6).trans (ho_c k6 (fun d h1 h2 => hg p hp d h1 h2))
  have w1 : (cdW da vg wh n).1 = 4 ∨ (cdW da vg wh n).1 = 5 := by
    rcases (show wh = 0 ∨ wh = 1 ∨ wh = 2 ∨ wh = 3 ∨ wh = 4 ∨ wh = 5 ∨ wh = 6 by omega) with e | e | e | e | e | e | e <;> subst e
    · exact Or.inl rfl
    · exact Or.inl rfl
    · exact Or.inl rfl
    · exact Or.inl rfl
    · exact Or.inr rfl
    · exact Or.inr rfl
    · exact Or.inr rfl
  unfold dcl hC
  rw [if_neg (by omega), if_neg (by omega), if_neg c8, if_neg c7]
  have hf4 : 4 ≤ who → ∀ p, p < pe → dq g da (cdW da vg wh n).1 (cdW da vg wh n).2.1 (cdW da vg wh n).2.2 p = fC h pe ev da vg who e wh n p := fun h4 p hp => by
    rw [hq p hp]
    unfold fC
    rw [decide_eq_true h4, Bool.true_or, Bool.true_and]
  by_cases c5 : who = 5
  · rw [if_pos c5, if_pos c5]
    exact al_c pe (hf4 (by omega))
  · rw [if_neg c5, if_neg c5]
    by_cases c4 : who = 4
    · rw [if_pos c4]
      exact so_c pe (hf4 (by omega))
    · rw [if_neg c4, hq who (hw h6 (by omega))]
      have e1 : so (fC h pe ev da vg who e wh n) pe = so (fun p => decide (p = who) && ho (hb h pe ev p (e : Int)) da vg wh n) pe := so_c pe (fun p _ => by
        unfold fC
        rw [decide_eq_false (show ¬ 4 ≤ who by omega), Bool.false_or])
      rw [e1, so_one (q := fun p => ho (hb h pe ev p (e : Int)) da vg wh n) pe, decide_eq_true (hw h6 (by omega)), Bool.true_and]
