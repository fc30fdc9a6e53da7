/-! The leaves of the check: no row, or the land's numbers alone. -/
theorem c_within (D : Nat) (hD : 1 ≤ D) {I L : Nat → Nat → Int} {X : ym_X} (hS : ym_S X) {v lo hi : Int} : yi_E zi_Ms D 131 [.inl v, .inl lo, .inl hi] (I, L, X) (fun r => ((lo ≤ v ∧ v ≤ hi) ∧ r = (some (.inl 1), (I, L, X), 0, 0)) ∨ (¬ (lo ≤ v ∧ v ≤ hi) ∧ r = (some (.inl 0), (I, L, X), 0, 0))) := by
  obtain ⟨d, rfl⟩ : ∃ d, D = d + 1 := ⟨D - 1, by omega⟩
  refine yi_E_of (M := zi_m131) rfl rfl ?_
  show yi_G zi_Ms d zi_m131 (0, [(0, .inl v), (1, .inl lo), (2, .inl hi)], [], (I, L, X), 0, 0) _
  refine yi_G_run 2 (2, [(0, .inl v), (1, .inl lo), (2, .inl hi)], [.inl lo, .inl v], (I, L, X), 0, 0) (fun _ => rfl) ?_
  by_cases h1 : v < lo
  · refine yi_G_if2 true rfl (yi_lt_t h1) ?_
    refine yi_G_run 1 (15, [(0, .inl v), (1, .inl lo), (2, .inl hi)], [.inl 0], (I, L, X), 0, 0) (fun _ => rfl) ?_
    exact yi_G_retb rfl rfl (by decide) (Or.inr ⟨by omega, rfl⟩)
  · refine yi_G_if2 false rfl (yi_lt_f h1) ?_
    refine yi_G_run 2 (7, [(0, .inl v), (1, .inl lo), (2, .inl hi)], [.inl hi, .inl v], (I, L, X), 0, 0) (fun _ => rfl) ?_
    by_cases h2 : hi < v
    · refine yi_G_if2 true rfl (yi_gt_t h2) ?_
      refine yi_G_run 1 (15, [(0, .inl v), (1, .inl lo), (2, .inl hi)], [.inl 0], (I, L, X), 0, 0) (fun _ => rfl) ?_
      exact yi_G_retb rfl rfl (by decide) (Or.inr ⟨by omega, rfl⟩)
    · refine yi_G_if2 false rfl (yi_gt_f h2) ?_
      refine yi_G_run 2 (15, [(0, .inl v), (1, .inl lo), (2, .inl hi)], [.inl 1], (I, L, X), 0, 0) (fun _ => rfl) ?_
      exact yi_G_retb rfl rfl (by decide) (Or.inl ⟨by omega, rfl⟩)
theorem c_isLetter (D : Nat) (hD : 1 ≤ D) {I L : Nat → Nat → Int} {X : ym_X} (hS : ym_S X) {c : Int} : yi_E zi_Ms D 54 [.inl c] (I, L, X) (fun r => ((97 ≤ c ∧ c ≤ 122) ∧ r = (some (.inl 1), (I, L, X), 0, 0)) ∨ (¬ (97 ≤ c ∧ c ≤ 122) ∧ r = (some (.inl 0), (I, L, X), 0, 0))) := by
  obtain ⟨d, rfl⟩ : ∃ d, D = d + 1 := ⟨D - 1, by omega⟩
  refine yi_E_of (M := zi_m54) rfl rfl ?_
  show yi_G zi_Ms d zi_m54 (0, [(0, .inl c)], [], (I, L, X), 0, 0) _
  refine yi_G_run 2 (3, [(0, .inl c)], [.inl 97, .inl c], (I, L, X), 0, 0) (fun _ => rfl) ?_
  by_cases h1 : c < 97
  · refine yi_G_if2 true rfl (yi_lt_t h1) ?_
    refine yi_G_run 1 (17, [(0, .inl c)], [.inl 0], (I, L, X), 0, 0) (fun _ => rfl) ?_
    exact yi_G_retb rfl rfl (by decide) (Or.inr ⟨by omega, rfl⟩)
  · refine yi_G_if2 false rfl (yi_lt_f h1) ?_
    refine yi_G_run 2 (9, [(0, .inl c)], [.inl 122, .inl c], (I, L, X), 0, 0) (fun _ => rfl) ?_
    by_cases h2 : 122 < c
    · refine yi_G_if2 true rfl (yi_gt_t h2) ?_
      refine yi_G_run 1 (17, [(0, .inl c)], [.inl 0], (I, L, X), 0, 0) (fun _ => rfl) ?_
      exact yi_G_retb rfl rfl (by decide) (Or.inr ⟨by omega, rfl⟩)
    · refine yi_G_if2 false rfl (yi_gt_f h2) ?_
      refine yi_G_run 2 (17, [(0, .inl c)], [.inl 1], (I, L, X), 0, 0) (fun _ => rfl) ?_
      exact yi_G_retb rfl rfl (by decide) (Or.inl ⟨by omega, rfl⟩)
theorem c_isDigit (D : Nat) (hD : 1 ≤ D) {I L : Nat → Nat → Int} {X : ym_X} (hS : ym_S X) {c : Int} : yi_E zi_Ms D 50 [.inl c] (I, L, X) (fun r => ((48 ≤ c ∧ c ≤ 57) ∧ r = (some (.inl 1), (I, L, X), 0, 0)) ∨ (¬ (48 ≤ c ∧ c ≤ 57) ∧ r = (some (.inl 0), (I, L, X), 0, 0))) := by
  obtain ⟨d, rfl⟩ : ∃ d, D = d + 1 := ⟨D - 1, by omega⟩
  refine yi_E_of (M := zi_m50) rfl rfl ?_
  show yi_G zi_Ms d zi_m50 (0, [(0, .inl c)], [], (I, L, X), 0, 0) _
  refine yi_G_run 2 (3, [(0, .inl c)], [.inl 48, .inl c], (I, L, X), 0, 0) (fun _ => rfl) ?_
  by_cases h1 : c < 48
  · refine yi_G_if2 true rfl (yi_lt_t h1) ?_
    refine yi_G_run 1 (17, [(0, .inl c)], [.inl 0], (I, L, X), 0, 0) (fun _ => rfl) ?_
    exact yi_G_retb rfl rfl (by decide) (Or.inr ⟨by omega, rfl⟩)
  · refine yi_G_if2 false rfl (yi_lt_f h1) ?_
    refine yi_G_run 2 (9, [(0, .inl c)], [.inl 57, .inl c], (I, L, X), 0, 0) (fun _ => rfl) ?_
    by_cases h2 : 57 < c
    · refine yi_G_if2 true rfl (yi_gt_t h2) ?_
      refine yi_G_run 1 (17, [(0, .inl c)], [.inl 0], (I, L, X), 0, 0) (fun _ => rfl) ?_
      exact yi_G_retb rfl rfl (by decide) (Or.inr ⟨by omega, rfl⟩)
    · refine yi_G_if2 false rfl (yi_gt_f h2) ?_
      refine yi_G_run 2 (17, [(0, .inl c)], [.inl 1], (I, L, X), 0, 0) (fun _ => rfl) ?_
      exact yi_G_retb rfl rfl (by decide) (Or.inl ⟨by omega, rfl⟩)
theorem c_isSignOf (D : Nat) (hD : 1 ≤ D) {I L : Nat → Nat → Int} {X : ym_X} (hS : ym_S X) {c : Int} : yi_E zi_Ms D 63 [.inl c] (I, L, X) (fun r => ((c = 40 ∨ c = 41 ∨ c = 59 ∨ c = 61 ∨ c = 60 ∨ c = 43 ∨ c = 45 ∨ c = 42) ∧ r = (some (.inl 1), (I, L, X), 0, 0)) ∨ (¬ (c = 40 ∨ c = 41 ∨ c = 59 ∨ c = 61 ∨ c = 60 ∨ c = 43 ∨ c = 45 ∨ c = 42) ∧ r = (some (.inl 0), (I, L, X), 0, 0))) := by
  obtain ⟨d, rfl⟩ : ∃ d, D = d + 1 := ⟨D - 1, by omega⟩
  refine yi_E_of (M := zi_m63) rfl rfl ?_
  show yi_G zi_Ms d zi_m63 (0, [(0, .inl c)], [], (I, L, X), 0, 0) _
  refine yi_G_run 2 (3, [(0, .inl c)], [.inl 40, .inl c], (I, L, X), 0, 0) (fun _ => rfl) ?_
  by_cases h1 : c = 40
  · refine yi_G_if2 true rfl (yi_eq_t h1) ?_
    refine yi_G_run 2 (53, [(0, .inl c)], [.inl 1], (I, L, X), 0, 0) (fun _ => rfl) ?_
    exact yi_G_retb rfl rfl (by decide) (Or.inl ⟨by omega, rfl⟩)
  · refine yi_G_if2 false rfl (yi_eq_f h1) ?_
    refine yi_G_run 2 (9, [(0, .inl c)], [.inl 41, .inl c], (I, L, X), 0, 0) (fun _ => rfl) ?_
    by_cases h2 : c = 41
    · refine yi_G_if2 true rfl (yi_eq_t h2) ?_
      refine yi_G_run 2 (53, [(0, .inl c)], [.inl 1], (I, L, X), 0, 0) (fun _ => rfl) ?_
      exact yi_G_retb rfl rfl (by decide) (Or.inl ⟨by omega, rfl⟩)
    · refine yi_G_if2 false rfl (yi_eq_f h2) ?_
      refine yi_G_run 2 (15, [(0, .inl c)], [.inl 59, .inl c], (I, L, X), 0, 0) (fun _ => rfl) ?_
      by_cases h3 : c = 59
      · refine yi_G_if2 true rfl (yi_eq_t h3) ?_
        refine yi_G_run 2 (53, [(0, .inl c)], [.inl 1], (I, L, X), 0, 0) (fun _ => rfl) ?_
        exact yi_G_retb rfl rfl (by decide) (Or.inl ⟨by omega, rfl⟩)
      · refine yi_G_if2 false rfl (yi_eq_f h3) ?_
        refine yi_G_run 2 (21, [(0, .inl c)], [.inl 61, .inl c], (I, L, X), 0, 0) (fun _ => rfl) ?_
        by_cases h4 : c = 61
        · refine yi_G_if2 true rfl (yi_eq_t h4) ?_
          refine yi_G_run 2 (53, [(0, .inl c)], [.inl 1], (I, L, X), 0, 0) (fun _ => rfl) ?_
          exact yi_G_retb rfl rfl (by decide) (Or.inl ⟨by omega, rfl⟩)
        · refine yi_G_if2 false rfl (yi_eq_f h4) ?_
          refine yi_G_run 2 (27, [(0, .inl c)], [.inl 60, .inl c], (I, L, X), 0, 0) (fun _ => rfl) ?_
          by_cases h5 : c = 60
          · refine yi_G_if2 true rfl (yi_eq_t h5) ?_
            refine yi_G_run 2 (53, [(0, .inl c)], [.inl 1], (I, L, X), 0, 0) (fun _ => rfl) ?_
            exact yi_G_retb rfl rfl (by decide) (Or.inl ⟨by omega, rfl⟩)
          · refine yi_G_if2 false rfl (yi_eq_f h5) ?_
            refine yi_G_run 2 (33, [(0, .inl c)], [.inl 43, .inl c], (I, L, X), 0, 0) (fun _ => rfl) ?_
            by_cases h6 : c = 43
            · refine yi_G_if2 true rfl (yi_eq_t h6) ?_
              refine yi_G_run 2 (53, [(0, .inl c)], [.inl 1], (I, L, X), 0, 0) (fun _ => rfl) ?_
              exact yi_G_retb rfl rfl (by decide) (Or.inl ⟨by omega, rfl⟩)
            · refine yi_G_if2 false rfl (yi_eq_f h6) ?_
              refine yi_G_run 2 (39, [(0, .inl c)], [.inl 45, .inl c], (I, L, X), 0, 0) (fun _ => rfl) ?_
              by_cases h7 : c = 45
              · refine yi_G_if2 true rfl (yi_eq_t h7) ?_
                refine yi_G_run 2 (53, [(0, .inl c)], [.inl 1], (I, L, X), 0, 0) (fun _ => rfl) ?_
                exact yi_G_retb rfl rfl (by decide) (Or.inl ⟨by omega, rfl⟩)
              · refine yi_G_if2 false rfl (yi_eq_f h7) ?_
                refine yi_G_run 2 (45, [(0, .inl c)], [.inl 42, .inl c], (I, L, X), 0, 0) (fun _ => rfl) ?_
                by_cases h8 : c = 42
                · refine yi_G_if2 false rfl (yi_ne_f h8) ?_
                  refine yi_G_run 2 (53, [(0, .inl c)], [.inl 1], (I, L, X), 0, 0) (fun _ => rfl) ?_
                  exact yi_G_retb rfl rfl (by decide) (Or.inl ⟨by omega, rfl⟩)
                · refine yi_G_if2 true rfl (yi_ne_t h8) ?_
                  refine yi_G_run 1 (53, [(0, .inl c)], [.inl 0], (I, L, X), 0, 0) (fun _ => rfl) ?_
                  exact yi_G_retb rfl rfl (by decide) (Or.inr ⟨by omega, rfl⟩)
theorem c_rank (D : Nat) (hD : 2 ≤ D) {I L : Nat → Nat → Int} {X : ym_X} (hS : ym_S X) {c : Int} (h0 : 0 ≤ c) (h1 : c ≤ 65535) : yi_E zi_Ms D 92 [.inl c] (I, L, X) (fun r => ∃ z, r = (some (.inl z), (I, L, X), 0, 0) ∧ -21 ≤ z ∧ z ≤ 65535) := by
  obtain ⟨d, rfl⟩ : ∃ d, D = d + 1 := ⟨D - 1, by omega⟩
  refine yi_E_of (M := zi_m92) rfl rfl ?_
  show yi_G zi_Ms d zi_m92 (0, [(0, .inl c)], [], (I, L, X), 0, 0) _
  refine yi_G_run 1 (1, [(0, .inl c)], [.inl c], (I, L, X), 0, 0) (fun _ => rfl) ?_
  refine yi_G_calls rfl rfl (c_isLetter d (by omega) hS) ?_
  rintro _ (⟨c1, rfl⟩ | ⟨c1, rfl⟩)
  · show yi_G zi_Ms d zi_m92 (4, [(0, .inl c)], [.inl 1], (I, L, X), 0, 0) _
    refine yi_G_if1 false rfl (by decide) ?_
    refine yi_G_run 2 (10, [(0, .inl c)], [.inl 96, .inl c], (I, L, X), 0, 0) (fun _ => rfl) ?_
    refine yi_G_isub rfl (c - 96) (yi_wn (by omega) (by omega)) ?_
    refine yi_G_run 1 (18, [(0, .inl c)], [.inl (c - 96)], (I, L, X), 0, 0) (fun _ => rfl) ?_
    exact yi_G_reti rfl rfl (⟨_, rfl, by omega, by omega⟩)
  · show yi_G zi_Ms d zi_m92 (4, [(0, .inl c)], [.inl 0], (I, L, X), 0, 0) _
    refine yi_G_if1 true rfl (by decide) ?_
    refine yi_G_run 2 (17, [(0, .inl c)], [.inl 21, .inl c], (I, L, X), 0, 0) (fun _ => rfl) ?_
    refine yi_G_isub rfl (c - 21) (yi_wn (by omega) (by omega)) ?_
    exact yi_G_reti rfl rfl (⟨_, rfl, by omega, by omega⟩)
theorem c_days (D : Nat) (hD : 1 ≤ D) {I L : Nat → Nat → Int} {X : ym_X} (hS : ym_S X) {v : Int} (hv : I 88 0 = v) : yi_E zi_Ms D 17 [.inr (.inr (some 82))] (I, L, X) (fun r => r = (some (.inl v), (I, L, X), 0, 0)) := by
  obtain ⟨d, rfl⟩ : ∃ d, D = d + 1 := ⟨D - 1, by omega⟩
  refine yi_E_of (M := zi_m17) rfl rfl ?_
  show yi_G zi_Ms d zi_m17 (0, [(0, .inr (.inr (some 82)))], [], (I, L, X), 0, 0) _
  refine yi_G_run 1 (1, [(0, .inr (.inr (some 82)))], [.inr (.inr (some 82))], (I, L, X), 0, 0) (fun _ => rfl) ?_
  refine yi_G_get (4, [(0, .inr (.inr (some 82)))], [.inr (.inr (some 88))], (I, L, X), 0, 0) rfl (ym_gr hS 5 rfl rfl rfl) ?_
  refine yi_G_run 1 (5, [(0, .inr (.inr (some 82)))], [.inl 0, .inr (.inr (some 88))], (I, L, X), 0, 0) (fun _ => rfl) ?_
  refine yi_G_iald (6, [(0, .inr (.inr (some 82)))], [.inl (I 88 0)], (I, L, X), 0, 0) rfl (ym_li hS 5 rfl (by omega) (by omega) rfl) ?_
  exact yi_G_reti rfl rfl (by rw [hv])
theorem c_people (D : Nat) (hD : 1 ≤ D) {I L : Nat → Nat → Int} {X : ym_X} (hS : ym_S X) {v : Int} (hv : I 88 1 = v) : yi_E zi_Ms D 88 [.inr (.inr (some 82))] (I, L, X) (fun r => r = (some (.inl v), (I, L, X), 0, 0)) := by
  obtain ⟨d, rfl⟩ : ∃ d, D = d + 1 := ⟨D - 1, by omega⟩
  refine yi_E_of (M := zi_m88) rfl rfl ?_
  show yi_G zi_Ms d zi_m88 (0, [(0, .inr (.inr (some 82)))], [], (I, L, X), 0, 0) _
  refine yi_G_run 1 (1, [(0, .inr (.inr (some 82)))], [.inr (.inr (some 82))], (I, L, X), 0, 0) (fun _ => rfl) ?_
  refine yi_G_get (4, [(0, .inr (.inr (some 82)))], [.inr (.inr (some 88))], (I, L, X), 0, 0) rfl (ym_gr hS 5 rfl rfl rfl) ?_
  refine yi_G_run 1 (5, [(0, .inr (.inr (some 82)))], [.inl 1, .inr (.inr (some 88))], (I, L, X), 0, 0) (fun _ => rfl) ?_
  refine yi_G_iald (6, [(0, .inr (.inr (some 82)))], [.inl (I 88 1)], (I, L, X), 0, 0) rfl (ym_li hS 5 rfl (by omega) (by omega) rfl) ?_
  exact yi_G_reti rfl rfl (by rw [hv])
theorem c_events (D : Nat) (hD : 1 ≤ D) {I L : Nat → Nat → Int} {X : ym_X} (hS : ym_S X) {v : Int} (hv : I 88 2 = v) : yi_E zi_Ms D 22 [.inr (.inr (some 82))] (I, L, X) (fun r => r = (some (.inl v), (I, L, X), 0, 0)) := by
  obtain ⟨d, rfl⟩ : ∃ d, D = d + 1 := ⟨D - 1, by omega⟩
  refine yi_E_of (M := zi_m22) rfl rfl ?_
  show yi_G zi_Ms d zi_m22 (0, [(0, .inr (.inr (some 82)))], [], (I, L, X), 0, 0) _
  refine yi_G_run 1 (1, [(0, .inr (.inr (some 82)))], [.inr (.inr (some 82))], (I, L, X), 0, 0) (fun _ => rfl) ?_
  refine yi_G_get (4, [(0, .inr (.inr (some 82)))], [.inr (.inr (some 88))], (I, L, X), 0, 0) rfl (ym_gr hS 5 rfl rfl rfl) ?_
  refine yi_G_run 1 (5, [(0, .inr (.inr (some 82)))], [.inl 2, .inr (.inr (some 88))], (I, L, X), 0, 0) (fun _ => rfl) ?_
  refine yi_G_iald (6, [(0, .inr (.inr (some 82)))], [.inl (I 88 2)], (I, L, X), 0, 0) rfl (ym_li hS 5 rfl (by omega) (by omega) rfl) ?_
  exact yi_G_reti rfl rfl (by rw [hv])
theorem c_isPerson (D : Nat) (hD : 2 ≤ D) {I L : Nat → Nat → Int} {X : ym_X} (hS : ym_S X) {p n : Int} (hv : I 88 1 = n) : yi_E zi_Ms D 58 [.inr (.inr (some 82)), .inl p] (I, L, X) (fun r => ((0 ≤ p ∧ p < I 88 1) ∧ r = (some (.inl 1), (I, L, X), 0, 0)) ∨ (¬ (0 ≤ p ∧ p < I 88 1) ∧ r = (some (.inl 0), (I, L, X), 0, 0))) := by
  obtain ⟨d, rfl⟩ : ∃ d, D = d + 1 := ⟨D - 1, by omega⟩
  refine yi_E_of (M := zi_m58) rfl rfl ?_
  subst hv
  show yi_G zi_Ms d zi_m58 (0, [(0, .inr (.inr (some 82))), (1, .inl p)], [], (I, L, X), 0, 0) _
  refine yi_G_run 1 (1, [(0, .inr (.inr (some 82))), (1, .inl p)], [.inl p], (I, L, X), 0, 0) (fun _ => rfl) ?_
  by_cases h1 : p < 0
  · refine yi_G_if1 true rfl (yi_lt_t h1) ?_
    refine yi_G_run 1 (17, [(0, .inr (.inr (some 82))), (1, .inl p)], [.inl 0], (I, L, X), 0, 0) (fun _ => rfl) ?_
    exact yi_G_retb rfl rfl (by decide) (Or.inr ⟨by omega, rfl⟩)
  · refine yi_G_if1 false rfl (yi_lt_f h1) ?_
    refine yi_G_run 2 (6, [(0, .inr (.inr (some 82))), (1, .inl p)], [.inr (.inr (some 82)), .inl p], (I, L, X), 0, 0) (fun _ => rfl) ?_
    refine yi_G_callv rfl rfl (ym_rcv hS) rfl (c_people d (by omega) hS rfl) ?_
    rintro _ rfl
    show yi_G zi_Ms d zi_m58 (9, [(0, .inr (.inr (some 82))), (1, .inl p)], [.inl (I 88 1), .inl p], (I, L, X), 0, 0) _
    by_cases h2 : (I 88 1) ≤ p
    · refine yi_G_if2 true rfl (yi_ge_t h2) ?_
      refine yi_G_run 1 (17, [(0, .inr (.inr (some 82))), (1, .inl p)], [.inl 0], (I, L, X), 0, 0) (fun _ => rfl) ?_
      exact yi_G_retb rfl rfl (by decide) (Or.inr ⟨by omega, rfl⟩)
    · refine yi_G_if2 false rfl (yi_ge_f h2) ?_
      refine yi_G_run 2 (17, [(0, .inr (.inr (some 82))), (1, .inl p)], [.inl 1], (I, L, X), 0, 0) (fun _ => rfl) ?_
      exact yi_G_retb rfl rfl (by decide) (Or.inl ⟨by omega, rfl⟩)
theorem c_isEvent (D : Nat) (hD : 2 ≤ D) {I L : Nat → Nat → Int} {X : ym_X} (hS : ym_S X) {p n : Int} (hv : I 88 2 = n) : yi_E zi_Ms D 51 [.inr (.inr (some 82)), .inl p] (I, L, X) (fun r => ((0 ≤ p ∧ p < I 88 2) ∧ r = (some (.inl 1), (I, L, X), 0, 0)) ∨ (¬ (0 ≤ p ∧ p < I 88 2) ∧ r = (some (.inl 0), (I, L, X), 0, 0))) := by
  obtain ⟨d, rfl⟩ : ∃ d, D = d + 1 := ⟨D - 1, by omega⟩
  refine yi_E_of (M := zi_m51) rfl rfl ?_
  subst hv
  show yi_G zi_Ms d zi_m51 (0, [(0, .inr (.inr (some 82))), (1, .inl p)], [], (I, L, X), 0, 0) _
  refine yi_G_run 1 (1, [(0, .inr (.inr (some 82))), (1, .inl p)], [.inl p], (I, L, X), 0, 0) (fun _ => rfl) ?_
  by_cases h1 : p < 0
  · refine yi_G_if1 true rfl (yi_lt_t h1) ?_
    refine yi_G_run 1 (17, [(0, .inr (.inr (some 82))), (1, .inl p)], [.inl 0], (I, L, X), 0, 0) (fun _ => rfl) ?_
    exact yi_G_retb rfl rfl (by decide) (Or.inr ⟨by omega, rfl⟩)
  · refine yi_G_if1 false rfl (yi_lt_f h1) ?_
    refine yi_G_run 2 (6, [(0, .inr (.inr (some 82))), (1, .inl p)], [.inr (.inr (some 82)), .inl p], (I, L, X), 0, 0) (fun _ => rfl) ?_
    refine yi_G_callv rfl rfl (ym_rcv hS) rfl (c_events d (by omega) hS rfl) ?_
    rintro _ rfl
    show yi_G zi_Ms d zi_m51 (9, [(0, .inr (.inr (some 82))), (1, .inl p)], [.inl (I 88 2), .inl p], (I, L, X), 0, 0) _
    by_cases h2 : (I 88 2) ≤ p
    · refine yi_G_if2 true rfl (yi_ge_t h2) ?_
      refine yi_G_run 1 (17, [(0, .inr (.inr (some 82))), (1, .inl p)], [.inl 0], (I, L, X), 0, 0) (fun _ => rfl) ?_
      exact yi_G_retb rfl rfl (by decide) (Or.inr ⟨by omega, rfl⟩)
    · refine yi_G_if2 false rfl (yi_ge_f h2) ?_
      refine yi_G_run 2 (17, [(0, .inr (.inr (some 82))), (1, .inl p)], [.inl 1], (I, L, X), 0, 0) (fun _ => rfl) ?_
      exact yi_G_retb rfl rfl (by decide) (Or.inl ⟨by omega, rfl⟩)
theorem c_isDay (D : Nat) (hD : 2 ≤ D) {I L : Nat → Nat → Int} {X : ym_X} (hS : ym_S X) {p n : Int} (hv : I 88 0 = n) : yi_E zi_Ms D 49 [.inr (.inr (some 82)), .inl p] (I, L, X) (fun r => ((1 ≤ p ∧ p ≤ I 88 0) ∧ r = (some (.inl 1), (I, L, X), 0, 0)) ∨ (¬ (1 ≤ p ∧ p ≤ I 88 0) ∧ r = (some (.inl 0), (I, L, X), 0, 0))) := by
  obtain ⟨d, rfl⟩ : ∃ d, D = d + 1 := ⟨D - 1, by omega⟩
  refine yi_E_of (M := zi_m49) rfl rfl ?_
  subst hv
  show yi_G zi_Ms d zi_m49 (0, [(0, .inr (.inr (some 82))), (1, .inl p)], [], (I, L, X), 0, 0) _
  refine yi_G_run 2 (2, [(0, .inr (.inr (some 82))), (1, .inl p)], [.inl 1, .inl p], (I, L, X), 0, 0) (fun _ => rfl) ?_
  by_cases h1 : p < 1
  · refine yi_G_if2 true rfl (yi_lt_t h1) ?_
    refine yi_G_run 1 (18, [(0, .inr (.inr (some 82))), (1, .inl p)], [.inl 0], (I, L, X), 0, 0) (fun _ => rfl) ?_
    exact yi_G_retb rfl rfl (by decide) (Or.inr ⟨by omega, rfl⟩)
  · refine yi_G_if2 false rfl (yi_lt_f h1) ?_
    refine yi_G_run 2 (7, [(0, .inr (.inr (some 82))), (1, .inl p)], [.inr (.inr (some 82)), .inl p], (I, L, X), 0, 0) (fun _ => rfl) ?_
    refine yi_G_callv rfl rfl (ym_rcv hS) rfl (c_days d (by omega) hS rfl) ?_
    rintro _ rfl
    show yi_G zi_Ms d zi_m49 (10, [(0, .inr (.inr (some 82))), (1, .inl p)], [.inl (I 88 0), .inl p], (I, L, X), 0, 0) _
    by_cases h2 : (I 88 0) < p
    · refine yi_G_if2 true rfl (yi_gt_t h2) ?_
      refine yi_G_run 1 (18, [(0, .inr (.inr (some 82))), (1, .inl p)], [.inl 0], (I, L, X), 0, 0) (fun _ => rfl) ?_
      exact yi_G_retb rfl rfl (by decide) (Or.inr ⟨by omega, rfl⟩)
    · refine yi_G_if2 false rfl (yi_gt_f h2) ?_
      refine yi_G_run 2 (18, [(0, .inr (.inr (some 82))), (1, .inl p)], [.inl 1], (I, L, X), 0, 0) (fun _ => rfl) ?_
      exact yi_G_retb rfl rfl (by decide) (Or.inl ⟨by omega, rfl⟩)
theorem c_isProphet (D : Nat) (hD : 1 ≤ D) {I L : Nat → Nat → Int} {X : ym_X} (hS : ym_S X) {p n : Int} (hv : I 88 3 = n) : yi_E zi_Ms D 59 [.inr (.inr (some 82)), .inl p] (I, L, X) (fun r => ((0 ≤ p ∧ p < I 88 3) ∧ r = (some (.inl 1), (I, L, X), 0, 0)) ∨ (¬ (0 ≤ p ∧ p < I 88 3) ∧ r = (some (.inl 0), (I, L, X), 0, 0))) := by
  obtain ⟨d, rfl⟩ : ∃ d, D = d + 1 := ⟨D - 1, by omega⟩
  refine yi_E_of (M := zi_m59) rfl rfl ?_
  subst hv
  show yi_G zi_Ms d zi_m59 (0, [(0, .inr (.inr (some 82))), (1, .inl p)], [], (I, L, X), 0, 0) _
  refine yi_G_run 1 (1, [(0, .inr (.inr (some 82))), (1, .inl p)], [.inl p], (I, L, X), 0, 0) (fun _ => rfl) ?_
  by_cases h1 : p < 0
  · refine yi_G_if1 true rfl (yi_lt_t h1) ?_
    refine yi_G_run 1 (19, [(0, .inr (.inr (some 82))), (1, .inl p)], [.inl 0], (I, L, X), 0, 0) (fun _ => rfl) ?_
    exact yi_G_retb rfl rfl (by decide) (Or.inr ⟨by omega, rfl⟩)
  · refine yi_G_if1 false rfl (yi_lt_f h1) ?_
    refine yi_G_run 2 (6, [(0, .inr (.inr (some 82))), (1, .inl p)], [.inr (.inr (some 82)), .inl p], (I, L, X), 0, 0) (fun _ => rfl) ?_
    refine yi_G_get (9, [(0, .inr (.inr (some 82))), (1, .inl p)], [.inr (.inr (some 88)), .inl p], (I, L, X), 0, 0) rfl (ym_gr hS 5 rfl rfl rfl) ?_
    refine yi_G_run 1 (10, [(0, .inr (.inr (some 82))), (1, .inl p)], [.inl 3, .inr (.inr (some 88)), .inl p], (I, L, X), 0, 0) (fun _ => rfl) ?_
    refine yi_G_iald (11, [(0, .inr (.inr (some 82))), (1, .inl p)], [.inl (I 88 3), .inl p], (I, L, X), 0, 0) rfl (ym_li hS 5 rfl (by omega) (by omega) rfl) ?_
    by_cases h2 : (I 88 3) ≤ p
    · refine yi_G_if2 true rfl (yi_ge_t h2) ?_
      refine yi_G_run 1 (19, [(0, .inr (.inr (some 82))), (1, .inl p)], [.inl 0], (I, L, X), 0, 0) (fun _ => rfl) ?_
      exact yi_G_retb rfl rfl (by decide) (Or.inr ⟨by omega, rfl⟩)
    · refine yi_G_if2 false rfl (yi_ge_f h2) ?_
      refine yi_G_run 2 (19, [(0, .inr (.inr (some 82))), (1, .inl p)], [.inl 1], (I, L, X), 0, 0) (fun _ => rfl) ?_
      exact yi_G_retb rfl rfl (by decide) (Or.inl ⟨by omega, rfl⟩)
theorem c_how (D : Nat) (hD : 1 ≤ D) {I L : Nat → Nat → Int} {X : ym_X} (hS : ym_S X) {a n : Int} : yi_E zi_Ms D 45 [.inl a, .inl n] (I, L, X) (fun r => ∃ z, r = (some (.inl z), (I, L, X), 0, 0) ∧ 0 ≤ z ∧ z ≤ 2) := by
  obtain ⟨d, rfl⟩ : ∃ d, D = d + 1 := ⟨D - 1, by omega⟩
  refine yi_E_of (M := zi_m45) rfl rfl ?_
  show yi_G zi_Ms d zi_m45 (0, [(0, .inl a), (1, .inl n)], [], (I, L, X), 0, 0) _
  refine yi_G_run 1 (1, [(0, .inl a), (1, .inl n)], [.inl n], (I, L, X), 0, 0) (fun _ => rfl) ?_
  by_cases h1 : n = 0
  · refine yi_G_if1 false rfl (yi_ne_f h1) ?_
    refine yi_G_run 2 (18, [(0, .inl a), (1, .inl n)], [.inl 0], (I, L, X), 0, 0) (fun _ => rfl) ?_
    exact yi_G_reti rfl rfl (⟨_, rfl, by omega, by omega⟩)
  · refine yi_G_if1 true rfl (yi_ne_t h1) ?_
    refine yi_G_run 2 (10, [(0, .inl a), (1, .inl n)], [.inl a, .inl n], (I, L, X), 0, 0) (fun _ => rfl) ?_
    by_cases h2 : n = a
    · refine yi_G_if2 false rfl (yi_ne_f h2) ?_
      refine yi_G_run 2 (18, [(0, .inl a), (1, .inl n)], [.inl 1], (I, L, X), 0, 0) (fun _ => rfl) ?_
      exact yi_G_reti rfl rfl (⟨_, rfl, by omega, by omega⟩)
    · refine yi_G_if2 true rfl (yi_ne_t h2) ?_
      refine yi_G_run 1 (18, [(0, .inl a), (1, .inl n)], [.inl 2], (I, L, X), 0, 0) (fun _ => rfl) ?_
      exact yi_G_reti rfl rfl (⟨_, rfl, by omega, by omega⟩)
