/-! More leaves of the check. -/
theorem c_kindOf (D : Nat) (hD : 1 ≤ D) {I L : Nat → Nat → Int} {X : ym_X} (hS : ym_S X) {p : Int} (h0 : 0 ≤ p) (h1 : p ≤ 4) : yi_E zi_Ms D 70 [.inr (.inr (some 82)), .inl p] (I, L, X) (fun r => r = (some (.inl (I 88 (11 + 2 * p).toNat)), (I, L, X), 0, 0)) := by
  obtain ⟨d, rfl⟩ : ∃ d, D = d + 1 := ⟨D - 1, by omega⟩
  refine yi_E_of (M := zi_m70) rfl rfl ?_
  show yi_G zi_Ms d zi_m70 (0, [(0, .inr (.inr (some 82))), (1, .inl p)], [], (I, L, X), 0, 0) _
  refine yi_G_run 1 (1, [(0, .inr (.inr (some 82))), (1, .inl p)], [.inr (.inr (some 82))], (I, L, X), 0, 0) (fun _ => rfl) ?_
  refine yi_G_get (4, [(0, .inr (.inr (some 82))), (1, .inl p)], [.inr (.inr (some 88))], (I, L, X), 0, 0) rfl (ym_gr hS 5 rfl rfl rfl) ?_
  refine yi_G_run 3 (8, [(0, .inr (.inr (some 82))), (1, .inl p)], [.inl p, .inl 2, .inl 11, .inr (.inr (some 88))], (I, L, X), 0, 0) (fun _ => rfl) ?_
  refine yi_G_imul rfl (2 * p) (yi_wn (by omega) (by omega)) ?_
  refine yi_G_iadd rfl (11 + (2 * p)) (yi_wn (by omega) (by omega)) ?_
  refine yi_G_iald (11, [(0, .inr (.inr (some 82))), (1, .inl p)], [.inl (I 88 ((11 + (2 * p)).toNat))], (I, L, X), 0, 0) rfl (ym_li hS 5 rfl (by omega) (by omega) rfl) ?_
  exact yi_G_reti rfl rfl (rfl)
theorem c_wordAt (D : Nat) (hD : 2 ≤ D) {I L : Nat → Nat → Int} {X : ym_X} (hS : ym_S X) {p da ev : Int} (hLR : ym_LR I) (h0 : 0 ≤ p) (h1 : p ≤ 3) (h2 : 1 ≤ da) (h3 : da ≤ 6) (h4 : 0 ≤ ev) (h5 : ev ≤ 3) : yi_E zi_Ms D 133 [.inr (.inr (some 82)), .inl p, .inl da, .inl ev] (I, L, X) (fun r => ∃ z, r = (some (.inl z), (I, L, X), 0, 0) ∧ 0 ≤ z ∧ z ≤ 95 ∧ z = I 88 2 * (I 88 1 * (da - 1) + p) + ev) := by
  obtain ⟨d, rfl⟩ : ∃ d, D = d + 1 := ⟨D - 1, by omega⟩
  refine yi_E_of (M := zi_m133) rfl rfl ?_
  obtain ⟨l0, l1, l2, l3, l4, l5⟩ := id hLR
  have m1 := yi_mb (a := I 88 1) (b := da - 1) (A := 4) (B := 5) (by omega) (by omega) (by omega) (by omega)
  have m2 := yi_mb (a := I 88 2) (b := I 88 1 * (da - 1) + p) (A := 4) (B := 23) (by omega) (by omega) (by omega) (by omega)
  show yi_G zi_Ms d zi_m133 (0, [(0, .inr (.inr (some 82))), (1, .inl p), (2, .inl da), (3, .inl ev)], [], (I, L, X), 0, 0) _
  refine yi_G_run 1 (1, [(0, .inr (.inr (some 82))), (1, .inl p), (2, .inl da), (3, .inl ev)], [.inr (.inr (some 82))], (I, L, X), 0, 0) (fun _ => rfl) ?_
  refine yi_G_callv rfl rfl (ym_rcv hS) rfl (c_events d (by omega) hS rfl) ?_
  rintro _ rfl
  show yi_G zi_Ms d zi_m133 (4, [(0, .inr (.inr (some 82))), (1, .inl p), (2, .inl da), (3, .inl ev)], [.inl (I 88 2)], (I, L, X), 0, 0) _
  refine yi_G_run 1 (5, [(0, .inr (.inr (some 82))), (1, .inl p), (2, .inl da), (3, .inl ev)], [.inr (.inr (some 82)), .inl (I 88 2)], (I, L, X), 0, 0) (fun _ => rfl) ?_
  refine yi_G_callv rfl rfl (ym_rcv hS) rfl (c_people d (by omega) hS rfl) ?_
  rintro _ rfl
  show yi_G zi_Ms d zi_m133 (8, [(0, .inr (.inr (some 82))), (1, .inl p), (2, .inl da), (3, .inl ev)], [.inl (I 88 1), .inl (I 88 2)], (I, L, X), 0, 0) _
  refine yi_G_run 2 (10, [(0, .inr (.inr (some 82))), (1, .inl p), (2, .inl da), (3, .inl ev)], [.inl 1, .inl da, .inl (I 88 1), .inl (I 88 2)], (I, L, X), 0, 0) (fun _ => rfl) ?_
  refine yi_G_isub rfl (da - 1) (yi_wn (by omega) (by omega)) ?_
  refine yi_G_imul rfl ((I 88 1) * (da - 1)) (yi_wn (by omega) (by omega)) ?_
  refine yi_G_run 1 (13, [(0, .inr (.inr (some 82))), (1, .inl p), (2, .inl da), (3, .inl ev)], [.inl p, .inl ((I 88 1) * (da - 1)), .inl (I 88 2)], (I, L, X), 0, 0) (fun _ => rfl) ?_
  refine yi_G_iadd rfl (((I 88 1) * (da - 1)) + p) (yi_wn (by omega) (by omega)) ?_
  refine yi_G_imul rfl ((I 88 2) * (((I 88 1) * (da - 1)) + p)) (yi_wn (by omega) (by omega)) ?_
  refine yi_G_run 1 (16, [(0, .inr (.inr (some 82))), (1, .inl p), (2, .inl da), (3, .inl ev)], [.inl ev, .inl ((I 88 2) * (((I 88 1) * (da - 1)) + p))], (I, L, X), 0, 0) (fun _ => rfl) ?_
  refine yi_G_iadd rfl (((I 88 2) * (((I 88 1) * (da - 1)) + p)) + ev) (yi_wn (by omega) (by omega)) ?_
  exact yi_G_reti rfl rfl (⟨_, rfl, by omega, by omega, rfl⟩)
theorem c_numberOf (D : Nat) (hD : 1 ≤ D) {I L : Nat → Nat → Int} {X : ym_X} (hS : ym_S X) {p da ev : Int} (h0 : 0 ≤ p) (h1 : p ≤ 3) (h2 : 1 ≤ da) (h3 : da ≤ 6) (h4 : 0 ≤ ev) (h5 : ev ≤ 3) : yi_E zi_Ms D 85 [.inr (.inr (some 82)), .inl p, .inl da, .inl ev] (I, L, X) (fun r => r = (some (.inl (16 * (da - 1) + 4 * p + ev)), (I, L, X), 0, 0)) := by
  obtain ⟨d, rfl⟩ : ∃ d, D = d + 1 := ⟨D - 1, by omega⟩
  refine yi_E_of (M := zi_m85) rfl rfl ?_
  show yi_G zi_Ms d zi_m85 (0, [(0, .inr (.inr (some 82))), (1, .inl p), (2, .inl da), (3, .inl ev)], [], (I, L, X), 0, 0) _
  refine yi_G_run 3 (4, [(0, .inr (.inr (some 82))), (1, .inl p), (2, .inl da), (3, .inl ev)], [.inl 1, .inl da, .inl 16], (I, L, X), 0, 0) (fun _ => rfl) ?_
  refine yi_G_isub rfl (da - 1) (yi_wn (by omega) (by omega)) ?_
  refine yi_G_imul rfl (16 * (da - 1)) (yi_wn (by omega) (by omega)) ?_
  refine yi_G_run 2 (8, [(0, .inr (.inr (some 82))), (1, .inl p), (2, .inl da), (3, .inl ev)], [.inl p, .inl 4, .inl (16 * (da - 1))], (I, L, X), 0, 0) (fun _ => rfl) ?_
  refine yi_G_imul rfl (4 * p) (yi_wn (by omega) (by omega)) ?_
  refine yi_G_iadd rfl ((16 * (da - 1)) + (4 * p)) (yi_wn (by omega) (by omega)) ?_
  refine yi_G_run 1 (11, [(0, .inr (.inr (some 82))), (1, .inl p), (2, .inl da), (3, .inl ev)], [.inl ev, .inl ((16 * (da - 1)) + (4 * p))], (I, L, X), 0, 0) (fun _ => rfl) ?_
  refine yi_G_iadd rfl (((16 * (da - 1)) + (4 * p)) + ev) (yi_wn (by omega) (by omega)) ?_
  exact yi_G_reti rfl rfl (rfl)
theorem c_rowOf (D : Nat) (hD : 3 ≤ D) {I L : Nat → Nat → Int} {X : ym_X} (hS : ym_S X) {n : Int} (hLR : ym_LR I) (h0 : 0 ≤ n) (h1 : n ≤ 95) : yi_E zi_Ms D 106 [.inr (.inr (some 82)), .inl n] (I, L, X) (fun r => ∃ z, r = (some (.inl z), (I, L, X), 0, 0) ∧ 0 ≤ z ∧ z ≤ 95) := by
  obtain ⟨d, rfl⟩ : ∃ d, D = d + 1 := ⟨D - 1, by omega⟩
  refine yi_E_of (M := zi_m106) rfl rfl ?_
  obtain ⟨l0, l1, l2, l3, l4, l5⟩ := id hLR
  show yi_G zi_Ms d zi_m106 (0, [(0, .inr (.inr (some 82))), (1, .inl n)], [], (I, L, X), 0, 0) _
  refine yi_G_run 3 (3, [(0, .inr (.inr (some 82))), (1, .inl n)], [.inl 4, .inl n, .inr (.inr (some 82))], (I, L, X), 0, 0) (fun _ => rfl) ?_
  refine yi_G_idiv rfl (by decide) (n / 4) (yi_dv (by omega) rfl (by omega) (by omega)) ?_
  refine yi_G_run 1 (5, [(0, .inr (.inr (some 82))), (1, .inl n)], [.inl 4, .inl (n / 4), .inr (.inr (some 82))], (I, L, X), 0, 0) (fun _ => rfl) ?_
  refine yi_G_irem rfl (by decide) ((n / 4) % 4) (yi_md (by omega) rfl) ?_
  refine yi_G_run 2 (9, [(0, .inr (.inr (some 82))), (1, .inl n)], [.inl 16, .inl n, .inl ((n / 4) % 4), .inr (.inr (some 82))], (I, L, X), 0, 0) (fun _ => rfl) ?_
  refine yi_G_idiv rfl (by decide) (n / 16) (yi_dv (by omega) rfl (by omega) (by omega)) ?_
  refine yi_G_run 1 (11, [(0, .inr (.inr (some 82))), (1, .inl n)], [.inl 1, .inl (n / 16), .inl ((n / 4) % 4), .inr (.inr (some 82))], (I, L, X), 0, 0) (fun _ => rfl) ?_
  refine yi_G_iadd rfl ((n / 16) + 1) (yi_wn (by omega) (by omega)) ?_
  refine yi_G_run 2 (14, [(0, .inr (.inr (some 82))), (1, .inl n)], [.inl 4, .inl n, .inl ((n / 16) + 1), .inl ((n / 4) % 4), .inr (.inr (some 82))], (I, L, X), 0, 0) (fun _ => rfl) ?_
  refine yi_G_irem rfl (by decide) (n % 4) (yi_md (by omega) rfl) ?_
  refine yi_G_callv rfl rfl (ym_rcv hS) rfl (c_wordAt d (by omega) hS hLR (by omega) (by omega) (by omega) (by omega) (by omega) (by omega)) ?_
  rintro _ ⟨z1, rfl, h2a, h2b, h2c⟩
  show yi_G zi_Ms d zi_m106 (18, [(0, .inr (.inr (some 82))), (1, .inl n)], [.inl z1], (I, L, X), 0, 0) _
  exact yi_G_reti rfl rfl (⟨_, rfl, by omega, by omega⟩)
theorem c_isNumber (D : Nat) (hD : 2 ≤ D) {I L : Nat → Nat → Int} {X : ym_X} (hS : ym_S X) {n : Int} (h0 : 0 ≤ n) (h1 : n ≤ 95) : yi_E zi_Ms D 57 [.inr (.inr (some 82)), .inl n] (I, L, X) (fun r => ((n / 4 % 4 < I 88 1 ∧ n % 4 < I 88 2) ∧ r = (some (.inl 1), (I, L, X), 0, 0)) ∨ (¬ (n / 4 % 4 < I 88 1 ∧ n % 4 < I 88 2) ∧ r = (some (.inl 0), (I, L, X), 0, 0))) := by
  obtain ⟨d, rfl⟩ : ∃ d, D = d + 1 := ⟨D - 1, by omega⟩
  refine yi_E_of (M := zi_m57) rfl rfl ?_
  show yi_G zi_Ms d zi_m57 (0, [(0, .inr (.inr (some 82))), (1, .inl n)], [], (I, L, X), 0, 0) _
  refine yi_G_run 2 (2, [(0, .inr (.inr (some 82))), (1, .inl n)], [.inl 4, .inl n], (I, L, X), 0, 0) (fun _ => rfl) ?_
  refine yi_G_idiv rfl (by decide) (n / 4) (yi_dv (by omega) rfl (by omega) (by omega)) ?_
  refine yi_G_run 1 (4, [(0, .inr (.inr (some 82))), (1, .inl n)], [.inl 4, .inl (n / 4)], (I, L, X), 0, 0) (fun _ => rfl) ?_
  refine yi_G_irem rfl (by decide) ((n / 4) % 4) (yi_md (by omega) rfl) ?_
  refine yi_G_run 1 (6, [(0, .inr (.inr (some 82))), (1, .inl n)], [.inr (.inr (some 82)), .inl ((n / 4) % 4)], (I, L, X), 0, 0) (fun _ => rfl) ?_
  refine yi_G_callv rfl rfl (ym_rcv hS) rfl (c_people d (by omega) hS rfl) ?_
  rintro _ rfl
  show yi_G zi_Ms d zi_m57 (9, [(0, .inr (.inr (some 82))), (1, .inl n)], [.inl (I 88 1), .inl ((n / 4) % 4)], (I, L, X), 0, 0) _
  by_cases h1 : (I 88 1) ≤ ((n / 4) % 4)
  · refine yi_G_if2 true rfl (yi_ge_t h1) ?_
    refine yi_G_run 1 (27, [(0, .inr (.inr (some 82))), (1, .inl n)], [.inl 0], (I, L, X), 0, 0) (fun _ => rfl) ?_
    exact yi_G_retb rfl rfl (by decide) (Or.inr ⟨by omega, rfl⟩)
  · refine yi_G_if2 false rfl (yi_ge_f h1) ?_
    refine yi_G_run 2 (14, [(0, .inr (.inr (some 82))), (1, .inl n)], [.inl 4, .inl n], (I, L, X), 0, 0) (fun _ => rfl) ?_
    refine yi_G_irem rfl (by decide) (n % 4) (yi_md (by omega) rfl) ?_
    refine yi_G_run 1 (16, [(0, .inr (.inr (some 82))), (1, .inl n)], [.inr (.inr (some 82)), .inl (n % 4)], (I, L, X), 0, 0) (fun _ => rfl) ?_
    refine yi_G_callv rfl rfl (ym_rcv hS) rfl (c_events d (by omega) hS rfl) ?_
    rintro _ rfl
    show yi_G zi_Ms d zi_m57 (19, [(0, .inr (.inr (some 82))), (1, .inl n)], [.inl (I 88 2), .inl (n % 4)], (I, L, X), 0, 0) _
    by_cases h2 : (I 88 2) ≤ (n % 4)
    · refine yi_G_if2 true rfl (yi_ge_t h2) ?_
      refine yi_G_run 1 (27, [(0, .inr (.inr (some 82))), (1, .inl n)], [.inl 0], (I, L, X), 0, 0) (fun _ => rfl) ?_
      exact yi_G_retb rfl rfl (by decide) (Or.inr ⟨by omega, rfl⟩)
    · refine yi_G_if2 false rfl (yi_ge_f h2) ?_
      refine yi_G_run 2 (27, [(0, .inr (.inr (some 82))), (1, .inl n)], [.inl 1], (I, L, X), 0, 0) (fun _ => rfl) ?_
      exact yi_G_retb rfl rfl (by decide) (Or.inl ⟨by omega, rfl⟩)
theorem c_vagueMany (D : Nat) (hD : 2 ≤ D) {I L : Nat → Nat → Int} {X : ym_X} (hS : ym_S X) (hLR : ym_LR I) : yi_E zi_Ms D 126 [.inr (.inr (some 82))] (I, L, X) (fun r => r = (some (.inl (4 * I 88 0 + 3)), (I, L, X), 0, 0)) := by
  obtain ⟨d, rfl⟩ : ∃ d, D = d + 1 := ⟨D - 1, by omega⟩
  refine yi_E_of (M := zi_m126) rfl rfl ?_
  obtain ⟨l0, l1, l2, l3, l4, l5⟩ := id hLR
  show yi_G zi_Ms d zi_m126 (0, [(0, .inr (.inr (some 82)))], [], (I, L, X), 0, 0) _
  refine yi_G_run 2 (2, [(0, .inr (.inr (some 82)))], [.inr (.inr (some 82)), .inl 4], (I, L, X), 0, 0) (fun _ => rfl) ?_
  refine yi_G_callv rfl rfl (ym_rcv hS) rfl (c_days d (by omega) hS rfl) ?_
  rintro _ rfl
  show yi_G zi_Ms d zi_m126 (5, [(0, .inr (.inr (some 82)))], [.inl (I 88 0), .inl 4], (I, L, X), 0, 0) _
  refine yi_G_imul rfl (4 * (I 88 0)) (yi_wn (by omega) (by omega)) ?_
  refine yi_G_run 1 (7, [(0, .inr (.inr (some 82)))], [.inl 3, .inl (4 * (I 88 0))], (I, L, X), 0, 0) (fun _ => rfl) ?_
  refine yi_G_iadd rfl ((4 * (I 88 0)) + 3) (yi_wn (by omega) (by omega)) ?_
  exact yi_G_reti rfl rfl (rfl)
theorem c_daysLeft (D : Nat) (hD : 2 ≤ D) {I L : Nat → Nat → Int} {X : ym_X} (hS : ym_S X) (hLR : ym_LR I) (t0 : 0 ≤ I 100 1 ∧ I 100 1 ≤ 7) : yi_E zi_Ms D 18 [.inr (.inr (some 82))] (I, L, X) (fun r => r = (some (.inl (I 88 0 - I 100 1 + 1)), (I, L, X), 0, 0)) := by
  obtain ⟨d, rfl⟩ : ∃ d, D = d + 1 := ⟨D - 1, by omega⟩
  refine yi_E_of (M := zi_m18) rfl rfl ?_
  obtain ⟨l0, l1, l2, l3, l4, l5⟩ := id hLR
  show yi_G zi_Ms d zi_m18 (0, [(0, .inr (.inr (some 82)))], [], (I, L, X), 0, 0) _
  refine yi_G_run 1 (1, [(0, .inr (.inr (some 82)))], [.inr (.inr (some 82))], (I, L, X), 0, 0) (fun _ => rfl) ?_
  refine yi_G_callv rfl rfl (ym_rcv hS) rfl (c_days d (by omega) hS rfl) ?_
  rintro _ rfl
  show yi_G zi_Ms d zi_m18 (4, [(0, .inr (.inr (some 82)))], [.inl (I 88 0)], (I, L, X), 0, 0) _
  refine yi_G_run 1 (5, [(0, .inr (.inr (some 82)))], [.inr (.inr (some 82)), .inl (I 88 0)], (I, L, X), 0, 0) (fun _ => rfl) ?_
  refine yi_G_get (8, [(0, .inr (.inr (some 82)))], [.inr (.inr (some 100)), .inl (I 88 0)], (I, L, X), 0, 0) rfl (ym_gr hS 17 rfl rfl rfl) ?_
  refine yi_G_run 1 (9, [(0, .inr (.inr (some 82)))], [.inl 1, .inr (.inr (some 100)), .inl (I 88 0)], (I, L, X), 0, 0) (fun _ => rfl) ?_
  refine yi_G_iald (10, [(0, .inr (.inr (some 82)))], [.inl (I 100 1), .inl (I 88 0)], (I, L, X), 0, 0) rfl (ym_li hS 17 rfl (by omega) (by omega) rfl) ?_
  refine yi_G_isub rfl ((I 88 0) - (I 100 1)) (yi_wn (by omega) (by omega)) ?_
  refine yi_G_run 1 (12, [(0, .inr (.inr (some 82)))], [.inl 1, .inl ((I 88 0) - (I 100 1))], (I, L, X), 0, 0) (fun _ => rfl) ?_
  refine yi_G_iadd rfl (((I 88 0) - (I 100 1)) + 1) (yi_wn (by omega) (by omega)) ?_
  exact yi_G_reti rfl rfl (rfl)
theorem c_everySaying (D : Nat) (hD : 1 ≤ D) {I L : Nat → Nat → Int} {X : ym_X} (hS : ym_S X) (s0 : 0 ≤ I 100 0 ∧ I 100 0 ≤ 12) : yi_E zi_Ms D 23 [.inr (.inr (some 82))] (I, L, X) (fun r => r = (some (.inl (yi_shl 1 (I 100 0) - 1)), (I, L, X), 0, 0)) := by
  obtain ⟨d, rfl⟩ : ∃ d, D = d + 1 := ⟨D - 1, by omega⟩
  refine yi_E_of (M := zi_m23) rfl rfl ?_
  have hs := yi_shl1 s0.1 s0.2
  show yi_G zi_Ms d zi_m23 (0, [(0, .inr (.inr (some 82)))], [], (I, L, X), 0, 0) _
  refine yi_G_run 2 (2, [(0, .inr (.inr (some 82)))], [.inr (.inr (some 82)), .inl 1], (I, L, X), 0, 0) (fun _ => rfl) ?_
  refine yi_G_get (5, [(0, .inr (.inr (some 82)))], [.inr (.inr (some 100)), .inl 1], (I, L, X), 0, 0) rfl (ym_gr hS 17 rfl rfl rfl) ?_
  refine yi_G_run 1 (6, [(0, .inr (.inr (some 82)))], [.inl 0, .inr (.inr (some 100)), .inl 1], (I, L, X), 0, 0) (fun _ => rfl) ?_
  refine yi_G_iald (7, [(0, .inr (.inr (some 82)))], [.inl (I 100 0), .inl 1], (I, L, X), 0, 0) rfl (ym_li hS 17 rfl (by omega) (by omega) rfl) ?_
  refine yi_G_run 2 (9, [(0, .inr (.inr (some 82)))], [.inl 1, .inl (yi_shl 1 (I 100 0))], (I, L, X), 0, 0) (fun _ => rfl) ?_
  refine yi_G_isub rfl ((yi_shl 1 (I 100 0)) - 1) (yi_wn (by omega) (by omega)) ?_
  exact yi_G_reti rfl rfl (rfl)
theorem c_isSaying (D : Nat) (hD : 1 ≤ D) {I L : Nat → Nat → Int} {X : ym_X} (hS : ym_S X) {s : Int} : yi_E zi_Ms D 60 [.inr (.inr (some 82)), .inl s] (I, L, X) (fun r => ((0 ≤ s ∧ s < I 100 0) ∧ r = (some (.inl 1), (I, L, X), 0, 0)) ∨ (¬ (0 ≤ s ∧ s < I 100 0) ∧ r = (some (.inl 0), (I, L, X), 0, 0))) := by
  obtain ⟨d, rfl⟩ : ∃ d, D = d + 1 := ⟨D - 1, by omega⟩
  refine yi_E_of (M := zi_m60) rfl rfl ?_
  show yi_G zi_Ms d zi_m60 (0, [(0, .inr (.inr (some 82))), (1, .inl s)], [], (I, L, X), 0, 0) _
  refine yi_G_run 1 (1, [(0, .inr (.inr (some 82))), (1, .inl s)], [.inl s], (I, L, X), 0, 0) (fun _ => rfl) ?_
  by_cases h1 : s < 0
  · refine yi_G_if1 true rfl (yi_lt_t h1) ?_
    refine yi_G_run 1 (19, [(0, .inr (.inr (some 82))), (1, .inl s)], [.inl 0], (I, L, X), 0, 0) (fun _ => rfl) ?_
    exact yi_G_retb rfl rfl (by decide) (Or.inr ⟨by omega, rfl⟩)
  · refine yi_G_if1 false rfl (yi_lt_f h1) ?_
    refine yi_G_run 2 (6, [(0, .inr (.inr (some 82))), (1, .inl s)], [.inr (.inr (some 82)), .inl s], (I, L, X), 0, 0) (fun _ => rfl) ?_
    refine yi_G_get (9, [(0, .inr (.inr (some 82))), (1, .inl s)], [.inr (.inr (some 100)), .inl s], (I, L, X), 0, 0) rfl (ym_gr hS 17 rfl rfl rfl) ?_
    refine yi_G_run 1 (10, [(0, .inr (.inr (some 82))), (1, .inl s)], [.inl 0, .inr (.inr (some 100)), .inl s], (I, L, X), 0, 0) (fun _ => rfl) ?_
    refine yi_G_iald (11, [(0, .inr (.inr (some 82))), (1, .inl s)], [.inl (I 100 0), .inl s], (I, L, X), 0, 0) rfl (ym_li hS 17 rfl (by omega) (by omega) rfl) ?_
    by_cases h2 : (I 100 0) ≤ s
    · refine yi_G_if2 true rfl (yi_ge_t h2) ?_
      refine yi_G_run 1 (19, [(0, .inr (.inr (some 82))), (1, .inl s)], [.inl 0], (I, L, X), 0, 0) (fun _ => rfl) ?_
      exact yi_G_retb rfl rfl (by decide) (Or.inr ⟨by omega, rfl⟩)
    · refine yi_G_if2 false rfl (yi_ge_f h2) ?_
      refine yi_G_run 2 (19, [(0, .inr (.inr (some 82))), (1, .inl s)], [.inl 1], (I, L, X), 0, 0) (fun _ => rfl) ?_
      exact yi_G_retb rfl rfl (by decide) (Or.inl ⟨by omega, rfl⟩)
theorem c_isGrand (D : Nat) (hD : 2 ≤ D) {I L : Nat → Nat → Int} {X : ym_X} (hS : ym_S X) {s : Int} (h0 : 0 ≤ s) (h1 : s ≤ 11) (h2 : 0 ≤ I 100 (8 + 3 * s).toNat ∧ I 100 (8 + 3 * s).toNat ≤ 4) : yi_E zi_Ms D 52 [.inr (.inr (some 82)), .inl s] (I, L, X) (fun r => ((I 88 (11 + 2 * I 100 (8 + 3 * s).toNat).toNat = 3) ∧ r = (some (.inl 1), (I, L, X), 0, 0)) ∨ (¬ (I 88 (11 + 2 * I 100 (8 + 3 * s).toNat).toNat = 3) ∧ r = (some (.inl 0), (I, L, X), 0, 0))) := by
  obtain ⟨d, rfl⟩ : ∃ d, D = d + 1 := ⟨D - 1, by omega⟩
  refine yi_E_of (M := zi_m52) rfl rfl ?_
  show yi_G zi_Ms d zi_m52 (0, [(0, .inr (.inr (some 82))), (1, .inl s)], [], (I, L, X), 0, 0) _
  refine yi_G_run 2 (2, [(0, .inr (.inr (some 82))), (1, .inl s)], [.inr (.inr (some 82)), .inr (.inr (some 82))], (I, L, X), 0, 0) (fun _ => rfl) ?_
  refine yi_G_get (5, [(0, .inr (.inr (some 82))), (1, .inl s)], [.inr (.inr (some 100)), .inr (.inr (some 82))], (I, L, X), 0, 0) rfl (ym_gr hS 17 rfl rfl rfl) ?_
  refine yi_G_run 3 (9, [(0, .inr (.inr (some 82))), (1, .inl s)], [.inl s, .inl 3, .inl 8, .inr (.inr (some 100)), .inr (.inr (some 82))], (I, L, X), 0, 0) (fun _ => rfl) ?_
  refine yi_G_imul rfl (3 * s) (yi_wn (by omega) (by omega)) ?_
  refine yi_G_iadd rfl (8 + (3 * s)) (yi_wn (by omega) (by omega)) ?_
  refine yi_G_iald (12, [(0, .inr (.inr (some 82))), (1, .inl s)], [.inl (I 100 ((8 + (3 * s)).toNat)), .inr (.inr (some 82))], (I, L, X), 0, 0) rfl (ym_li hS 17 rfl (by omega) (by omega) rfl) ?_
  refine yi_G_callv rfl rfl (ym_rcv hS) rfl (c_kindOf d (by omega) hS (by omega) (by omega)) ?_
  rintro _ rfl
  show yi_G zi_Ms d zi_m52 (15, [(0, .inr (.inr (some 82))), (1, .inl s)], [.inl (I 88 (11 + 2 * (I 100 ((8 + (3 * s)).toNat))).toNat)], (I, L, X), 0, 0) _
  refine yi_G_run 1 (16, [(0, .inr (.inr (some 82))), (1, .inl s)], [.inl 3, .inl (I 88 (11 + 2 * (I 100 ((8 + (3 * s)).toNat))).toNat)], (I, L, X), 0, 0) (fun _ => rfl) ?_
  by_cases h1 : (I 88 (11 + 2 * (I 100 ((8 + (3 * s)).toNat))).toNat) = 3
  · refine yi_G_if2 false rfl (yi_ne_f h1) ?_
    refine yi_G_run 2 (24, [(0, .inr (.inr (some 82))), (1, .inl s)], [.inl 1], (I, L, X), 0, 0) (fun _ => rfl) ?_
    exact yi_G_retb rfl rfl (by decide) (Or.inl ⟨by assumption, rfl⟩)
  · refine yi_G_if2 true rfl (yi_ne_t h1) ?_
    refine yi_G_run 1 (24, [(0, .inr (.inr (some 82))), (1, .inl s)], [.inl 0], (I, L, X), 0, 0) (fun _ => rfl) ?_
    exact yi_G_retb rfl rfl (by decide) (Or.inr ⟨by assumption, rfl⟩)
theorem c_isIn (D : Nat) (hD : 1 ≤ D) {I L : Nat → Nat → Int} {X : ym_X} (hS : ym_S X) {st k : Int} : yi_E zi_Ms D 53 [.inl st, .inl k] (I, L, X) (fun r => ((yi_iand (yi_shr st k) 1 = 1) ∧ r = (some (.inl 1), (I, L, X), 0, 0)) ∨ (¬ (yi_iand (yi_shr st k) 1 = 1) ∧ r = (some (.inl 0), (I, L, X), 0, 0))) := by
  obtain ⟨d, rfl⟩ : ∃ d, D = d + 1 := ⟨D - 1, by omega⟩
  refine yi_E_of (M := zi_m53) rfl rfl ?_
  show yi_G zi_Ms d zi_m53 (0, [(0, .inl st), (1, .inl k)], [], (I, L, X), 0, 0) _
  refine yi_G_run 6 (6, [(0, .inl st), (1, .inl k)], [.inl 1, .inl (yi_iand (yi_shr st k) 1)], (I, L, X), 0, 0) (fun _ => rfl) ?_
  by_cases h1 : (yi_iand (yi_shr st k) 1) = 1
  · refine yi_G_if2 false rfl (yi_ne_f h1) ?_
    refine yi_G_run 2 (14, [(0, .inl st), (1, .inl k)], [.inl 1], (I, L, X), 0, 0) (fun _ => rfl) ?_
    exact yi_G_retb rfl rfl (by decide) (Or.inl ⟨by assumption, rfl⟩)
  · refine yi_G_if2 true rfl (yi_ne_t h1) ?_
    refine yi_G_run 1 (14, [(0, .inl st), (1, .inl k)], [.inl 0], (I, L, X), 0, 0) (fun _ => rfl) ?_
    exact yi_G_retb rfl rfl (by decide) (Or.inr ⟨by assumption, rfl⟩)
theorem c_bitsOf (D : Nat) (hD : 1 ≤ D) {I L : Nat → Nat → Int} {X : ym_X} (hS : ym_S X) {st : Int} : yi_E zi_Ms D 5 [.inl st] (I, L, X) (fun r => ∃ z, r = (some (.inl z), (I, L, X), 0, 0) ∧ 0 ≤ z ∧ z ≤ 16) := by
  obtain ⟨d, rfl⟩ : ∃ d, D = d + 1 := ⟨D - 1, by omega⟩
  refine yi_E_of (M := zi_m5) rfl rfl ?_
  have pt4 : ∀ (m : Nat) (k : Int) (n : Int), (0 ≤ k) → (k ≤ 16) → (0 ≤ n) → (n ≤ k) → (16 - k).toNat = m → yi_G zi_Ms d zi_m5 (4, [(2, .inl k), (1, .inl n), (0, .inl st)], [], (I, L, X), 0, 0) (fun r => ∃ z, r = (some (.inl z), (I, L, X), 0, 0) ∧ 0 ≤ z ∧ z ≤ 16) := by
    intro m
    induction m using Nat.strongRecOn with
    | _ m ih =>
    intro k n k0 k1 n0 n1 hm
    refine yi_G_run 2 (7, [(2, .inl k), (1, .inl n), (0, .inl st)], [.inl 16, .inl k], (I, L, X), 0, 0) (fun _ => rfl) ?_
    by_cases h1 : 16 ≤ k
    · refine yi_G_if2 true rfl (yi_ge_t h1) ?_
      refine yi_G_run 1 (25, [(2, .inl k), (1, .inl n), (0, .inl st)], [.inl n], (I, L, X), 0, 0) (fun _ => rfl) ?_
      exact yi_G_reti rfl rfl (⟨_, rfl, by omega, by omega⟩)
    · refine yi_G_if2 false rfl (yi_ge_f h1) ?_
      refine yi_G_run 6 (16, [(2, .inl k), (1, .inl n), (0, .inl st)], [.inl (yi_iand (yi_shr st k) 1), .inl n], (I, L, X), 0, 0) (fun _ => rfl) ?_
      refine yi_G_iadd rfl (n + (yi_iand (yi_shr st k) 1)) (yi_wn (by (have := yi_and1 (yi_shr st k); omega)) (by (have := yi_and1 (yi_shr st k); omega))) ?_
      refine yi_G_run 1 (18, [(1, .inl (n + (yi_iand (yi_shr st k) 1))), (2, .inl k), (0, .inl st)], [], (I, L, X), 0, 0) (fun _ => rfl) ?_
      refine yi_G_iinc [(2, .inl (k + 1)), (1, .inl (n + (yi_iand (yi_shr st k) 1))), (0, .inl st)] rfl rfl rfl (by rw [show yi_w (k + 1) = k + 1 from (yi_wn (by omega) (by omega)).trans (by omega)]; rfl) ?_
      refine yi_G_run 1 (4, [(2, .inl (k + 1)), (1, .inl (n + (yi_iand (yi_shr st k) 1))), (0, .inl st)], [], (I, L, X), 0, 0) (fun _ => rfl) ?_
      exact ih _ (by omega) (k + 1) (n + (yi_iand (yi_shr st k) 1)) (by omega) (by omega) (by have := yi_and1 (yi_shr st k); omega) (by have := yi_and1 (yi_shr st k); omega) rfl
  show yi_G zi_Ms d zi_m5 (0, [(0, .inl st)], [], (I, L, X), 0, 0) _
  refine yi_G_run 4 (4, [(2, .inl 0), (1, .inl 0), (0, .inl st)], [], (I, L, X), 0, 0) (fun _ => rfl) ?_
  exact pt4 _  0 0 (by omega) (by omega) (by omega) (by omega) rfl
theorem c_keptBy (D : Nat) (hD : 1 ≤ D) {I L : Nat → Nat → Int} {X : ym_X} (hS : ym_S X) {p : Int} (t0 : 0 ≤ I 100 2 ∧ I 100 2 ≤ 20) : yi_E zi_Ms D 69 [.inr (.inr (some 82)), .inl p] (I, L, X) (fun r => ∃ z, r = (some (.inl z), (I, L, X), 0, 0) ∧ 0 ≤ z ∧ z ≤ 20) := by
  obtain ⟨d, rfl⟩ : ∃ d, D = d + 1 := ⟨D - 1, by omega⟩
  refine yi_E_of (M := zi_m69) rfl rfl ?_
  have pt4 : ∀ (m : Nat) (k : Int) (n : Int), (0 ≤ k) → (k ≤ I 100 2) → (0 ≤ n) → (n ≤ k) → (I 100 2 - k).toNat = m → yi_G zi_Ms d zi_m69 (4, [(3, .inl k), (2, .inl n), (0, .inr (.inr (some 82))), (1, .inl p)], [], (I, L, X), 0, 0) (fun r => ∃ z, r = (some (.inl z), (I, L, X), 0, 0) ∧ 0 ≤ z ∧ z ≤ 20) := by
    intro m
    induction m using Nat.strongRecOn with
    | _ m ih =>
    intro k n k0 k1 n0 n1 hm
    refine yi_G_run 2 (6, [(3, .inl k), (2, .inl n), (0, .inr (.inr (some 82))), (1, .inl p)], [.inr (.inr (some 82)), .inl k], (I, L, X), 0, 0) (fun _ => rfl) ?_
    refine yi_G_get (9, [(3, .inl k), (2, .inl n), (0, .inr (.inr (some 82))), (1, .inl p)], [.inr (.inr (some 100)), .inl k], (I, L, X), 0, 0) rfl (ym_gr hS 17 rfl rfl rfl) ?_
    refine yi_G_run 1 (10, [(3, .inl k), (2, .inl n), (0, .inr (.inr (some 82))), (1, .inl p)], [.inl 2, .inr (.inr (some 100)), .inl k], (I, L, X), 0, 0) (fun _ => rfl) ?_
    refine yi_G_iald (11, [(3, .inl k), (2, .inl n), (0, .inr (.inr (some 82))), (1, .inl p)], [.inl (I 100 2), .inl k], (I, L, X), 0, 0) rfl (ym_li hS 17 rfl (by omega) (by omega) rfl) ?_
    by_cases h1 : (I 100 2) ≤ k
    · refine yi_G_if2 true rfl (yi_ge_t h1) ?_
      refine yi_G_run 1 (39, [(3, .inl k), (2, .inl n), (0, .inr (.inr (some 82))), (1, .inl p)], [.inl n], (I, L, X), 0, 0) (fun _ => rfl) ?_
      exact yi_G_reti rfl rfl (⟨_, rfl, by omega, by omega⟩)
    · refine yi_G_if2 false rfl (yi_ge_f h1) ?_
      refine yi_G_run 2 (16, [(3, .inl k), (2, .inl n), (0, .inr (.inr (some 82))), (1, .inl p)], [.inr (.inr (some 82)), .inl n], (I, L, X), 0, 0) (fun _ => rfl) ?_
      refine yi_G_get (19, [(3, .inl k), (2, .inl n), (0, .inr (.inr (some 82))), (1, .inl p)], [.inr (.inr (some 106)), .inl n], (I, L, X), 0, 0) rfl (ym_gr hS 23 rfl rfl rfl) ?_
      refine yi_G_run 1 (20, [(3, .inl k), (2, .inl n), (0, .inr (.inr (some 82))), (1, .inl p)], [.inl k, .inr (.inr (some 106)), .inl n], (I, L, X), 0, 0) (fun _ => rfl) ?_
      refine yi_G_iald (21, [(3, .inl k), (2, .inl n), (0, .inr (.inr (some 82))), (1, .inl p)], [.inl (I 106 (k.toNat)), .inl n], (I, L, X), 0, 0) rfl (ym_li hS 23 rfl (by omega) (by omega) rfl) ?_
      refine yi_G_run 1 (22, [(3, .inl k), (2, .inl n), (0, .inr (.inr (some 82))), (1, .inl p)], [.inl p, .inl (I 106 (k.toNat)), .inl n], (I, L, X), 0, 0) (fun _ => rfl) ?_
      by_cases h2 : (I 106 (k.toNat)) = p
      · refine yi_G_if2 false rfl (yi_ne_f h2) ?_
        refine yi_G_run 2 (30, [(3, .inl k), (2, .inl n), (0, .inr (.inr (some 82))), (1, .inl p)], [.inl 1, .inl n], (I, L, X), 0, 0) (fun _ => rfl) ?_
        refine yi_G_iadd rfl (n + 1) (yi_wn (by omega) (by omega)) ?_
        refine yi_G_run 1 (32, [(2, .inl (n + 1)), (3, .inl k), (0, .inr (.inr (some 82))), (1, .inl p)], [], (I, L, X), 0, 0) (fun _ => rfl) ?_
        refine yi_G_iinc [(3, .inl (k + 1)), (2, .inl (n + 1)), (0, .inr (.inr (some 82))), (1, .inl p)] rfl rfl rfl (by rw [show yi_w (k + 1) = k + 1 from (yi_wn (by omega) (by omega)).trans (by omega)]; rfl) ?_
        refine yi_G_run 1 (4, [(3, .inl (k + 1)), (2, .inl (n + 1)), (0, .inr (.inr (some 82))), (1, .inl p)], [], (I, L, X), 0, 0) (fun _ => rfl) ?_
        exact ih _ (by omega) (k + 1) (n + 1) (by omega) (by omega) (by omega) (by omega) rfl
      · refine yi_G_if2 true rfl (yi_ne_t h2) ?_
        refine yi_G_run 1 (30, [(3, .inl k), (2, .inl n), (0, .inr (.inr (some 82))), (1, .inl p)], [.inl 0, .inl n], (I, L, X), 0, 0) (fun _ => rfl) ?_
        refine yi_G_iadd rfl (n + 0) (yi_wn (by omega) (by omega)) ?_
        refine yi_G_run 1 (32, [(2, .inl (n + 0)), (3, .inl k), (0, .inr (.inr (some 82))), (1, .inl p)], [], (I, L, X), 0, 0) (fun _ => rfl) ?_
        refine yi_G_iinc [(3, .inl (k + 1)), (2, .inl (n + 0)), (0, .inr (.inr (some 82))), (1, .inl p)] rfl rfl rfl (by rw [show yi_w (k + 1) = k + 1 from (yi_wn (by omega) (by omega)).trans (by omega)]; rfl) ?_
        refine yi_G_run 1 (4, [(3, .inl (k + 1)), (2, .inl (n + 0)), (0, .inr (.inr (some 82))), (1, .inl p)], [], (I, L, X), 0, 0) (fun _ => rfl) ?_
        exact ih _ (by omega) (k + 1) (n + 0) (by omega) (by omega) (by omega) (by omega) rfl
  show yi_G zi_Ms d zi_m69 (0, [(0, .inr (.inr (some 82))), (1, .inl p)], [], (I, L, X), 0, 0) _
  refine yi_G_run 4 (4, [(3, .inl 0), (2, .inl 0), (0, .inr (.inr (some 82))), (1, .inl p)], [], (I, L, X), 0, 0) (fun _ => rfl) ?_
  exact pt4 _  0 0 (by omega) (by omega) (by omega) (by omega) rfl
theorem c_mayKeep (D : Nat) (hD : 1 ≤ D) {I L : Nat → Nat → Int} {X : ym_X} (hS : ym_S X) {k p : Int} (h0 : 0 ≤ k) (h1 : k ≤ 19) (h2 : 0 ≤ p) (h3 : p ≤ 3) : yi_E zi_Ms D 83 [.inr (.inr (some 82)), .inl k, .inl p] (I, L, X) (fun r => ((¬ I 100 (68 + 2 * k).toNat = p ∧ I 100 (68 + 2 * k + 1).toNat ≤ I 88 (7 + p).toNat) ∧ r = (some (.inl 1), (I, L, X), 0, 0)) ∨ (¬ (¬ I 100 (68 + 2 * k).toNat = p ∧ I 100 (68 + 2 * k + 1).toNat ≤ I 88 (7 + p).toNat) ∧ r = (some (.inl 0), (I, L, X), 0, 0))) := by
  obtain ⟨d, rfl⟩ : ∃ d, D = d + 1 := ⟨D - 1, by omega⟩
  refine yi_E_of (M := zi_m83) rfl rfl ?_
  show yi_G zi_Ms d zi_m83 (0, [(0, .inr (.inr (some 82))), (1, .inl k), (2, .inl p)], [], (I, L, X), 0, 0) _
  refine yi_G_run 1 (1, [(0, .inr (.inr (some 82))), (1, .inl k), (2, .inl p)], [.inr (.inr (some 82))], (I, L, X), 0, 0) (fun _ => rfl) ?_
  refine yi_G_get (4, [(0, .inr (.inr (some 82))), (1, .inl k), (2, .inl p)], [.inr (.inr (some 100))], (I, L, X), 0, 0) rfl (ym_gr hS 17 rfl rfl rfl) ?_
  refine yi_G_run 3 (8, [(0, .inr (.inr (some 82))), (1, .inl k), (2, .inl p)], [.inl k, .inl 2, .inl 68, .inr (.inr (some 100))], (I, L, X), 0, 0) (fun _ => rfl) ?_
  refine yi_G_imul rfl (2 * k) (yi_wn (by omega) (by omega)) ?_
  refine yi_G_iadd rfl (68 + (2 * k)) (yi_wn (by omega) (by omega)) ?_
  refine yi_G_iald (11, [(0, .inr (.inr (some 82))), (1, .inl k), (2, .inl p)], [.inl (I 100 ((68 + (2 * k)).toNat))], (I, L, X), 0, 0) rfl (ym_li hS 17 rfl (by omega) (by omega) rfl) ?_
  refine yi_G_run 1 (12, [(0, .inr (.inr (some 82))), (1, .inl k), (2, .inl p)], [.inl p, .inl (I 100 ((68 + (2 * k)).toNat))], (I, L, X), 0, 0) (fun _ => rfl) ?_
  by_cases h1 : (I 100 ((68 + (2 * k)).toNat)) = p
  · refine yi_G_if2 true rfl (yi_eq_t h1) ?_
    refine yi_G_run 1 (45, [(0, .inr (.inr (some 82))), (1, .inl k), (2, .inl p)], [.inl 0], (I, L, X), 0, 0) (fun _ => rfl) ?_
    exact yi_G_retb rfl rfl (by decide) (Or.inr ⟨by omega, rfl⟩)
  · refine yi_G_if2 false rfl (yi_eq_f h1) ?_
    refine yi_G_run 1 (16, [(0, .inr (.inr (some 82))), (1, .inl k), (2, .inl p)], [.inr (.inr (some 82))], (I, L, X), 0, 0) (fun _ => rfl) ?_
    refine yi_G_get (19, [(0, .inr (.inr (some 82))), (1, .inl k), (2, .inl p)], [.inr (.inr (some 88))], (I, L, X), 0, 0) rfl (ym_gr hS 5 rfl rfl rfl) ?_
    refine yi_G_run 2 (22, [(0, .inr (.inr (some 82))), (1, .inl k), (2, .inl p)], [.inl p, .inl 7, .inr (.inr (some 88))], (I, L, X), 0, 0) (fun _ => rfl) ?_
    refine yi_G_iadd rfl (7 + p) (yi_wn (by omega) (by omega)) ?_
    refine yi_G_iald (24, [(0, .inr (.inr (some 82))), (1, .inl k), (2, .inl p)], [.inl (I 88 ((7 + p).toNat))], (I, L, X), 0, 0) rfl (ym_li hS 5 rfl (by omega) (by omega) rfl) ?_
    refine yi_G_run 1 (25, [(0, .inr (.inr (some 82))), (1, .inl k), (2, .inl p)], [.inr (.inr (some 82)), .inl (I 88 ((7 + p).toNat))], (I, L, X), 0, 0) (fun _ => rfl) ?_
    refine yi_G_get (28, [(0, .inr (.inr (some 82))), (1, .inl k), (2, .inl p)], [.inr (.inr (some 100)), .inl (I 88 ((7 + p).toNat))], (I, L, X), 0, 0) rfl (ym_gr hS 17 rfl rfl rfl) ?_
    refine yi_G_run 3 (32, [(0, .inr (.inr (some 82))), (1, .inl k), (2, .inl p)], [.inl k, .inl 2, .inl 68, .inr (.inr (some 100)), .inl (I 88 ((7 + p).toNat))], (I, L, X), 0, 0) (fun _ => rfl) ?_
    refine yi_G_imul rfl (2 * k) (yi_wn (by omega) (by omega)) ?_
    refine yi_G_iadd rfl (68 + (2 * k)) (yi_wn (by omega) (by omega)) ?_
    refine yi_G_run 1 (35, [(0, .inr (.inr (some 82))), (1, .inl k), (2, .inl p)], [.inl 1, .inl (68 + (2 * k)), .inr (.inr (some 100)), .inl (I 88 ((7 + p).toNat))], (I, L, X), 0, 0) (fun _ => rfl) ?_
    refine yi_G_iadd rfl ((68 + (2 * k)) + 1) (yi_wn (by omega) (by omega)) ?_
    refine yi_G_iald (37, [(0, .inr (.inr (some 82))), (1, .inl k), (2, .inl p)], [.inl (I 100 (((68 + (2 * k)) + 1).toNat)), .inl (I 88 ((7 + p).toNat))], (I, L, X), 0, 0) rfl (ym_li hS 17 rfl (by omega) (by omega) rfl) ?_
    by_cases h2 : (I 88 ((7 + p).toNat)) < (I 100 (((68 + (2 * k)) + 1).toNat))
    · refine yi_G_if2 true rfl (yi_lt_t h2) ?_
      refine yi_G_run 1 (45, [(0, .inr (.inr (some 82))), (1, .inl k), (2, .inl p)], [.inl 0], (I, L, X), 0, 0) (fun _ => rfl) ?_
      exact yi_G_retb rfl rfl (by decide) (Or.inr ⟨by omega, rfl⟩)
    · refine yi_G_if2 false rfl (yi_lt_f h2) ?_
      refine yi_G_run 2 (45, [(0, .inr (.inr (some 82))), (1, .inl k), (2, .inl p)], [.inl 1], (I, L, X), 0, 0) (fun _ => rfl) ?_
      exact yi_G_retb rfl rfl (by decide) (Or.inl ⟨by omega, rfl⟩)
theorem c_futuresOf (D : Nat) (hD : 1 ≤ D) {I L : Nat → Nat → Int} {X : ym_X} (hS : ym_S X) {da pe ev : Int} (h0 : 0 ≤ da * pe) (h1 : da * pe ≤ 30) : yi_E zi_Ms D 37 [.inl da, .inl pe, .inl ev] (I, L, X) (fun r => r = (some (.inl (ym_fo da pe ev)), (I, L, X), 0, 0)) := by
  obtain ⟨d, rfl⟩ : ∃ d, D = d + 1 := ⟨D - 1, by omega⟩
  refine yi_E_of (M := zi_m37) rfl rfl ?_
  have pt5 : ∀ (m : Nat) (k : Int) (n : Int), (0 ≤ k) → (k ≤ da * pe) → (0 < ev ∨ k = 0) → (n = ym_fn ev k.toNat) → (da * pe - k).toNat = m → yi_G zi_Ms d zi_m37 (5, [(5, .inl k), (3, .inr (.inl n)), (0, .inl da), (1, .inl pe), (2, .inl ev)], [], (I, L, X), 0, 0) (fun r => r = (some (.inl (ym_fo da pe ev)), (I, L, X), 0, 0)) := by
    intro m
    induction m using Nat.strongRecOn with
    | _ m ih =>
    intro k n k0 k1 hk hn hm
    refine yi_G_run 3 (9, [(5, .inl k), (3, .inr (.inl n)), (0, .inl da), (1, .inl pe), (2, .inl ev)], [.inl pe, .inl da, .inl k], (I, L, X), 0, 0) (fun _ => rfl) ?_
    refine yi_G_imul rfl (da * pe) (yi_wn (by omega) (by omega)) ?_
    by_cases h1 : (da * pe) ≤ k
    · refine yi_G_if2 true rfl (yi_ge_t h1) ?_
      refine yi_G_run 1 (41, [(5, .inl k), (3, .inr (.inl n)), (0, .inl da), (1, .inl pe), (2, .inl ev)], [.inr (.inl n)], (I, L, X), 0, 0) (fun _ => rfl) ?_
      refine yi_G_ldc2 (32768) rfl (by decide +kernel) ?_
      refine yi_G_run 1 (45, [(5, .inl k), (3, .inr (.inl n)), (0, .inl da), (1, .inl pe), (2, .inl ev)], [.inl (yi_lcmp n 32768)], (I, L, X), 0, 0) (fun _ => rfl) ?_
      by_cases h2 : n ≤ 32768
      · refine yi_G_if1 true rfl (yi_Lle_t h2) ?_
        refine yi_G_run 2 (54, [(5, .inl k), (3, .inr (.inl n)), (0, .inl da), (1, .inl pe), (2, .inl ev)], [.inl (yi_w n)], (I, L, X), 0, 0) (fun _ => rfl) ?_
        exact yi_G_reti rfl rfl (by
        have e : (if 0 < ev then ym_fn ev (da * pe).toNat else 1) = n := by
          by_cases he : 0 < ev
          · rw [if_pos he, hn, show k = da * pe by omega]
          · have hk0 : k = 0 := by omega
            rw [if_neg he, hn, hk0]; rfl
        unfold ym_fo; dsimp only; rw [e]; first | rw [if_pos (by omega)] | rw [if_neg (by omega)])
      · refine yi_G_if1 false rfl (yi_Lle_f h2) ?_
        refine yi_G_run 2 (54, [(5, .inl k), (3, .inr (.inl n)), (0, .inl da), (1, .inl pe), (2, .inl ev)], [.inl (-1)], (I, L, X), 0, 0) (fun _ => rfl) ?_
        exact yi_G_reti rfl rfl (by
        have e : (if 0 < ev then ym_fn ev (da * pe).toNat else 1) = n := by
          by_cases he : 0 < ev
          · rw [if_pos he, hn, show k = da * pe by omega]
          · have hk0 : k = 0 := by omega
            rw [if_neg he, hn, hk0]; rfl
        unfold ym_fo; dsimp only; rw [e]; first | rw [if_pos (by omega)] | rw [if_neg (by omega)])
    · refine yi_G_if2 false rfl (yi_ge_f h1) ?_
      refine yi_G_run 1 (14, [(5, .inl k), (3, .inr (.inl n)), (0, .inl da), (1, .inl pe), (2, .inl ev)], [.inl ev], (I, L, X), 0, 0) (fun _ => rfl) ?_
      by_cases h3 : ev ≤ 0
      · refine yi_G_if1 true rfl (yi_le_t h3) ?_
        refine yi_G_run 1 (41, [(5, .inl k), (3, .inr (.inl n)), (0, .inl da), (1, .inl pe), (2, .inl ev)], [.inr (.inl n)], (I, L, X), 0, 0) (fun _ => rfl) ?_
        refine yi_G_ldc2 (32768) rfl (by decide +kernel) ?_
        refine yi_G_run 1 (45, [(5, .inl k), (3, .inr (.inl n)), (0, .inl da), (1, .inl pe), (2, .inl ev)], [.inl (yi_lcmp n 32768)], (I, L, X), 0, 0) (fun _ => rfl) ?_
        by_cases h4 : n ≤ 32768
        · refine yi_G_if1 true rfl (yi_Lle_t h4) ?_
          refine yi_G_run 2 (54, [(5, .inl k), (3, .inr (.inl n)), (0, .inl da), (1, .inl pe), (2, .inl ev)], [.inl (yi_w n)], (I, L, X), 0, 0) (fun _ => rfl) ?_
          exact yi_G_reti rfl rfl (by
        have e : (if 0 < ev then ym_fn ev (da * pe).toNat else 1) = n := by
          by_cases he : 0 < ev
          · rw [if_pos he, hn, show k = da * pe by omega]
          · have hk0 : k = 0 := by omega
            rw [if_neg he, hn, hk0]; rfl
        unfold ym_fo; dsimp only; rw [e]; first | rw [if_pos (by omega)] | rw [if_neg (by omega)])
        · refine yi_G_if1 false rfl (yi_Lle_f h4) ?_
          refine yi_G_run 2 (54, [(5, .inl k), (3, .inr (.inl n)), (0, .inl da), (1, .inl pe), (2, .inl ev)], [.inl (-1)], (I, L, X), 0, 0) (fun _ => rfl) ?_
          exact yi_G_reti rfl rfl (by
        have e : (if 0 < ev then ym_fn ev (da * pe).toNat else 1) = n := by
          by_cases he : 0 < ev
          · rw [if_pos he, hn, show k = da * pe by omega]
          · have hk0 : k = 0 := by omega
            rw [if_neg he, hn, hk0]; rfl
        unfold ym_fo; dsimp only; rw [e]; first | rw [if_pos (by omega)] | rw [if_neg (by omega)])
      · refine yi_G_if1 false rfl (yi_le_f h3) ?_
        refine yi_G_run 1 (18, [(5, .inl k), (3, .inr (.inl n)), (0, .inl da), (1, .inl pe), (2, .inl ev)], [.inr (.inl n)], (I, L, X), 0, 0) (fun _ => rfl) ?_
        refine yi_G_ldc2 (32768) rfl (by decide +kernel) ?_
        refine yi_G_run 1 (22, [(5, .inl k), (3, .inr (.inl n)), (0, .inl da), (1, .inl pe), (2, .inl ev)], [.inl (yi_lcmp n 32768)], (I, L, X), 0, 0) (fun _ => rfl) ?_
        by_cases h5 : n ≤ 32768
        · refine yi_G_if1 true rfl (yi_Lle_t h5) ?_
          refine yi_G_run 5 (34, [(3, .inr (.inl (yi_W (n * ev)))), (5, .inl k), (0, .inl da), (1, .inl pe), (2, .inl ev)], [], (I, L, X), 0, 0) (fun _ => rfl) ?_
          refine yi_G_iinc [(5, .inl (k + 1)), (3, .inr (.inl (yi_W (n * ev)))), (0, .inl da), (1, .inl pe), (2, .inl ev)] rfl rfl rfl (by rw [show yi_w (k + 1) = k + 1 from (yi_wn (by omega) (by omega)).trans (by omega)]; rfl) ?_
          refine yi_G_run 1 (5, [(5, .inl (k + 1)), (3, .inr (.inl (yi_W (n * ev)))), (0, .inl da), (1, .inl pe), (2, .inl ev)], [], (I, L, X), 0, 0) (fun _ => rfl) ?_
          exact ih _ (by omega) (k + 1) (yi_W (n * ev)) (by omega) (by omega) (by omega) (by rw [show (k + 1).toNat = k.toNat + 1 by omega]; show _ = if 32768 < ym_fn ev k.toNat then ym_fn ev k.toNat else yi_W (ym_fn ev k.toNat * ev); rw [← hn]; first | rw [if_pos (by omega)] | rw [if_neg (by omega)]) rfl
        · refine yi_G_if1 false rfl (yi_Lle_f h5) ?_
          refine yi_G_run 3 (34, [(3, .inr (.inl n)), (5, .inl k), (0, .inl da), (1, .inl pe), (2, .inl ev)], [], (I, L, X), 0, 0) (fun _ => rfl) ?_
          refine yi_G_iinc [(5, .inl (k + 1)), (3, .inr (.inl n)), (0, .inl da), (1, .inl pe), (2, .inl ev)] rfl rfl rfl (by rw [show yi_w (k + 1) = k + 1 from (yi_wn (by omega) (by omega)).trans (by omega)]; rfl) ?_
          refine yi_G_run 1 (5, [(5, .inl (k + 1)), (3, .inr (.inl n)), (0, .inl da), (1, .inl pe), (2, .inl ev)], [], (I, L, X), 0, 0) (fun _ => rfl) ?_
          exact ih _ (by omega) (k + 1) n (by omega) (by omega) (by omega) (by rw [show (k + 1).toNat = k.toNat + 1 by omega]; show _ = if 32768 < ym_fn ev k.toNat then ym_fn ev k.toNat else yi_W (ym_fn ev k.toNat * ev); rw [← hn]; first | rw [if_pos (by omega)] | rw [if_neg (by omega)]) rfl
  show yi_G zi_Ms d zi_m37 (0, [(0, .inl da), (1, .inl pe), (2, .inl ev)], [], (I, L, X), 0, 0) _
  refine yi_G_run 4 (5, [(5, .inl 0), (3, .inr (.inl 1)), (0, .inl da), (1, .inl pe), (2, .inl ev)], [], (I, L, X), 0, 0) (fun _ => rfl) ?_
  exact pt5 _  0 1 (by omega) (by omega) (by omega) rfl rfl
