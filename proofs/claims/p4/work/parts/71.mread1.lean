/-! Reading: signs, words, numbers, names. -/
theorem c_isSign (D : Nat) (hD : 1 ≤ D) {I L : Nat → Nat → Int} {X : ym_X} (hS : ym_S X) {c : Int} {at_ fa so va : Int} (ea : I 82 7 = at_) (ef : I 82 8 = fa) (es : I 84 at_.toNat = so) (ev : L 86 at_.toNat = va) (a0 : 0 ≤ at_ ∧ at_ ≤ 1001) : yi_E zi_Ms D 62 [.inr (.inr (some 82)), .inl c] (I, L, X) (fun r => ((fa = 0 ∧ so = 3 ∧ va = c) ∧ r = (some (.inl 1), (I, L, X), 0, 0)) ∨ (¬ (fa = 0 ∧ so = 3 ∧ va = c) ∧ r = (some (.inl 0), (I, L, X), 0, 0))) := by
  obtain ⟨d, rfl⟩ : ∃ d, D = d + 1 := ⟨D - 1, by omega⟩
  refine yi_E_of (M := zi_m62) rfl rfl ?_
  subst ea ef es ev
  show yi_G zi_Ms d zi_m62 (0, [(0, .inr (.inr (some 82))), (1, .inl c)], [], (I, L, X), 0, 0) _
  refine yi_G_run 1 (1, [(0, .inr (.inr (some 82))), (1, .inl c)], [.inr (.inr (some 82))], (I, L, X), 0, 0) (fun _ => rfl) ?_
  refine yi_G_get (4, [(0, .inr (.inr (some 82))), (1, .inl c)], [.inl (I 82 8)], (I, L, X), 0, 0) rfl (ym_gi hS rfl rfl rfl) ?_
  by_cases h1 : (I 82 8) = 0
  · refine yi_G_if1 false rfl (yi_ne_f h1) ?_
    refine yi_G_run 1 (8, [(0, .inr (.inr (some 82))), (1, .inl c)], [.inr (.inr (some 82))], (I, L, X), 0, 0) (fun _ => rfl) ?_
    refine yi_G_get (11, [(0, .inr (.inr (some 82))), (1, .inl c)], [.inr (.inr (some 84))], (I, L, X), 0, 0) rfl (ym_gr hS 1 rfl rfl rfl) ?_
    refine yi_G_run 1 (12, [(0, .inr (.inr (some 82))), (1, .inl c)], [.inr (.inr (some 82)), .inr (.inr (some 84))], (I, L, X), 0, 0) (fun _ => rfl) ?_
    refine yi_G_get (15, [(0, .inr (.inr (some 82))), (1, .inl c)], [.inl (I 82 7), .inr (.inr (some 84))], (I, L, X), 0, 0) rfl (ym_gi hS rfl rfl rfl) ?_
    refine yi_G_iald (16, [(0, .inr (.inr (some 82))), (1, .inl c)], [.inl (I 84 ((I 82 7).toNat))], (I, L, X), 0, 0) rfl (ym_li hS 1 rfl (by omega) (by omega) rfl) ?_
    refine yi_G_run 1 (17, [(0, .inr (.inr (some 82))), (1, .inl c)], [.inl 3, .inl (I 84 ((I 82 7).toNat))], (I, L, X), 0, 0) (fun _ => rfl) ?_
    by_cases h2 : (I 84 ((I 82 7).toNat)) = 3
    · refine yi_G_if2 false rfl (yi_ne_f h2) ?_
      refine yi_G_run 1 (21, [(0, .inr (.inr (some 82))), (1, .inl c)], [.inr (.inr (some 82))], (I, L, X), 0, 0) (fun _ => rfl) ?_
      refine yi_G_get (24, [(0, .inr (.inr (some 82))), (1, .inl c)], [.inr (.inr (some 86))], (I, L, X), 0, 0) rfl (ym_gr hS 3 rfl rfl rfl) ?_
      refine yi_G_run 1 (25, [(0, .inr (.inr (some 82))), (1, .inl c)], [.inr (.inr (some 82)), .inr (.inr (some 86))], (I, L, X), 0, 0) (fun _ => rfl) ?_
      refine yi_G_get (28, [(0, .inr (.inr (some 82))), (1, .inl c)], [.inl (I 82 7), .inr (.inr (some 86))], (I, L, X), 0, 0) rfl (ym_gi hS rfl rfl rfl) ?_
      refine yi_G_lald (29, [(0, .inr (.inr (some 82))), (1, .inl c)], [.inr (.inl (L 86 ((I 82 7).toNat)))], (I, L, X), 0, 0) rfl (ym_ll hS 3 rfl (by omega) (by omega) rfl) ?_
      refine yi_G_run 3 (32, [(0, .inr (.inr (some 82))), (1, .inl c)], [.inl (yi_lcmp (L 86 ((I 82 7).toNat)) c)], (I, L, X), 0, 0) (fun _ => rfl) ?_
      by_cases h3 : ((L 86 ((I 82 7).toNat))) = c
      · refine yi_G_if1 false rfl (yi_Lne_f h3) ?_
        refine yi_G_run 2 (40, [(0, .inr (.inr (some 82))), (1, .inl c)], [.inl 1], (I, L, X), 0, 0) (fun _ => rfl) ?_
        exact yi_G_retb rfl rfl (by decide) (Or.inl ⟨by omega, rfl⟩)
      · refine yi_G_if1 true rfl (yi_Lne_t h3) ?_
        refine yi_G_run 1 (40, [(0, .inr (.inr (some 82))), (1, .inl c)], [.inl 0], (I, L, X), 0, 0) (fun _ => rfl) ?_
        exact yi_G_retb rfl rfl (by decide) (Or.inr ⟨by omega, rfl⟩)
    · refine yi_G_if2 true rfl (yi_ne_t h2) ?_
      refine yi_G_run 1 (40, [(0, .inr (.inr (some 82))), (1, .inl c)], [.inl 0], (I, L, X), 0, 0) (fun _ => rfl) ?_
      exact yi_G_retb rfl rfl (by decide) (Or.inr ⟨by omega, rfl⟩)
  · refine yi_G_if1 true rfl (yi_ne_t h1) ?_
    refine yi_G_run 1 (40, [(0, .inr (.inr (some 82))), (1, .inl c)], [.inl 0], (I, L, X), 0, 0) (fun _ => rfl) ?_
    exact yi_G_retb rfl rfl (by decide) (Or.inr ⟨by omega, rfl⟩)
theorem c_isWord1 (D : Nat) (hD : 1 ≤ D) {I L : Nat → Nat → Int} {X : ym_X} (hS : ym_S X) {w : Int} (w0 : 0 ≤ w ∧ w ≤ 31) {at_ fa so va : Int} (ea : I 82 7 = at_) (ef : I 82 8 = fa) (es : I 84 at_.toNat = so) (ev : L 86 at_.toNat = va) (a0 : 0 ≤ at_ ∧ at_ ≤ 1001) : yi_E zi_Ms D 64 [.inr (.inr (some 82)), .inl w] (I, L, X) (fun r => ((fa = 0 ∧ so = 1 ∧ va = L 87 w.toNat) ∧ r = (some (.inl 1), (I, L, X), 0, 0)) ∨ (¬ (fa = 0 ∧ so = 1 ∧ va = L 87 w.toNat) ∧ r = (some (.inl 0), (I, L, X), 0, 0))) := by
  obtain ⟨d, rfl⟩ : ∃ d, D = d + 1 := ⟨D - 1, by omega⟩
  refine yi_E_of (M := zi_m64) rfl rfl ?_
  subst ea ef es ev
  show yi_G zi_Ms d zi_m64 (0, [(0, .inr (.inr (some 82))), (1, .inl w)], [], (I, L, X), 0, 0) _
  refine yi_G_run 1 (1, [(0, .inr (.inr (some 82))), (1, .inl w)], [.inr (.inr (some 82))], (I, L, X), 0, 0) (fun _ => rfl) ?_
  refine yi_G_get (4, [(0, .inr (.inr (some 82))), (1, .inl w)], [.inl (I 82 8)], (I, L, X), 0, 0) rfl (ym_gi hS rfl rfl rfl) ?_
  by_cases h1 : (I 82 8) = 0
  · refine yi_G_if1 false rfl (yi_ne_f h1) ?_
    refine yi_G_run 1 (8, [(0, .inr (.inr (some 82))), (1, .inl w)], [.inr (.inr (some 82))], (I, L, X), 0, 0) (fun _ => rfl) ?_
    refine yi_G_get (11, [(0, .inr (.inr (some 82))), (1, .inl w)], [.inr (.inr (some 84))], (I, L, X), 0, 0) rfl (ym_gr hS 1 rfl rfl rfl) ?_
    refine yi_G_run 1 (12, [(0, .inr (.inr (some 82))), (1, .inl w)], [.inr (.inr (some 82)), .inr (.inr (some 84))], (I, L, X), 0, 0) (fun _ => rfl) ?_
    refine yi_G_get (15, [(0, .inr (.inr (some 82))), (1, .inl w)], [.inl (I 82 7), .inr (.inr (some 84))], (I, L, X), 0, 0) rfl (ym_gi hS rfl rfl rfl) ?_
    refine yi_G_iald (16, [(0, .inr (.inr (some 82))), (1, .inl w)], [.inl (I 84 ((I 82 7).toNat))], (I, L, X), 0, 0) rfl (ym_li hS 1 rfl (by omega) (by omega) rfl) ?_
    refine yi_G_run 1 (17, [(0, .inr (.inr (some 82))), (1, .inl w)], [.inl 1, .inl (I 84 ((I 82 7).toNat))], (I, L, X), 0, 0) (fun _ => rfl) ?_
    by_cases h2 : (I 84 ((I 82 7).toNat)) = 1
    · refine yi_G_if2 false rfl (yi_ne_f h2) ?_
      refine yi_G_run 1 (21, [(0, .inr (.inr (some 82))), (1, .inl w)], [.inr (.inr (some 82))], (I, L, X), 0, 0) (fun _ => rfl) ?_
      refine yi_G_get (24, [(0, .inr (.inr (some 82))), (1, .inl w)], [.inr (.inr (some 86))], (I, L, X), 0, 0) rfl (ym_gr hS 3 rfl rfl rfl) ?_
      refine yi_G_run 1 (25, [(0, .inr (.inr (some 82))), (1, .inl w)], [.inr (.inr (some 82)), .inr (.inr (some 86))], (I, L, X), 0, 0) (fun _ => rfl) ?_
      refine yi_G_get (28, [(0, .inr (.inr (some 82))), (1, .inl w)], [.inl (I 82 7), .inr (.inr (some 86))], (I, L, X), 0, 0) rfl (ym_gi hS rfl rfl rfl) ?_
      refine yi_G_lald (29, [(0, .inr (.inr (some 82))), (1, .inl w)], [.inr (.inl (L 86 ((I 82 7).toNat)))], (I, L, X), 0, 0) rfl (ym_ll hS 3 rfl (by omega) (by omega) rfl) ?_
      refine yi_G_run 1 (30, [(0, .inr (.inr (some 82))), (1, .inl w)], [.inr (.inr (some 82)), .inr (.inl (L 86 ((I 82 7).toNat)))], (I, L, X), 0, 0) (fun _ => rfl) ?_
      refine yi_G_get (33, [(0, .inr (.inr (some 82))), (1, .inl w)], [.inr (.inr (some 87)), .inr (.inl (L 86 ((I 82 7).toNat)))], (I, L, X), 0, 0) rfl (ym_gr hS 4 rfl rfl rfl) ?_
      refine yi_G_run 1 (34, [(0, .inr (.inr (some 82))), (1, .inl w)], [.inl w, .inr (.inr (some 87)), .inr (.inl (L 86 ((I 82 7).toNat)))], (I, L, X), 0, 0) (fun _ => rfl) ?_
      refine yi_G_lald (35, [(0, .inr (.inr (some 82))), (1, .inl w)], [.inr (.inl (L 87 (w.toNat))), .inr (.inl (L 86 ((I 82 7).toNat)))], (I, L, X), 0, 0) rfl (ym_ll hS 4 rfl (by omega) (by omega) rfl) ?_
      refine yi_G_run 1 (36, [(0, .inr (.inr (some 82))), (1, .inl w)], [.inl (yi_lcmp (L 86 ((I 82 7).toNat)) (L 87 (w.toNat)))], (I, L, X), 0, 0) (fun _ => rfl) ?_
      by_cases h3 : ((L 86 ((I 82 7).toNat))) = ((L 87 (w.toNat)))
      · refine yi_G_if1 false rfl (yi_Lne_f h3) ?_
        refine yi_G_run 2 (44, [(0, .inr (.inr (some 82))), (1, .inl w)], [.inl 1], (I, L, X), 0, 0) (fun _ => rfl) ?_
        exact yi_G_retb rfl rfl (by decide) (Or.inl ⟨by omega, rfl⟩)
      · refine yi_G_if1 true rfl (yi_Lne_t h3) ?_
        refine yi_G_run 1 (44, [(0, .inr (.inr (some 82))), (1, .inl w)], [.inl 0], (I, L, X), 0, 0) (fun _ => rfl) ?_
        exact yi_G_retb rfl rfl (by decide) (Or.inr ⟨by omega, rfl⟩)
    · refine yi_G_if2 true rfl (yi_ne_t h2) ?_
      refine yi_G_run 1 (44, [(0, .inr (.inr (some 82))), (1, .inl w)], [.inl 0], (I, L, X), 0, 0) (fun _ => rfl) ?_
      exact yi_G_retb rfl rfl (by decide) (Or.inr ⟨by omega, rfl⟩)
  · refine yi_G_if1 true rfl (yi_ne_t h1) ?_
    refine yi_G_run 1 (44, [(0, .inr (.inr (some 82))), (1, .inl w)], [.inl 0], (I, L, X), 0, 0) (fun _ => rfl) ?_
    exact yi_G_retb rfl rfl (by decide) (Or.inr ⟨by omega, rfl⟩)
theorem c_wrong (D : Nat) (hD : 1 ≤ D) {I L : Nat → Nat → Int} {X : ym_X} (hS : ym_S X) {w : Int} (w0 : 1 ≤ w ∧ w ≤ 5) {te : Int} (hT : ym_TK I te) (a0 : 0 ≤ I 82 7 ∧ I 82 7 ≤ te) (f0 : 0 ≤ I 82 8) : yi_E zi_Ms D 136 [.inr (.inr (some 82)), .inl w] (I, L, X) (fun r => ∃ I', r = (none, (I', L, X), 0, 0) ∧ (∀ p k, ¬ (p = 82 ∧ k = 8) → I' p k = I p k) ∧ 0 < I' 82 8) := by
  obtain ⟨d, rfl⟩ : ∃ d, D = d + 1 := ⟨D - 1, by omega⟩
  refine yi_E_of (M := zi_m136) rfl rfl ?_
  obtain ⟨te0, te1, te2⟩ := id hT
  have pl := te2 _ a0.1 a0.2
  show yi_G zi_Ms d zi_m136 (0, [(0, .inr (.inr (some 82))), (1, .inl w)], [], (I, L, X), 0, 0) _
  refine yi_G_run 1 (1, [(0, .inr (.inr (some 82))), (1, .inl w)], [.inr (.inr (some 82))], (I, L, X), 0, 0) (fun _ => rfl) ?_
  refine yi_G_get (4, [(0, .inr (.inr (some 82))), (1, .inl w)], [.inl (I 82 8)], (I, L, X), 0, 0) rfl (ym_gi hS rfl rfl rfl) ?_
  by_cases h1 : (I 82 8) = 0
  · refine yi_G_if1 false rfl (yi_ne_f h1) ?_
    refine yi_G_run 4 (12, [(0, .inr (.inr (some 82))), (1, .inl w)], [.inr (.inr (some 82)), .inl 16, .inl w, .inr (.inr (some 82))], (I, L, X), 0, 0) (fun _ => rfl) ?_
    refine yi_G_get (15, [(0, .inr (.inr (some 82))), (1, .inl w)], [.inr (.inr (some 85)), .inl 16, .inl w, .inr (.inr (some 82))], (I, L, X), 0, 0) rfl (ym_gr hS 2 rfl rfl rfl) ?_
    refine yi_G_run 1 (16, [(0, .inr (.inr (some 82))), (1, .inl w)], [.inr (.inr (some 82)), .inr (.inr (some 85)), .inl 16, .inl w, .inr (.inr (some 82))], (I, L, X), 0, 0) (fun _ => rfl) ?_
    refine yi_G_get (19, [(0, .inr (.inr (some 82))), (1, .inl w)], [.inl (I 82 7), .inr (.inr (some 85)), .inl 16, .inl w, .inr (.inr (some 82))], (I, L, X), 0, 0) rfl (ym_gi hS rfl rfl rfl) ?_
    refine yi_G_iald (20, [(0, .inr (.inr (some 82))), (1, .inl w)], [.inl (I 85 ((I 82 7).toNat)), .inl 16, .inl w, .inr (.inr (some 82))], (I, L, X), 0, 0) rfl (ym_li hS 2 rfl (by omega) (by omega) rfl) ?_
    refine yi_G_imul rfl (16 * (I 85 ((I 82 7).toNat))) (yi_wn (by omega) (by omega)) ?_
    refine yi_G_iadd rfl (w + (16 * (I 85 ((I 82 7).toNat)))) (yi_wn (by omega) (by omega)) ?_
    refine yi_G_put (25, [(0, .inr (.inr (some 82))), (1, .inl w)], [], ((yi_u I 82 8 (w + (16 * (I 85 ((I 82 7).toNat))))), L, X), 0, 0) rfl (ym_pi hS rfl rfl) ?_
    generalize w3 : yi_u I 82 8 (w + (16 * (I 85 ((I 82 7).toNat)))) = I2
    have r4 : I2 82 8 = w + (16 * (I 85 ((I 82 7).toNat))) := by rw [← w3, yi_u_eq]
    exact yi_G_retv rfl rfl (⟨_, rfl, (fun p k hp => by rw [← w3, yi_u_ne _ _ (fun z => by omega)]), by omega⟩)
  · refine yi_G_if1 true rfl (yi_ne_t h1) ?_
    exact yi_G_retv rfl rfl (⟨_, rfl, (fun _ _ _ => rfl), by omega⟩)
theorem c_takeSign (D : Nat) (hD : 2 ≤ D) {I L : Nat → Nat → Int} {X : ym_X} (hS : ym_S X) {c : Int} {te : Int} (hT : ym_TK I te) (a0 : 0 ≤ I 82 7 ∧ I 82 7 ≤ te) (f0 : 0 ≤ I 82 8) : yi_E zi_Ms D 118 [.inr (.inr (some 82)), .inl c] (I, L, X) (fun r => ∃ I', r = (none, (I', L, X), 0, 0) ∧ (∀ p k, ¬ (p = 82 ∧ k = 7) ∧ ¬ (p = 82 ∧ k = 8) → I' p k = I p k) ∧ (I 82 7 ≤ I' 82 7 ∧ I' 82 7 ≤ te) ∧ 0 ≤ I' 82 8 ∧ (I' 82 8 = 0 → I 82 8 = 0 ∧ I' 82 7 = I 82 7 + 1)) := by
  obtain ⟨d, rfl⟩ : ∃ d, D = d + 1 := ⟨D - 1, by omega⟩
  refine yi_E_of (M := zi_m118) rfl rfl ?_
  obtain ⟨te0, te1, te2⟩ := id hT
  show yi_G zi_Ms d zi_m118 (0, [(0, .inr (.inr (some 82))), (1, .inl c)], [], (I, L, X), 0, 0) _
  refine yi_G_run 2 (2, [(0, .inr (.inr (some 82))), (1, .inl c)], [.inl c, .inr (.inr (some 82))], (I, L, X), 0, 0) (fun _ => rfl) ?_
  refine yi_G_callv rfl rfl (ym_rcv hS) rfl (c_isSign d (by omega) hS rfl rfl rfl rfl ⟨by omega, by omega⟩) ?_
  rintro _ (⟨c1, rfl⟩ | ⟨c1, rfl⟩)
  · have lt2 : I 82 7 < te := ym_TK_lt hT (by omega) (by omega)
    show yi_G zi_Ms d zi_m118 (5, [(0, .inr (.inr (some 82))), (1, .inl c)], [.inl 1], (I, L, X), 0, 0) _
    refine yi_G_if1 false rfl (by decide) ?_
    refine yi_G_run 2 (10, [(0, .inr (.inr (some 82))), (1, .inl c)], [.inr (.inr (some 82)), .inr (.inr (some 82))], (I, L, X), 0, 0) (fun _ => rfl) ?_
    refine yi_G_get (13, [(0, .inr (.inr (some 82))), (1, .inl c)], [.inl (I 82 7), .inr (.inr (some 82))], (I, L, X), 0, 0) rfl (ym_gi hS rfl rfl rfl) ?_
    refine yi_G_run 1 (14, [(0, .inr (.inr (some 82))), (1, .inl c)], [.inl 1, .inl (I 82 7), .inr (.inr (some 82))], (I, L, X), 0, 0) (fun _ => rfl) ?_
    refine yi_G_iadd rfl ((I 82 7) + 1) (yi_wn (by omega) (by omega)) ?_
    refine yi_G_put (18, [(0, .inr (.inr (some 82))), (1, .inl c)], [], ((yi_u I 82 7 ((I 82 7) + 1)), L, X), 0, 0) rfl (ym_pi hS rfl rfl) ?_
    generalize w4 : yi_u I 82 7 ((I 82 7) + 1) = I3
    refine yi_G_run 1 (26, [(0, .inr (.inr (some 82))), (1, .inl c)], [], (I3, L, X), 0, 0) (fun _ => rfl) ?_
    have r5 : I3 82 7 = (I 82 7) + 1 := by rw [← w4, yi_u_eq]
    have r6 : I3 82 8 = I 82 8 := by rw [← w4, yi_u_ne _ _ (by omega)]
    exact yi_G_retv rfl rfl (⟨_, rfl, (fun p k hp => by rw [← w4, yi_u_ne _ _ (fun z => by omega)]), ⟨by omega, by omega⟩, by omega, by omega⟩)
  · show yi_G zi_Ms d zi_m118 (5, [(0, .inr (.inr (some 82))), (1, .inl c)], [.inl 0], (I, L, X), 0, 0) _
    refine yi_G_if1 true rfl (by decide) ?_
    refine yi_G_run 2 (23, [(0, .inr (.inr (some 82))), (1, .inl c)], [.inl 1, .inr (.inr (some 82))], (I, L, X), 0, 0) (fun _ => rfl) ?_
    refine yi_G_callv rfl rfl (ym_rcv hS) rfl (c_wrong d (by omega) hS ⟨by omega, by omega⟩ hT ⟨by omega, by omega⟩ (by omega)) ?_
    rintro _ ⟨I7, rfl, f8, h9⟩
    show yi_G zi_Ms d zi_m118 (26, [(0, .inr (.inr (some 82))), (1, .inl c)], [], (I7, L, X), 0, 0) _
    have r10 : I7 82 7 = I 82 7 := by rw [f8 82 (7) (by omega)]
    exact yi_G_retv rfl rfl (⟨_, rfl, (fun p k hp => by rw [f8 p k (by omega)]), ⟨by omega, by omega⟩, by omega, by omega⟩)
theorem c_hasSign (D : Nat) (hD : 2 ≤ D) {I L : Nat → Nat → Int} {X : ym_X} (hS : ym_S X) {c : Int} {at_ fa so va : Int} (ea : I 82 7 = at_) (ef : I 82 8 = fa) (es : I 84 at_.toNat = so) (ev : L 86 at_.toNat = va) (a0 : 0 ≤ at_ ∧ at_ ≤ 1001) : yi_E zi_Ms D 39 [.inr (.inr (some 82)), .inl c] (I, L, X) (fun r => ((fa = 0 ∧ so = 3 ∧ va = c) ∧ ∃ I', r = (some (.inl 1), (I', L, X), 0, 0) ∧ (∀ p k, ¬ (p = 82 ∧ k = 7) → I' p k = I p k) ∧ I' 82 7 = at_ + 1) ∨ (¬ (fa = 0 ∧ so = 3 ∧ va = c) ∧ ∃ I', r = (some (.inl 0), (I', L, X), 0, 0) ∧ (∀ p k, ¬ (p = 82 ∧ k = 7) → I' p k = I p k) ∧ I' 82 7 = at_)) := by
  obtain ⟨d, rfl⟩ : ∃ d, D = d + 1 := ⟨D - 1, by omega⟩
  refine yi_E_of (M := zi_m39) rfl rfl ?_
  subst ea ef es ev
  show yi_G zi_Ms d zi_m39 (0, [(0, .inr (.inr (some 82))), (1, .inl c)], [], (I, L, X), 0, 0) _
  refine yi_G_run 2 (2, [(0, .inr (.inr (some 82))), (1, .inl c)], [.inl c, .inr (.inr (some 82))], (I, L, X), 0, 0) (fun _ => rfl) ?_
  refine yi_G_callv rfl rfl (ym_rcv hS) rfl (c_isSign d (by omega) hS rfl rfl rfl rfl ⟨by omega, by omega⟩) ?_
  rintro _ (⟨c1, rfl⟩ | ⟨c1, rfl⟩)
  · show yi_G zi_Ms d zi_m39 (5, [(0, .inr (.inr (some 82))), (1, .inl c)], [.inl 1], (I, L, X), 0, 0) _
    refine yi_G_run 3 (8, [(2, .inl 1), (0, .inr (.inr (some 82))), (1, .inl c)], [.inr (.inr (some 82)), .inr (.inr (some 82))], (I, L, X), 0, 0) (fun _ => rfl) ?_
    refine yi_G_get (11, [(2, .inl 1), (0, .inr (.inr (some 82))), (1, .inl c)], [.inl (I 82 7), .inr (.inr (some 82))], (I, L, X), 0, 0) rfl (ym_gi hS rfl rfl rfl) ?_
    refine yi_G_run 1 (12, [(2, .inl 1), (0, .inr (.inr (some 82))), (1, .inl c)], [.inl 1, .inl (I 82 7), .inr (.inr (some 82))], (I, L, X), 0, 0) (fun _ => rfl) ?_
    refine yi_G_if1 false rfl (by decide) ?_
    refine yi_G_run 2 (20, [(2, .inl 1), (0, .inr (.inr (some 82))), (1, .inl c)], [.inl 1, .inl (I 82 7), .inr (.inr (some 82))], (I, L, X), 0, 0) (fun _ => rfl) ?_
    refine yi_G_iadd rfl ((I 82 7) + 1) (yi_wn (by omega) (by omega)) ?_
    refine yi_G_put (24, [(2, .inl 1), (0, .inr (.inr (some 82))), (1, .inl c)], [], ((yi_u I 82 7 ((I 82 7) + 1)), L, X), 0, 0) rfl (ym_pi hS rfl rfl) ?_
    generalize w3 : yi_u I 82 7 ((I 82 7) + 1) = I2
    refine yi_G_run 1 (25, [(2, .inl 1), (0, .inr (.inr (some 82))), (1, .inl c)], [.inl 1], (I2, L, X), 0, 0) (fun _ => rfl) ?_
    have r4 : I2 82 7 = (I 82 7) + 1 := by rw [← w3, yi_u_eq]
    exact yi_G_retb rfl rfl (by decide) (Or.inl ⟨by omega, _, rfl, (fun p k hp => by rw [← w3, yi_u_ne _ _ (fun z => by omega)]), by omega⟩)
  · show yi_G zi_Ms d zi_m39 (5, [(0, .inr (.inr (some 82))), (1, .inl c)], [.inl 0], (I, L, X), 0, 0) _
    refine yi_G_run 3 (8, [(2, .inl 0), (0, .inr (.inr (some 82))), (1, .inl c)], [.inr (.inr (some 82)), .inr (.inr (some 82))], (I, L, X), 0, 0) (fun _ => rfl) ?_
    refine yi_G_get (11, [(2, .inl 0), (0, .inr (.inr (some 82))), (1, .inl c)], [.inl (I 82 7), .inr (.inr (some 82))], (I, L, X), 0, 0) rfl (ym_gi hS rfl rfl rfl) ?_
    refine yi_G_run 1 (12, [(2, .inl 0), (0, .inr (.inr (some 82))), (1, .inl c)], [.inl 0, .inl (I 82 7), .inr (.inr (some 82))], (I, L, X), 0, 0) (fun _ => rfl) ?_
    refine yi_G_if1 true rfl (by decide) ?_
    refine yi_G_run 1 (20, [(2, .inl 0), (0, .inr (.inr (some 82))), (1, .inl c)], [.inl 0, .inl (I 82 7), .inr (.inr (some 82))], (I, L, X), 0, 0) (fun _ => rfl) ?_
    refine yi_G_iadd rfl ((I 82 7) + 0) (yi_wn (by omega) (by omega)) ?_
    refine yi_G_put (24, [(2, .inl 0), (0, .inr (.inr (some 82))), (1, .inl c)], [], ((yi_u I 82 7 ((I 82 7) + 0)), L, X), 0, 0) rfl (ym_pi hS rfl rfl) ?_
    generalize w6 : yi_u I 82 7 ((I 82 7) + 0) = I5
    refine yi_G_run 1 (25, [(2, .inl 0), (0, .inr (.inr (some 82))), (1, .inl c)], [.inl 0], (I5, L, X), 0, 0) (fun _ => rfl) ?_
    have r7 : I5 82 7 = (I 82 7) + 0 := by rw [← w6, yi_u_eq]
    exact yi_G_retb rfl rfl (by decide) (Or.inr ⟨by omega, _, rfl, (fun p k hp => by rw [← w6, yi_u_ne _ _ (fun z => by omega)]), by omega⟩)
theorem c_hasWord (D : Nat) (hD : 2 ≤ D) {I L : Nat → Nat → Int} {X : ym_X} (hS : ym_S X) {w : Int} (w0 : 0 ≤ w ∧ w ≤ 31) {at_ fa so va : Int} (ea : I 82 7 = at_) (ef : I 82 8 = fa) (es : I 84 at_.toNat = so) (ev : L 86 at_.toNat = va) (a0 : 0 ≤ at_ ∧ at_ ≤ 1001) : yi_E zi_Ms D 40 [.inr (.inr (some 82)), .inl w] (I, L, X) (fun r => ((fa = 0 ∧ so = 1 ∧ va = L 87 w.toNat) ∧ ∃ I', r = (some (.inl 1), (I', L, X), 0, 0) ∧ (∀ p k, ¬ (p = 82 ∧ k = 7) → I' p k = I p k) ∧ I' 82 7 = at_ + 1) ∨ (¬ (fa = 0 ∧ so = 1 ∧ va = L 87 w.toNat) ∧ ∃ I', r = (some (.inl 0), (I', L, X), 0, 0) ∧ (∀ p k, ¬ (p = 82 ∧ k = 7) → I' p k = I p k) ∧ I' 82 7 = at_)) := by
  obtain ⟨d, rfl⟩ : ∃ d, D = d + 1 := ⟨D - 1, by omega⟩
  refine yi_E_of (M := zi_m40) rfl rfl ?_
  subst ea ef es ev
  show yi_G zi_Ms d zi_m40 (0, [(0, .inr (.inr (some 82))), (1, .inl w)], [], (I, L, X), 0, 0) _
  refine yi_G_run 2 (2, [(0, .inr (.inr (some 82))), (1, .inl w)], [.inl w, .inr (.inr (some 82))], (I, L, X), 0, 0) (fun _ => rfl) ?_
  refine yi_G_callv rfl rfl (ym_rcv hS) rfl (c_isWord1 d (by omega) hS ⟨by omega, by omega⟩ rfl rfl rfl rfl ⟨by omega, by omega⟩) ?_
  rintro _ (⟨c1, rfl⟩ | ⟨c1, rfl⟩)
  · show yi_G zi_Ms d zi_m40 (5, [(0, .inr (.inr (some 82))), (1, .inl w)], [.inl 1], (I, L, X), 0, 0) _
    refine yi_G_run 3 (8, [(2, .inl 1), (0, .inr (.inr (some 82))), (1, .inl w)], [.inr (.inr (some 82)), .inr (.inr (some 82))], (I, L, X), 0, 0) (fun _ => rfl) ?_
    refine yi_G_get (11, [(2, .inl 1), (0, .inr (.inr (some 82))), (1, .inl w)], [.inl (I 82 7), .inr (.inr (some 82))], (I, L, X), 0, 0) rfl (ym_gi hS rfl rfl rfl) ?_
    refine yi_G_run 1 (12, [(2, .inl 1), (0, .inr (.inr (some 82))), (1, .inl w)], [.inl 1, .inl (I 82 7), .inr (.inr (some 82))], (I, L, X), 0, 0) (fun _ => rfl) ?_
    refine yi_G_if1 false rfl (by decide) ?_
    refine yi_G_run 2 (20, [(2, .inl 1), (0, .inr (.inr (some 82))), (1, .inl w)], [.inl 1, .inl (I 82 7), .inr (.inr (some 82))], (I, L, X), 0, 0) (fun _ => rfl) ?_
    refine yi_G_iadd rfl ((I 82 7) + 1) (yi_wn (by omega) (by omega)) ?_
    refine yi_G_put (24, [(2, .inl 1), (0, .inr (.inr (some 82))), (1, .inl w)], [], ((yi_u I 82 7 ((I 82 7) + 1)), L, X), 0, 0) rfl (ym_pi hS rfl rfl) ?_
    generalize w3 : yi_u I 82 7 ((I 82 7) + 1) = I2
    refine yi_G_run 1 (25, [(2, .inl 1), (0, .inr (.inr (some 82))), (1, .inl w)], [.inl 1], (I2, L, X), 0, 0) (fun _ => rfl) ?_
    have r4 : I2 82 7 = (I 82 7) + 1 := by rw [← w3, yi_u_eq]
    exact yi_G_retb rfl rfl (by decide) (Or.inl ⟨by omega, _, rfl, (fun p k hp => by rw [← w3, yi_u_ne _ _ (fun z => by omega)]), by omega⟩)
  · show yi_G zi_Ms d zi_m40 (5, [(0, .inr (.inr (some 82))), (1, .inl w)], [.inl 0], (I, L, X), 0, 0) _
    refine yi_G_run 3 (8, [(2, .inl 0), (0, .inr (.inr (some 82))), (1, .inl w)], [.inr (.inr (some 82)), .inr (.inr (some 82))], (I, L, X), 0, 0) (fun _ => rfl) ?_
    refine yi_G_get (11, [(2, .inl 0), (0, .inr (.inr (some 82))), (1, .inl w)], [.inl (I 82 7), .inr (.inr (some 82))], (I, L, X), 0, 0) rfl (ym_gi hS rfl rfl rfl) ?_
    refine yi_G_run 1 (12, [(2, .inl 0), (0, .inr (.inr (some 82))), (1, .inl w)], [.inl 0, .inl (I 82 7), .inr (.inr (some 82))], (I, L, X), 0, 0) (fun _ => rfl) ?_
    refine yi_G_if1 true rfl (by decide) ?_
    refine yi_G_run 1 (20, [(2, .inl 0), (0, .inr (.inr (some 82))), (1, .inl w)], [.inl 0, .inl (I 82 7), .inr (.inr (some 82))], (I, L, X), 0, 0) (fun _ => rfl) ?_
    refine yi_G_iadd rfl ((I 82 7) + 0) (yi_wn (by omega) (by omega)) ?_
    refine yi_G_put (24, [(2, .inl 0), (0, .inr (.inr (some 82))), (1, .inl w)], [], ((yi_u I 82 7 ((I 82 7) + 0)), L, X), 0, 0) rfl (ym_pi hS rfl rfl) ?_
    generalize w6 : yi_u I 82 7 ((I 82 7) + 0) = I5
    refine yi_G_run 1 (25, [(2, .inl 0), (0, .inr (.inr (some 82))), (1, .inl w)], [.inl 0], (I5, L, X), 0, 0) (fun _ => rfl) ?_
    have r7 : I5 82 7 = (I 82 7) + 0 := by rw [← w6, yi_u_eq]
    exact yi_G_retb rfl rfl (by decide) (Or.inr ⟨by omega, _, rfl, (fun p k hp => by rw [← w6, yi_u_ne _ _ (fun z => by omega)]), by omega⟩)
theorem c_takeWord (D : Nat) (hD : 3 ≤ D) {I L : Nat → Nat → Int} {X : ym_X} (hS : ym_S X) {w : Int} (w0 : 0 ≤ w ∧ w ≤ 31) {te : Int} (hT : ym_TK I te) (a0 : 0 ≤ I 82 7 ∧ I 82 7 ≤ te) (f0 : 0 ≤ I 82 8) : yi_E zi_Ms D 120 [.inr (.inr (some 82)), .inl w] (I, L, X) (fun r => ∃ I', r = (none, (I', L, X), 0, 0) ∧ (∀ p k, ¬ (p = 82 ∧ k = 7) ∧ ¬ (p = 82 ∧ k = 8) → I' p k = I p k) ∧ (I 82 7 ≤ I' 82 7 ∧ I' 82 7 ≤ te) ∧ 0 ≤ I' 82 8 ∧ (I' 82 8 = 0 → I 82 8 = 0 ∧ I' 82 7 = I 82 7 + 1)) := by
  obtain ⟨d, rfl⟩ : ∃ d, D = d + 1 := ⟨D - 1, by omega⟩
  refine yi_E_of (M := zi_m120) rfl rfl ?_
  obtain ⟨te0, te1, te2⟩ := id hT
  show yi_G zi_Ms d zi_m120 (0, [(0, .inr (.inr (some 82))), (1, .inl w)], [], (I, L, X), 0, 0) _
  refine yi_G_run 2 (2, [(0, .inr (.inr (some 82))), (1, .inl w)], [.inl w, .inr (.inr (some 82))], (I, L, X), 0, 0) (fun _ => rfl) ?_
  refine yi_G_callv rfl rfl (ym_rcv hS) rfl (c_hasWord d (by omega) hS ⟨by omega, by omega⟩ rfl rfl rfl rfl ⟨by omega, by omega⟩) ?_
  rintro _ (⟨c3, I1, rfl, f2, c3b⟩ | ⟨c3, I1, rfl, f2, c3b⟩)
  · have lt4 : I 82 7 < te := ym_TK_lt hT (by omega) (by omega)
    show yi_G zi_Ms d zi_m120 (5, [(0, .inr (.inr (some 82))), (1, .inl w)], [.inl 1], (I1, L, X), 0, 0) _
    refine yi_G_if1 true rfl (by decide) ?_
    have r5 : I1 82 7 = (I 82 7) + 1 := by rw [c3b]
    have r6 : I1 82 8 = I 82 8 := by rw [f2 82 (8) (by omega)]
    exact yi_G_retv rfl rfl (⟨_, rfl, (fun p k hp => by rw [f2 p k (by omega)]), ⟨by omega, by omega⟩, by omega, by omega⟩)
  · show yi_G zi_Ms d zi_m120 (5, [(0, .inr (.inr (some 82))), (1, .inl w)], [.inl 0], (I1, L, X), 0, 0) _
    refine yi_G_if1 false rfl (by decide) ?_
    refine yi_G_run 2 (10, [(0, .inr (.inr (some 82))), (1, .inl w)], [.inl 1, .inr (.inr (some 82))], (I1, L, X), 0, 0) (fun _ => rfl) ?_
    have r7 : I1 82 7 = I 82 7 := by rw [c3b]
    have r8 : I1 82 8 = I 82 8 := by rw [f2 82 (8) (by omega)]
    refine yi_G_callv rfl rfl (ym_rcv hS) rfl (c_wrong d (by omega) hS ⟨by omega, by omega⟩ (ym_TK_t (fun k => by rw [f2 84 k (by omega)]) (fun k => by rw [f2 85 k (by omega)]) hT) ⟨by omega, by omega⟩ (by omega)) ?_
    rintro _ ⟨I9, rfl, f10, h11⟩
    show yi_G zi_Ms d zi_m120 (13, [(0, .inr (.inr (some 82))), (1, .inl w)], [], (I9, L, X), 0, 0) _
    have r12 : I9 82 7 = I 82 7 := by rw [f10 82 (7) (by omega), c3b]
    exact yi_G_retv rfl rfl (⟨_, rfl, (fun p k hp => by rw [f10 p k (by omega), f2 p k (by omega)]), ⟨by omega, by omega⟩, by omega, by omega⟩)
theorem c_takeNumber (D : Nat) (hD : 2 ≤ D) {I L : Nat → Nat → Int} {X : ym_X} (hS : ym_S X) {lo hi : Int} (q0 : 0 ≤ lo) (q1 : hi ≤ 9999) {te : Int} (hT : ym_TK I te) (a0 : 0 ≤ I 82 7 ∧ I 82 7 ≤ te) (f0 : 0 ≤ I 82 8) : yi_E zi_Ms D 116 [.inr (.inr (some 82)), .inl lo, .inl hi] (I, L, X) (fun r => ∃ z I', r = (some (.inl z), (I', L, X), 0, 0) ∧ (∀ p k, ¬ (p = 82 ∧ k = 7) ∧ ¬ (p = 82 ∧ k = 8) → I' p k = I p k) ∧ (I 82 7 ≤ I' 82 7 ∧ I' 82 7 ≤ te) ∧ 0 ≤ I' 82 8 ∧ (I' 82 8 = 0 → I 82 8 = 0 ∧ I 82 7 < I' 82 7 ∧ (lo ≤ z ∧ z ≤ hi))) := by
  obtain ⟨d, rfl⟩ : ∃ d, D = d + 1 := ⟨D - 1, by omega⟩
  refine yi_E_of (M := zi_m116) rfl rfl ?_
  obtain ⟨te0, te1, te2⟩ := id hT
  show yi_G zi_Ms d zi_m116 (0, [(0, .inr (.inr (some 82))), (1, .inl lo), (2, .inl hi)], [], (I, L, X), 0, 0) _
  have pt70 : ∀ (Ja : Nat → Nat → Int), (∀ p k, ¬ (p = 82 ∧ k = 8) → Ja p k = I p k) → (0 ≤ Ja 82 8) → (Ja 82 8 = 0 → I 82 8 = 0 ∧ I 82 7 < te ∧ lo ≤ L 86 (I 82 7).toNat ∧ L 86 (I 82 7).toNat ≤ hi) → yi_G zi_Ms d zi_m116 (70, [(0, .inr (.inr (some 82))), (1, .inl lo), (2, .inl hi)], [], (Ja, L, X), 0, 0) (fun r => ∃ z I', r = (some (.inl z), (I', L, X), 0, 0) ∧ (∀ p k, ¬ (p = 82 ∧ k = 7) ∧ ¬ (p = 82 ∧ k = 8) → I' p k = I p k) ∧ (I 82 7 ≤ I' 82 7 ∧ I' 82 7 ≤ te) ∧ 0 ≤ I' 82 8 ∧ (I' 82 8 = 0 → I 82 8 = 0 ∧ I 82 7 < I' 82 7 ∧ (lo ≤ z ∧ z ≤ hi))) := by
    intro Ja fJa j0 j1 
    refine yi_G_run 1 (71, [(0, .inr (.inr (some 82))), (1, .inl lo), (2, .inl hi)], [.inr (.inr (some 82))], (Ja, L, X), 0, 0) (fun _ => rfl) ?_
    refine yi_G_get (74, [(0, .inr (.inr (some 82))), (1, .inl lo), (2, .inl hi)], [.inl (Ja 82 8)], (Ja, L, X), 0, 0) rfl (ym_gi hS rfl rfl rfl) ?_
    by_cases h1 : (Ja 82 8) ≤ 0
    · refine yi_G_if1 true rfl (yi_le_t h1) ?_
      refine yi_G_run 2 (81, [(0, .inr (.inr (some 82))), (1, .inl lo), (2, .inl hi)], [.inr (.inr (some 82)), .inr (.inr (some 82))], (Ja, L, X), 0, 0) (fun _ => rfl) ?_
      have r2 : Ja 82 7 = I 82 7 := by rw [fJa 82 (7) (by omega)]
      refine yi_G_get (84, [(0, .inr (.inr (some 82))), (1, .inl lo), (2, .inl hi)], [.inl (I 82 7), .inr (.inr (some 82))], (Ja, L, X), 0, 0) rfl (ym_gi hS rfl rfl r2) ?_
      refine yi_G_run 1 (85, [(0, .inr (.inr (some 82))), (1, .inl lo), (2, .inl hi)], [.inl 1, .inl (I 82 7), .inr (.inr (some 82))], (Ja, L, X), 0, 0) (fun _ => rfl) ?_
      refine yi_G_iadd rfl ((I 82 7) + 1) (yi_wn (by omega) (by omega)) ?_
      refine yi_G_put (89, [(0, .inr (.inr (some 82))), (1, .inl lo), (2, .inl hi)], [], ((yi_u Ja 82 7 ((I 82 7) + 1)), L, X), 0, 0) rfl (ym_pi hS rfl rfl) ?_
      generalize w4 : yi_u Ja 82 7 ((I 82 7) + 1) = I3
      refine yi_G_run 1 (90, [(0, .inr (.inr (some 82))), (1, .inl lo), (2, .inl hi)], [.inr (.inr (some 82))], (I3, L, X), 0, 0) (fun _ => rfl) ?_
      refine yi_G_get (93, [(0, .inr (.inr (some 82))), (1, .inl lo), (2, .inl hi)], [.inr (.inr (some 86))], (I3, L, X), 0, 0) rfl (ym_gr hS 3 rfl rfl rfl) ?_
      refine yi_G_run 1 (94, [(0, .inr (.inr (some 82))), (1, .inl lo), (2, .inl hi)], [.inr (.inr (some 82)), .inr (.inr (some 86))], (I3, L, X), 0, 0) (fun _ => rfl) ?_
      have r5 : I3 82 7 = (I 82 7) + 1 := by rw [← w4, yi_u_eq]
      refine yi_G_get (97, [(0, .inr (.inr (some 82))), (1, .inl lo), (2, .inl hi)], [.inl ((I 82 7) + 1), .inr (.inr (some 86))], (I3, L, X), 0, 0) rfl (ym_gi hS rfl rfl r5) ?_
      refine yi_G_run 1 (98, [(0, .inr (.inr (some 82))), (1, .inl lo), (2, .inl hi)], [.inl 1, .inl ((I 82 7) + 1), .inr (.inr (some 86))], (I3, L, X), 0, 0) (fun _ => rfl) ?_
      refine yi_G_isub rfl (((I 82 7) + 1) - 1) (yi_wn (by omega) (by omega)) ?_
      have ee : L 86 (I 82 7 + 1 - 1).toNat = L 86 (I 82 7).toNat := by rw [show I 82 7 + 1 - 1 = I 82 7 by omega]
      refine yi_G_lald (100, [(0, .inr (.inr (some 82))), (1, .inl lo), (2, .inl hi)], [.inr (.inl (L 86 ((((I 82 7) + 1) - 1).toNat)))], (I3, L, X), 0, 0) rfl (ym_ll hS 3 rfl (by omega) (by omega) rfl) ?_
      refine yi_G_l2i rfl (L 86 ((((I 82 7) + 1) - 1).toNat)) (yi_wn (by omega) (by omega)) ?_
      have r6 : I3 82 7 = (I 82 7) + 1 := by rw [← w4, yi_u_eq]
      have r7 : I3 82 8 = Ja 82 8 := by rw [← w4, yi_u_ne _ _ (by omega)]
      exact yi_G_reti rfl rfl (⟨_, _, rfl, (fun p k hp => by rw [← w4, yi_u_ne _ _ (fun z => by omega), fJa p k (by omega)]), ⟨by omega, by omega⟩, by omega, by omega⟩)
    · refine yi_G_if1 false rfl (yi_le_f h1) ?_
      refine yi_G_run 1 (78, [(0, .inr (.inr (some 82))), (1, .inl lo), (2, .inl hi)], [.inl 0], (Ja, L, X), 0, 0) (fun _ => rfl) ?_
      have r8 : Ja 82 7 = I 82 7 := by rw [fJa 82 (7) (by omega)]
      exact yi_G_reti rfl rfl (⟨_, _, rfl, (fun p k hp => by rw [fJa p k (by omega)]), ⟨by omega, by omega⟩, by omega, by omega⟩)
  refine yi_G_run 1 (1, [(0, .inr (.inr (some 82))), (1, .inl lo), (2, .inl hi)], [.inr (.inr (some 82))], (I, L, X), 0, 0) (fun _ => rfl) ?_
  refine yi_G_get (4, [(0, .inr (.inr (some 82))), (1, .inl lo), (2, .inl hi)], [.inl (I 82 8)], (I, L, X), 0, 0) rfl (ym_gi hS rfl rfl rfl) ?_
  by_cases h9 : (I 82 8) = 0
  · refine yi_G_if1 false rfl (yi_ne_f h9) ?_
    refine yi_G_run 1 (8, [(0, .inr (.inr (some 82))), (1, .inl lo), (2, .inl hi)], [.inr (.inr (some 82))], (I, L, X), 0, 0) (fun _ => rfl) ?_
    refine yi_G_get (11, [(0, .inr (.inr (some 82))), (1, .inl lo), (2, .inl hi)], [.inr (.inr (some 84))], (I, L, X), 0, 0) rfl (ym_gr hS 1 rfl rfl rfl) ?_
    refine yi_G_run 1 (12, [(0, .inr (.inr (some 82))), (1, .inl lo), (2, .inl hi)], [.inr (.inr (some 82)), .inr (.inr (some 84))], (I, L, X), 0, 0) (fun _ => rfl) ?_
    refine yi_G_get (15, [(0, .inr (.inr (some 82))), (1, .inl lo), (2, .inl hi)], [.inl (I 82 7), .inr (.inr (some 84))], (I, L, X), 0, 0) rfl (ym_gi hS rfl rfl rfl) ?_
    refine yi_G_iald (16, [(0, .inr (.inr (some 82))), (1, .inl lo), (2, .inl hi)], [.inl (I 84 ((I 82 7).toNat))], (I, L, X), 0, 0) rfl (ym_li hS 1 rfl (by omega) (by omega) rfl) ?_
    refine yi_G_run 1 (17, [(0, .inr (.inr (some 82))), (1, .inl lo), (2, .inl hi)], [.inl 2, .inl (I 84 ((I 82 7).toNat))], (I, L, X), 0, 0) (fun _ => rfl) ?_
    by_cases h10 : (I 84 ((I 82 7).toNat)) = 2
    · refine yi_G_if2 true rfl (yi_eq_t h10) ?_
      refine yi_G_run 1 (29, [(0, .inr (.inr (some 82))), (1, .inl lo), (2, .inl hi)], [.inr (.inr (some 82))], (I, L, X), 0, 0) (fun _ => rfl) ?_
      refine yi_G_get (32, [(0, .inr (.inr (some 82))), (1, .inl lo), (2, .inl hi)], [.inl (I 82 8)], (I, L, X), 0, 0) rfl (ym_gi hS rfl rfl rfl) ?_
      by_cases h11 : (I 82 8) = 0
      · refine yi_G_if1 false rfl (yi_ne_f h11) ?_
        refine yi_G_run 1 (36, [(0, .inr (.inr (some 82))), (1, .inl lo), (2, .inl hi)], [.inr (.inr (some 82))], (I, L, X), 0, 0) (fun _ => rfl) ?_
        refine yi_G_get (39, [(0, .inr (.inr (some 82))), (1, .inl lo), (2, .inl hi)], [.inr (.inr (some 86))], (I, L, X), 0, 0) rfl (ym_gr hS 3 rfl rfl rfl) ?_
        refine yi_G_run 1 (40, [(0, .inr (.inr (some 82))), (1, .inl lo), (2, .inl hi)], [.inr (.inr (some 82)), .inr (.inr (some 86))], (I, L, X), 0, 0) (fun _ => rfl) ?_
        refine yi_G_get (43, [(0, .inr (.inr (some 82))), (1, .inl lo), (2, .inl hi)], [.inl (I 82 7), .inr (.inr (some 86))], (I, L, X), 0, 0) rfl (ym_gi hS rfl rfl rfl) ?_
        refine yi_G_lald (44, [(0, .inr (.inr (some 82))), (1, .inl lo), (2, .inl hi)], [.inr (.inl (L 86 ((I 82 7).toNat)))], (I, L, X), 0, 0) rfl (ym_ll hS 3 rfl (by omega) (by omega) rfl) ?_
        refine yi_G_run 3 (47, [(0, .inr (.inr (some 82))), (1, .inl lo), (2, .inl hi)], [.inl (yi_lcmp (L 86 ((I 82 7).toNat)) lo)], (I, L, X), 0, 0) (fun _ => rfl) ?_
        by_cases h12 : ((L 86 ((I 82 7).toNat))) < lo
        · refine yi_G_if1 true rfl (yi_Llt_t h12) ?_
          refine yi_G_run 2 (67, [(0, .inr (.inr (some 82))), (1, .inl lo), (2, .inl hi)], [.inl 4, .inr (.inr (some 82))], (I, L, X), 0, 0) (fun _ => rfl) ?_
          refine yi_G_callv rfl rfl (ym_rcv hS) rfl (c_wrong d (by omega) hS ⟨by omega, by omega⟩ hT ⟨by omega, by omega⟩ (by omega)) ?_
          rintro _ ⟨I13, rfl, f14, h15⟩
          show yi_G zi_Ms d zi_m116 (70, [(0, .inr (.inr (some 82))), (1, .inl lo), (2, .inl hi)], [], (I13, L, X), 0, 0) _
          have r16 : I13 82 7 = I 82 7 := by rw [f14 82 (7) (by omega)]
          have r17 : I13 82 7 = I 82 7 := by rw [f14 82 (7) (by omega)]
          exact pt70 I13 (fun p k hp => by rw [f14 p k (by omega)]) (by omega) (fun z => ⟨by omega, ym_TK_lt hT (by omega) (by omega), by omega, by omega⟩)
        · refine yi_G_if1 false rfl (yi_Llt_f h12) ?_
          refine yi_G_run 1 (51, [(0, .inr (.inr (some 82))), (1, .inl lo), (2, .inl hi)], [.inr (.inr (some 82))], (I, L, X), 0, 0) (fun _ => rfl) ?_
          refine yi_G_get (54, [(0, .inr (.inr (some 82))), (1, .inl lo), (2, .inl hi)], [.inr (.inr (some 86))], (I, L, X), 0, 0) rfl (ym_gr hS 3 rfl rfl rfl) ?_
          refine yi_G_run 1 (55, [(0, .inr (.inr (some 82))), (1, .inl lo), (2, .inl hi)], [.inr (.inr (some 82)), .inr (.inr (some 86))], (I, L, X), 0, 0) (fun _ => rfl) ?_
          refine yi_G_get (58, [(0, .inr (.inr (some 82))), (1, .inl lo), (2, .inl hi)], [.inl (I 82 7), .inr (.inr (some 86))], (I, L, X), 0, 0) rfl (ym_gi hS rfl rfl rfl) ?_
          refine yi_G_lald (59, [(0, .inr (.inr (some 82))), (1, .inl lo), (2, .inl hi)], [.inr (.inl (L 86 ((I 82 7).toNat)))], (I, L, X), 0, 0) rfl (ym_ll hS 3 rfl (by omega) (by omega) rfl) ?_
          refine yi_G_run 3 (62, [(0, .inr (.inr (some 82))), (1, .inl lo), (2, .inl hi)], [.inl (yi_lcmp (L 86 ((I 82 7).toNat)) hi)], (I, L, X), 0, 0) (fun _ => rfl) ?_
          by_cases h18 : ((L 86 ((I 82 7).toNat))) ≤ hi
          · refine yi_G_if1 true rfl (yi_Lle_t h18) ?_
            exact pt70 I (fun _ _ _ => rfl) (by omega) (fun z => ⟨by omega, ym_TK_lt hT (by omega) (by omega), by omega, by omega⟩)
          · refine yi_G_if1 false rfl (yi_Lle_f h18) ?_
            refine yi_G_run 2 (67, [(0, .inr (.inr (some 82))), (1, .inl lo), (2, .inl hi)], [.inl 4, .inr (.inr (some 82))], (I, L, X), 0, 0) (fun _ => rfl) ?_
            refine yi_G_callv rfl rfl (ym_rcv hS) rfl (c_wrong d (by omega) hS ⟨by omega, by omega⟩ hT ⟨by omega, by omega⟩ (by omega)) ?_
            rintro _ ⟨I19, rfl, f20, h21⟩
            show yi_G zi_Ms d zi_m116 (70, [(0, .inr (.inr (some 82))), (1, .inl lo), (2, .inl hi)], [], (I19, L, X), 0, 0) _
            have r22 : I19 82 7 = I 82 7 := by rw [f20 82 (7) (by omega)]
            have r23 : I19 82 7 = I 82 7 := by rw [f20 82 (7) (by omega)]
            exact pt70 I19 (fun p k hp => by rw [f20 p k (by omega)]) (by omega) (fun z => ⟨by omega, ym_TK_lt hT (by omega) (by omega), by omega, by omega⟩)
      · refine yi_G_if1 true rfl (yi_ne_t h11) ?_
        exact pt70 I (fun _ _ _ => rfl) (by omega) (fun z => ⟨by omega, ym_TK_lt hT (by omega) (by omega), by omega, by omega⟩)
    · refine yi_G_if2 false rfl (yi_eq_f h10) ?_
      refine yi_G_run 2 (22, [(0, .inr (.inr (some 82))), (1, .inl lo), (2, .inl hi)], [.inl 1, .inr (.inr (some 82))], (I, L, X), 0, 0) (fun _ => rfl) ?_
      refine yi_G_callv rfl rfl (ym_rcv hS) rfl (c_wrong d (by omega) hS ⟨by omega, by omega⟩ hT ⟨by omega, by omega⟩ (by omega)) ?_
      rintro _ ⟨I24, rfl, f25, h26⟩
      show yi_G zi_Ms d zi_m116 (25, [(0, .inr (.inr (some 82))), (1, .inl lo), (2, .inl hi)], [], (I24, L, X), 0, 0) _
      refine yi_G_run 1 (70, [(0, .inr (.inr (some 82))), (1, .inl lo), (2, .inl hi)], [], (I24, L, X), 0, 0) (fun _ => rfl) ?_
      have r27 : I24 82 7 = I 82 7 := by rw [f25 82 (7) (by omega)]
      have r28 : I24 82 7 = I 82 7 := by rw [f25 82 (7) (by omega)]
      exact pt70 I24 (fun p k hp => by rw [f25 p k (by omega)]) (by omega) (fun z => ⟨by omega, ym_TK_lt hT (by omega) (by omega), by omega, by omega⟩)
  · refine yi_G_if1 true rfl (yi_ne_t h9) ?_
    refine yi_G_run 1 (29, [(0, .inr (.inr (some 82))), (1, .inl lo), (2, .inl hi)], [.inr (.inr (some 82))], (I, L, X), 0, 0) (fun _ => rfl) ?_
    refine yi_G_get (32, [(0, .inr (.inr (some 82))), (1, .inl lo), (2, .inl hi)], [.inl (I 82 8)], (I, L, X), 0, 0) rfl (ym_gi hS rfl rfl rfl) ?_
    by_cases h29 : (I 82 8) = 0
    · refine yi_G_if1 false rfl (yi_ne_f h29) ?_
      refine yi_G_run 1 (36, [(0, .inr (.inr (some 82))), (1, .inl lo), (2, .inl hi)], [.inr (.inr (some 82))], (I, L, X), 0, 0) (fun _ => rfl) ?_
      refine yi_G_get (39, [(0, .inr (.inr (some 82))), (1, .inl lo), (2, .inl hi)], [.inr (.inr (some 86))], (I, L, X), 0, 0) rfl (ym_gr hS 3 rfl rfl rfl) ?_
      refine yi_G_run 1 (40, [(0, .inr (.inr (some 82))), (1, .inl lo), (2, .inl hi)], [.inr (.inr (some 82)), .inr (.inr (some 86))], (I, L, X), 0, 0) (fun _ => rfl) ?_
      refine yi_G_get (43, [(0, .inr (.inr (some 82))), (1, .inl lo), (2, .inl hi)], [.inl (I 82 7), .inr (.inr (some 86))], (I, L, X), 0, 0) rfl (ym_gi hS rfl rfl rfl) ?_
      refine yi_G_lald (44, [(0, .inr (.inr (some 82))), (1, .inl lo), (2, .inl hi)], [.inr (.inl (L 86 ((I 82 7).toNat)))], (I, L, X), 0, 0) rfl (ym_ll hS 3 rfl (by omega) (by omega) rfl) ?_
      refine yi_G_run 3 (47, [(0, .inr (.inr (some 82))), (1, .inl lo), (2, .inl hi)], [.inl (yi_lcmp (L 86 ((I 82 7).toNat)) lo)], (I, L, X), 0, 0) (fun _ => rfl) ?_
      by_cases h30 : ((L 86 ((I 82 7).toNat))) < lo
      · refine yi_G_if1 true rfl (yi_Llt_t h30) ?_
        refine yi_G_run 2 (67, [(0, .inr (.inr (some 82))), (1, .inl lo), (2, .inl hi)], [.inl 4, .inr (.inr (some 82))], (I, L, X), 0, 0) (fun _ => rfl) ?_
        refine yi_G_callv rfl rfl (ym_rcv hS) rfl (c_wrong d (by omega) hS ⟨by omega, by omega⟩ hT ⟨by omega, by omega⟩ (by omega)) ?_
        rintro _ ⟨I31, rfl, f32, h33⟩
        show yi_G zi_Ms d zi_m116 (70, [(0, .inr (.inr (some 82))), (1, .inl lo), (2, .inl hi)], [], (I31, L, X), 0, 0) _
        have r34 : I31 82 7 = I 82 7 := by rw [f32 82 (7) (by omega)]
        have r35 : I31 82 7 = I 82 7 := by rw [f32 82 (7) (by omega)]
        exact pt70 I31 (fun p k hp => by rw [f32 p k (by omega)]) (by omega) (fun z => ⟨by omega, ym_TK_lt hT (by omega) (by omega), by omega, by omega⟩)
      · refine yi_G_if1 false rfl (yi_Llt_f h30) ?_
        refine yi_G_run 1 (51, [(0, .inr (.inr (some 82))), (1, .inl lo), (2, .inl hi)], [.inr (.inr (some 82))], (I, L, X), 0, 0) (fun _ => rfl) ?_
        refine yi_G_get (54, [(0, .inr (.inr (some 82))), (1, .inl lo), (2, .inl hi)], [.inr (.inr (some 86))], (I, L, X), 0, 0) rfl (ym_gr hS 3 rfl rfl rfl) ?_
        refine yi_G_run 1 (55, [(0, .inr (.inr (some 82))), (1, .inl lo), (2, .inl hi)], [.inr (.inr (some 82)), .inr (.inr (some 86))], (I, L, X), 0, 0) (fun _ => rfl) ?_
        refine yi_G_get (58, [(0, .inr (.inr (some 82))), (1, .inl lo), (2, .inl hi)], [.inl (I 82 7), .inr (.inr (some 86))], (I, L, X), 0, 0) rfl (ym_gi hS rfl rfl rfl) ?_
        refine yi_G_lald (59, [(0, .inr (.inr (some 82))), (1, .inl lo), (2, .inl hi)], [.inr (.inl (L 86 ((I 82 7).toNat)))], (I, L, X), 0, 0) rfl (ym_ll hS 3 rfl (by omega) (by omega) rfl) ?_
        refine yi_G_run 3 (62, [(0, .inr (.inr (some 82))), (1, .inl lo), (2, .inl hi)], [.inl (yi_lcmp (L 86 ((I 82 7).toNat)) hi)], (I, L, X), 0, 0) (fun _ => rfl) ?_
        by_cases h36 : ((L 86 ((I 82 7).toNat))) ≤ hi
        · refine yi_G_if1 true rfl (yi_Lle_t h36) ?_
          exact pt70 I (fun _ _ _ => rfl) (by omega) (fun z => ⟨by omega, ym_TK_lt hT (by omega) (by omega), by omega, by omega⟩)
        · refine yi_G_if1 false rfl (yi_Lle_f h36) ?_
          refine yi_G_run 2 (67, [(0, .inr (.inr (some 82))), (1, .inl lo), (2, .inl hi)], [.inl 4, .inr (.inr (some 82))], (I, L, X), 0, 0) (fun _ => rfl) ?_
          refine yi_G_callv rfl rfl (ym_rcv hS) rfl (c_wrong d (by omega) hS ⟨by omega, by omega⟩ hT ⟨by omega, by omega⟩ (by omega)) ?_
          rintro _ ⟨I37, rfl, f38, h39⟩
          show yi_G zi_Ms d zi_m116 (70, [(0, .inr (.inr (some 82))), (1, .inl lo), (2, .inl hi)], [], (I37, L, X), 0, 0) _
          have r40 : I37 82 7 = I 82 7 := by rw [f38 82 (7) (by omega)]
          have r41 : I37 82 7 = I 82 7 := by rw [f38 82 (7) (by omega)]
          exact pt70 I37 (fun p k hp => by rw [f38 p k (by omega)]) (by omega) (fun z => ⟨by omega, ym_TK_lt hT (by omega) (by omega), by omega, by omega⟩)
    · refine yi_G_if1 true rfl (yi_ne_t h29) ?_
      exact pt70 I (fun _ _ _ => rfl) (by omega) (fun z => ⟨by omega, ym_TK_lt hT (by omega) (by omega), by omega, by omega⟩)
theorem c_takeAfter (D : Nat) (hD : 4 ≤ D) {I L : Nat → Nat → Int} {X : ym_X} (hS : ym_S X) {w lo hi : Int} (w0 : 0 ≤ w ∧ w ≤ 31) (q0 : 0 ≤ lo) (q1 : hi ≤ 9999) {te : Int} (hT : ym_TK I te) (a0 : 0 ≤ I 82 7 ∧ I 82 7 ≤ te) (f0 : 0 ≤ I 82 8) : yi_E zi_Ms D 115 [.inr (.inr (some 82)), .inl w, .inl lo, .inl hi] (I, L, X) (fun r => ∃ z I', r = (some (.inl z), (I', L, X), 0, 0) ∧ (∀ p k, ¬ (p = 82 ∧ k = 7) ∧ ¬ (p = 82 ∧ k = 8) → I' p k = I p k) ∧ (I 82 7 ≤ I' 82 7 ∧ I' 82 7 ≤ te) ∧ 0 ≤ I' 82 8 ∧ (I' 82 8 = 0 → I 82 8 = 0 ∧ I 82 7 < I' 82 7 ∧ (lo ≤ z ∧ z ≤ hi))) := by
  obtain ⟨d, rfl⟩ : ∃ d, D = d + 1 := ⟨D - 1, by omega⟩
  refine yi_E_of (M := zi_m115) rfl rfl ?_
  obtain ⟨te0, te1, te2⟩ := id hT
  show yi_G zi_Ms d zi_m115 (0, [(0, .inr (.inr (some 82))), (1, .inl w), (2, .inl lo), (3, .inl hi)], [], (I, L, X), 0, 0) _
  refine yi_G_run 2 (2, [(0, .inr (.inr (some 82))), (1, .inl w), (2, .inl lo), (3, .inl hi)], [.inl w, .inr (.inr (some 82))], (I, L, X), 0, 0) (fun _ => rfl) ?_
  refine yi_G_callv rfl rfl (ym_rcv hS) rfl (c_takeWord d (by omega) hS ⟨by omega, by omega⟩ hT ⟨by omega, by omega⟩ (by omega)) ?_
  rintro _ ⟨I1, rfl, f2, h3a, h3b, h3c⟩
  show yi_G zi_Ms d zi_m115 (5, [(0, .inr (.inr (some 82))), (1, .inl w), (2, .inl lo), (3, .inl hi)], [], (I1, L, X), 0, 0) _
  refine yi_G_run 3 (8, [(0, .inr (.inr (some 82))), (1, .inl w), (2, .inl lo), (3, .inl hi)], [.inl hi, .inl lo, .inr (.inr (some 82))], (I1, L, X), 0, 0) (fun _ => rfl) ?_
  refine yi_G_callv rfl rfl (ym_rcv hS) rfl (c_takeNumber d (by omega) hS (by omega) (by omega) (ym_TK_t (fun k => by rw [f2 84 k (by omega)]) (fun k => by rw [f2 85 k (by omega)]) hT) ⟨by omega, by omega⟩ (by omega)) ?_
  rintro _ ⟨z6, I4, rfl, f5, h7a, h7b, h7c⟩
  show yi_G zi_Ms d zi_m115 (11, [(0, .inr (.inr (some 82))), (1, .inl w), (2, .inl lo), (3, .inl hi)], [.inl z6], (I4, L, X), 0, 0) _
  exact yi_G_reti rfl rfl (⟨_, _, rfl, (fun p k hp => by rw [f5 p k (by omega), f2 p k (by omega)]), ⟨by omega, by omega⟩, by omega, by omega⟩)
theorem c_wordHere (D : Nat) (hD : 2 ≤ D) {I L : Nat → Nat → Int} {X : ym_X} (hS : ym_S X) {fr my : Int} (w0 : 0 ≤ fr ∧ fr ≤ 31) (w1 : 0 ≤ my ∧ fr + my ≤ 32) {te : Int} (hT : ym_TK I te) (a0 : 0 ≤ I 82 7 ∧ I 82 7 ≤ te) : yi_E zi_Ms D 134 [.inr (.inr (some 82)), .inl fr, .inl my] (I, L, X) (fun r => ∃ z, r = (some (.inl z), (I, L, X), 0, 0) ∧ (z = -1 ∨ (0 ≤ z ∧ z < my ∧ I 82 8 = 0 ∧ I 82 7 < te))) := by
  obtain ⟨d, rfl⟩ : ∃ d, D = d + 1 := ⟨D - 1, by omega⟩
  refine yi_E_of (M := zi_m134) rfl rfl ?_
  obtain ⟨te0, te1, te2⟩ := id hT
  show yi_G zi_Ms d zi_m134 (0, [(0, .inr (.inr (some 82))), (1, .inl fr), (2, .inl my)], [], (I, L, X), 0, 0) _
  refine yi_G_run 4 (5, [(4, .inl 0), (3, .inl (-1)), (0, .inr (.inr (some 82))), (1, .inl fr), (2, .inl my)], [], (I, L, X), 0, 0) (fun _ => rfl) ?_
  have pt5 : ∀ (m : Nat) (k : Int) (w : Int), (0 ≤ k ∧ k ≤ my) → (w = -1 ∨ (0 ≤ w ∧ w < k ∧ I 82 8 = 0 ∧ I 82 7 < te)) → (my - k).toNat = m → yi_G zi_Ms d zi_m134 (5, [(4, .inl k), (3, .inl w), (0, .inr (.inr (some 82))), (1, .inl fr), (2, .inl my)], [], (I, L, X), 0, 0) (fun r => ∃ z, r = (some (.inl z), (I, L, X), 0, 0) ∧ (z = -1 ∨ (0 ≤ z ∧ z < my ∧ I 82 8 = 0 ∧ I 82 7 < te))) := by
    intro m5
    induction m5 using Nat.strongRecOn with
    | _ m5 ih5 =>
    intro k w k0 k1 hm5
    refine yi_G_run 2 (8, [(4, .inl k), (3, .inl w), (0, .inr (.inr (some 82))), (1, .inl fr), (2, .inl my)], [.inl my, .inl k], (I, L, X), 0, 0) (fun _ => rfl) ?_
    by_cases h1 : my ≤ k
    · refine yi_G_if2 true rfl (yi_ge_t h1) ?_
      refine yi_G_run 1 (36, [(4, .inl k), (3, .inl w), (0, .inr (.inr (some 82))), (1, .inl fr), (2, .inl my)], [.inl w], (I, L, X), 0, 0) (fun _ => rfl) ?_
      exact yi_G_reti rfl rfl (⟨_, rfl, by omega⟩)
    · refine yi_G_if2 false rfl (yi_ge_f h1) ?_
      refine yi_G_run 3 (15, [(4, .inl k), (3, .inl w), (0, .inr (.inr (some 82))), (1, .inl fr), (2, .inl my)], [.inl k, .inl fr, .inr (.inr (some 82))], (I, L, X), 0, 0) (fun _ => rfl) ?_
      refine yi_G_iadd rfl (fr + k) (yi_wn (by omega) (by omega)) ?_
      refine yi_G_callv rfl rfl (ym_rcv hS) rfl (c_isWord1 d (by omega) hS ⟨by omega, by omega⟩ rfl rfl rfl rfl ⟨by omega, by omega⟩) ?_
      rintro _ (⟨c2, rfl⟩ | ⟨c2, rfl⟩)
      · have lt3 : I 82 7 < te := ym_TK_lt hT (by omega) (by omega)
        show yi_G zi_Ms d zi_m134 (19, [(4, .inl k), (3, .inl w), (0, .inr (.inr (some 82))), (1, .inl fr), (2, .inl my)], [.inl 1], (I, L, X), 0, 0) _
        refine yi_G_if1 false rfl (by decide) ?_
        refine yi_G_run 3 (29, [(3, .inl k), (4, .inl k), (0, .inr (.inr (some 82))), (1, .inl fr), (2, .inl my)], [], (I, L, X), 0, 0) (fun _ => rfl) ?_
        refine yi_G_iinc [(4, .inl (k + 1)), (3, .inl k), (0, .inr (.inr (some 82))), (1, .inl fr), (2, .inl my)] rfl rfl rfl (by rw [show yi_w (k + 1) = k + 1 from (yi_wn (by omega) (by omega)).trans (by omega)]; rfl) ?_
        refine yi_G_run 1 (5, [(4, .inl (k + 1)), (3, .inl k), (0, .inr (.inr (some 82))), (1, .inl fr), (2, .inl my)], [], (I, L, X), 0, 0) (fun _ => rfl) ?_
        exact ih5 _ (by omega) (k + 1) k (by omega) (by omega) rfl
      · show yi_G zi_Ms d zi_m134 (19, [(4, .inl k), (3, .inl w), (0, .inr (.inr (some 82))), (1, .inl fr), (2, .inl my)], [.inl 0], (I, L, X), 0, 0) _
        refine yi_G_if1 true rfl (by decide) ?_
        refine yi_G_run 2 (29, [(3, .inl w), (4, .inl k), (0, .inr (.inr (some 82))), (1, .inl fr), (2, .inl my)], [], (I, L, X), 0, 0) (fun _ => rfl) ?_
        refine yi_G_iinc [(4, .inl (k + 1)), (3, .inl w), (0, .inr (.inr (some 82))), (1, .inl fr), (2, .inl my)] rfl rfl rfl (by rw [show yi_w (k + 1) = k + 1 from (yi_wn (by omega) (by omega)).trans (by omega)]; rfl) ?_
        refine yi_G_run 1 (5, [(4, .inl (k + 1)), (3, .inl w), (0, .inr (.inr (some 82))), (1, .inl fr), (2, .inl my)], [], (I, L, X), 0, 0) (fun _ => rfl) ?_
        exact ih5 _ (by omega) (k + 1) w (by omega) (by omega) rfl
  exact pt5 _ 0 (-1) (by omega) (by omega) rfl
theorem c_isName (D : Nat) (hD : 3 ≤ D) {I L : Nat → Nat → Int} {X : ym_X} (hS : ym_S X) {te : Int} (hT : ym_TK I te) (a0 : 0 ≤ I 82 7 ∧ I 82 7 ≤ te) : yi_E zi_Ms D 55 [.inr (.inr (some 82))] (I, L, X) (fun r => ((I 82 8 = 0 ∧ I 82 7 < te) ∧ r = (some (.inl 1), (I, L, X), 0, 0)) ∨ r = (some (.inl 0), (I, L, X), 0, 0)) := by
  obtain ⟨d, rfl⟩ : ∃ d, D = d + 1 := ⟨D - 1, by omega⟩
  refine yi_E_of (M := zi_m55) rfl rfl ?_
  obtain ⟨te0, te1, te2⟩ := id hT
  show yi_G zi_Ms d zi_m55 (0, [(0, .inr (.inr (some 82)))], [], (I, L, X), 0, 0) _
  refine yi_G_run 1 (1, [(0, .inr (.inr (some 82)))], [.inr (.inr (some 82))], (I, L, X), 0, 0) (fun _ => rfl) ?_
  refine yi_G_get (4, [(0, .inr (.inr (some 82)))], [.inl (I 82 8)], (I, L, X), 0, 0) rfl (ym_gi hS rfl rfl rfl) ?_
  by_cases h1 : (I 82 8) = 0
  · refine yi_G_if1 false rfl (yi_ne_f h1) ?_
    refine yi_G_run 1 (8, [(0, .inr (.inr (some 82)))], [.inr (.inr (some 82))], (I, L, X), 0, 0) (fun _ => rfl) ?_
    refine yi_G_get (11, [(0, .inr (.inr (some 82)))], [.inr (.inr (some 84))], (I, L, X), 0, 0) rfl (ym_gr hS 1 rfl rfl rfl) ?_
    refine yi_G_run 1 (12, [(0, .inr (.inr (some 82)))], [.inr (.inr (some 82)), .inr (.inr (some 84))], (I, L, X), 0, 0) (fun _ => rfl) ?_
    refine yi_G_get (15, [(0, .inr (.inr (some 82)))], [.inl (I 82 7), .inr (.inr (some 84))], (I, L, X), 0, 0) rfl (ym_gi hS rfl rfl rfl) ?_
    refine yi_G_iald (16, [(0, .inr (.inr (some 82)))], [.inl (I 84 ((I 82 7).toNat))], (I, L, X), 0, 0) rfl (ym_li hS 1 rfl (by omega) (by omega) rfl) ?_
    refine yi_G_run 1 (17, [(0, .inr (.inr (some 82)))], [.inl 1, .inl (I 84 ((I 82 7).toNat))], (I, L, X), 0, 0) (fun _ => rfl) ?_
    by_cases h2 : (I 84 ((I 82 7).toNat)) = 1
    · refine yi_G_if2 false rfl (yi_ne_f h2) ?_
      refine yi_G_run 3 (24, [(0, .inr (.inr (some 82)))], [.inl 29, .inl 0, .inr (.inr (some 82))], (I, L, X), 0, 0) (fun _ => rfl) ?_
      refine yi_G_callv rfl rfl (ym_rcv hS) rfl (c_wordHere d (by omega) hS ⟨by omega, by omega⟩ ⟨by omega, by omega⟩ hT ⟨by omega, by omega⟩) ?_
      rintro _ ⟨z3, rfl, h4⟩
      show yi_G zi_Ms d zi_m55 (27, [(0, .inr (.inr (some 82)))], [.inl z3], (I, L, X), 0, 0) _
      by_cases h5 : 0 ≤ z3
      · refine yi_G_if1 true rfl (yi_ge_t h5) ?_
        refine yi_G_run 1 (35, [(0, .inr (.inr (some 82)))], [.inl 0], (I, L, X), 0, 0) (fun _ => rfl) ?_
        exact yi_G_retb rfl rfl (by decide) (Or.inr rfl)
      · refine yi_G_if1 false rfl (yi_ge_f h5) ?_
        refine yi_G_run 2 (35, [(0, .inr (.inr (some 82)))], [.inl 1], (I, L, X), 0, 0) (fun _ => rfl) ?_
        exact yi_G_retb rfl rfl (by decide) (Or.inl ⟨⟨by omega, ym_TK_lt hT (by omega) (by omega)⟩, rfl⟩)
    · refine yi_G_if2 true rfl (yi_ne_t h2) ?_
      refine yi_G_run 1 (35, [(0, .inr (.inr (some 82)))], [.inl 0], (I, L, X), 0, 0) (fun _ => rfl) ?_
      exact yi_G_retb rfl rfl (by decide) (Or.inr rfl)
  · refine yi_G_if1 true rfl (yi_ne_t h1) ?_
    refine yi_G_run 1 (35, [(0, .inr (.inr (some 82)))], [.inl 0], (I, L, X), 0, 0) (fun _ => rfl) ?_
    exact yi_G_retb rfl rfl (by decide) (Or.inr rfl)
theorem c_find (D : Nat) (hD : 1 ≤ D) {I L : Nat → Nat → Int} {X : ym_X} (hS : ym_S X) (n0 : 0 ≤ I 82 18 ∧ I 82 18 ≤ 13) (n1 : 0 ≤ I 82 19 ∧ I 82 19 ≤ 13) {te : Int} (hT : ym_TK I te) (a0 : 0 ≤ I 82 7 ∧ I 82 7 ≤ te) : yi_E zi_Ms D 26 [.inr (.inr (some 82))] (I, L, X) (fun r => ∃ z, r = (some (.inl z), (I, L, X), 0, 0)) := by
  obtain ⟨d, rfl⟩ : ∃ d, D = d + 1 := ⟨D - 1, by omega⟩
  refine yi_E_of (M := zi_m26) rfl rfl ?_
  obtain ⟨te0, te1, te2⟩ := id hT
  show yi_G zi_Ms d zi_m26 (0, [(0, .inr (.inr (some 82)))], [], (I, L, X), 0, 0) _
  refine yi_G_run 2 (2, [(1, .inl 0), (0, .inr (.inr (some 82)))], [], (I, L, X), 0, 0) (fun _ => rfl) ?_
  have pt2 : ∀ (m : Nat) (k : Int), (0 ≤ k ∧ k ≤ 13) → (13 - k).toNat = m → yi_G zi_Ms d zi_m26 (2, [(1, .inl k), (0, .inr (.inr (some 82)))], [], (I, L, X), 0, 0) (fun r => ∃ z, r = (some (.inl z), (I, L, X), 0, 0)) := by
    intro m2
    induction m2 using Nat.strongRecOn with
    | _ m2 ih2 =>
    intro k k0 hm2
    refine yi_G_run 2 (4, [(1, .inl k), (0, .inr (.inr (some 82)))], [.inr (.inr (some 82)), .inl k], (I, L, X), 0, 0) (fun _ => rfl) ?_
    refine yi_G_get (7, [(1, .inl k), (0, .inr (.inr (some 82)))], [.inl (I 82 20), .inl k], (I, L, X), 0, 0) rfl (ym_gi hS rfl rfl rfl) ?_
    by_cases h1 : (I 82 20) = 0
    · refine yi_G_if1 false rfl (yi_ne_f h1) ?_
      refine yi_G_run 1 (11, [(1, .inl k), (0, .inr (.inr (some 82)))], [.inr (.inr (some 82)), .inl k], (I, L, X), 0, 0) (fun _ => rfl) ?_
      refine yi_G_get (14, [(1, .inl k), (0, .inr (.inr (some 82)))], [.inl (I 82 18), .inl k], (I, L, X), 0, 0) rfl (ym_gi hS rfl rfl rfl) ?_
      refine yi_G_run 1 (21, [(1, .inl k), (0, .inr (.inr (some 82)))], [.inl (I 82 18), .inl k], (I, L, X), 0, 0) (fun _ => rfl) ?_
      by_cases h2 : (I 82 18) ≤ k
      · refine yi_G_if2 true rfl (yi_ge_t h2) ?_
        refine yi_G_run 1 (89, [(1, .inl k), (0, .inr (.inr (some 82)))], [.inl (-1)], (I, L, X), 0, 0) (fun _ => rfl) ?_
        exact yi_G_reti rfl rfl (⟨_, rfl⟩)
      · refine yi_G_if2 false rfl (yi_ge_f h2) ?_
        refine yi_G_run 1 (25, [(1, .inl k), (0, .inr (.inr (some 82)))], [.inr (.inr (some 82))], (I, L, X), 0, 0) (fun _ => rfl) ?_
        refine yi_G_get (28, [(1, .inl k), (0, .inr (.inr (some 82)))], [.inl (I 82 20)], (I, L, X), 0, 0) rfl (ym_gi hS rfl rfl rfl) ?_
        by_cases h3 : (I 82 20) = 0
        · refine yi_G_if1 false rfl (yi_ne_f h3) ?_
          refine yi_G_run 1 (32, [(1, .inl k), (0, .inr (.inr (some 82)))], [.inr (.inr (some 82))], (I, L, X), 0, 0) (fun _ => rfl) ?_
          refine yi_G_get (35, [(1, .inl k), (0, .inr (.inr (some 82)))], [.inr (.inr (some 91))], (I, L, X), 0, 0) rfl (ym_gr hS 8 rfl rfl rfl) ?_
          refine yi_G_run 1 (36, [(1, .inl k), (0, .inr (.inr (some 82)))], [.inl k, .inr (.inr (some 91))], (I, L, X), 0, 0) (fun _ => rfl) ?_
          refine yi_G_lald (37, [(1, .inl k), (0, .inr (.inr (some 82)))], [.inr (.inl (L 91 (k.toNat)))], (I, L, X), 0, 0) rfl (ym_ll hS 8 rfl (by omega) (by omega) rfl) ?_
          refine yi_G_run 2 (47, [(1, .inl k), (0, .inr (.inr (some 82)))], [.inr (.inr (some 82)), .inr (.inl (L 91 (k.toNat)))], (I, L, X), 0, 0) (fun _ => rfl) ?_
          refine yi_G_get (50, [(1, .inl k), (0, .inr (.inr (some 82)))], [.inr (.inr (some 86)), .inr (.inl (L 91 (k.toNat)))], (I, L, X), 0, 0) rfl (ym_gr hS 3 rfl rfl rfl) ?_
          refine yi_G_run 1 (51, [(1, .inl k), (0, .inr (.inr (some 82)))], [.inr (.inr (some 82)), .inr (.inr (some 86)), .inr (.inl (L 91 (k.toNat)))], (I, L, X), 0, 0) (fun _ => rfl) ?_
          refine yi_G_get (54, [(1, .inl k), (0, .inr (.inr (some 82)))], [.inl (I 82 7), .inr (.inr (some 86)), .inr (.inl (L 91 (k.toNat)))], (I, L, X), 0, 0) rfl (ym_gi hS rfl rfl rfl) ?_
          refine yi_G_lald (55, [(1, .inl k), (0, .inr (.inr (some 82)))], [.inr (.inl (L 86 ((I 82 7).toNat))), .inr (.inl (L 91 (k.toNat)))], (I, L, X), 0, 0) rfl (ym_ll hS 3 rfl (by omega) (by omega) rfl) ?_
          refine yi_G_run 1 (56, [(1, .inl k), (0, .inr (.inr (some 82)))], [.inl (yi_lcmp (L 91 (k.toNat)) (L 86 ((I 82 7).toNat)))], (I, L, X), 0, 0) (fun _ => rfl) ?_
          by_cases h4 : ((L 91 (k.toNat))) = ((L 86 ((I 82 7).toNat)))
          · refine yi_G_if1 false rfl (yi_Lne_f h4) ?_
            refine yi_G_run 1 (60, [(1, .inl k), (0, .inr (.inr (some 82)))], [.inr (.inr (some 82))], (I, L, X), 0, 0) (fun _ => rfl) ?_
            refine yi_G_get (63, [(1, .inl k), (0, .inr (.inr (some 82)))], [.inl (I 82 20)], (I, L, X), 0, 0) rfl (ym_gi hS rfl rfl rfl) ?_
            by_cases h5 : (I 82 20) = 0
            · refine yi_G_if1 false rfl (yi_ne_f h5) ?_
              refine yi_G_run 1 (67, [(1, .inl k), (0, .inr (.inr (some 82)))], [.inr (.inr (some 82))], (I, L, X), 0, 0) (fun _ => rfl) ?_
              refine yi_G_get (70, [(1, .inl k), (0, .inr (.inr (some 82)))], [.inr (.inr (some 93))], (I, L, X), 0, 0) rfl (ym_gr hS 10 rfl rfl rfl) ?_
              refine yi_G_run 1 (71, [(1, .inl k), (0, .inr (.inr (some 82)))], [.inl k, .inr (.inr (some 93))], (I, L, X), 0, 0) (fun _ => rfl) ?_
              refine yi_G_iald (72, [(1, .inl k), (0, .inr (.inr (some 82)))], [.inl (I 93 (k.toNat))], (I, L, X), 0, 0) rfl (ym_li hS 10 rfl (by omega) (by omega) rfl) ?_
              refine yi_G_run 1 (81, [(1, .inl k), (0, .inr (.inr (some 82)))], [.inl (I 93 (k.toNat))], (I, L, X), 0, 0) (fun _ => rfl) ?_
              exact yi_G_reti rfl rfl (⟨_, rfl⟩)
            · refine yi_G_if1 true rfl (yi_ne_t h5) ?_
              refine yi_G_run 1 (76, [(1, .inl k), (0, .inr (.inr (some 82)))], [.inr (.inr (some 82))], (I, L, X), 0, 0) (fun _ => rfl) ?_
              refine yi_G_get (79, [(1, .inl k), (0, .inr (.inr (some 82)))], [.inr (.inr (some 94))], (I, L, X), 0, 0) rfl (ym_gr hS 11 rfl rfl rfl) ?_
              refine yi_G_run 1 (80, [(1, .inl k), (0, .inr (.inr (some 82)))], [.inl k, .inr (.inr (some 94))], (I, L, X), 0, 0) (fun _ => rfl) ?_
              refine yi_G_iald (81, [(1, .inl k), (0, .inr (.inr (some 82)))], [.inl (I 94 (k.toNat))], (I, L, X), 0, 0) rfl (ym_li hS 11 rfl (by omega) (by omega) rfl) ?_
              exact yi_G_reti rfl rfl (⟨_, rfl⟩)
          · refine yi_G_if1 true rfl (yi_Lne_t h4) ?_
            refine yi_G_iinc [(1, .inl (k + 1)), (0, .inr (.inr (some 82)))] rfl rfl rfl (by rw [show yi_w (k + 1) = k + 1 from (yi_wn (by omega) (by omega)).trans (by omega)]; rfl) ?_
            refine yi_G_run 1 (2, [(1, .inl (k + 1)), (0, .inr (.inr (some 82)))], [], (I, L, X), 0, 0) (fun _ => rfl) ?_
            exact ih2 _ (by omega) (k + 1) (by omega) rfl
        · refine yi_G_if1 true rfl (yi_ne_t h3) ?_
          refine yi_G_run 1 (41, [(1, .inl k), (0, .inr (.inr (some 82)))], [.inr (.inr (some 82))], (I, L, X), 0, 0) (fun _ => rfl) ?_
          refine yi_G_get (44, [(1, .inl k), (0, .inr (.inr (some 82)))], [.inr (.inr (some 92))], (I, L, X), 0, 0) rfl (ym_gr hS 9 rfl rfl rfl) ?_
          refine yi_G_run 1 (45, [(1, .inl k), (0, .inr (.inr (some 82)))], [.inl k, .inr (.inr (some 92))], (I, L, X), 0, 0) (fun _ => rfl) ?_
          refine yi_G_lald (46, [(1, .inl k), (0, .inr (.inr (some 82)))], [.inr (.inl (L 92 (k.toNat)))], (I, L, X), 0, 0) rfl (ym_ll hS 9 rfl (by omega) (by omega) rfl) ?_
          refine yi_G_run 1 (47, [(1, .inl k), (0, .inr (.inr (some 82)))], [.inr (.inr (some 82)), .inr (.inl (L 92 (k.toNat)))], (I, L, X), 0, 0) (fun _ => rfl) ?_
          refine yi_G_get (50, [(1, .inl k), (0, .inr (.inr (some 82)))], [.inr (.inr (some 86)), .inr (.inl (L 92 (k.toNat)))], (I, L, X), 0, 0) rfl (ym_gr hS 3 rfl rfl rfl) ?_
          refine yi_G_run 1 (51, [(1, .inl k), (0, .inr (.inr (some 82)))], [.inr (.inr (some 82)), .inr (.inr (some 86)), .inr (.inl (L 92 (k.toNat)))], (I, L, X), 0, 0) (fun _ => rfl) ?_
          refine yi_G_get (54, [(1, .inl k), (0, .inr (.inr (some 82)))], [.inl (I 82 7), .inr (.inr (some 86)), .inr (.inl (L 92 (k.toNat)))], (I, L, X), 0, 0) rfl (ym_gi hS rfl rfl rfl) ?_
          refine yi_G_lald (55, [(1, .inl k), (0, .inr (.inr (some 82)))], [.inr (.inl (L 86 ((I 82 7).toNat))), .inr (.inl (L 92 (k.toNat)))], (I, L, X), 0, 0) rfl (ym_ll hS 3 rfl (by omega) (by omega) rfl) ?_
          refine yi_G_run 1 (56, [(1, .inl k), (0, .inr (.inr (some 82)))], [.inl (yi_lcmp (L 92 (k.toNat)) (L 86 ((I 82 7).toNat)))], (I, L, X), 0, 0) (fun _ => rfl) ?_
          by_cases h6 : ((L 92 (k.toNat))) = ((L 86 ((I 82 7).toNat)))
          · refine yi_G_if1 false rfl (yi_Lne_f h6) ?_
            refine yi_G_run 1 (60, [(1, .inl k), (0, .inr (.inr (some 82)))], [.inr (.inr (some 82))], (I, L, X), 0, 0) (fun _ => rfl) ?_
            refine yi_G_get (63, [(1, .inl k), (0, .inr (.inr (some 82)))], [.inl (I 82 20)], (I, L, X), 0, 0) rfl (ym_gi hS rfl rfl rfl) ?_
            by_cases h7 : (I 82 20) = 0
            · refine yi_G_if1 false rfl (yi_ne_f h7) ?_
              refine yi_G_run 1 (67, [(1, .inl k), (0, .inr (.inr (some 82)))], [.inr (.inr (some 82))], (I, L, X), 0, 0) (fun _ => rfl) ?_
              refine yi_G_get (70, [(1, .inl k), (0, .inr (.inr (some 82)))], [.inr (.inr (some 93))], (I, L, X), 0, 0) rfl (ym_gr hS 10 rfl rfl rfl) ?_
              refine yi_G_run 1 (71, [(1, .inl k), (0, .inr (.inr (some 82)))], [.inl k, .inr (.inr (some 93))], (I, L, X), 0, 0) (fun _ => rfl) ?_
              refine yi_G_iald (72, [(1, .inl k), (0, .inr (.inr (some 82)))], [.inl (I 93 (k.toNat))], (I, L, X), 0, 0) rfl (ym_li hS 10 rfl (by omega) (by omega) rfl) ?_
              refine yi_G_run 1 (81, [(1, .inl k), (0, .inr (.inr (some 82)))], [.inl (I 93 (k.toNat))], (I, L, X), 0, 0) (fun _ => rfl) ?_
              exact yi_G_reti rfl rfl (⟨_, rfl⟩)
            · refine yi_G_if1 true rfl (yi_ne_t h7) ?_
              refine yi_G_run 1 (76, [(1, .inl k), (0, .inr (.inr (some 82)))], [.inr (.inr (some 82))], (I, L, X), 0, 0) (fun _ => rfl) ?_
              refine yi_G_get (79, [(1, .inl k), (0, .inr (.inr (some 82)))], [.inr (.inr (some 94))], (I, L, X), 0, 0) rfl (ym_gr hS 11 rfl rfl rfl) ?_
              refine yi_G_run 1 (80, [(1, .inl k), (0, .inr (.inr (some 82)))], [.inl k, .inr (.inr (some 94))], (I, L, X), 0, 0) (fun _ => rfl) ?_
              refine yi_G_iald (81, [(1, .inl k), (0, .inr (.inr (some 82)))], [.inl (I 94 (k.toNat))], (I, L, X), 0, 0) rfl (ym_li hS 11 rfl (by omega) (by omega) rfl) ?_
              exact yi_G_reti rfl rfl (⟨_, rfl⟩)
          · refine yi_G_if1 true rfl (yi_Lne_t h6) ?_
            refine yi_G_iinc [(1, .inl (k + 1)), (0, .inr (.inr (some 82)))] rfl rfl rfl (by rw [show yi_w (k + 1) = k + 1 from (yi_wn (by omega) (by omega)).trans (by omega)]; rfl) ?_
            refine yi_G_run 1 (2, [(1, .inl (k + 1)), (0, .inr (.inr (some 82)))], [], (I, L, X), 0, 0) (fun _ => rfl) ?_
            exact ih2 _ (by omega) (k + 1) (by omega) rfl
    · refine yi_G_if1 true rfl (yi_ne_t h1) ?_
      refine yi_G_run 1 (18, [(1, .inl k), (0, .inr (.inr (some 82)))], [.inr (.inr (some 82)), .inl k], (I, L, X), 0, 0) (fun _ => rfl) ?_
      refine yi_G_get (21, [(1, .inl k), (0, .inr (.inr (some 82)))], [.inl (I 82 19), .inl k], (I, L, X), 0, 0) rfl (ym_gi hS rfl rfl rfl) ?_
      by_cases h8 : (I 82 19) ≤ k
      · refine yi_G_if2 true rfl (yi_ge_t h8) ?_
        refine yi_G_run 1 (89, [(1, .inl k), (0, .inr (.inr (some 82)))], [.inl (-1)], (I, L, X), 0, 0) (fun _ => rfl) ?_
        exact yi_G_reti rfl rfl (⟨_, rfl⟩)
      · refine yi_G_if2 false rfl (yi_ge_f h8) ?_
        refine yi_G_run 1 (25, [(1, .inl k), (0, .inr (.inr (some 82)))], [.inr (.inr (some 82))], (I, L, X), 0, 0) (fun _ => rfl) ?_
        refine yi_G_get (28, [(1, .inl k), (0, .inr (.inr (some 82)))], [.inl (I 82 20)], (I, L, X), 0, 0) rfl (ym_gi hS rfl rfl rfl) ?_
        by_cases h9 : (I 82 20) = 0
        · refine yi_G_if1 false rfl (yi_ne_f h9) ?_
          refine yi_G_run 1 (32, [(1, .inl k), (0, .inr (.inr (some 82)))], [.inr (.inr (some 82))], (I, L, X), 0, 0) (fun _ => rfl) ?_
          refine yi_G_get (35, [(1, .inl k), (0, .inr (.inr (some 82)))], [.inr (.inr (some 91))], (I, L, X), 0, 0) rfl (ym_gr hS 8 rfl rfl rfl) ?_
          refine yi_G_run 1 (36, [(1, .inl k), (0, .inr (.inr (some 82)))], [.inl k, .inr (.inr (some 91))], (I, L, X), 0, 0) (fun _ => rfl) ?_
          refine yi_G_lald (37, [(1, .inl k), (0, .inr (.inr (some 82)))], [.inr (.inl (L 91 (k.toNat)))], (I, L, X), 0, 0) rfl (ym_ll hS 8 rfl (by omega) (by omega) rfl) ?_
          refine yi_G_run 2 (47, [(1, .inl k), (0, .inr (.inr (some 82)))], [.inr (.inr (some 82)), .inr (.inl (L 91 (k.toNat)))], (I, L, X), 0, 0) (fun _ => rfl) ?_
          refine yi_G_get (50, [(1, .inl k), (0, .inr (.inr (some 82)))], [.inr (.inr (some 86)), .inr (.inl (L 91 (k.toNat)))], (I, L, X), 0, 0) rfl (ym_gr hS 3 rfl rfl rfl) ?_
          refine yi_G_run 1 (51, [(1, .inl k), (0, .inr (.inr (some 82)))], [.inr (.inr (some 82)), .inr (.inr (some 86)), .inr (.inl (L 91 (k.toNat)))], (I, L, X), 0, 0) (fun _ => rfl) ?_
          refine yi_G_get (54, [(1, .inl k), (0, .inr (.inr (some 82)))], [.inl (I 82 7), .inr (.inr (some 86)), .inr (.inl (L 91 (k.toNat)))], (I, L, X), 0, 0) rfl (ym_gi hS rfl rfl rfl) ?_
          refine yi_G_lald (55, [(1, .inl k), (0, .inr (.inr (some 82)))], [.inr (.inl (L 86 ((I 82 7).toNat))), .inr (.inl (L 91 (k.toNat)))], (I, L, X), 0, 0) rfl (ym_ll hS 3 rfl (by omega) (by omega) rfl) ?_
          refine yi_G_run 1 (56, [(1, .inl k), (0, .inr (.inr (some 82)))], [.inl (yi_lcmp (L 91 (k.toNat)) (L 86 ((I 82 7).toNat)))], (I, L, X), 0, 0) (fun _ => rfl) ?_
          by_cases h10 : ((L 91 (k.toNat))) = ((L 86 ((I 82 7).toNat)))
          · refine yi_G_if1 false rfl (yi_Lne_f h10) ?_
            refine yi_G_run 1 (60, [(1, .inl k), (0, .inr (.inr (some 82)))], [.inr (.inr (some 82))], (I, L, X), 0, 0) (fun _ => rfl) ?_
            refine yi_G_get (63, [(1, .inl k), (0, .inr (.inr (some 82)))], [.inl (I 82 20)], (I, L, X), 0, 0) rfl (ym_gi hS rfl rfl rfl) ?_
            by_cases h11 : (I 82 20) = 0
            · refine yi_G_if1 false rfl (yi_ne_f h11) ?_
              refine yi_G_run 1 (67, [(1, .inl k), (0, .inr (.inr (some 82)))], [.inr (.inr (some 82))], (I, L, X), 0, 0) (fun _ => rfl) ?_
              refine yi_G_get (70, [(1, .inl k), (0, .inr (.inr (some 82)))], [.inr (.inr (some 93))], (I, L, X), 0, 0) rfl (ym_gr hS 10 rfl rfl rfl) ?_
              refine yi_G_run 1 (71, [(1, .inl k), (0, .inr (.inr (some 82)))], [.inl k, .inr (.inr (some 93))], (I, L, X), 0, 0) (fun _ => rfl) ?_
              refine yi_G_iald (72, [(1, .inl k), (0, .inr (.inr (some 82)))], [.inl (I 93 (k.toNat))], (I, L, X), 0, 0) rfl (ym_li hS 10 rfl (by omega) (by omega) rfl) ?_
              refine yi_G_run 1 (81, [(1, .inl k), (0, .inr (.inr (some 82)))], [.inl (I 93 (k.toNat))], (I, L, X), 0, 0) (fun _ => rfl) ?_
              exact yi_G_reti rfl rfl (⟨_, rfl⟩)
            · refine yi_G_if1 true rfl (yi_ne_t h11) ?_
              refine yi_G_run 1 (76, [(1, .inl k), (0, .inr (.inr (some 82)))], [.inr (.inr (some 82))], (I, L, X), 0, 0) (fun _ => rfl) ?_
              refine yi_G_get (79, [(1, .inl k), (0, .inr (.inr (some 82)))], [.inr (.inr (some 94))], (I, L, X), 0, 0) rfl (ym_gr hS 11 rfl rfl rfl) ?_
              refine yi_G_run 1 (80, [(1, .inl k), (0, .inr (.inr (some 82)))], [.inl k, .inr (.inr (some 94))], (I, L, X), 0, 0) (fun _ => rfl) ?_
              refine yi_G_iald (81, [(1, .inl k), (0, .inr (.inr (some 82)))], [.inl (I 94 (k.toNat))], (I, L, X), 0, 0) rfl (ym_li hS 11 rfl (by omega) (by omega) rfl) ?_
              exact yi_G_reti rfl rfl (⟨_, rfl⟩)
          · refine yi_G_if1 true rfl (yi_Lne_t h10) ?_
            refine yi_G_iinc [(1, .inl (k + 1)), (0, .inr (.inr (some 82)))] rfl rfl rfl (by rw [show yi_w (k + 1) = k + 1 from (yi_wn (by omega) (by omega)).trans (by omega)]; rfl) ?_
            refine yi_G_run 1 (2, [(1, .inl (k + 1)), (0, .inr (.inr (some 82)))], [], (I, L, X), 0, 0) (fun _ => rfl) ?_
            exact ih2 _ (by omega) (k + 1) (by omega) rfl
        · refine yi_G_if1 true rfl (yi_ne_t h9) ?_
          refine yi_G_run 1 (41, [(1, .inl k), (0, .inr (.inr (some 82)))], [.inr (.inr (some 82))], (I, L, X), 0, 0) (fun _ => rfl) ?_
          refine yi_G_get (44, [(1, .inl k), (0, .inr (.inr (some 82)))], [.inr (.inr (some 92))], (I, L, X), 0, 0) rfl (ym_gr hS 9 rfl rfl rfl) ?_
          refine yi_G_run 1 (45, [(1, .inl k), (0, .inr (.inr (some 82)))], [.inl k, .inr (.inr (some 92))], (I, L, X), 0, 0) (fun _ => rfl) ?_
          refine yi_G_lald (46, [(1, .inl k), (0, .inr (.inr (some 82)))], [.inr (.inl (L 92 (k.toNat)))], (I, L, X), 0, 0) rfl (ym_ll hS 9 rfl (by omega) (by omega) rfl) ?_
          refine yi_G_run 1 (47, [(1, .inl k), (0, .inr (.inr (some 82)))], [.inr (.inr (some 82)), .inr (.inl (L 92 (k.toNat)))], (I, L, X), 0, 0) (fun _ => rfl) ?_
          refine yi_G_get (50, [(1, .inl k), (0, .inr (.inr (some 82)))], [.inr (.inr (some 86)), .inr (.inl (L 92 (k.toNat)))], (I, L, X), 0, 0) rfl (ym_gr hS 3 rfl rfl rfl) ?_
          refine yi_G_run 1 (51, [(1, .inl k), (0, .inr (.inr (some 82)))], [.inr (.inr (some 82)), .inr (.inr (some 86)), .inr (.inl (L 92 (k.toNat)))], (I, L, X), 0, 0) (fun _ => rfl) ?_
          refine yi_G_get (54, [(1, .inl k), (0, .inr (.inr (some 82)))], [.inl (I 82 7), .inr (.inr (some 86)), .inr (.inl (L 92 (k.toNat)))], (I, L, X), 0, 0) rfl (ym_gi hS rfl rfl rfl) ?_
          refine yi_G_lald (55, [(1, .inl k), (0, .inr (.inr (some 82)))], [.inr (.inl (L 86 ((I 82 7).toNat))), .inr (.inl (L 92 (k.toNat)))], (I, L, X), 0, 0) rfl (ym_ll hS 3 rfl (by omega) (by omega) rfl) ?_
          refine yi_G_run 1 (56, [(1, .inl k), (0, .inr (.inr (some 82)))], [.inl (yi_lcmp (L 92 (k.toNat)) (L 86 ((I 82 7).toNat)))], (I, L, X), 0, 0) (fun _ => rfl) ?_
          by_cases h12 : ((L 92 (k.toNat))) = ((L 86 ((I 82 7).toNat)))
          · refine yi_G_if1 false rfl (yi_Lne_f h12) ?_
            refine yi_G_run 1 (60, [(1, .inl k), (0, .inr (.inr (some 82)))], [.inr (.inr (some 82))], (I, L, X), 0, 0) (fun _ => rfl) ?_
            refine yi_G_get (63, [(1, .inl k), (0, .inr (.inr (some 82)))], [.inl (I 82 20)], (I, L, X), 0, 0) rfl (ym_gi hS rfl rfl rfl) ?_
            by_cases h13 : (I 82 20) = 0
            · refine yi_G_if1 false rfl (yi_ne_f h13) ?_
              refine yi_G_run 1 (67, [(1, .inl k), (0, .inr (.inr (some 82)))], [.inr (.inr (some 82))], (I, L, X), 0, 0) (fun _ => rfl) ?_
              refine yi_G_get (70, [(1, .inl k), (0, .inr (.inr (some 82)))], [.inr (.inr (some 93))], (I, L, X), 0, 0) rfl (ym_gr hS 10 rfl rfl rfl) ?_
              refine yi_G_run 1 (71, [(1, .inl k), (0, .inr (.inr (some 82)))], [.inl k, .inr (.inr (some 93))], (I, L, X), 0, 0) (fun _ => rfl) ?_
              refine yi_G_iald (72, [(1, .inl k), (0, .inr (.inr (some 82)))], [.inl (I 93 (k.toNat))], (I, L, X), 0, 0) rfl (ym_li hS 10 rfl (by omega) (by omega) rfl) ?_
              refine yi_G_run 1 (81, [(1, .inl k), (0, .inr (.inr (some 82)))], [.inl (I 93 (k.toNat))], (I, L, X), 0, 0) (fun _ => rfl) ?_
              exact yi_G_reti rfl rfl (⟨_, rfl⟩)
            · refine yi_G_if1 true rfl (yi_ne_t h13) ?_
              refine yi_G_run 1 (76, [(1, .inl k), (0, .inr (.inr (some 82)))], [.inr (.inr (some 82))], (I, L, X), 0, 0) (fun _ => rfl) ?_
              refine yi_G_get (79, [(1, .inl k), (0, .inr (.inr (some 82)))], [.inr (.inr (some 94))], (I, L, X), 0, 0) rfl (ym_gr hS 11 rfl rfl rfl) ?_
              refine yi_G_run 1 (80, [(1, .inl k), (0, .inr (.inr (some 82)))], [.inl k, .inr (.inr (some 94))], (I, L, X), 0, 0) (fun _ => rfl) ?_
              refine yi_G_iald (81, [(1, .inl k), (0, .inr (.inr (some 82)))], [.inl (I 94 (k.toNat))], (I, L, X), 0, 0) rfl (ym_li hS 11 rfl (by omega) (by omega) rfl) ?_
              exact yi_G_reti rfl rfl (⟨_, rfl⟩)
          · refine yi_G_if1 true rfl (yi_Lne_t h12) ?_
            refine yi_G_iinc [(1, .inl (k + 1)), (0, .inr (.inr (some 82)))] rfl rfl rfl (by rw [show yi_w (k + 1) = k + 1 from (yi_wn (by omega) (by omega)).trans (by omega)]; rfl) ?_
            refine yi_G_run 1 (2, [(1, .inl (k + 1)), (0, .inr (.inr (some 82)))], [], (I, L, X), 0, 0) (fun _ => rfl) ?_
            exact ih2 _ (by omega) (k + 1) (by omega) rfl
  exact pt2 _ 0 (by omega) rfl
theorem c_takeTold (D : Nat) (hD : 4 ≤ D) {I L : Nat → Nat → Int} {X : ym_X} (hS : ym_S X) {so bu : Int} (s0 : 0 ≤ so ∧ so ≤ 2) (n0 : 0 ≤ I 82 18 ∧ I 82 18 ≤ 13) (n1 : 0 ≤ I 82 19 ∧ I 82 19 ≤ 13) {te : Int} (hT : ym_TK I te) (a0 : 0 ≤ I 82 7 ∧ I 82 7 ≤ te) (f0 : 0 ≤ I 82 8) : yi_E zi_Ms D 119 [.inr (.inr (some 82)), .inl so, .inl bu] (I, L, X) (fun r => ∃ z I', r = (some (.inl z), (I', L, X), 0, 0) ∧ (∀ p k, ¬ (p = 82 ∧ k = 7) ∧ ¬ (p = 82 ∧ k = 8) → I' p k = I p k) ∧ (I 82 7 ≤ I' 82 7 ∧ I' 82 7 ≤ te) ∧ 0 ≤ I' 82 8 ∧ (I' 82 8 = 0 → I 82 8 = 0 ∧ I 82 7 < I' 82 7 ∧ (0 ≤ z ∧ z ≤ 4 ∧ (so ≤ 1 → z ≤ 3)))) := by
  obtain ⟨d, rfl⟩ : ∃ d, D = d + 1 := ⟨D - 1, by omega⟩
  refine yi_E_of (M := zi_m119) rfl rfl ?_
  obtain ⟨te0, te1, te2⟩ := id hT
  show yi_G zi_Ms d zi_m119 (0, [(0, .inr (.inr (some 82))), (1, .inl so), (2, .inl bu)], [], (I, L, X), 0, 0) _
  have pt19 : ∀ (Ja : Nat → Nat → Int), (∀ p k, ¬ (p = 82 ∧ k = 8) → Ja p k = I p k) → (0 ≤ Ja 82 8) → (Ja 82 8 = 0 → I 82 8 = 0 ∧ I 82 7 < te) → yi_G zi_Ms d zi_m119 (19, [(0, .inr (.inr (some 82))), (1, .inl so), (2, .inl bu)], [], (Ja, L, X), 0, 0) (fun r => ∃ z I', r = (some (.inl z), (I', L, X), 0, 0) ∧ (∀ p k, ¬ (p = 82 ∧ k = 7) ∧ ¬ (p = 82 ∧ k = 8) → I' p k = I p k) ∧ (I 82 7 ≤ I' 82 7 ∧ I' 82 7 ≤ te) ∧ 0 ≤ I' 82 8 ∧ (I' 82 8 = 0 → I 82 8 = 0 ∧ I 82 7 < I' 82 7 ∧ (0 ≤ z ∧ z ≤ 4 ∧ (so ≤ 1 → z ≤ 3)))) := by
    intro Ja fJa j0 j1 
    refine yi_G_run 1 (20, [(0, .inr (.inr (some 82))), (1, .inl so), (2, .inl bu)], [.inr (.inr (some 82))], (Ja, L, X), 0, 0) (fun _ => rfl) ?_
    refine yi_G_get (23, [(0, .inr (.inr (some 82))), (1, .inl so), (2, .inl bu)], [.inl (Ja 82 8)], (Ja, L, X), 0, 0) rfl (ym_gi hS rfl rfl rfl) ?_
    by_cases h1 : (Ja 82 8) ≤ 0
    · refine yi_G_if1 true rfl (yi_le_t h1) ?_
      refine yi_G_run 1 (29, [(0, .inr (.inr (some 82))), (1, .inl so), (2, .inl bu)], [.inr (.inr (some 82))], (Ja, L, X), 0, 0) (fun _ => rfl) ?_
      have r3 : Ja 82 18 = I 82 18 := by rw [fJa 82 (18) (by omega)]
      have r4 : Ja 82 19 = I 82 19 := by rw [fJa 82 (19) (by omega)]
      have r5 : Ja 82 7 = I 82 7 := by rw [fJa 82 (7) (by omega)]
      refine yi_G_callv rfl rfl (ym_rcv hS) rfl (c_find d (by omega) hS ⟨(by rw [r3]; omega), (by rw [r3]; omega)⟩ ⟨(by rw [r4]; omega), (by rw [r4]; omega)⟩ (ym_TK_t (fun k => by rw [fJa 84 k (by omega)]) (fun k => by rw [fJa 85 k (by omega)]) hT) ⟨by omega, by omega⟩) ?_
      rintro _ ⟨vv, rfl⟩
      show yi_G zi_Ms d zi_m119 (32, [(0, .inr (.inr (some 82))), (1, .inl so), (2, .inl bu)], [.inl vv], (Ja, L, X), 0, 0) _
      refine yi_G_run 1 (33, [(3, .inl vv), (0, .inr (.inr (some 82))), (1, .inl so), (2, .inl bu)], [], (Ja, L, X), 0, 0) (fun _ => rfl) ?_
      have pt48 : ∀ (lw : Int), ((so = 2 ∧ lw = 8) ∨ (so ≤ 1 ∧ lw = 4 * so)) → yi_G zi_Ms d zi_m119 (48, [(3, .inl vv), (0, .inr (.inr (some 82))), (1, .inl so), (2, .inl bu), (4, .inl lw)], [], (Ja, L, X), 0, 0) (fun r => ∃ z I', r = (some (.inl z), (I', L, X), 0, 0) ∧ (∀ p k, ¬ (p = 82 ∧ k = 7) ∧ ¬ (p = 82 ∧ k = 8) → I' p k = I p k) ∧ (I 82 7 ≤ I' 82 7 ∧ I' 82 7 ≤ te) ∧ 0 ≤ I' 82 8 ∧ (I' 82 8 = 0 → I 82 8 = 0 ∧ I 82 7 < I' 82 7 ∧ (0 ≤ z ∧ z ≤ 4 ∧ (so ≤ 1 → z ≤ 3)))) := by
        intro lw p0 
        have pt64 : ∀ (hg : Int), ((so = 2 ∧ hg = 12) ∨ (so ≤ 1 ∧ hg = lw + 3)) → yi_G zi_Ms d zi_m119 (64, [(3, .inl vv), (0, .inr (.inr (some 82))), (1, .inl so), (2, .inl bu), (4, .inl lw), (5, .inl hg)], [], (Ja, L, X), 0, 0) (fun r => ∃ z I', r = (some (.inl z), (I', L, X), 0, 0) ∧ (∀ p k, ¬ (p = 82 ∧ k = 7) ∧ ¬ (p = 82 ∧ k = 8) → I' p k = I p k) ∧ (I 82 7 ≤ I' 82 7 ∧ I' 82 7 ≤ te) ∧ 0 ≤ I' 82 8 ∧ (I' 82 8 = 0 → I 82 8 = 0 ∧ I 82 7 < I' 82 7 ∧ (0 ≤ z ∧ z ≤ 4 ∧ (so ≤ 1 → z ≤ 3)))) := by
          intro hg p1 
          have pt96 : ∀ (Jb : Nat → Nat → Int), (∀ p k, ¬ (p = 82 ∧ k = 8) → Jb p k = Ja p k) → (0 ≤ Jb 82 8) → (Jb 82 8 = 0 → (I 82 8 = 0 ∧ I 82 7 < te) ∧ 0 ≤ vv - lw ∧ vv - lw ≤ 4 ∧ (so ≤ 1 → vv - lw ≤ 3) ∧ 0 ≤ lw ∧ lw ≤ 8) → yi_G zi_Ms d zi_m119 (96, [(3, .inl vv), (0, .inr (.inr (some 82))), (1, .inl so), (2, .inl bu), (4, .inl lw), (5, .inl hg)], [], (Jb, L, X), 0, 0) (fun r => ∃ z I', r = (some (.inl z), (I', L, X), 0, 0) ∧ (∀ p k, ¬ (p = 82 ∧ k = 7) ∧ ¬ (p = 82 ∧ k = 8) → I' p k = I p k) ∧ (I 82 7 ≤ I' 82 7 ∧ I' 82 7 ≤ te) ∧ 0 ≤ I' 82 8 ∧ (I' 82 8 = 0 → I 82 8 = 0 ∧ I 82 7 < I' 82 7 ∧ (0 ≤ z ∧ z ≤ 4 ∧ (so ≤ 1 → z ≤ 3)))) := by
            intro Jb fJb i0 i1 
            refine yi_G_run 2 (98, [(3, .inl vv), (0, .inr (.inr (some 82))), (1, .inl so), (2, .inl bu), (4, .inl lw), (5, .inl hg)], [.inr (.inr (some 82)), .inr (.inr (some 82))], (Jb, L, X), 0, 0) (fun _ => rfl) ?_
            have r6 : Jb 82 7 = I 82 7 := by rw [fJb 82 (7) (by omega), fJa 82 (7) (by omega)]
            refine yi_G_get (101, [(3, .inl vv), (0, .inr (.inr (some 82))), (1, .inl so), (2, .inl bu), (4, .inl lw), (5, .inl hg)], [.inl (I 82 7), .inr (.inr (some 82))], (Jb, L, X), 0, 0) rfl (ym_gi hS rfl rfl r6) ?_
            refine yi_G_run 1 (102, [(3, .inl vv), (0, .inr (.inr (some 82))), (1, .inl so), (2, .inl bu), (4, .inl lw), (5, .inl hg)], [.inr (.inr (some 82)), .inl (I 82 7), .inr (.inr (some 82))], (Jb, L, X), 0, 0) (fun _ => rfl) ?_
            refine yi_G_get (105, [(3, .inl vv), (0, .inr (.inr (some 82))), (1, .inl so), (2, .inl bu), (4, .inl lw), (5, .inl hg)], [.inl (Jb 82 8), .inl (I 82 7), .inr (.inr (some 82))], (Jb, L, X), 0, 0) rfl (ym_gi hS rfl rfl rfl) ?_
            by_cases h7 : (Jb 82 8) ≤ 0
            · refine yi_G_if1 true rfl (yi_le_t h7) ?_
              refine yi_G_run 1 (113, [(3, .inl vv), (0, .inr (.inr (some 82))), (1, .inl so), (2, .inl bu), (4, .inl lw), (5, .inl hg)], [.inl 1, .inl (I 82 7), .inr (.inr (some 82))], (Jb, L, X), 0, 0) (fun _ => rfl) ?_
              refine yi_G_iadd rfl ((I 82 7) + 1) (yi_wn (by omega) (by omega)) ?_
              refine yi_G_put (117, [(3, .inl vv), (0, .inr (.inr (some 82))), (1, .inl so), (2, .inl bu), (4, .inl lw), (5, .inl hg)], [], ((yi_u Jb 82 7 ((I 82 7) + 1)), L, X), 0, 0) rfl (ym_pi hS rfl rfl) ?_
              generalize w9 : yi_u Jb 82 7 ((I 82 7) + 1) = I8
              refine yi_G_run 3 (121, [(3, .inl vv), (0, .inr (.inr (some 82))), (1, .inl so), (2, .inl bu), (4, .inl lw), (5, .inl hg)], [.inl (yi_w (vv - lw))], (I8, L, X), 0, 0) (fun _ => rfl) ?_
              have r10 : I8 82 7 = (I 82 7) + 1 := by rw [← w9, yi_u_eq]
              have r11 : I8 82 8 = Jb 82 8 := by rw [← w9, yi_u_ne _ _ (by omega)]
              exact yi_G_reti rfl rfl (⟨_, _, rfl, (fun p k hp => by rw [← w9, yi_u_ne _ _ (fun z => by omega), fJb p k (by omega), fJa p k (by omega)]), ⟨by omega, by omega⟩, by omega, fun z => by have e := i1 (by omega); rw [yi_wn (by omega) (by omega)]; omega⟩)
            · refine yi_G_if1 false rfl (yi_le_f h7) ?_
              refine yi_G_run 2 (113, [(3, .inl vv), (0, .inr (.inr (some 82))), (1, .inl so), (2, .inl bu), (4, .inl lw), (5, .inl hg)], [.inl 0, .inl (I 82 7), .inr (.inr (some 82))], (Jb, L, X), 0, 0) (fun _ => rfl) ?_
              refine yi_G_iadd rfl ((I 82 7) + 0) (yi_wn (by omega) (by omega)) ?_
              refine yi_G_put (117, [(3, .inl vv), (0, .inr (.inr (some 82))), (1, .inl so), (2, .inl bu), (4, .inl lw), (5, .inl hg)], [], ((yi_u Jb 82 7 ((I 82 7) + 0)), L, X), 0, 0) rfl (ym_pi hS rfl rfl) ?_
              generalize w13 : yi_u Jb 82 7 ((I 82 7) + 0) = I12
              refine yi_G_run 3 (121, [(3, .inl vv), (0, .inr (.inr (some 82))), (1, .inl so), (2, .inl bu), (4, .inl lw), (5, .inl hg)], [.inl (yi_w (vv - lw))], (I12, L, X), 0, 0) (fun _ => rfl) ?_
              have r14 : I12 82 7 = (I 82 7) + 0 := by rw [← w13, yi_u_eq]
              have r15 : I12 82 8 = Jb 82 8 := by rw [← w13, yi_u_ne _ _ (by omega)]
              exact yi_G_reti rfl rfl (⟨_, _, rfl, (fun p k hp => by rw [← w13, yi_u_ne _ _ (fun z => by omega), fJb p k (by omega), fJa p k (by omega)]), ⟨by omega, by omega⟩, by omega, fun z => by have e := i1 (by omega); rw [yi_wn (by omega) (by omega)]; omega⟩)
          refine yi_G_run 3 (69, [(3, .inl vv), (0, .inr (.inr (some 82))), (1, .inl so), (2, .inl bu), (4, .inl lw), (5, .inl hg)], [.inl hg, .inl lw, .inl vv], (Ja, L, X), 0, 0) (fun _ => rfl) ?_
          refine yi_G_calls rfl rfl (c_within d (by omega) hS) ?_
          rintro _ (⟨c16, rfl⟩ | ⟨c16, rfl⟩)
          · show yi_G zi_Ms d zi_m119 (72, [(3, .inl vv), (0, .inr (.inr (some 82))), (1, .inl so), (2, .inl bu), (4, .inl lw), (5, .inl hg)], [.inl 1], (Ja, L, X), 0, 0) _
            refine yi_G_if1 true rfl (by decide) ?_
            refine yi_G_run 4 (88, [(3, .inl vv), (0, .inr (.inr (some 82))), (1, .inl so), (2, .inl bu), (4, .inl lw), (5, .inl hg)], [.inl bu, .inl (yi_w (vv - lw))], (Ja, L, X), 0, 0) (fun _ => rfl) ?_
            by_cases h17 : (yi_w (vv - lw)) = bu
            · refine yi_G_if2 false rfl (yi_ne_f h17) ?_
              refine yi_G_run 2 (93, [(3, .inl vv), (0, .inr (.inr (some 82))), (1, .inl so), (2, .inl bu), (4, .inl lw), (5, .inl hg)], [.inl 3, .inr (.inr (some 82))], (Ja, L, X), 0, 0) (fun _ => rfl) ?_
              have r18 : Ja 82 7 = I 82 7 := by rw [fJa 82 (7) (by omega)]
              refine yi_G_callv rfl rfl (ym_rcv hS) rfl (c_wrong d (by omega) hS ⟨by omega, by omega⟩ (ym_TK_t (fun k => by rw [fJa 84 k (by omega)]) (fun k => by rw [fJa 85 k (by omega)]) hT) ⟨by omega, by omega⟩ (by omega)) ?_
              rintro _ ⟨I19, rfl, f20, h21⟩
              show yi_G zi_Ms d zi_m119 (96, [(3, .inl vv), (0, .inr (.inr (some 82))), (1, .inl so), (2, .inl bu), (4, .inl lw), (5, .inl hg)], [], (I19, L, X), 0, 0) _
              have r22 : I19 82 7 = I 82 7 := by rw [f20 82 (7) (by omega), fJa 82 (7) (by omega)]
              have r23 : I19 82 7 = I 82 7 := by rw [f20 82 (7) (by omega), fJa 82 (7) (by omega)]
              exact pt96 I19 (fun p k hp => by rw [f20 p k (by omega)]) (by omega) (by omega)
            · refine yi_G_if2 true rfl (yi_ne_t h17) ?_
              have r24 : Ja 82 7 = I 82 7 := by rw [fJa 82 (7) (by omega)]
              have r25 : Ja 82 7 = I 82 7 := by rw [fJa 82 (7) (by omega)]
              exact pt96 Ja (fun _ _ _ => rfl) (by omega) (by omega)
          · show yi_G zi_Ms d zi_m119 (72, [(3, .inl vv), (0, .inr (.inr (some 82))), (1, .inl so), (2, .inl bu), (4, .inl lw), (5, .inl hg)], [.inl 0], (Ja, L, X), 0, 0) _
            refine yi_G_if1 false rfl (by decide) ?_
            refine yi_G_run 2 (77, [(3, .inl vv), (0, .inr (.inr (some 82))), (1, .inl so), (2, .inl bu), (4, .inl lw), (5, .inl hg)], [.inl 2, .inr (.inr (some 82))], (Ja, L, X), 0, 0) (fun _ => rfl) ?_
            have r26 : Ja 82 7 = I 82 7 := by rw [fJa 82 (7) (by omega)]
            refine yi_G_callv rfl rfl (ym_rcv hS) rfl (c_wrong d (by omega) hS ⟨by omega, by omega⟩ (ym_TK_t (fun k => by rw [fJa 84 k (by omega)]) (fun k => by rw [fJa 85 k (by omega)]) hT) ⟨by omega, by omega⟩ (by omega)) ?_
            rintro _ ⟨I27, rfl, f28, h29⟩
            show yi_G zi_Ms d zi_m119 (80, [(3, .inl vv), (0, .inr (.inr (some 82))), (1, .inl so), (2, .inl bu), (4, .inl lw), (5, .inl hg)], [], (I27, L, X), 0, 0) _
            refine yi_G_run 1 (96, [(3, .inl vv), (0, .inr (.inr (some 82))), (1, .inl so), (2, .inl bu), (4, .inl lw), (5, .inl hg)], [], (I27, L, X), 0, 0) (fun _ => rfl) ?_
            have r30 : I27 82 7 = I 82 7 := by rw [f28 82 (7) (by omega), fJa 82 (7) (by omega)]
            have r31 : I27 82 7 = I 82 7 := by rw [f28 82 (7) (by omega), fJa 82 (7) (by omega)]
            exact pt96 I27 (fun p k hp => by rw [f28 p k (by omega)]) (by omega) (by omega)
        refine yi_G_run 2 (50, [(3, .inl vv), (0, .inr (.inr (some 82))), (1, .inl so), (2, .inl bu), (4, .inl lw)], [.inl 2, .inl so], (Ja, L, X), 0, 0) (fun _ => rfl) ?_
        by_cases h32 : so = 2
        · refine yi_G_if2 false rfl (yi_ne_f h32) ?_
          refine yi_G_run 3 (64, [(5, .inl 12), (3, .inl vv), (0, .inr (.inr (some 82))), (1, .inl so), (2, .inl bu), (4, .inl lw)], [], (Ja, L, X), 0, 0) (fun _ => rfl) ?_
          refine yi_G_al (al := [(3, .inl vv), (0, .inr (.inr (some 82))), (1, .inl so), (2, .inl bu), (4, .inl lw), (5, .inl 12)]) (show ([3, 0, 1, 2, 4, 5] : List Nat).Nodup by decide) (show ([5, 3, 0, 1, 2, 4] : List Nat).Nodup by decide) (yi_mc (List.mem_of_getElem? (i := 1) rfl) (yi_mc (List.mem_of_getElem? (i := 2) rfl) (yi_mc (List.mem_of_getElem? (i := 3) rfl) (yi_mc (List.mem_of_getElem? (i := 4) rfl) (yi_mc (List.mem_of_getElem? (i := 5) rfl) (yi_mc (List.mem_of_getElem? (i := 0) rfl) yi_mn)))))) ?_
          exact pt64 12 (by omega)
        · refine yi_G_if2 true rfl (yi_ne_t h32) ?_
          refine yi_G_run 2 (61, [(3, .inl vv), (0, .inr (.inr (some 82))), (1, .inl so), (2, .inl bu), (4, .inl lw)], [.inl 3, .inl lw], (Ja, L, X), 0, 0) (fun _ => rfl) ?_
          refine yi_G_iadd rfl (lw + 3) (yi_wn (by omega) (by omega)) ?_
          refine yi_G_run 1 (64, [(5, .inl (lw + 3)), (3, .inl vv), (0, .inr (.inr (some 82))), (1, .inl so), (2, .inl bu), (4, .inl lw)], [], (Ja, L, X), 0, 0) (fun _ => rfl) ?_
          refine yi_G_al (al := [(3, .inl vv), (0, .inr (.inr (some 82))), (1, .inl so), (2, .inl bu), (4, .inl lw), (5, .inl (lw + 3))]) (show ([3, 0, 1, 2, 4, 5] : List Nat).Nodup by decide) (show ([5, 3, 0, 1, 2, 4] : List Nat).Nodup by decide) (yi_mc (List.mem_of_getElem? (i := 1) rfl) (yi_mc (List.mem_of_getElem? (i := 2) rfl) (yi_mc (List.mem_of_getElem? (i := 3) rfl) (yi_mc (List.mem_of_getElem? (i := 4) rfl) (yi_mc (List.mem_of_getElem? (i := 5) rfl) (yi_mc (List.mem_of_getElem? (i := 0) rfl) yi_mn)))))) ?_
          exact pt64 (lw + 3) (by omega)
      refine yi_G_run 2 (35, [(3, .inl vv), (0, .inr (.inr (some 82))), (1, .inl so), (2, .inl bu)], [.inl 2, .inl so], (Ja, L, X), 0, 0) (fun _ => rfl) ?_
      by_cases h33 : so = 2
      · refine yi_G_if2 false rfl (yi_ne_f h33) ?_
        refine yi_G_run 3 (48, [(4, .inl 8), (3, .inl vv), (0, .inr (.inr (some 82))), (1, .inl so), (2, .inl bu)], [], (Ja, L, X), 0, 0) (fun _ => rfl) ?_
        refine yi_G_al (al := [(3, .inl vv), (0, .inr (.inr (some 82))), (1, .inl so), (2, .inl bu), (4, .inl 8)]) (show ([3, 0, 1, 2, 4] : List Nat).Nodup by decide) (show ([4, 3, 0, 1, 2] : List Nat).Nodup by decide) (yi_mc (List.mem_of_getElem? (i := 1) rfl) (yi_mc (List.mem_of_getElem? (i := 2) rfl) (yi_mc (List.mem_of_getElem? (i := 3) rfl) (yi_mc (List.mem_of_getElem? (i := 4) rfl) (yi_mc (List.mem_of_getElem? (i := 0) rfl) yi_mn))))) ?_
        exact pt48 8 (by omega)
      · refine yi_G_if2 true rfl (yi_ne_t h33) ?_
        refine yi_G_run 2 (45, [(3, .inl vv), (0, .inr (.inr (some 82))), (1, .inl so), (2, .inl bu)], [.inl so, .inl 4], (Ja, L, X), 0, 0) (fun _ => rfl) ?_
        refine yi_G_imul rfl (4 * so) (yi_wn (by omega) (by omega)) ?_
        refine yi_G_run 1 (48, [(4, .inl (4 * so)), (3, .inl vv), (0, .inr (.inr (some 82))), (1, .inl so), (2, .inl bu)], [], (Ja, L, X), 0, 0) (fun _ => rfl) ?_
        refine yi_G_al (al := [(3, .inl vv), (0, .inr (.inr (some 82))), (1, .inl so), (2, .inl bu), (4, .inl (4 * so))]) (show ([3, 0, 1, 2, 4] : List Nat).Nodup by decide) (show ([4, 3, 0, 1, 2] : List Nat).Nodup by decide) (yi_mc (List.mem_of_getElem? (i := 1) rfl) (yi_mc (List.mem_of_getElem? (i := 2) rfl) (yi_mc (List.mem_of_getElem? (i := 3) rfl) (yi_mc (List.mem_of_getElem? (i := 4) rfl) (yi_mc (List.mem_of_getElem? (i := 0) rfl) yi_mn))))) ?_
        exact pt48 (4 * so) (by omega)
    · refine yi_G_if1 false rfl (yi_le_f h1) ?_
      refine yi_G_run 1 (27, [(0, .inr (.inr (some 82))), (1, .inl so), (2, .inl bu)], [.inl 0], (Ja, L, X), 0, 0) (fun _ => rfl) ?_
      have r34 : Ja 82 7 = I 82 7 := by rw [fJa 82 (7) (by omega)]
      exact yi_G_reti rfl rfl (⟨_, _, rfl, (fun p k hp => by rw [fJa p k (by omega)]), ⟨by omega, by omega⟩, by omega, by omega⟩)
  refine yi_G_run 1 (1, [(0, .inr (.inr (some 82))), (1, .inl so), (2, .inl bu)], [.inr (.inr (some 82))], (I, L, X), 0, 0) (fun _ => rfl) ?_
  refine yi_G_get (4, [(0, .inr (.inr (some 82))), (1, .inl so), (2, .inl bu)], [.inl (I 82 8)], (I, L, X), 0, 0) rfl (ym_gi hS rfl rfl rfl) ?_
  by_cases h35 : (I 82 8) = 0
  · refine yi_G_if1 false rfl (yi_ne_f h35) ?_
    refine yi_G_run 1 (8, [(0, .inr (.inr (some 82))), (1, .inl so), (2, .inl bu)], [.inr (.inr (some 82))], (I, L, X), 0, 0) (fun _ => rfl) ?_
    refine yi_G_callv rfl rfl (ym_rcv hS) rfl (c_isName d (by omega) hS hT ⟨by omega, by omega⟩) ?_
    rintro _ (⟨⟨c36a, c36b⟩, rfl⟩ | rfl)
    · show yi_G zi_Ms d zi_m119 (11, [(0, .inr (.inr (some 82))), (1, .inl so), (2, .inl bu)], [.inl 1], (I, L, X), 0, 0) _
      refine yi_G_if1 true rfl (by decide) ?_
      exact pt19 I (fun _ _ _ => rfl) (by omega) (by omega)
    · show yi_G zi_Ms d zi_m119 (11, [(0, .inr (.inr (some 82))), (1, .inl so), (2, .inl bu)], [.inl 0], (I, L, X), 0, 0) _
      refine yi_G_if1 false rfl (by decide) ?_
      refine yi_G_run 2 (16, [(0, .inr (.inr (some 82))), (1, .inl so), (2, .inl bu)], [.inl 1, .inr (.inr (some 82))], (I, L, X), 0, 0) (fun _ => rfl) ?_
      refine yi_G_callv rfl rfl (ym_rcv hS) rfl (c_wrong d (by omega) hS ⟨by omega, by omega⟩ hT ⟨by omega, by omega⟩ (by omega)) ?_
      rintro _ ⟨I37, rfl, f38, h39⟩
      show yi_G zi_Ms d zi_m119 (19, [(0, .inr (.inr (some 82))), (1, .inl so), (2, .inl bu)], [], (I37, L, X), 0, 0) _
      have r40 : I37 82 7 = I 82 7 := by rw [f38 82 (7) (by omega)]
      have r41 : I37 82 7 = I 82 7 := by rw [f38 82 (7) (by omega)]
      exact pt19 I37 (fun p k hp => by rw [f38 p k (by omega)]) (by omega) (by omega)
  · refine yi_G_if1 true rfl (yi_ne_t h35) ?_
    exact pt19 I (fun _ _ _ => rfl) (by omega) (by omega)
