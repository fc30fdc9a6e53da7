/-! The lines of a land. -/
theorem c_readName (D : Nat) (hD : 5 ≤ D) {I L : Nat → Nat → Int} {X : ym_X} (hS : ym_S X) {w : Int} {te : Int} (hT : ym_TK I te) (a0 : 0 ≤ I 82 7 ∧ I 82 7 ≤ te) (lt : I 82 7 < te) (f0 : I 82 8 = 0) (n0 : 0 ≤ I 82 18 ∧ I 82 18 ≤ 13) (n1 : 0 ≤ I 82 19 ∧ I 82 19 ≤ 12) : yi_E zi_Ms D 100 [.inr (.inr (some 82)), .inl w] (I, L, X) (fun r => ∃ I' L', r = (none, (I', L', X), 0, 0) ∧ (∀ p k, ¬ (p = 82 ∧ k = 7) ∧ ¬ (p = 82 ∧ k = 8) ∧ ¬ (p = 82 ∧ k = 19) ∧ p ≠ 94 → I' p k = I p k) ∧ (∀ p k, p ≠ 92 → L' p k = L p k) ∧ (I 82 7 < I' 82 7 ∧ I' 82 7 ≤ te) ∧ 0 ≤ I' 82 8 ∧ (I' 82 19 = I 82 19 ∨ I' 82 19 = I 82 19 + 1) ∧ (I' 82 8 = 0 → I' 82 19 = I 82 19 + 1)) := by
  obtain ⟨d, rfl⟩ : ∃ d, D = d + 1 := ⟨D - 1, by omega⟩
  refine yi_E_of (M := zi_m100) rfl rfl ?_
  obtain ⟨te0, te1, te2⟩ := id hT
  show yi_G zi_Ms d zi_m100 (0, [(0, .inr (.inr (some 82))), (1, .inl w)], [], (I, L, X), 0, 0) _
  refine yi_G_run 2 (2, [(0, .inr (.inr (some 82))), (1, .inl w)], [.inr (.inr (some 82)), .inr (.inr (some 82))], (I, L, X), 0, 0) (fun _ => rfl) ?_
  refine yi_G_get (5, [(0, .inr (.inr (some 82))), (1, .inl w)], [.inl (I 82 7), .inr (.inr (some 82))], (I, L, X), 0, 0) rfl (ym_gi hS rfl rfl rfl) ?_
  refine yi_G_run 1 (6, [(0, .inr (.inr (some 82))), (1, .inl w)], [.inl 1, .inl (I 82 7), .inr (.inr (some 82))], (I, L, X), 0, 0) (fun _ => rfl) ?_
  refine yi_G_iadd rfl ((I 82 7) + 1) (yi_wn (by omega) (by omega)) ?_
  refine yi_G_put (10, [(0, .inr (.inr (some 82))), (1, .inl w)], [], ((yi_u I 82 7 ((I 82 7) + 1)), L, X), 0, 0) rfl (ym_pi hS rfl rfl) ?_
  generalize w2 : yi_u I 82 7 ((I 82 7) + 1) = I1
  have pt37 : ∀ (Ja : Nat → Nat → Int), (∀ p k, ¬ (p = 82 ∧ k = 8) → Ja p k = I1 p k) → (0 ≤ Ja 82 8) → (Ja 82 8 = 0 → I 82 7 + 1 < te) → yi_G zi_Ms d zi_m100 (37, [(0, .inr (.inr (some 82))), (1, .inl w)], [], (Ja, L, X), 0, 0) (fun r => ∃ I' L', r = (none, (I', L', X), 0, 0) ∧ (∀ p k, ¬ (p = 82 ∧ k = 7) ∧ ¬ (p = 82 ∧ k = 8) ∧ ¬ (p = 82 ∧ k = 19) ∧ p ≠ 94 → I' p k = I p k) ∧ (∀ p k, p ≠ 92 → L' p k = L p k) ∧ (I 82 7 < I' 82 7 ∧ I' 82 7 ≤ te) ∧ 0 ≤ I' 82 8 ∧ (I' 82 19 = I 82 19 ∨ I' 82 19 = I 82 19 + 1) ∧ (I' 82 8 = 0 → I' 82 19 = I 82 19 + 1)) := by
    intro Ja fJa j0 j1 
    refine yi_G_run 1 (38, [(0, .inr (.inr (some 82))), (1, .inl w)], [.inr (.inr (some 82))], (Ja, L, X), 0, 0) (fun _ => rfl) ?_
    refine yi_G_get (41, [(0, .inr (.inr (some 82))), (1, .inl w)], [.inl (Ja 82 8)], (Ja, L, X), 0, 0) rfl (ym_gi hS rfl rfl rfl) ?_
    by_cases h3 : (Ja 82 8) = 0
    · refine yi_G_if1 false rfl (yi_ne_f h3) ?_
      refine yi_G_run 1 (45, [(0, .inr (.inr (some 82))), (1, .inl w)], [.inr (.inr (some 82))], (Ja, L, X), 0, 0) (fun _ => rfl) ?_
      refine yi_G_get (48, [(0, .inr (.inr (some 82))), (1, .inl w)], [.inr (.inr (some 92))], (Ja, L, X), 0, 0) rfl (ym_gr hS 9 rfl rfl rfl) ?_
      refine yi_G_run 1 (49, [(0, .inr (.inr (some 82))), (1, .inl w)], [.inr (.inr (some 82)), .inr (.inr (some 92))], (Ja, L, X), 0, 0) (fun _ => rfl) ?_
      have r4 : Ja 82 19 = I 82 19 := by rw [fJa 82 (19) (by omega), ← w2, yi_u_ne _ _ (by omega)]
      refine yi_G_get (52, [(0, .inr (.inr (some 82))), (1, .inl w)], [.inl (I 82 19), .inr (.inr (some 92))], (Ja, L, X), 0, 0) rfl (ym_gi hS rfl rfl r4) ?_
      refine yi_G_run 1 (53, [(0, .inr (.inr (some 82))), (1, .inl w)], [.inr (.inr (some 82)), .inl (I 82 19), .inr (.inr (some 92))], (Ja, L, X), 0, 0) (fun _ => rfl) ?_
      refine yi_G_get (56, [(0, .inr (.inr (some 82))), (1, .inl w)], [.inr (.inr (some 86)), .inl (I 82 19), .inr (.inr (some 92))], (Ja, L, X), 0, 0) rfl (ym_gr hS 3 rfl rfl rfl) ?_
      refine yi_G_run 1 (57, [(0, .inr (.inr (some 82))), (1, .inl w)], [.inr (.inr (some 82)), .inr (.inr (some 86)), .inl (I 82 19), .inr (.inr (some 92))], (Ja, L, X), 0, 0) (fun _ => rfl) ?_
      have r5 : Ja 82 7 = (I 82 7) + 1 := by rw [fJa 82 (7) (by omega), ← w2, yi_u_eq]
      refine yi_G_get (60, [(0, .inr (.inr (some 82))), (1, .inl w)], [.inl ((I 82 7) + 1), .inr (.inr (some 86)), .inl (I 82 19), .inr (.inr (some 92))], (Ja, L, X), 0, 0) rfl (ym_gi hS rfl rfl r5) ?_
      refine yi_G_lald (61, [(0, .inr (.inr (some 82))), (1, .inl w)], [.inr (.inl (L 86 (((I 82 7) + 1).toNat))), .inl (I 82 19), .inr (.inr (some 92))], (Ja, L, X), 0, 0) rfl (ym_ll hS 3 rfl (by omega) (by omega) rfl) ?_
      refine yi_G_last (62, [(0, .inr (.inr (some 82))), (1, .inl w)], [], (Ja, (yi_u L 92 ((I 82 19).toNat) (L 86 (((I 82 7) + 1).toNat))), X), 0, 0) rfl (ym_sl hS 9 rfl (by omega) (by omega)) ?_
      generalize w7 : yi_u L 92 ((I 82 19).toNat) (L 86 (((I 82 7) + 1).toNat)) = L6
      refine yi_G_run 1 (63, [(0, .inr (.inr (some 82))), (1, .inl w)], [.inr (.inr (some 82))], (Ja, L6, X), 0, 0) (fun _ => rfl) ?_
      refine yi_G_get (66, [(0, .inr (.inr (some 82))), (1, .inl w)], [.inr (.inr (some 94))], (Ja, L6, X), 0, 0) rfl (ym_gr hS 11 rfl rfl rfl) ?_
      refine yi_G_run 1 (67, [(0, .inr (.inr (some 82))), (1, .inl w)], [.inr (.inr (some 82)), .inr (.inr (some 94))], (Ja, L6, X), 0, 0) (fun _ => rfl) ?_
      have r8 : Ja 82 19 = I 82 19 := by rw [fJa 82 (19) (by omega), ← w2, yi_u_ne _ _ (by omega)]
      refine yi_G_get (70, [(0, .inr (.inr (some 82))), (1, .inl w)], [.inl (I 82 19), .inr (.inr (some 94))], (Ja, L6, X), 0, 0) rfl (ym_gi hS rfl rfl r8) ?_
      refine yi_G_run 1 (71, [(0, .inr (.inr (some 82))), (1, .inl w)], [.inl w, .inl (I 82 19), .inr (.inr (some 94))], (Ja, L6, X), 0, 0) (fun _ => rfl) ?_
      refine yi_G_iast (72, [(0, .inr (.inr (some 82))), (1, .inl w)], [], ((yi_u Ja 94 ((I 82 19).toNat) w), L6, X), 0, 0) rfl (ym_si hS 11 rfl (by omega) (by omega)) ?_
      generalize w10 : yi_u Ja 94 ((I 82 19).toNat) w = I9
      refine yi_G_run 2 (74, [(0, .inr (.inr (some 82))), (1, .inl w)], [.inr (.inr (some 82)), .inr (.inr (some 82))], (I9, L6, X), 0, 0) (fun _ => rfl) ?_
      have r11 : I9 82 19 = I 82 19 := by rw [← w10, yi_u_ne _ _ (by omega), fJa 82 (19) (by omega), ← w2, yi_u_ne _ _ (by omega)]
      refine yi_G_get (77, [(0, .inr (.inr (some 82))), (1, .inl w)], [.inl (I 82 19), .inr (.inr (some 82))], (I9, L6, X), 0, 0) rfl (ym_gi hS rfl rfl r11) ?_
      refine yi_G_run 1 (78, [(0, .inr (.inr (some 82))), (1, .inl w)], [.inl 1, .inl (I 82 19), .inr (.inr (some 82))], (I9, L6, X), 0, 0) (fun _ => rfl) ?_
      refine yi_G_iadd rfl ((I 82 19) + 1) (yi_wn (by omega) (by omega)) ?_
      refine yi_G_put (82, [(0, .inr (.inr (some 82))), (1, .inl w)], [], ((yi_u I9 82 19 ((I 82 19) + 1)), L6, X), 0, 0) rfl (ym_pi hS rfl rfl) ?_
      generalize w13 : yi_u I9 82 19 ((I 82 19) + 1) = I12
      refine yi_G_run 2 (84, [(0, .inr (.inr (some 82))), (1, .inl w)], [.inr (.inr (some 82)), .inr (.inr (some 82))], (I12, L6, X), 0, 0) (fun _ => rfl) ?_
      have r14 : I12 82 7 = (I 82 7) + 1 := by rw [← w13, yi_u_ne _ _ (by omega), ← w10, yi_u_ne _ _ (by omega), fJa 82 (7) (by omega), ← w2, yi_u_eq]
      refine yi_G_get (87, [(0, .inr (.inr (some 82))), (1, .inl w)], [.inl ((I 82 7) + 1), .inr (.inr (some 82))], (I12, L6, X), 0, 0) rfl (ym_gi hS rfl rfl r14) ?_
      refine yi_G_run 1 (88, [(0, .inr (.inr (some 82))), (1, .inl w)], [.inl 1, .inl ((I 82 7) + 1), .inr (.inr (some 82))], (I12, L6, X), 0, 0) (fun _ => rfl) ?_
      refine yi_G_iadd rfl (((I 82 7) + 1) + 1) (yi_wn (by omega) (by omega)) ?_
      refine yi_G_put (92, [(0, .inr (.inr (some 82))), (1, .inl w)], [], ((yi_u I12 82 7 (((I 82 7) + 1) + 1)), L6, X), 0, 0) rfl (ym_pi hS rfl rfl) ?_
      generalize w16 : yi_u I12 82 7 (((I 82 7) + 1) + 1) = I15
      have r17 : I15 82 7 = ((I 82 7) + 1) + 1 := by rw [← w16, yi_u_eq]
      have r18 : I15 82 8 = Ja 82 8 := by rw [← w16, yi_u_ne _ _ (by omega), ← w13, yi_u_ne _ _ (by omega), ← w10, yi_u_ne _ _ (by omega)]
      have r19 : I15 82 19 = (I 82 19) + 1 := by rw [← w16, yi_u_ne _ _ (by omega), ← w13, yi_u_eq]
      exact yi_G_retv rfl rfl (⟨_, _, rfl, (fun p k hp => by rw [← w16, yi_u_ne _ _ (fun z => by omega), ← w13, yi_u_ne _ _ (fun z => by omega), ← w10, yi_u_ne _ _ (fun z => by omega), fJa p k (by omega), ← w2, yi_u_ne _ _ (fun z => by omega)]), (fun p k hp => by rw [← w7, yi_u_ne _ _ (fun z => by omega)]), ⟨by omega, by omega⟩, by omega, by omega, by omega⟩)
    · refine yi_G_if1 true rfl (yi_ne_t h3) ?_
      have r20 : Ja 82 7 = (I 82 7) + 1 := by rw [fJa 82 (7) (by omega), ← w2, yi_u_eq]
      have r21 : Ja 82 19 = I 82 19 := by rw [fJa 82 (19) (by omega), ← w2, yi_u_ne _ _ (by omega)]
      exact yi_G_retv rfl rfl (⟨_, _, rfl, (fun p k hp => by rw [fJa p k (by omega), ← w2, yi_u_ne _ _ (fun z => by omega)]), (fun _ _ _ => rfl), ⟨by omega, by omega⟩, by omega, by omega, by omega⟩)
  refine yi_G_run 1 (11, [(0, .inr (.inr (some 82))), (1, .inl w)], [.inr (.inr (some 82))], (I1, L, X), 0, 0) (fun _ => rfl) ?_
  have r23 : I1 82 7 = (I 82 7) + 1 := by rw [← w2, yi_u_eq]
  have r24 : I1 82 8 = I 82 8 := by rw [← w2, yi_u_ne _ _ (by omega)]
  refine yi_G_callv rfl rfl (ym_rcv hS) rfl (c_isName d (by omega) hS (ym_TK_t (fun k => by rw [← w2, yi_u_ne _ _ (fun z => absurd z.1 (by decide))]) (fun k => by rw [← w2, yi_u_ne _ _ (fun z => absurd z.1 (by decide))]) hT) ⟨by omega, by omega⟩) ?_
  rintro _ (⟨⟨c22a, c22b⟩, rfl⟩ | rfl)
  · show yi_G zi_Ms d zi_m100 (14, [(0, .inr (.inr (some 82))), (1, .inl w)], [.inl 1], (I1, L, X), 0, 0) _
    refine yi_G_if1 true rfl (by decide) ?_
    refine yi_G_run 1 (26, [(0, .inr (.inr (some 82))), (1, .inl w)], [.inr (.inr (some 82))], (I1, L, X), 0, 0) (fun _ => rfl) ?_
    have r26 : I1 82 18 = I 82 18 := by rw [← w2, yi_u_ne _ _ (by omega)]
    have r27 : I1 82 19 = I 82 19 := by rw [← w2, yi_u_ne _ _ (by omega)]
    have r28 : I1 82 7 = (I 82 7) + 1 := by rw [← w2, yi_u_eq]
    have r29 : I1 82 8 = I 82 8 := by rw [← w2, yi_u_ne _ _ (by omega)]
    refine yi_G_callv rfl rfl (ym_rcv hS) rfl (c_find d (by omega) hS ⟨(by rw [r26]; omega), (by rw [r26]; omega)⟩ ⟨(by rw [r27]; omega), (by rw [r27]; omega)⟩ (ym_TK_t (fun k => by rw [← w2, yi_u_ne _ _ (fun z => absurd z.1 (by decide))]) (fun k => by rw [← w2, yi_u_ne _ _ (fun z => absurd z.1 (by decide))]) hT) ⟨by omega, by omega⟩) ?_
    rintro _ ⟨z25, rfl⟩
    show yi_G zi_Ms d zi_m100 (29, [(0, .inr (.inr (some 82))), (1, .inl w)], [.inl z25], (I1, L, X), 0, 0) _
    by_cases h30 : z25 < 0
    · refine yi_G_if1 true rfl (yi_lt_t h30) ?_
      have r31 : I1 82 7 = (I 82 7) + 1 := by rw [← w2, yi_u_eq]
      have r32 : I1 82 8 = I 82 8 := by rw [← w2, yi_u_ne _ _ (by omega)]
      have r33 : I1 82 7 = (I 82 7) + 1 := by rw [← w2, yi_u_eq]
      have r34 : I1 82 8 = I 82 8 := by rw [← w2, yi_u_ne _ _ (by omega)]
      exact pt37 I1 (fun _ _ _ => rfl) (by omega) (by omega)
    · refine yi_G_if1 false rfl (yi_lt_f h30) ?_
      refine yi_G_run 2 (34, [(0, .inr (.inr (some 82))), (1, .inl w)], [.inl 3, .inr (.inr (some 82))], (I1, L, X), 0, 0) (fun _ => rfl) ?_
      have r35 : I1 82 7 = (I 82 7) + 1 := by rw [← w2, yi_u_eq]
      have r36 : I1 82 8 = I 82 8 := by rw [← w2, yi_u_ne _ _ (by omega)]
      refine yi_G_callv rfl rfl (ym_rcv hS) rfl (c_wrong d (by omega) hS ⟨by omega, by omega⟩ (ym_TK_t (fun k => by rw [← w2, yi_u_ne _ _ (fun z => absurd z.1 (by decide))]) (fun k => by rw [← w2, yi_u_ne _ _ (fun z => absurd z.1 (by decide))]) hT) ⟨by omega, by omega⟩ (by omega)) ?_
      rintro _ ⟨I37, rfl, f38, h39⟩
      show yi_G zi_Ms d zi_m100 (37, [(0, .inr (.inr (some 82))), (1, .inl w)], [], (I37, L, X), 0, 0) _
      have r40 : I37 82 7 = (I 82 7) + 1 := by rw [f38 82 (7) (by omega), ← w2, yi_u_eq]
      have r41 : I37 82 7 = (I 82 7) + 1 := by rw [f38 82 (7) (by omega), ← w2, yi_u_eq]
      exact pt37 I37 (fun p k hp => by rw [f38 p k (by omega)]) (by omega) (by omega)
  · show yi_G zi_Ms d zi_m100 (14, [(0, .inr (.inr (some 82))), (1, .inl w)], [.inl 0], (I1, L, X), 0, 0) _
    refine yi_G_if1 false rfl (by decide) ?_
    refine yi_G_run 2 (19, [(0, .inr (.inr (some 82))), (1, .inl w)], [.inl 1, .inr (.inr (some 82))], (I1, L, X), 0, 0) (fun _ => rfl) ?_
    have r42 : I1 82 7 = (I 82 7) + 1 := by rw [← w2, yi_u_eq]
    have r43 : I1 82 8 = I 82 8 := by rw [← w2, yi_u_ne _ _ (by omega)]
    refine yi_G_callv rfl rfl (ym_rcv hS) rfl (c_wrong d (by omega) hS ⟨by omega, by omega⟩ (ym_TK_t (fun k => by rw [← w2, yi_u_ne _ _ (fun z => absurd z.1 (by decide))]) (fun k => by rw [← w2, yi_u_ne _ _ (fun z => absurd z.1 (by decide))]) hT) ⟨by omega, by omega⟩ (by omega)) ?_
    rintro _ ⟨I44, rfl, f45, h46⟩
    show yi_G zi_Ms d zi_m100 (22, [(0, .inr (.inr (some 82))), (1, .inl w)], [], (I44, L, X), 0, 0) _
    refine yi_G_run 1 (37, [(0, .inr (.inr (some 82))), (1, .inl w)], [], (I44, L, X), 0, 0) (fun _ => rfl) ?_
    have r47 : I44 82 7 = (I 82 7) + 1 := by rw [f45 82 (7) (by omega), ← w2, yi_u_eq]
    have r48 : I44 82 7 = (I 82 7) + 1 := by rw [f45 82 (7) (by omega), ← w2, yi_u_eq]
    exact pt37 I44 (fun p k hp => by rw [f45 p k (by omega)]) (by omega) (by omega)
theorem c_readPerson (D : Nat) (hD : 7 ≤ D) {I L : Nat → Nat → Int} {X : ym_X} (hS : ym_S X) {te : Int} (hT : ym_TK I te) (a0 : 0 ≤ I 82 7 ∧ I 82 7 ≤ te) (lt : I 82 7 < te) (f0 : I 82 8 = 0) (n0 : 0 ≤ I 82 18 ∧ I 82 18 ≤ 13) (hLD : ym_LD I) (hLP : ym_LP I) (k0 : 0 ≤ I 82 13 ∧ I 82 13 ≤ I 82 7) (rf : I 82 20 = 50) : yi_E zi_Ms D 101 [.inr (.inr (some 82))] (I, L, X) (fun r => ∃ I' L', r = (none, (I', L', X), 0, 0) ∧ (∀ p k, ¬ (p = 82 ∧ k = 7) ∧ ¬ (p = 82 ∧ k = 8) ∧ ¬ (p = 82 ∧ k = 13) ∧ ¬ (p = 82 ∧ k = 19) ∧ p ≠ 94 ∧ p ≠ 88 ∧ p ≠ 89 ∧ p ≠ 90 → I' p k = I p k) ∧ (∀ p k, p ≠ 92 → L' p k = L p k) ∧ (I 82 7 < I' 82 7 ∨ 0 < I' 82 8) ∧ (I 82 7 ≤ I' 82 7 ∧ I' 82 7 ≤ te) ∧ 0 ≤ I' 82 8 ∧ (0 ≤ I' 82 19 ∧ I' 82 19 ≤ 13) ∧ (I 82 13 ≤ I' 82 13 ∧ I' 82 13 ≤ I' 82 7 + 2) ∧ (I' 82 8 = 0 → I' 82 13 ≤ I' 82 7) ∧ ym_LW I I' (I 82 13) ∧ (∀ k : Nat, k < 50 → I' 88 k = I 88 k) ∧ (I' 82 8 = 0 → ym_LD I' ∧ ym_LP I')) := by
  obtain ⟨d, rfl⟩ : ∃ d, D = d + 1 := ⟨D - 1, by omega⟩
  refine yi_E_of (M := zi_m101) rfl rfl ?_
  obtain ⟨te0, te1, te2⟩ := id hT
  obtain ⟨g0, g1, g2, g3, g4, g5, g6, g7⟩ := id hLD
  have n1 : 0 ≤ I 82 19 ∧ I 82 19 ≤ 13 := by omega
  show yi_G zi_Ms d zi_m101 (0, [(0, .inr (.inr (some 82)))], [], (I, L, X), 0, 0) _
  refine yi_G_run 1 (1, [(0, .inr (.inr (some 82)))], [.inr (.inr (some 82))], (I, L, X), 0, 0) (fun _ => rfl) ?_
  refine yi_G_get (4, [(0, .inr (.inr (some 82)))], [.inr (.inr (some 88))], (I, L, X), 0, 0) rfl (ym_gr hS 5 rfl rfl rfl) ?_
  refine yi_G_run 1 (6, [(0, .inr (.inr (some 82)))], [.inl 51, .inr (.inr (some 88))], (I, L, X), 0, 0) (fun _ => rfl) ?_
  refine yi_G_iald (7, [(0, .inr (.inr (some 82)))], [.inl (I 88 51)], (I, L, X), 0, 0) rfl (ym_li hS 5 rfl (by omega) (by omega) rfl) ?_
  refine yi_G_run 3 (10, [(1, .inl (I 88 51)), (0, .inr (.inr (some 82)))], [.inl 4, .inl (I 88 51)], (I, L, X), 0, 0) (fun _ => rfl) ?_
  by_cases h1 : (I 88 51) = 4
  · refine yi_G_if2 true rfl (yi_eq_t h1) ?_
    refine yi_G_run 2 (38, [(1, .inl (I 88 51)), (0, .inr (.inr (some 82)))], [.inl 5, .inr (.inr (some 82))], (I, L, X), 0, 0) (fun _ => rfl) ?_
    refine yi_G_callv rfl rfl (ym_rcv hS) rfl (c_wrong d (by omega) hS ⟨by omega, by omega⟩ hT ⟨by omega, by omega⟩ (by omega)) ?_
    rintro _ ⟨I2, rfl, f3, h4⟩
    show yi_G zi_Ms d zi_m101 (41, [(1, .inl (I 88 51)), (0, .inr (.inr (some 82)))], [], (I2, L, X), 0, 0) _
    have r5 : I2 82 7 = I 82 7 := by rw [f3 82 (7) (by omega)]
    have r6 : I2 82 13 = I 82 13 := by rw [f3 82 (13) (by omega)]
    have r7 : I2 82 19 = I 82 19 := by rw [f3 82 (19) (by omega)]
    exact yi_G_retv rfl rfl (⟨_, _, rfl, (fun p k hp => by rw [f3 p k (by omega)]), (fun _ _ _ => rfl), by omega, ⟨by omega, by omega⟩, by omega, ⟨by omega, by omega⟩, ⟨by omega, by omega⟩, by omega, (ym_LW_f (ym_LW_r _ _) (fun k => by rw [f3 89 k (by omega)]) (fun k => by rw [f3 90 k (by omega)])), (fun k hk => by rw [f3 88 k (by omega)]), fun zz => absurd zz (by omega)⟩)
  · refine yi_G_if2 false rfl (yi_eq_f h1) ?_
    refine yi_G_run 1 (14, [(1, .inl (I 88 51)), (0, .inr (.inr (some 82)))], [.inr (.inr (some 82))], (I, L, X), 0, 0) (fun _ => rfl) ?_
    refine yi_G_get (17, [(1, .inl (I 88 51)), (0, .inr (.inr (some 82)))], [.inr (.inr (some 88))], (I, L, X), 0, 0) rfl (ym_gr hS 5 rfl rfl rfl) ?_
    refine yi_G_run 1 (19, [(1, .inl (I 88 51)), (0, .inr (.inr (some 82)))], [.inl 50, .inr (.inr (some 88))], (I, L, X), 0, 0) (fun _ => rfl) ?_
    refine yi_G_iald (20, [(1, .inl (I 88 51)), (0, .inr (.inr (some 82)))], [.inl (I 88 50)], (I, L, X), 0, 0) rfl (ym_li hS 5 rfl (by omega) (by omega) rfl) ?_
    refine yi_G_run 2 (22, [(1, .inl (I 88 51)), (0, .inr (.inr (some 82)))], [.inl 1, .inl (I 88 51), .inl (I 88 50)], (I, L, X), 0, 0) (fun _ => rfl) ?_
    refine yi_G_iadd rfl ((I 88 51) + 1) (yi_wn (by omega) (by omega)) ?_
    refine yi_G_run 1 (24, [(1, .inl (I 88 51)), (0, .inr (.inr (some 82)))], [.inr (.inr (some 82)), .inl ((I 88 51) + 1), .inl (I 88 50)], (I, L, X), 0, 0) (fun _ => rfl) ?_
    refine yi_G_get (27, [(1, .inl (I 88 51)), (0, .inr (.inr (some 82)))], [.inr (.inr (some 88)), .inl ((I 88 51) + 1), .inl (I 88 50)], (I, L, X), 0, 0) rfl (ym_gr hS 5 rfl rfl rfl) ?_
    refine yi_G_run 1 (29, [(1, .inl (I 88 51)), (0, .inr (.inr (some 82)))], [.inl 52, .inr (.inr (some 88)), .inl ((I 88 51) + 1), .inl (I 88 50)], (I, L, X), 0, 0) (fun _ => rfl) ?_
    refine yi_G_iald (30, [(1, .inl (I 88 51)), (0, .inr (.inr (some 82)))], [.inl (I 88 52), .inl ((I 88 51) + 1), .inl (I 88 50)], (I, L, X), 0, 0) rfl (ym_li hS 5 rfl (by omega) (by omega) rfl) ?_
    have mm9 := yi_mb (a := I 88 50) (b := (I 88 51) + 1) (A := 6) (B := 5) (by omega) (by omega) (by omega) (by omega)
    have fb := ym_fo_b (da := I 88 50) (pe := (I 88 51) + 1) (ev := I 88 52) (by omega)
    refine yi_G_calls rfl rfl (c_futuresOf d (by omega) hS (by omega) (by omega)) ?_
    rintro _ rfl
    show yi_G zi_Ms d zi_m101 (33, [(1, .inl (I 88 51)), (0, .inr (.inr (some 82)))], [.inl (ym_fo (I 88 50) ((I 88 51) + 1) (I 88 52))], (I, L, X), 0, 0) _
    by_cases h8 : 0 ≤ (ym_fo (I 88 50) ((I 88 51) + 1) (I 88 52))
    · refine yi_G_if1 true rfl (yi_ge_t h8) ?_
      refine yi_G_run 2 (44, [(1, .inl (I 88 51)), (0, .inr (.inr (some 82)))], [.inl (I 88 51), .inr (.inr (some 82))], (I, L, X), 0, 0) (fun _ => rfl) ?_
      refine yi_G_callv rfl rfl (ym_rcv hS) rfl (c_readName d (by omega) hS hT ⟨by omega, by omega⟩ (by omega) (by omega) ⟨by omega, by omega⟩ ⟨by omega, by omega⟩) ?_
      rintro _ ⟨I9, L11, rfl, f10, f12, h13a, h13b, h13c, h13d⟩
      show yi_G zi_Ms d zi_m101 (47, [(1, .inl (I 88 51)), (0, .inr (.inr (some 82)))], [], (I9, L11, X), 0, 0) _
      refine yi_G_run 1 (48, [(1, .inl (I 88 51)), (0, .inr (.inr (some 82)))], [.inr (.inr (some 82))], (I9, L11, X), 0, 0) (fun _ => rfl) ?_
      refine yi_G_get (51, [(1, .inl (I 88 51)), (0, .inr (.inr (some 82)))], [.inr (.inr (some 88))], (I9, L11, X), 0, 0) rfl (ym_gr hS 5 rfl rfl rfl) ?_
      refine yi_G_run 2 (54, [(1, .inl (I 88 51)), (0, .inr (.inr (some 82)))], [.inl (I 88 51), .inl 57, .inr (.inr (some 88))], (I9, L11, X), 0, 0) (fun _ => rfl) ?_
      refine yi_G_iadd rfl (57 + (I 88 51)) (yi_wn (by omega) (by omega)) ?_
      refine yi_G_run 4 (60, [(1, .inl (I 88 51)), (0, .inr (.inr (some 82)))], [.inl 99, .inl 0, .inl 2, .inr (.inr (some 82)), .inl (57 + (I 88 51)), .inr (.inr (some 88))], (I9, L11, X), 0, 0) (fun _ => rfl) ?_
      refine yi_G_callv rfl rfl (ym_rcv hS) rfl (c_takeAfter d (by omega) hS ⟨by omega, by omega⟩ (by omega) (by omega) (ym_TK_t (fun k => by rw [f10 84 k (by omega)]) (fun k => by rw [f10 85 k (by omega)]) hT) ⟨by omega, by omega⟩ (by omega)) ?_
      rintro _ ⟨z16, I14, rfl, f15, h17a, h17b, h17c⟩
      show yi_G zi_Ms d zi_m101 (63, [(1, .inl (I 88 51)), (0, .inr (.inr (some 82)))], [.inl z16, .inl (57 + (I 88 51)), .inr (.inr (some 88))], (I14, L11, X), 0, 0) _
      refine yi_G_iast (64, [(1, .inl (I 88 51)), (0, .inr (.inr (some 82)))], [], ((yi_u I14 88 ((57 + (I 88 51)).toNat) z16), L11, X), 0, 0) rfl (ym_si hS 5 rfl (by omega) (by omega)) ?_
      generalize w19 : yi_u I14 88 ((57 + (I 88 51)).toNat) z16 = I18
      refine yi_G_run 1 (65, [(1, .inl (I 88 51)), (0, .inr (.inr (some 82)))], [.inr (.inr (some 82))], (I18, L11, X), 0, 0) (fun _ => rfl) ?_
      refine yi_G_get (68, [(1, .inl (I 88 51)), (0, .inr (.inr (some 82)))], [.inr (.inr (some 88))], (I18, L11, X), 0, 0) rfl (ym_gr hS 5 rfl rfl rfl) ?_
      refine yi_G_run 2 (71, [(1, .inl (I 88 51)), (0, .inr (.inr (some 82)))], [.inl 51, .inr (.inr (some 88)), .inl 51, .inr (.inr (some 88))], (I18, L11, X), 0, 0) (fun _ => rfl) ?_
      have r20 : I18 88 51 = I 88 51 := by rw [← w19, yi_u_ne _ _ (by omega), f15 88 (51) (by omega), f10 88 (51) (by omega)]
      refine yi_G_iald (72, [(1, .inl (I 88 51)), (0, .inr (.inr (some 82)))], [.inl (I 88 51), .inl 51, .inr (.inr (some 88))], (I18, L11, X), 0, 0) rfl (ym_li hS 5 rfl (by omega) (by omega) r20) ?_
      refine yi_G_run 1 (73, [(1, .inl (I 88 51)), (0, .inr (.inr (some 82)))], [.inl 1, .inl (I 88 51), .inl 51, .inr (.inr (some 88))], (I18, L11, X), 0, 0) (fun _ => rfl) ?_
      refine yi_G_iadd rfl ((I 88 51) + 1) (yi_wn (by omega) (by omega)) ?_
      refine yi_G_iast (75, [(1, .inl (I 88 51)), (0, .inr (.inr (some 82)))], [], ((yi_u I18 88 51 ((I 88 51) + 1)), L11, X), 0, 0) rfl (ym_si hS 5 rfl (by omega) (by omega)) ?_
      generalize w22 : yi_u I18 88 51 ((I 88 51) + 1) = I21
      have r23 : I21 82 7 = I14 82 7 := by rw [← w22, yi_u_ne _ _ (by omega), ← w19, yi_u_ne _ _ (by omega)]
      have r24 : I21 82 8 = I14 82 8 := by rw [← w22, yi_u_ne _ _ (by omega), ← w19, yi_u_ne _ _ (by omega)]
      have r25 : I21 82 13 = I 82 13 := by rw [← w22, yi_u_ne _ _ (by omega), ← w19, yi_u_ne _ _ (by omega), f15 82 (13) (by omega), f10 82 (13) (by omega)]
      have r26 : I21 82 19 = I9 82 19 := by rw [← w22, yi_u_ne _ _ (by omega), ← w19, yi_u_ne _ _ (by omega), f15 82 (19) (by omega)]
      have r27 : I21 88 50 = I 88 50 := by rw [← w22, yi_u_ne _ _ (by omega), ← w19, yi_u_ne _ _ (by omega), f15 88 (50) (by omega), f10 88 (50) (by omega)]
      have r28 : I21 88 51 = (I 88 51) + 1 := by rw [← w22, yi_u_eq]
      have r29 : I21 88 52 = I 88 52 := by rw [← w22, yi_u_ne _ _ (by omega), ← w19, yi_u_ne _ _ (by omega), f15 88 (52) (by omega), f10 88 (52) (by omega)]
      have r30 : I21 88 53 = I 88 53 := by rw [← w22, yi_u_ne _ _ (by omega), ← w19, yi_u_ne _ _ (by omega), f15 88 (53) (by omega), f10 88 (53) (by omega)]
      have r31 : I21 88 54 = I 88 54 := by rw [← w22, yi_u_ne _ _ (by omega), ← w19, yi_u_ne _ _ (by omega), f15 88 (54) (by omega), f10 88 (54) (by omega)]
      have r32 : I21 88 55 = I 88 55 := by rw [← w22, yi_u_ne _ _ (by omega), ← w19, yi_u_ne _ _ (by omega), f15 88 (55) (by omega), f10 88 (55) (by omega)]
      have r33 : I21 88 56 = I 88 56 := by rw [← w22, yi_u_ne _ _ (by omega), ← w19, yi_u_ne _ _ (by omega), f15 88 (56) (by omega), f10 88 (56) (by omega)]
      exact yi_G_retv rfl rfl (⟨_, _, rfl, (fun p k hp => by rw [← w22, yi_u_ne _ _ (fun z => by omega), ← w19, yi_u_ne _ _ (fun z => by omega), f15 p k (by omega), f10 p k (by omega)]), (fun p k hp => by rw [f12 p k (by omega)]), by omega, ⟨by omega, by omega⟩, by omega, ⟨by omega, by omega⟩, ⟨by omega, by omega⟩, by omega, (ym_LW_f (ym_LW_r _ _) (fun k => by rw [← w22, yi_u_ne _ _ (fun z => absurd z.1 (by decide)), ← w19, yi_u_ne _ _ (fun z => absurd z.1 (by decide)), f15 89 k (by omega), f10 89 k (by omega)]) (fun k => by rw [← w22, yi_u_ne _ _ (fun z => absurd z.1 (by decide)), ← w19, yi_u_ne _ _ (fun z => absurd z.1 (by decide)), f15 90 k (by omega), f10 90 k (by omega)])), (fun k hk => by rw [← w22, yi_u_ne _ _ (by omega), ← w19, yi_u_ne _ _ (by omega), f15 88 k (by omega), f10 88 k (by omega)]), fun zz => ⟨⟨⟨by omega, by omega⟩, ⟨by omega, by omega⟩, ⟨by omega, by omega⟩, ⟨by omega, by omega⟩, ⟨by omega, by omega⟩, ⟨by omega, by omega⟩, by omega, by rw [r27, r28, r29]; omega⟩, ym_LP_t hLP (ym_LW_f (ym_LW_r _ _) (fun k => by rw [← w22, yi_u_ne _ _ (fun z => absurd z.1 (by decide)), ← w19, yi_u_ne _ _ (fun z => absurd z.1 (by decide)), f15 89 k (by omega), f10 89 k (by omega)]) (fun k => by rw [← w22, yi_u_ne _ _ (fun z => absurd z.1 (by decide)), ← w19, yi_u_ne _ _ (fun z => absurd z.1 (by decide)), f15 90 k (by omega), f10 90 k (by omega)])) (by omega) (by omega) (by omega) r31 r32 r33 (fun k a b => by rw [← w22, yi_u_ne _ _ (by omega), ← w19, yi_u_ne _ _ (by omega), f15 88 k (by omega), f10 88 k (by omega)])⟩⟩)
    · refine yi_G_if1 false rfl (yi_ge_f h8) ?_
      refine yi_G_run 2 (38, [(1, .inl (I 88 51)), (0, .inr (.inr (some 82)))], [.inl 5, .inr (.inr (some 82))], (I, L, X), 0, 0) (fun _ => rfl) ?_
      refine yi_G_callv rfl rfl (ym_rcv hS) rfl (c_wrong d (by omega) hS ⟨by omega, by omega⟩ hT ⟨by omega, by omega⟩ (by omega)) ?_
      rintro _ ⟨I34, rfl, f35, h36⟩
      show yi_G zi_Ms d zi_m101 (41, [(1, .inl (I 88 51)), (0, .inr (.inr (some 82)))], [], (I34, L, X), 0, 0) _
      have r37 : I34 82 7 = I 82 7 := by rw [f35 82 (7) (by omega)]
      have r38 : I34 82 13 = I 82 13 := by rw [f35 82 (13) (by omega)]
      have r39 : I34 82 19 = I 82 19 := by rw [f35 82 (19) (by omega)]
      exact yi_G_retv rfl rfl (⟨_, _, rfl, (fun p k hp => by rw [f35 p k (by omega)]), (fun _ _ _ => rfl), by omega, ⟨by omega, by omega⟩, by omega, ⟨by omega, by omega⟩, ⟨by omega, by omega⟩, by omega, (ym_LW_f (ym_LW_r _ _) (fun k => by rw [f35 89 k (by omega)]) (fun k => by rw [f35 90 k (by omega)])), (fun k hk => by rw [f35 88 k (by omega)]), fun zz => absurd zz (by omega)⟩)
theorem c_readEvent (D : Nat) (hD : 7 ≤ D) {I L : Nat → Nat → Int} {X : ym_X} (hS : ym_S X) {te : Int} (hT : ym_TK I te) (a0 : 0 ≤ I 82 7 ∧ I 82 7 ≤ te) (lt : I 82 7 < te) (f0 : I 82 8 = 0) (n0 : 0 ≤ I 82 18 ∧ I 82 18 ≤ 13) (hLD : ym_LD I) (hLP : ym_LP I) (k0 : 0 ≤ I 82 13 ∧ I 82 13 ≤ I 82 7) (rf : I 82 20 = 50) : yi_E zi_Ms D 95 [.inr (.inr (some 82))] (I, L, X) (fun r => ∃ I' L', r = (none, (I', L', X), 0, 0) ∧ (∀ p k, ¬ (p = 82 ∧ k = 7) ∧ ¬ (p = 82 ∧ k = 8) ∧ ¬ (p = 82 ∧ k = 13) ∧ ¬ (p = 82 ∧ k = 19) ∧ p ≠ 94 ∧ p ≠ 88 ∧ p ≠ 89 ∧ p ≠ 90 → I' p k = I p k) ∧ (∀ p k, p ≠ 92 → L' p k = L p k) ∧ (I 82 7 < I' 82 7 ∨ 0 < I' 82 8) ∧ (I 82 7 ≤ I' 82 7 ∧ I' 82 7 ≤ te) ∧ 0 ≤ I' 82 8 ∧ (0 ≤ I' 82 19 ∧ I' 82 19 ≤ 13) ∧ (I 82 13 ≤ I' 82 13 ∧ I' 82 13 ≤ I' 82 7 + 2) ∧ (I' 82 8 = 0 → I' 82 13 ≤ I' 82 7) ∧ ym_LW I I' (I 82 13) ∧ (∀ k : Nat, k < 50 → I' 88 k = I 88 k) ∧ (I' 82 8 = 0 → ym_LD I' ∧ ym_LP I')) := by
  obtain ⟨d, rfl⟩ : ∃ d, D = d + 1 := ⟨D - 1, by omega⟩
  refine yi_E_of (M := zi_m95) rfl rfl ?_
  obtain ⟨te0, te1, te2⟩ := id hT
  obtain ⟨g0, g1, g2, g3, g4, g5, g6, g7⟩ := id hLD
  have n1 : 0 ≤ I 82 19 ∧ I 82 19 ≤ 13 := by omega
  show yi_G zi_Ms d zi_m95 (0, [(0, .inr (.inr (some 82)))], [], (I, L, X), 0, 0) _
  refine yi_G_run 1 (1, [(0, .inr (.inr (some 82)))], [.inr (.inr (some 82))], (I, L, X), 0, 0) (fun _ => rfl) ?_
  refine yi_G_get (4, [(0, .inr (.inr (some 82)))], [.inr (.inr (some 88))], (I, L, X), 0, 0) rfl (ym_gr hS 5 rfl rfl rfl) ?_
  refine yi_G_run 1 (6, [(0, .inr (.inr (some 82)))], [.inl 52, .inr (.inr (some 88))], (I, L, X), 0, 0) (fun _ => rfl) ?_
  refine yi_G_iald (7, [(0, .inr (.inr (some 82)))], [.inl (I 88 52)], (I, L, X), 0, 0) rfl (ym_li hS 5 rfl (by omega) (by omega) rfl) ?_
  refine yi_G_run 3 (10, [(1, .inl (I 88 52)), (0, .inr (.inr (some 82)))], [.inl 4, .inl (I 88 52)], (I, L, X), 0, 0) (fun _ => rfl) ?_
  by_cases h1 : (I 88 52) = 4
  · refine yi_G_if2 true rfl (yi_eq_t h1) ?_
    refine yi_G_run 2 (38, [(1, .inl (I 88 52)), (0, .inr (.inr (some 82)))], [.inl 5, .inr (.inr (some 82))], (I, L, X), 0, 0) (fun _ => rfl) ?_
    refine yi_G_callv rfl rfl (ym_rcv hS) rfl (c_wrong d (by omega) hS ⟨by omega, by omega⟩ hT ⟨by omega, by omega⟩ (by omega)) ?_
    rintro _ ⟨I2, rfl, f3, h4⟩
    show yi_G zi_Ms d zi_m95 (41, [(1, .inl (I 88 52)), (0, .inr (.inr (some 82)))], [], (I2, L, X), 0, 0) _
    have r5 : I2 82 7 = I 82 7 := by rw [f3 82 (7) (by omega)]
    have r6 : I2 82 13 = I 82 13 := by rw [f3 82 (13) (by omega)]
    have r7 : I2 82 19 = I 82 19 := by rw [f3 82 (19) (by omega)]
    exact yi_G_retv rfl rfl (⟨_, _, rfl, (fun p k hp => by rw [f3 p k (by omega)]), (fun _ _ _ => rfl), by omega, ⟨by omega, by omega⟩, by omega, ⟨by omega, by omega⟩, ⟨by omega, by omega⟩, by omega, (ym_LW_f (ym_LW_r _ _) (fun k => by rw [f3 89 k (by omega)]) (fun k => by rw [f3 90 k (by omega)])), (fun k hk => by rw [f3 88 k (by omega)]), fun zz => absurd zz (by omega)⟩)
  · refine yi_G_if2 false rfl (yi_eq_f h1) ?_
    refine yi_G_run 1 (14, [(1, .inl (I 88 52)), (0, .inr (.inr (some 82)))], [.inr (.inr (some 82))], (I, L, X), 0, 0) (fun _ => rfl) ?_
    refine yi_G_get (17, [(1, .inl (I 88 52)), (0, .inr (.inr (some 82)))], [.inr (.inr (some 88))], (I, L, X), 0, 0) rfl (ym_gr hS 5 rfl rfl rfl) ?_
    refine yi_G_run 1 (19, [(1, .inl (I 88 52)), (0, .inr (.inr (some 82)))], [.inl 50, .inr (.inr (some 88))], (I, L, X), 0, 0) (fun _ => rfl) ?_
    refine yi_G_iald (20, [(1, .inl (I 88 52)), (0, .inr (.inr (some 82)))], [.inl (I 88 50)], (I, L, X), 0, 0) rfl (ym_li hS 5 rfl (by omega) (by omega) rfl) ?_
    refine yi_G_run 1 (21, [(1, .inl (I 88 52)), (0, .inr (.inr (some 82)))], [.inr (.inr (some 82)), .inl (I 88 50)], (I, L, X), 0, 0) (fun _ => rfl) ?_
    refine yi_G_get (24, [(1, .inl (I 88 52)), (0, .inr (.inr (some 82)))], [.inr (.inr (some 88)), .inl (I 88 50)], (I, L, X), 0, 0) rfl (ym_gr hS 5 rfl rfl rfl) ?_
    refine yi_G_run 1 (26, [(1, .inl (I 88 52)), (0, .inr (.inr (some 82)))], [.inl 51, .inr (.inr (some 88)), .inl (I 88 50)], (I, L, X), 0, 0) (fun _ => rfl) ?_
    refine yi_G_iald (27, [(1, .inl (I 88 52)), (0, .inr (.inr (some 82)))], [.inl (I 88 51), .inl (I 88 50)], (I, L, X), 0, 0) rfl (ym_li hS 5 rfl (by omega) (by omega) rfl) ?_
    refine yi_G_run 2 (29, [(1, .inl (I 88 52)), (0, .inr (.inr (some 82)))], [.inl 1, .inl (I 88 52), .inl (I 88 51), .inl (I 88 50)], (I, L, X), 0, 0) (fun _ => rfl) ?_
    refine yi_G_iadd rfl ((I 88 52) + 1) (yi_wn (by omega) (by omega)) ?_
    have mm9 := yi_mb (a := I 88 50) (b := I 88 51) (A := 6) (B := 5) (by omega) (by omega) (by omega) (by omega)
    have fb := ym_fo_b (da := I 88 50) (pe := I 88 51) (ev := (I 88 52) + 1) (by omega)
    refine yi_G_calls rfl rfl (c_futuresOf d (by omega) hS (by omega) (by omega)) ?_
    rintro _ rfl
    show yi_G zi_Ms d zi_m95 (33, [(1, .inl (I 88 52)), (0, .inr (.inr (some 82)))], [.inl (ym_fo (I 88 50) (I 88 51) ((I 88 52) + 1))], (I, L, X), 0, 0) _
    by_cases h8 : 0 ≤ (ym_fo (I 88 50) (I 88 51) ((I 88 52) + 1))
    · refine yi_G_if1 true rfl (yi_ge_t h8) ?_
      refine yi_G_run 3 (45, [(1, .inl (I 88 52)), (0, .inr (.inr (some 82)))], [.inl (I 88 52), .inl 4, .inr (.inr (some 82))], (I, L, X), 0, 0) (fun _ => rfl) ?_
      refine yi_G_iadd rfl (4 + (I 88 52)) (yi_wn (by omega) (by omega)) ?_
      refine yi_G_callv rfl rfl (ym_rcv hS) rfl (c_readName d (by omega) hS hT ⟨by omega, by omega⟩ (by omega) (by omega) ⟨by omega, by omega⟩ ⟨by omega, by omega⟩) ?_
      rintro _ ⟨I9, L11, rfl, f10, f12, h13a, h13b, h13c, h13d⟩
      show yi_G zi_Ms d zi_m95 (49, [(1, .inl (I 88 52)), (0, .inr (.inr (some 82)))], [], (I9, L11, X), 0, 0) _
      refine yi_G_run 1 (50, [(1, .inl (I 88 52)), (0, .inr (.inr (some 82)))], [.inr (.inr (some 82))], (I9, L11, X), 0, 0) (fun _ => rfl) ?_
      refine yi_G_get (53, [(1, .inl (I 88 52)), (0, .inr (.inr (some 82)))], [.inr (.inr (some 88))], (I9, L11, X), 0, 0) rfl (ym_gr hS 5 rfl rfl rfl) ?_
      refine yi_G_run 2 (56, [(1, .inl (I 88 52)), (0, .inr (.inr (some 82)))], [.inl 52, .inr (.inr (some 88)), .inl 52, .inr (.inr (some 88))], (I9, L11, X), 0, 0) (fun _ => rfl) ?_
      have r14 : I9 88 52 = I 88 52 := by rw [f10 88 (52) (by omega)]
      refine yi_G_iald (57, [(1, .inl (I 88 52)), (0, .inr (.inr (some 82)))], [.inl (I 88 52), .inl 52, .inr (.inr (some 88))], (I9, L11, X), 0, 0) rfl (ym_li hS 5 rfl (by omega) (by omega) r14) ?_
      refine yi_G_run 1 (58, [(1, .inl (I 88 52)), (0, .inr (.inr (some 82)))], [.inl 1, .inl (I 88 52), .inl 52, .inr (.inr (some 88))], (I9, L11, X), 0, 0) (fun _ => rfl) ?_
      refine yi_G_iadd rfl ((I 88 52) + 1) (yi_wn (by omega) (by omega)) ?_
      refine yi_G_iast (60, [(1, .inl (I 88 52)), (0, .inr (.inr (some 82)))], [], ((yi_u I9 88 52 ((I 88 52) + 1)), L11, X), 0, 0) rfl (ym_si hS 5 rfl (by omega) (by omega)) ?_
      generalize w16 : yi_u I9 88 52 ((I 88 52) + 1) = I15
      have r17 : I15 82 7 = I9 82 7 := by rw [← w16, yi_u_ne _ _ (by omega)]
      have r18 : I15 82 8 = I9 82 8 := by rw [← w16, yi_u_ne _ _ (by omega)]
      have r19 : I15 82 13 = I 82 13 := by rw [← w16, yi_u_ne _ _ (by omega), f10 82 (13) (by omega)]
      have r20 : I15 82 19 = I9 82 19 := by rw [← w16, yi_u_ne _ _ (by omega)]
      have r21 : I15 88 50 = I 88 50 := by rw [← w16, yi_u_ne _ _ (by omega), f10 88 (50) (by omega)]
      have r22 : I15 88 51 = I 88 51 := by rw [← w16, yi_u_ne _ _ (by omega), f10 88 (51) (by omega)]
      have r23 : I15 88 52 = (I 88 52) + 1 := by rw [← w16, yi_u_eq]
      have r24 : I15 88 53 = I 88 53 := by rw [← w16, yi_u_ne _ _ (by omega), f10 88 (53) (by omega)]
      have r25 : I15 88 54 = I 88 54 := by rw [← w16, yi_u_ne _ _ (by omega), f10 88 (54) (by omega)]
      have r26 : I15 88 55 = I 88 55 := by rw [← w16, yi_u_ne _ _ (by omega), f10 88 (55) (by omega)]
      have r27 : I15 88 56 = I 88 56 := by rw [← w16, yi_u_ne _ _ (by omega), f10 88 (56) (by omega)]
      exact yi_G_retv rfl rfl (⟨_, _, rfl, (fun p k hp => by rw [← w16, yi_u_ne _ _ (fun z => by omega), f10 p k (by omega)]), (fun p k hp => by rw [f12 p k (by omega)]), by omega, ⟨by omega, by omega⟩, by omega, ⟨by omega, by omega⟩, ⟨by omega, by omega⟩, by omega, (ym_LW_f (ym_LW_r _ _) (fun k => by rw [← w16, yi_u_ne _ _ (fun z => absurd z.1 (by decide)), f10 89 k (by omega)]) (fun k => by rw [← w16, yi_u_ne _ _ (fun z => absurd z.1 (by decide)), f10 90 k (by omega)])), (fun k hk => by rw [← w16, yi_u_ne _ _ (by omega), f10 88 k (by omega)]), fun zz => ⟨⟨⟨by omega, by omega⟩, ⟨by omega, by omega⟩, ⟨by omega, by omega⟩, ⟨by omega, by omega⟩, ⟨by omega, by omega⟩, ⟨by omega, by omega⟩, by omega, by rw [r21, r22, r23]; omega⟩, ym_LP_t hLP (ym_LW_f (ym_LW_r _ _) (fun k => by rw [← w16, yi_u_ne _ _ (fun z => absurd z.1 (by decide)), f10 89 k (by omega)]) (fun k => by rw [← w16, yi_u_ne _ _ (fun z => absurd z.1 (by decide)), f10 90 k (by omega)])) (by omega) (by omega) (by omega) r25 r26 r27 (fun k a b => by rw [← w16, yi_u_ne _ _ (by omega), f10 88 k (by omega)])⟩⟩)
    · refine yi_G_if1 false rfl (yi_ge_f h8) ?_
      refine yi_G_run 2 (38, [(1, .inl (I 88 52)), (0, .inr (.inr (some 82)))], [.inl 5, .inr (.inr (some 82))], (I, L, X), 0, 0) (fun _ => rfl) ?_
      refine yi_G_callv rfl rfl (ym_rcv hS) rfl (c_wrong d (by omega) hS ⟨by omega, by omega⟩ hT ⟨by omega, by omega⟩ (by omega)) ?_
      rintro _ ⟨I28, rfl, f29, h30⟩
      show yi_G zi_Ms d zi_m95 (41, [(1, .inl (I 88 52)), (0, .inr (.inr (some 82)))], [], (I28, L, X), 0, 0) _
      have r31 : I28 82 7 = I 82 7 := by rw [f29 82 (7) (by omega)]
      have r32 : I28 82 13 = I 82 13 := by rw [f29 82 (13) (by omega)]
      have r33 : I28 82 19 = I 82 19 := by rw [f29 82 (19) (by omega)]
      exact yi_G_retv rfl rfl (⟨_, _, rfl, (fun p k hp => by rw [f29 p k (by omega)]), (fun _ _ _ => rfl), by omega, ⟨by omega, by omega⟩, by omega, ⟨by omega, by omega⟩, ⟨by omega, by omega⟩, by omega, (ym_LW_f (ym_LW_r _ _) (fun k => by rw [f29 89 k (by omega)]) (fun k => by rw [f29 90 k (by omega)])), (fun k hk => by rw [f29 88 k (by omega)]), fun zz => absurd zz (by omega)⟩)
theorem c_readProphet (D : Nat) (hD : 7 ≤ D) {I L : Nat → Nat → Int} {X : ym_X} (hS : ym_S X) {te : Int} (hT : ym_TK I te) (a0 : 0 ≤ I 82 7 ∧ I 82 7 ≤ te) (lt : I 82 7 < te) (f0 : I 82 8 = 0) (n0 : 0 ≤ I 82 18 ∧ I 82 18 ≤ 13) (hLD : ym_LD I) (hLP : ym_LP I) (k0 : 0 ≤ I 82 13 ∧ I 82 13 ≤ I 82 7) (rf : I 82 20 = 50) : yi_E zi_Ms D 103 [.inr (.inr (some 82))] (I, L, X) (fun r => ∃ I' L', r = (none, (I', L', X), 0, 0) ∧ (∀ p k, ¬ (p = 82 ∧ k = 7) ∧ ¬ (p = 82 ∧ k = 8) ∧ ¬ (p = 82 ∧ k = 13) ∧ ¬ (p = 82 ∧ k = 19) ∧ p ≠ 94 ∧ p ≠ 88 ∧ p ≠ 89 ∧ p ≠ 90 → I' p k = I p k) ∧ (∀ p k, p ≠ 92 → L' p k = L p k) ∧ (I 82 7 < I' 82 7 ∨ 0 < I' 82 8) ∧ (I 82 7 ≤ I' 82 7 ∧ I' 82 7 ≤ te) ∧ 0 ≤ I' 82 8 ∧ (0 ≤ I' 82 19 ∧ I' 82 19 ≤ 13) ∧ (I 82 13 ≤ I' 82 13 ∧ I' 82 13 ≤ I' 82 7 + 2) ∧ (I' 82 8 = 0 → I' 82 13 ≤ I' 82 7) ∧ ym_LW I I' (I 82 13) ∧ (∀ k : Nat, k < 50 → I' 88 k = I 88 k) ∧ (I' 82 8 = 0 → ym_LD I' ∧ ym_LP I')) := by
  obtain ⟨d, rfl⟩ : ∃ d, D = d + 1 := ⟨D - 1, by omega⟩
  refine yi_E_of (M := zi_m103) rfl rfl ?_
  obtain ⟨te0, te1, te2⟩ := id hT
  obtain ⟨g0, g1, g2, g3, g4, g5, g6, g7⟩ := id hLD
  have n1 : 0 ≤ I 82 19 ∧ I 82 19 ≤ 13 := by omega
  show yi_G zi_Ms d zi_m103 (0, [(0, .inr (.inr (some 82)))], [], (I, L, X), 0, 0) _
  refine yi_G_run 1 (1, [(0, .inr (.inr (some 82)))], [.inr (.inr (some 82))], (I, L, X), 0, 0) (fun _ => rfl) ?_
  refine yi_G_get (4, [(0, .inr (.inr (some 82)))], [.inr (.inr (some 88))], (I, L, X), 0, 0) rfl (ym_gr hS 5 rfl rfl rfl) ?_
  refine yi_G_run 1 (6, [(0, .inr (.inr (some 82)))], [.inl 53, .inr (.inr (some 88))], (I, L, X), 0, 0) (fun _ => rfl) ?_
  refine yi_G_iald (7, [(0, .inr (.inr (some 82)))], [.inl (I 88 53)], (I, L, X), 0, 0) rfl (ym_li hS 5 rfl (by omega) (by omega) rfl) ?_
  refine yi_G_run 3 (10, [(1, .inl (I 88 53)), (0, .inr (.inr (some 82)))], [.inl 5, .inl (I 88 53)], (I, L, X), 0, 0) (fun _ => rfl) ?_
  by_cases h1 : (I 88 53) = 5
  · refine yi_G_if2 false rfl (yi_ne_f h1) ?_
    refine yi_G_run 2 (15, [(1, .inl (I 88 53)), (0, .inr (.inr (some 82)))], [.inl 5, .inr (.inr (some 82))], (I, L, X), 0, 0) (fun _ => rfl) ?_
    refine yi_G_callv rfl rfl (ym_rcv hS) rfl (c_wrong d (by omega) hS ⟨by omega, by omega⟩ hT ⟨by omega, by omega⟩ (by omega)) ?_
    rintro _ ⟨I2, rfl, f3, h4⟩
    show yi_G zi_Ms d zi_m103 (18, [(1, .inl (I 88 53)), (0, .inr (.inr (some 82)))], [], (I2, L, X), 0, 0) _
    have r5 : I2 82 7 = I 82 7 := by rw [f3 82 (7) (by omega)]
    have r6 : I2 82 13 = I 82 13 := by rw [f3 82 (13) (by omega)]
    have r7 : I2 82 19 = I 82 19 := by rw [f3 82 (19) (by omega)]
    exact yi_G_retv rfl rfl (⟨_, _, rfl, (fun p k hp => by rw [f3 p k (by omega)]), (fun _ _ _ => rfl), by omega, ⟨by omega, by omega⟩, by omega, ⟨by omega, by omega⟩, ⟨by omega, by omega⟩, by omega, (ym_LW_f (ym_LW_r _ _) (fun k => by rw [f3 89 k (by omega)]) (fun k => by rw [f3 90 k (by omega)])), (fun k hk => by rw [f3 88 k (by omega)]), fun zz => absurd zz (by omega)⟩)
  · refine yi_G_if2 true rfl (yi_ne_t h1) ?_
    refine yi_G_run 3 (23, [(1, .inl (I 88 53)), (0, .inr (.inr (some 82)))], [.inl (I 88 53), .inl 8, .inr (.inr (some 82))], (I, L, X), 0, 0) (fun _ => rfl) ?_
    refine yi_G_iadd rfl (8 + (I 88 53)) (yi_wn (by omega) (by omega)) ?_
    refine yi_G_callv rfl rfl (ym_rcv hS) rfl (c_readName d (by omega) hS hT ⟨by omega, by omega⟩ (by omega) (by omega) ⟨by omega, by omega⟩ ⟨by omega, by omega⟩) ?_
    rintro _ ⟨I8, L10, rfl, f9, f11, h12a, h12b, h12c, h12d⟩
    show yi_G zi_Ms d zi_m103 (27, [(1, .inl (I 88 53)), (0, .inr (.inr (some 82)))], [], (I8, L10, X), 0, 0) _
    have pt46 : ∀ (ki : Int), (ki = -1 ∨ (0 ≤ ki ∧ ki ≤ 4 ∧ I8 82 8 = 0 ∧ I8 82 7 < te)) → yi_G zi_Ms d zi_m103 (46, [(1, .inl (I 88 53)), (0, .inr (.inr (some 82))), (2, .inl ki)], [], (I8, L10, X), 0, 0) (fun r => ∃ I' L', r = (none, (I', L', X), 0, 0) ∧ (∀ p k, ¬ (p = 82 ∧ k = 7) ∧ ¬ (p = 82 ∧ k = 8) ∧ ¬ (p = 82 ∧ k = 13) ∧ ¬ (p = 82 ∧ k = 19) ∧ p ≠ 94 ∧ p ≠ 88 ∧ p ≠ 89 ∧ p ≠ 90 → I' p k = I p k) ∧ (∀ p k, p ≠ 92 → L' p k = L p k) ∧ (I 82 7 < I' 82 7 ∨ 0 < I' 82 8) ∧ (I 82 7 ≤ I' 82 7 ∧ I' 82 7 ≤ te) ∧ 0 ≤ I' 82 8 ∧ (0 ≤ I' 82 19 ∧ I' 82 19 ≤ 13) ∧ (I 82 13 ≤ I' 82 13 ∧ I' 82 13 ≤ I' 82 7 + 2) ∧ (I' 82 8 = 0 → I' 82 13 ≤ I' 82 7) ∧ ym_LW I I' (I 82 13) ∧ (∀ k : Nat, k < 50 → I' 88 k = I 88 k) ∧ (I' 82 8 = 0 → ym_LD I' ∧ ym_LP I')) := by
      intro ki q46 
      refine yi_G_run 1 (47, [(1, .inl (I 88 53)), (0, .inr (.inr (some 82))), (2, .inl ki)], [.inl ki], (I8, L10, X), 0, 0) (fun _ => rfl) ?_
      by_cases h13 : 0 ≤ ki
      · refine yi_G_if1 true rfl (yi_ge_t h13) ?_
        refine yi_G_run 2 (58, [(1, .inl (I 88 53)), (0, .inr (.inr (some 82))), (2, .inl ki)], [.inr (.inr (some 82)), .inr (.inr (some 82))], (I8, L10, X), 0, 0) (fun _ => rfl) ?_
        refine yi_G_get (61, [(1, .inl (I 88 53)), (0, .inr (.inr (some 82))), (2, .inl ki)], [.inl (I8 82 7), .inr (.inr (some 82))], (I8, L10, X), 0, 0) rfl (ym_gi hS rfl rfl rfl) ?_
        refine yi_G_run 1 (62, [(1, .inl (I 88 53)), (0, .inr (.inr (some 82))), (2, .inl ki)], [.inl 1, .inl (I8 82 7), .inr (.inr (some 82))], (I8, L10, X), 0, 0) (fun _ => rfl) ?_
        refine yi_G_iadd rfl ((I8 82 7) + 1) (yi_wn (by omega) (by omega)) ?_
        refine yi_G_put (66, [(1, .inl (I 88 53)), (0, .inr (.inr (some 82))), (2, .inl ki)], [], ((yi_u I8 82 7 ((I8 82 7) + 1)), L10, X), 0, 0) rfl (ym_pi hS rfl rfl) ?_
        generalize w15 : yi_u I8 82 7 ((I8 82 7) + 1) = I14
        refine yi_G_run 1 (67, [(1, .inl (I 88 53)), (0, .inr (.inr (some 82))), (2, .inl ki)], [.inr (.inr (some 82))], (I14, L10, X), 0, 0) (fun _ => rfl) ?_
        refine yi_G_get (70, [(1, .inl (I 88 53)), (0, .inr (.inr (some 82))), (2, .inl ki)], [.inr (.inr (some 88))], (I14, L10, X), 0, 0) rfl (ym_gr hS 5 rfl rfl rfl) ?_
        refine yi_G_run 3 (74, [(1, .inl (I 88 53)), (0, .inr (.inr (some 82))), (2, .inl ki)], [.inl (I 88 53), .inl 2, .inl 61, .inr (.inr (some 88))], (I14, L10, X), 0, 0) (fun _ => rfl) ?_
        refine yi_G_imul rfl (2 * (I 88 53)) (yi_wn (by omega) (by omega)) ?_
        refine yi_G_iadd rfl (61 + (2 * (I 88 53))) (yi_wn (by omega) (by omega)) ?_
        refine yi_G_run 1 (77, [(1, .inl (I 88 53)), (0, .inr (.inr (some 82))), (2, .inl ki)], [.inl ki, .inl (61 + (2 * (I 88 53))), .inr (.inr (some 88))], (I14, L10, X), 0, 0) (fun _ => rfl) ?_
        refine yi_G_iast (78, [(1, .inl (I 88 53)), (0, .inr (.inr (some 82))), (2, .inl ki)], [], ((yi_u I14 88 ((61 + (2 * (I 88 53))).toNat) ki), L10, X), 0, 0) rfl (ym_si hS 5 rfl (by omega) (by omega)) ?_
        generalize w17 : yi_u I14 88 ((61 + (2 * (I 88 53))).toNat) ki = I16
        refine yi_G_run 1 (79, [(1, .inl (I 88 53)), (0, .inr (.inr (some 82))), (2, .inl ki)], [.inr (.inr (some 82))], (I16, L10, X), 0, 0) (fun _ => rfl) ?_
        refine yi_G_get (82, [(1, .inl (I 88 53)), (0, .inr (.inr (some 82))), (2, .inl ki)], [.inr (.inr (some 88))], (I16, L10, X), 0, 0) rfl (ym_gr hS 5 rfl rfl rfl) ?_
        refine yi_G_run 3 (86, [(1, .inl (I 88 53)), (0, .inr (.inr (some 82))), (2, .inl ki)], [.inl (I 88 53), .inl 2, .inl 61, .inr (.inr (some 88))], (I16, L10, X), 0, 0) (fun _ => rfl) ?_
        refine yi_G_imul rfl (2 * (I 88 53)) (yi_wn (by omega) (by omega)) ?_
        refine yi_G_iadd rfl (61 + (2 * (I 88 53))) (yi_wn (by omega) (by omega)) ?_
        refine yi_G_run 1 (89, [(1, .inl (I 88 53)), (0, .inr (.inr (some 82))), (2, .inl ki)], [.inl 1, .inl (61 + (2 * (I 88 53))), .inr (.inr (some 88))], (I16, L10, X), 0, 0) (fun _ => rfl) ?_
        refine yi_G_iadd rfl ((61 + (2 * (I 88 53))) + 1) (yi_wn (by omega) (by omega)) ?_
        refine yi_G_run 4 (96, [(1, .inl (I 88 53)), (0, .inr (.inr (some 82))), (2, .inl ki)], [.inl 999, .inl 0, .inl 5, .inr (.inr (some 82)), .inl ((61 + (2 * (I 88 53))) + 1), .inr (.inr (some 88))], (I16, L10, X), 0, 0) (fun _ => rfl) ?_
        have r18 : I16 82 7 = (I8 82 7) + 1 := by rw [← w17, yi_u_ne _ _ (by omega), ← w15, yi_u_eq]
        have r19 : I16 82 8 = I8 82 8 := by rw [← w17, yi_u_ne _ _ (by omega), ← w15, yi_u_ne _ _ (by omega)]
        refine yi_G_callv rfl rfl (ym_rcv hS) rfl (c_takeAfter d (by omega) hS ⟨by omega, by omega⟩ (by omega) (by omega) (ym_TK_t (fun k => by rw [← w17, yi_u_ne _ _ (fun z => absurd z.1 (by decide)), ← w15, yi_u_ne _ _ (fun z => absurd z.1 (by decide)), f9 84 k (by omega)]) (fun k => by rw [← w17, yi_u_ne _ _ (fun z => absurd z.1 (by decide)), ← w15, yi_u_ne _ _ (fun z => absurd z.1 (by decide)), f9 85 k (by omega)]) hT) ⟨by omega, by omega⟩ (by omega)) ?_
        rintro _ ⟨z22, I20, rfl, f21, h23a, h23b, h23c⟩
        show yi_G zi_Ms d zi_m103 (99, [(1, .inl (I 88 53)), (0, .inr (.inr (some 82))), (2, .inl ki)], [.inl z22, .inl ((61 + (2 * (I 88 53))) + 1), .inr (.inr (some 88))], (I20, L10, X), 0, 0) _
        refine yi_G_iast (100, [(1, .inl (I 88 53)), (0, .inr (.inr (some 82))), (2, .inl ki)], [], ((yi_u I20 88 (((61 + (2 * (I 88 53))) + 1).toNat) z22), L10, X), 0, 0) rfl (ym_si hS 5 rfl (by omega) (by omega)) ?_
        generalize w25 : yi_u I20 88 (((61 + (2 * (I 88 53))) + 1).toNat) z22 = I24
        refine yi_G_run 1 (101, [(1, .inl (I 88 53)), (0, .inr (.inr (some 82))), (2, .inl ki)], [.inr (.inr (some 82))], (I24, L10, X), 0, 0) (fun _ => rfl) ?_
        refine yi_G_get (104, [(1, .inl (I 88 53)), (0, .inr (.inr (some 82))), (2, .inl ki)], [.inr (.inr (some 88))], (I24, L10, X), 0, 0) rfl (ym_gr hS 5 rfl rfl rfl) ?_
        refine yi_G_run 2 (107, [(1, .inl (I 88 53)), (0, .inr (.inr (some 82))), (2, .inl ki)], [.inl 53, .inr (.inr (some 88)), .inl 53, .inr (.inr (some 88))], (I24, L10, X), 0, 0) (fun _ => rfl) ?_
        have r26 : I24 88 53 = I 88 53 := by rw [← w25, yi_u_ne _ _ (by omega), f21 88 (53) (by omega), ← w17, yi_u_ne _ _ (by omega), ← w15, yi_u_ne _ _ (by omega), f9 88 (53) (by omega)]
        refine yi_G_iald (108, [(1, .inl (I 88 53)), (0, .inr (.inr (some 82))), (2, .inl ki)], [.inl (I 88 53), .inl 53, .inr (.inr (some 88))], (I24, L10, X), 0, 0) rfl (ym_li hS 5 rfl (by omega) (by omega) r26) ?_
        refine yi_G_run 1 (109, [(1, .inl (I 88 53)), (0, .inr (.inr (some 82))), (2, .inl ki)], [.inl 1, .inl (I 88 53), .inl 53, .inr (.inr (some 88))], (I24, L10, X), 0, 0) (fun _ => rfl) ?_
        refine yi_G_iadd rfl ((I 88 53) + 1) (yi_wn (by omega) (by omega)) ?_
        refine yi_G_iast (111, [(1, .inl (I 88 53)), (0, .inr (.inr (some 82))), (2, .inl ki)], [], ((yi_u I24 88 53 ((I 88 53) + 1)), L10, X), 0, 0) rfl (ym_si hS 5 rfl (by omega) (by omega)) ?_
        generalize w28 : yi_u I24 88 53 ((I 88 53) + 1) = I27
        have r29 : I27 82 7 = I20 82 7 := by rw [← w28, yi_u_ne _ _ (by omega), ← w25, yi_u_ne _ _ (by omega)]
        have r30 : I27 82 8 = I20 82 8 := by rw [← w28, yi_u_ne _ _ (by omega), ← w25, yi_u_ne _ _ (by omega)]
        have r31 : I27 82 13 = I 82 13 := by rw [← w28, yi_u_ne _ _ (by omega), ← w25, yi_u_ne _ _ (by omega), f21 82 (13) (by omega), ← w17, yi_u_ne _ _ (by omega), ← w15, yi_u_ne _ _ (by omega), f9 82 (13) (by omega)]
        have r32 : I27 82 19 = I8 82 19 := by rw [← w28, yi_u_ne _ _ (by omega), ← w25, yi_u_ne _ _ (by omega), f21 82 (19) (by omega), ← w17, yi_u_ne _ _ (by omega), ← w15, yi_u_ne _ _ (by omega)]
        have r33 : I27 88 50 = I 88 50 := by rw [← w28, yi_u_ne _ _ (by omega), ← w25, yi_u_ne _ _ (by omega), f21 88 (50) (by omega), ← w17, yi_u_ne _ _ (by omega), ← w15, yi_u_ne _ _ (by omega), f9 88 (50) (by omega)]
        have r34 : I27 88 51 = I 88 51 := by rw [← w28, yi_u_ne _ _ (by omega), ← w25, yi_u_ne _ _ (by omega), f21 88 (51) (by omega), ← w17, yi_u_ne _ _ (by omega), ← w15, yi_u_ne _ _ (by omega), f9 88 (51) (by omega)]
        have r35 : I27 88 52 = I 88 52 := by rw [← w28, yi_u_ne _ _ (by omega), ← w25, yi_u_ne _ _ (by omega), f21 88 (52) (by omega), ← w17, yi_u_ne _ _ (by omega), ← w15, yi_u_ne _ _ (by omega), f9 88 (52) (by omega)]
        have r36 : I27 88 53 = (I 88 53) + 1 := by rw [← w28, yi_u_eq]
        have r37 : I27 88 54 = I 88 54 := by rw [← w28, yi_u_ne _ _ (by omega), ← w25, yi_u_ne _ _ (by omega), f21 88 (54) (by omega), ← w17, yi_u_ne _ _ (by omega), ← w15, yi_u_ne _ _ (by omega), f9 88 (54) (by omega)]
        have r38 : I27 88 55 = I 88 55 := by rw [← w28, yi_u_ne _ _ (by omega), ← w25, yi_u_ne _ _ (by omega), f21 88 (55) (by omega), ← w17, yi_u_ne _ _ (by omega), ← w15, yi_u_ne _ _ (by omega), f9 88 (55) (by omega)]
        have r39 : I27 88 56 = I 88 56 := by rw [← w28, yi_u_ne _ _ (by omega), ← w25, yi_u_ne _ _ (by omega), f21 88 (56) (by omega), ← w17, yi_u_ne _ _ (by omega), ← w15, yi_u_ne _ _ (by omega), f9 88 (56) (by omega)]
        exact yi_G_retv rfl rfl (⟨_, _, rfl, (fun p k hp => by rw [← w28, yi_u_ne _ _ (fun z => by omega), ← w25, yi_u_ne _ _ (fun z => by omega), f21 p k (by omega), ← w17, yi_u_ne _ _ (fun z => by omega), ← w15, yi_u_ne _ _ (fun z => by omega), f9 p k (by omega)]), (fun p k hp => by rw [f11 p k (by omega)]), by omega, ⟨by omega, by omega⟩, by omega, ⟨by omega, by omega⟩, ⟨by omega, by omega⟩, by omega, (ym_LW_f (ym_LW_r _ _) (fun k => by rw [← w28, yi_u_ne _ _ (fun z => absurd z.1 (by decide)), ← w25, yi_u_ne _ _ (fun z => absurd z.1 (by decide)), f21 89 k (by omega), ← w17, yi_u_ne _ _ (fun z => absurd z.1 (by decide)), ← w15, yi_u_ne _ _ (fun z => absurd z.1 (by decide)), f9 89 k (by omega)]) (fun k => by rw [← w28, yi_u_ne _ _ (fun z => absurd z.1 (by decide)), ← w25, yi_u_ne _ _ (fun z => absurd z.1 (by decide)), f21 90 k (by omega), ← w17, yi_u_ne _ _ (fun z => absurd z.1 (by decide)), ← w15, yi_u_ne _ _ (fun z => absurd z.1 (by decide)), f9 90 k (by omega)])), (fun k hk => by rw [← w28, yi_u_ne _ _ (by omega), ← w25, yi_u_ne _ _ (by omega), f21 88 k (by omega), ← w17, yi_u_ne _ _ (by omega), ← w15, yi_u_ne _ _ (by omega), f9 88 k (by omega)]), fun zz => ⟨⟨⟨by omega, by omega⟩, ⟨by omega, by omega⟩, ⟨by omega, by omega⟩, ⟨by omega, by omega⟩, ⟨by omega, by omega⟩, ⟨by omega, by omega⟩, by omega, by rw [r33, r34, r35]; omega⟩, ym_LP_t hLP (ym_LW_f (ym_LW_r _ _) (fun k => by rw [← w28, yi_u_ne _ _ (fun z => absurd z.1 (by decide)), ← w25, yi_u_ne _ _ (fun z => absurd z.1 (by decide)), f21 89 k (by omega), ← w17, yi_u_ne _ _ (fun z => absurd z.1 (by decide)), ← w15, yi_u_ne _ _ (fun z => absurd z.1 (by decide)), f9 89 k (by omega)]) (fun k => by rw [← w28, yi_u_ne _ _ (fun z => absurd z.1 (by decide)), ← w25, yi_u_ne _ _ (fun z => absurd z.1 (by decide)), f21 90 k (by omega), ← w17, yi_u_ne _ _ (fun z => absurd z.1 (by decide)), ← w15, yi_u_ne _ _ (fun z => absurd z.1 (by decide)), f9 90 k (by omega)])) (by omega) (by omega) (by omega) r37 r38 r39 (fun k a b => by rw [← w28, yi_u_ne _ _ (by omega), ← w25, yi_u_ne _ _ (by omega), f21 88 k (by omega), ← w17, yi_u_ne _ _ (by omega), ← w15, yi_u_ne _ _ (by omega), f9 88 k (by omega)])⟩⟩)
      · refine yi_G_if1 false rfl (yi_ge_f h13) ?_
        refine yi_G_run 2 (52, [(1, .inl (I 88 53)), (0, .inr (.inr (some 82))), (2, .inl ki)], [.inl 1, .inr (.inr (some 82))], (I8, L10, X), 0, 0) (fun _ => rfl) ?_
        refine yi_G_callv rfl rfl (ym_rcv hS) rfl (c_wrong d (by omega) hS ⟨by omega, by omega⟩ (ym_TK_t (fun k => by rw [f9 84 k (by omega)]) (fun k => by rw [f9 85 k (by omega)]) hT) ⟨by omega, by omega⟩ (by omega)) ?_
        rintro _ ⟨I40, rfl, f41, h42⟩
        show yi_G zi_Ms d zi_m103 (55, [(1, .inl (I 88 53)), (0, .inr (.inr (some 82))), (2, .inl ki)], [], (I40, L10, X), 0, 0) _
        have r43 : I40 82 7 = I8 82 7 := by rw [f41 82 (7) (by omega)]
        have r44 : I40 82 13 = I 82 13 := by rw [f41 82 (13) (by omega), f9 82 (13) (by omega)]
        have r45 : I40 82 19 = I8 82 19 := by rw [f41 82 (19) (by omega)]
        exact yi_G_retv rfl rfl (⟨_, _, rfl, (fun p k hp => by rw [f41 p k (by omega), f9 p k (by omega)]), (fun p k hp => by rw [f11 p k (by omega)]), by omega, ⟨by omega, by omega⟩, by omega, ⟨by omega, by omega⟩, ⟨by omega, by omega⟩, by omega, (ym_LW_f (ym_LW_r _ _) (fun k => by rw [f41 89 k (by omega), f9 89 k (by omega)]) (fun k => by rw [f41 90 k (by omega), f9 90 k (by omega)])), (fun k hk => by rw [f41 88 k (by omega), f9 88 k (by omega)]), fun zz => absurd zz (by omega)⟩)
    refine yi_G_run 1 (28, [(1, .inl (I 88 53)), (0, .inr (.inr (some 82)))], [.inr (.inr (some 82))], (I8, L10, X), 0, 0) (fun _ => rfl) ?_
    refine yi_G_get (31, [(1, .inl (I 88 53)), (0, .inr (.inr (some 82)))], [.inl (I8 82 8)], (I8, L10, X), 0, 0) rfl (ym_gi hS rfl rfl rfl) ?_
    by_cases h46 : (I8 82 8) ≤ 0
    · refine yi_G_if1 true rfl (yi_le_t h46) ?_
      refine yi_G_run 3 (42, [(1, .inl (I 88 53)), (0, .inr (.inr (some 82)))], [.inl 5, .inl 21, .inr (.inr (some 82))], (I8, L10, X), 0, 0) (fun _ => rfl) ?_
      refine yi_G_callv rfl rfl (ym_rcv hS) rfl (c_wordHere d (by omega) hS ⟨by omega, by omega⟩ ⟨by omega, by omega⟩ (ym_TK_t (fun k => by rw [f9 84 k (by omega)]) (fun k => by rw [f9 85 k (by omega)]) hT) ⟨by omega, by omega⟩) ?_
      rintro _ ⟨z47, rfl, h48⟩
      show yi_G zi_Ms d zi_m103 (45, [(1, .inl (I 88 53)), (0, .inr (.inr (some 82)))], [.inl z47], (I8, L10, X), 0, 0) _
      refine yi_G_run 1 (46, [(2, .inl z47), (1, .inl (I 88 53)), (0, .inr (.inr (some 82)))], [], (I8, L10, X), 0, 0) (fun _ => rfl) ?_
      refine yi_G_al (al := [(1, .inl (I 88 53)), (0, .inr (.inr (some 82))), (2, .inl z47)]) (show ([1, 0, 2] : List Nat).Nodup by decide) (show ([2, 1, 0] : List Nat).Nodup by decide) (yi_mc (List.mem_of_getElem? (i := 1) rfl) (yi_mc (List.mem_of_getElem? (i := 2) rfl) (yi_mc (List.mem_of_getElem? (i := 0) rfl) yi_mn))) ?_
      exact pt46 z47 (by omega)
    · refine yi_G_if1 false rfl (yi_le_f h46) ?_
      refine yi_G_run 3 (46, [(2, .inl (-1)), (1, .inl (I 88 53)), (0, .inr (.inr (some 82)))], [], (I8, L10, X), 0, 0) (fun _ => rfl) ?_
      refine yi_G_al (al := [(1, .inl (I 88 53)), (0, .inr (.inr (some 82))), (2, .inl (-1))]) (show ([1, 0, 2] : List Nat).Nodup by decide) (show ([2, 1, 0] : List Nat).Nodup by decide) (yi_mc (List.mem_of_getElem? (i := 1) rfl) (yi_mc (List.mem_of_getElem? (i := 2) rfl) (yi_mc (List.mem_of_getElem? (i := 0) rfl) yi_mn))) ?_
      exact pt46 (-1) (by omega)
theorem c_readLaw (D : Nat) (hD : 26 ≤ D) {I L : Nat → Nat → Int} {X : ym_X} (hS : ym_S X) {te : Int} (hT : ym_TK I te) (a0 : 0 ≤ I 82 7 ∧ I 82 7 ≤ te) (lt : I 82 7 < te) (f0 : I 82 8 = 0) (n0 : 0 ≤ I 82 18 ∧ I 82 18 ≤ 13) (hLD : ym_LD I) (hLP : ym_LP I) (k0 : 0 ≤ I 82 13 ∧ I 82 13 ≤ I 82 7) (rf : I 82 20 = 50) : yi_E zi_Ms D 98 [.inr (.inr (some 82))] (I, L, X) (fun r => ∃ I' L', r = (none, (I', L', X), 0, 0) ∧ (∀ p k, ¬ (p = 82 ∧ k = 7) ∧ ¬ (p = 82 ∧ k = 8) ∧ ¬ (p = 82 ∧ k = 13) ∧ ¬ (p = 82 ∧ k = 19) ∧ p ≠ 94 ∧ p ≠ 88 ∧ p ≠ 89 ∧ p ≠ 90 → I' p k = I p k) ∧ (∀ p k, p ≠ 92 → L' p k = L p k) ∧ (I 82 7 < I' 82 7 ∨ 0 < I' 82 8) ∧ (I 82 7 ≤ I' 82 7 ∧ I' 82 7 ≤ te) ∧ 0 ≤ I' 82 8 ∧ (0 ≤ I' 82 19 ∧ I' 82 19 ≤ 13) ∧ (I 82 13 ≤ I' 82 13 ∧ I' 82 13 ≤ I' 82 7 + 2) ∧ (I' 82 8 = 0 → I' 82 13 ≤ I' 82 7) ∧ ym_LW I I' (I 82 13) ∧ (∀ k : Nat, k < 50 → I' 88 k = I 88 k) ∧ (I' 82 8 = 0 → ym_LD I' ∧ ym_LP I')) := by
  obtain ⟨d, rfl⟩ : ∃ d, D = d + 1 := ⟨D - 1, by omega⟩
  refine yi_E_of (M := zi_m98) rfl rfl ?_
  obtain ⟨te0, te1, te2⟩ := id hT
  obtain ⟨g0, g1, g2, g3, g4, g5, g6, g7⟩ := id hLD
  have n1 : 0 ≤ I 82 19 ∧ I 82 19 ≤ 13 := by omega
  show yi_G zi_Ms d zi_m98 (0, [(0, .inr (.inr (some 82)))], [], (I, L, X), 0, 0) _
  refine yi_G_run 1 (1, [(0, .inr (.inr (some 82)))], [.inr (.inr (some 82))], (I, L, X), 0, 0) (fun _ => rfl) ?_
  refine yi_G_get (4, [(0, .inr (.inr (some 82)))], [.inr (.inr (some 88))], (I, L, X), 0, 0) rfl (ym_gr hS 5 rfl rfl rfl) ?_
  refine yi_G_run 1 (6, [(0, .inr (.inr (some 82)))], [.inl 54, .inr (.inr (some 88))], (I, L, X), 0, 0) (fun _ => rfl) ?_
  refine yi_G_iald (7, [(0, .inr (.inr (some 82)))], [.inl (I 88 54)], (I, L, X), 0, 0) rfl (ym_li hS 5 rfl (by omega) (by omega) rfl) ?_
  refine yi_G_run 3 (10, [(1, .inl (I 88 54)), (0, .inr (.inr (some 82)))], [.inl 4, .inl (I 88 54)], (I, L, X), 0, 0) (fun _ => rfl) ?_
  by_cases h1 : (I 88 54) = 4
  · refine yi_G_if2 false rfl (yi_ne_f h1) ?_
    refine yi_G_run 2 (15, [(1, .inl (I 88 54)), (0, .inr (.inr (some 82)))], [.inl 5, .inr (.inr (some 82))], (I, L, X), 0, 0) (fun _ => rfl) ?_
    refine yi_G_callv rfl rfl (ym_rcv hS) rfl (c_wrong d (by omega) hS ⟨by omega, by omega⟩ hT ⟨by omega, by omega⟩ (by omega)) ?_
    rintro _ ⟨I2, rfl, f3, h4⟩
    show yi_G zi_Ms d zi_m98 (18, [(1, .inl (I 88 54)), (0, .inr (.inr (some 82)))], [], (I2, L, X), 0, 0) _
    have r5 : I2 82 7 = I 82 7 := by rw [f3 82 (7) (by omega)]
    have r6 : I2 82 13 = I 82 13 := by rw [f3 82 (13) (by omega)]
    have r7 : I2 82 19 = I 82 19 := by rw [f3 82 (19) (by omega)]
    exact yi_G_retv rfl rfl (⟨_, _, rfl, (fun p k hp => by rw [f3 p k (by omega)]), (fun _ _ _ => rfl), by omega, ⟨by omega, by omega⟩, by omega, ⟨by omega, by omega⟩, ⟨by omega, by omega⟩, by omega, (ym_LW_f (ym_LW_r _ _) (fun k => by rw [f3 89 k (by omega)]) (fun k => by rw [f3 90 k (by omega)])), (fun k hk => by rw [f3 88 k (by omega)]), fun zz => absurd zz (by omega)⟩)
  · refine yi_G_if2 true rfl (yi_ne_t h1) ?_
    refine yi_G_run 2 (21, [(1, .inl (I 88 54)), (0, .inr (.inr (some 82)))], [.inr (.inr (some 82)), .inr (.inr (some 82))], (I, L, X), 0, 0) (fun _ => rfl) ?_
    refine yi_G_get (24, [(1, .inl (I 88 54)), (0, .inr (.inr (some 82)))], [.inl (I 82 7), .inr (.inr (some 82))], (I, L, X), 0, 0) rfl (ym_gi hS rfl rfl rfl) ?_
    refine yi_G_run 1 (25, [(1, .inl (I 88 54)), (0, .inr (.inr (some 82)))], [.inl 1, .inl (I 82 7), .inr (.inr (some 82))], (I, L, X), 0, 0) (fun _ => rfl) ?_
    refine yi_G_iadd rfl ((I 82 7) + 1) (yi_wn (by omega) (by omega)) ?_
    refine yi_G_put (29, [(1, .inl (I 88 54)), (0, .inr (.inr (some 82)))], [], ((yi_u I 82 7 ((I 82 7) + 1)), L, X), 0, 0) rfl (ym_pi hS rfl rfl) ?_
    generalize w9 : yi_u I 82 7 ((I 82 7) + 1) = I8
    refine yi_G_run 1 (30, [(1, .inl (I 88 54)), (0, .inr (.inr (some 82)))], [.inr (.inr (some 82))], (I8, L, X), 0, 0) (fun _ => rfl) ?_
    refine yi_G_get (33, [(1, .inl (I 88 54)), (0, .inr (.inr (some 82)))], [.inr (.inr (some 88))], (I8, L, X), 0, 0) rfl (ym_gr hS 5 rfl rfl rfl) ?_
    refine yi_G_run 2 (36, [(1, .inl (I 88 54)), (0, .inr (.inr (some 82)))], [.inl (I 88 54), .inl 71, .inr (.inr (some 88))], (I8, L, X), 0, 0) (fun _ => rfl) ?_
    refine yi_G_iadd rfl (71 + (I 88 54)) (yi_wn (by omega) (by omega)) ?_
    refine yi_G_run 1 (38, [(1, .inl (I 88 54)), (0, .inr (.inr (some 82)))], [.inr (.inr (some 82)), .inl (71 + (I 88 54)), .inr (.inr (some 88))], (I8, L, X), 0, 0) (fun _ => rfl) ?_
    have r10 : I8 82 13 = I 82 13 := by rw [← w9, yi_u_ne _ _ (by omega)]
    refine yi_G_get (41, [(1, .inl (I 88 54)), (0, .inr (.inr (some 82)))], [.inl (I 82 13), .inl (71 + (I 88 54)), .inr (.inr (some 88))], (I8, L, X), 0, 0) rfl (ym_gi hS rfl rfl r10) ?_
    refine yi_G_iast (42, [(1, .inl (I 88 54)), (0, .inr (.inr (some 82)))], [], ((yi_u I8 88 ((71 + (I 88 54)).toNat) (I 82 13)), L, X), 0, 0) rfl (ym_si hS 5 rfl (by omega) (by omega)) ?_
    generalize w12 : yi_u I8 88 ((71 + (I 88 54)).toNat) (I 82 13) = I11
    refine yi_G_run 2 (44, [(1, .inl (I 88 54)), (0, .inr (.inr (some 82)))], [.inl 0, .inr (.inr (some 82))], (I11, L, X), 0, 0) (fun _ => rfl) ?_
    have r13 : I11 82 13 = I 82 13 := by rw [← w12, yi_u_ne _ _ (by omega), ← w9, yi_u_ne _ _ (by omega)]
    have r14 : I11 82 18 = I 82 18 := by rw [← w12, yi_u_ne _ _ (by omega), ← w9, yi_u_ne _ _ (by omega)]
    have r15 : I11 82 19 = I 82 19 := by rw [← w12, yi_u_ne _ _ (by omega), ← w9, yi_u_ne _ _ (by omega)]
    have r16 : I11 82 7 = (I 82 7) + 1 := by rw [← w12, yi_u_ne _ _ (by omega), ← w9, yi_u_eq]
    have r17 : I11 82 8 = I 82 8 := by rw [← w12, yi_u_ne _ _ (by omega), ← w9, yi_u_ne _ _ (by omega)]
    have r18 : I11 82 20 = I 82 20 := by rw [← w12, yi_u_ne _ _ (by omega), ← w9, yi_u_ne _ _ (by omega)]
    have r19 : I11 88 50 = I 88 50 := by rw [← w12, yi_u_ne _ _ (by omega), ← w9, yi_u_ne _ _ (by omega)]
    refine yi_G_callv rfl rfl (ym_rcv hS) rfl (c_formula0 hS d (by omega) I11 L te (I 82 13) (ym_TK_t (fun k => by rw [← w12, yi_u_ne _ _ (fun z => absurd z.1 (by decide)), ← w9, yi_u_ne _ _ (fun z => absurd z.1 (by decide))]) (fun k => by rw [← w12, yi_u_ne _ _ (fun z => absurd z.1 (by decide)), ← w9, yi_u_ne _ _ (fun z => absurd z.1 (by decide))]) hT) ⟨by omega, by omega⟩ (by omega) ⟨(by rw [r14]; omega), (by rw [r14]; omega)⟩ ⟨(by rw [r15]; omega), (by rw [r15]; omega)⟩ (ym_DY_50 (by rw [r18]; exact rf) (by omega)) r13 ⟨by omega, by omega⟩) ?_
    rintro _ ⟨I20, rfl, f21, h22a, h22b, h22c, h22d, lwI20, sgI20⟩
    show yi_G zi_Ms d zi_m98 (47, [(1, .inl (I 88 54)), (0, .inr (.inr (some 82)))], [], (I20, L, X), 0, 0) _
    refine yi_G_run 3 (50, [(1, .inl (I 88 54)), (0, .inr (.inr (some 82)))], [.inl 0, .inl 0, .inr (.inr (some 82))], (I20, L, X), 0, 0) (fun _ => rfl) ?_
    refine yi_G_callv rfl rfl (ym_rcv hS) rfl (c_emit d (by omega) hS rfl ⟨by omega, by omega⟩) ?_
    rintro _ ⟨I23, rfl, f24, eI23, emI23⟩
    show yi_G zi_Ms d zi_m98 (53, [(1, .inl (I 88 54)), (0, .inr (.inr (some 82)))], [], (I23, L, X), 0, 0) _
    refine yi_G_run 1 (54, [(1, .inl (I 88 54)), (0, .inr (.inr (some 82)))], [.inr (.inr (some 82))], (I23, L, X), 0, 0) (fun _ => rfl) ?_
    refine yi_G_get (57, [(1, .inl (I 88 54)), (0, .inr (.inr (some 82)))], [.inr (.inr (some 88))], (I23, L, X), 0, 0) rfl (ym_gr hS 5 rfl rfl rfl) ?_
    refine yi_G_run 2 (60, [(1, .inl (I 88 54)), (0, .inr (.inr (some 82)))], [.inl 54, .inr (.inr (some 88)), .inl 54, .inr (.inr (some 88))], (I23, L, X), 0, 0) (fun _ => rfl) ?_
    have r25 : I23 88 54 = I 88 54 := by rw [f24 88 (54) (by omega), f21 88 (54) (by omega), ← w12, yi_u_ne _ _ (by omega), ← w9, yi_u_ne _ _ (by omega)]
    refine yi_G_iald (61, [(1, .inl (I 88 54)), (0, .inr (.inr (some 82)))], [.inl (I 88 54), .inl 54, .inr (.inr (some 88))], (I23, L, X), 0, 0) rfl (ym_li hS 5 rfl (by omega) (by omega) r25) ?_
    refine yi_G_run 1 (62, [(1, .inl (I 88 54)), (0, .inr (.inr (some 82)))], [.inl 1, .inl (I 88 54), .inl 54, .inr (.inr (some 88))], (I23, L, X), 0, 0) (fun _ => rfl) ?_
    refine yi_G_iadd rfl ((I 88 54) + 1) (yi_wn (by omega) (by omega)) ?_
    refine yi_G_iast (64, [(1, .inl (I 88 54)), (0, .inr (.inr (some 82)))], [], ((yi_u I23 88 54 ((I 88 54) + 1)), L, X), 0, 0) rfl (ym_si hS 5 rfl (by omega) (by omega)) ?_
    generalize w27 : yi_u I23 88 54 ((I 88 54) + 1) = I26
    have r28 : I26 82 7 = I20 82 7 := by rw [← w27, yi_u_ne _ _ (by omega), f24 82 (7) (by omega)]
    have r29 : I26 82 8 = I20 82 8 := by rw [← w27, yi_u_ne _ _ (by omega), f24 82 (8) (by omega)]
    have r30 : I26 82 13 = I23 82 13 := by rw [← w27, yi_u_ne _ _ (by omega)]
    have r31 : I26 82 19 = I 82 19 := by rw [← w27, yi_u_ne _ _ (by omega), f24 82 (19) (by omega), f21 82 (19) (by omega), ← w12, yi_u_ne _ _ (by omega), ← w9, yi_u_ne _ _ (by omega)]
    have r32 : I26 88 50 = I 88 50 := by rw [← w27, yi_u_ne _ _ (by omega), f24 88 (50) (by omega), f21 88 (50) (by omega), ← w12, yi_u_ne _ _ (by omega), ← w9, yi_u_ne _ _ (by omega)]
    have r33 : I26 88 51 = I 88 51 := by rw [← w27, yi_u_ne _ _ (by omega), f24 88 (51) (by omega), f21 88 (51) (by omega), ← w12, yi_u_ne _ _ (by omega), ← w9, yi_u_ne _ _ (by omega)]
    have r34 : I26 88 52 = I 88 52 := by rw [← w27, yi_u_ne _ _ (by omega), f24 88 (52) (by omega), f21 88 (52) (by omega), ← w12, yi_u_ne _ _ (by omega), ← w9, yi_u_ne _ _ (by omega)]
    have r35 : I26 88 53 = I 88 53 := by rw [← w27, yi_u_ne _ _ (by omega), f24 88 (53) (by omega), f21 88 (53) (by omega), ← w12, yi_u_ne _ _ (by omega), ← w9, yi_u_ne _ _ (by omega)]
    have r36 : I26 88 54 = (I 88 54) + 1 := by rw [← w27, yi_u_eq]
    have r37 : I26 88 55 = I 88 55 := by rw [← w27, yi_u_ne _ _ (by omega), f24 88 (55) (by omega), f21 88 (55) (by omega), ← w12, yi_u_ne _ _ (by omega), ← w9, yi_u_ne _ _ (by omega)]
    have r38 : I26 88 56 = I 88 56 := by rw [← w27, yi_u_ne _ _ (by omega), f24 88 (56) (by omega), f21 88 (56) (by omega), ← w12, yi_u_ne _ _ (by omega), ← w9, yi_u_ne _ _ (by omega)]
    have r39 : I26 88 ((71 + (I 88 54)).toNat) = I 82 13 := by rw [← w27, yi_u_ne _ _ (by omega), f24 88 ((71 + (I 88 54)).toNat) (by omega), f21 88 ((71 + (I 88 54)).toNat) (by omega), ← w12, yi_u_eq]
    exact yi_G_retv rfl rfl (⟨_, _, rfl, (fun p k hp => by rw [← w27, yi_u_ne _ _ (fun z => by omega), f24 p k (by omega), f21 p k (by omega), ← w12, yi_u_ne _ _ (fun z => by omega), ← w9, yi_u_ne _ _ (fun z => by omega)]), (fun _ _ _ => rfl), by omega, ⟨by omega, by omega⟩, by omega, ⟨by omega, by omega⟩, ⟨by omega, by omega⟩, by omega, (ym_LW_f (ym_LW_t (ym_LW_g lwI20 (fun k => by rw [← w12, yi_u_ne _ _ (fun z => absurd z.1 (by decide)), ← w9, yi_u_ne _ _ (fun z => absurd z.1 (by decide))]) (fun k => by rw [← w12, yi_u_ne _ _ (fun z => absurd z.1 (by decide)), ← w9, yi_u_ne _ _ (fun z => absurd z.1 (by decide))])) (ym_LW_e (n := I 82 13) emI23 (by omega) (by omega)) (Int.le_refl _)) (fun k => by rw [← w27, yi_u_ne _ _ (fun z => absurd z.1 (by decide))]) (fun k => by rw [← w27, yi_u_ne _ _ (fun z => absurd z.1 (by decide))])), (fun k hk => by rw [← w27, yi_u_ne _ _ (by omega), f24 88 k (by omega), f21 88 k (by omega), ← w12, yi_u_ne _ _ (by omega), ← w9, yi_u_ne _ _ (by omega)]), fun zz => ⟨⟨⟨by omega, by omega⟩, ⟨by omega, by omega⟩, ⟨by omega, by omega⟩, ⟨by omega, by omega⟩, ⟨by omega, by omega⟩, ⟨by omega, by omega⟩, by omega, by rw [r32, r33, r34]; omega⟩, ym_LP_l hLP (ym_LW_f (ym_LW_t (ym_LW_g lwI20 (fun k => by rw [← w12, yi_u_ne _ _ (fun z => absurd z.1 (by decide)), ← w9, yi_u_ne _ _ (fun z => absurd z.1 (by decide))]) (fun k => by rw [← w12, yi_u_ne _ _ (fun z => absurd z.1 (by decide)), ← w9, yi_u_ne _ _ (fun z => absurd z.1 (by decide))])) (ym_LW_e (n := I 82 13) emI23 (by omega) (by omega)) (Int.le_refl _)) (fun k => by rw [← w27, yi_u_ne _ _ (fun z => absurd z.1 (by decide))]) (fun k => by rw [← w27, yi_u_ne _ _ (fun z => absurd z.1 (by decide))])) (by omega) ⟨by omega, by omega⟩ (by omega) r36 r37 r38 (fun k a b c => by rw [← w27, yi_u_ne _ _ (by omega), f24 88 k (by omega), f21 88 k (by omega), ← w12, yi_u_ne _ _ (by omega), ← w9, yi_u_ne _ _ (by omega)]) (by rw [r39]; exact (ym_QG_t (ym_QG_n (sgI20 (by omega)) emI23 eI23) (ym_LW_f (ym_LW_r _ _) (fun k => by rw [← w27, yi_u_ne _ _ (fun z => absurd z.1 (by decide))]) (fun k => by rw [← w27, yi_u_ne _ _ (fun z => absurd z.1 (by decide))])) (by omega)))⟩⟩)
theorem c_readWish (D : Nat) (hD : 26 ≤ D) {I L : Nat → Nat → Int} {X : ym_X} (hS : ym_S X) {te : Int} (hT : ym_TK I te) (a0 : 0 ≤ I 82 7 ∧ I 82 7 ≤ te) (lt : I 82 7 < te) (f0 : I 82 8 = 0) (n0 : 0 ≤ I 82 18 ∧ I 82 18 ≤ 13) (hLD : ym_LD I) (hLP : ym_LP I) (k0 : 0 ≤ I 82 13 ∧ I 82 13 ≤ I 82 7) (rf : I 82 20 = 50) : yi_E zi_Ms D 105 [.inr (.inr (some 82))] (I, L, X) (fun r => ∃ I' L', r = (none, (I', L', X), 0, 0) ∧ (∀ p k, ¬ (p = 82 ∧ k = 7) ∧ ¬ (p = 82 ∧ k = 8) ∧ ¬ (p = 82 ∧ k = 13) ∧ ¬ (p = 82 ∧ k = 19) ∧ p ≠ 94 ∧ p ≠ 88 ∧ p ≠ 89 ∧ p ≠ 90 → I' p k = I p k) ∧ (∀ p k, p ≠ 92 → L' p k = L p k) ∧ (I 82 7 < I' 82 7 ∨ 0 < I' 82 8) ∧ (I 82 7 ≤ I' 82 7 ∧ I' 82 7 ≤ te) ∧ 0 ≤ I' 82 8 ∧ (0 ≤ I' 82 19 ∧ I' 82 19 ≤ 13) ∧ (I 82 13 ≤ I' 82 13 ∧ I' 82 13 ≤ I' 82 7 + 2) ∧ (I' 82 8 = 0 → I' 82 13 ≤ I' 82 7) ∧ ym_LW I I' (I 82 13) ∧ (∀ k : Nat, k < 50 → I' 88 k = I 88 k) ∧ (I' 82 8 = 0 → ym_LD I' ∧ ym_LP I')) := by
  obtain ⟨d, rfl⟩ : ∃ d, D = d + 1 := ⟨D - 1, by omega⟩
  refine yi_E_of (M := zi_m105) rfl rfl ?_
  obtain ⟨te0, te1, te2⟩ := id hT
  obtain ⟨g0, g1, g2, g3, g4, g5, g6, g7⟩ := id hLD
  have n1 : 0 ≤ I 82 19 ∧ I 82 19 ≤ 13 := by omega
  show yi_G zi_Ms d zi_m105 (0, [(0, .inr (.inr (some 82)))], [], (I, L, X), 0, 0) _
  refine yi_G_run 1 (1, [(0, .inr (.inr (some 82)))], [.inr (.inr (some 82))], (I, L, X), 0, 0) (fun _ => rfl) ?_
  refine yi_G_get (4, [(0, .inr (.inr (some 82)))], [.inr (.inr (some 88))], (I, L, X), 0, 0) rfl (ym_gr hS 5 rfl rfl rfl) ?_
  refine yi_G_run 1 (6, [(0, .inr (.inr (some 82)))], [.inl 55, .inr (.inr (some 88))], (I, L, X), 0, 0) (fun _ => rfl) ?_
  refine yi_G_iald (7, [(0, .inr (.inr (some 82)))], [.inl (I 88 55)], (I, L, X), 0, 0) rfl (ym_li hS 5 rfl (by omega) (by omega) rfl) ?_
  refine yi_G_run 3 (11, [(1, .inl (I 88 55)), (0, .inr (.inr (some 82)))], [.inl 6, .inl (I 88 55)], (I, L, X), 0, 0) (fun _ => rfl) ?_
  by_cases h1 : (I 88 55) = 6
  · refine yi_G_if2 false rfl (yi_ne_f h1) ?_
    refine yi_G_run 2 (16, [(1, .inl (I 88 55)), (0, .inr (.inr (some 82)))], [.inl 5, .inr (.inr (some 82))], (I, L, X), 0, 0) (fun _ => rfl) ?_
    refine yi_G_callv rfl rfl (ym_rcv hS) rfl (c_wrong d (by omega) hS ⟨by omega, by omega⟩ hT ⟨by omega, by omega⟩ (by omega)) ?_
    rintro _ ⟨I2, rfl, f3, h4⟩
    show yi_G zi_Ms d zi_m105 (19, [(1, .inl (I 88 55)), (0, .inr (.inr (some 82)))], [], (I2, L, X), 0, 0) _
    have r5 : I2 82 7 = I 82 7 := by rw [f3 82 (7) (by omega)]
    have r6 : I2 82 13 = I 82 13 := by rw [f3 82 (13) (by omega)]
    have r7 : I2 82 19 = I 82 19 := by rw [f3 82 (19) (by omega)]
    exact yi_G_retv rfl rfl (⟨_, _, rfl, (fun p k hp => by rw [f3 p k (by omega)]), (fun _ _ _ => rfl), by omega, ⟨by omega, by omega⟩, by omega, ⟨by omega, by omega⟩, ⟨by omega, by omega⟩, by omega, (ym_LW_f (ym_LW_r _ _) (fun k => by rw [f3 89 k (by omega)]) (fun k => by rw [f3 90 k (by omega)])), (fun k hk => by rw [f3 88 k (by omega)]), fun zz => absurd zz (by omega)⟩)
  · refine yi_G_if2 true rfl (yi_ne_t h1) ?_
    refine yi_G_run 2 (22, [(1, .inl (I 88 55)), (0, .inr (.inr (some 82)))], [.inr (.inr (some 82)), .inr (.inr (some 82))], (I, L, X), 0, 0) (fun _ => rfl) ?_
    refine yi_G_get (25, [(1, .inl (I 88 55)), (0, .inr (.inr (some 82)))], [.inl (I 82 7), .inr (.inr (some 82))], (I, L, X), 0, 0) rfl (ym_gi hS rfl rfl rfl) ?_
    refine yi_G_run 1 (26, [(1, .inl (I 88 55)), (0, .inr (.inr (some 82)))], [.inl 1, .inl (I 82 7), .inr (.inr (some 82))], (I, L, X), 0, 0) (fun _ => rfl) ?_
    refine yi_G_iadd rfl ((I 82 7) + 1) (yi_wn (by omega) (by omega)) ?_
    refine yi_G_put (30, [(1, .inl (I 88 55)), (0, .inr (.inr (some 82)))], [], ((yi_u I 82 7 ((I 82 7) + 1)), L, X), 0, 0) rfl (ym_pi hS rfl rfl) ?_
    generalize w9 : yi_u I 82 7 ((I 82 7) + 1) = I8
    refine yi_G_run 3 (34, [(1, .inl (I 88 55)), (0, .inr (.inr (some 82)))], [.inl (I 88 55), .inl 3, .inl 75], (I8, L, X), 0, 0) (fun _ => rfl) ?_
    refine yi_G_imul rfl (3 * (I 88 55)) (yi_wn (by omega) (by omega)) ?_
    refine yi_G_iadd rfl (75 + (3 * (I 88 55))) (yi_wn (by omega) (by omega)) ?_
    refine yi_G_run 2 (38, [(2, .inl (75 + (3 * (I 88 55)))), (1, .inl (I 88 55)), (0, .inr (.inr (some 82)))], [.inr (.inr (some 82))], (I8, L, X), 0, 0) (fun _ => rfl) ?_
    refine yi_G_get (41, [(2, .inl (75 + (3 * (I 88 55)))), (1, .inl (I 88 55)), (0, .inr (.inr (some 82)))], [.inr (.inr (some 88))], (I8, L, X), 0, 0) rfl (ym_gr hS 5 rfl rfl rfl) ?_
    refine yi_G_run 4 (45, [(2, .inl (75 + (3 * (I 88 55)))), (1, .inl (I 88 55)), (0, .inr (.inr (some 82)))], [.inl (-1), .inl 2, .inr (.inr (some 82)), .inl (75 + (3 * (I 88 55))), .inr (.inr (some 88))], (I8, L, X), 0, 0) (fun _ => rfl) ?_
    have r10 : I8 82 7 = (I 82 7) + 1 := by rw [← w9, yi_u_eq]
    have r11 : I8 82 8 = I 82 8 := by rw [← w9, yi_u_ne _ _ (by omega)]
    have r16 : I8 82 18 = I 82 18 := by rw [← w9, yi_u_ne _ _ (by omega)]
    have r17 : I8 82 19 = I 82 19 := by rw [← w9, yi_u_ne _ _ (by omega)]
    refine yi_G_callv rfl rfl (ym_rcv hS) rfl (c_takeTold d (by omega) hS ⟨by omega, by omega⟩ ⟨(by rw [r16]; omega), (by rw [r16]; omega)⟩ ⟨(by rw [r17]; omega), (by rw [r17]; omega)⟩ (ym_TK_t (fun k => by rw [← w9, yi_u_ne _ _ (fun z => absurd z.1 (by decide))]) (fun k => by rw [← w9, yi_u_ne _ _ (fun z => absurd z.1 (by decide))]) hT) ⟨by omega, by omega⟩ (by omega)) ?_
    rintro _ ⟨z14, I12, rfl, f13, h15a, h15b, h15c⟩
    show yi_G zi_Ms d zi_m105 (48, [(2, .inl (75 + (3 * (I 88 55)))), (1, .inl (I 88 55)), (0, .inr (.inr (some 82)))], [.inl z14, .inl (75 + (3 * (I 88 55))), .inr (.inr (some 88))], (I12, L, X), 0, 0) _
    refine yi_G_iast (49, [(2, .inl (75 + (3 * (I 88 55)))), (1, .inl (I 88 55)), (0, .inr (.inr (some 82)))], [], ((yi_u I12 88 ((75 + (3 * (I 88 55))).toNat) z14), L, X), 0, 0) rfl (ym_si hS 5 rfl (by omega) (by omega)) ?_
    generalize w19 : yi_u I12 88 ((75 + (3 * (I 88 55))).toNat) z14 = I18
    refine yi_G_run 1 (50, [(2, .inl (75 + (3 * (I 88 55)))), (1, .inl (I 88 55)), (0, .inr (.inr (some 82)))], [.inr (.inr (some 82))], (I18, L, X), 0, 0) (fun _ => rfl) ?_
    refine yi_G_get (53, [(2, .inl (75 + (3 * (I 88 55)))), (1, .inl (I 88 55)), (0, .inr (.inr (some 82)))], [.inr (.inr (some 88))], (I18, L, X), 0, 0) rfl (ym_gr hS 5 rfl rfl rfl) ?_
    refine yi_G_run 2 (55, [(2, .inl (75 + (3 * (I 88 55)))), (1, .inl (I 88 55)), (0, .inr (.inr (some 82)))], [.inl 1, .inl (75 + (3 * (I 88 55))), .inr (.inr (some 88))], (I18, L, X), 0, 0) (fun _ => rfl) ?_
    refine yi_G_iadd rfl ((75 + (3 * (I 88 55))) + 1) (yi_wn (by omega) (by omega)) ?_
    refine yi_G_run 4 (62, [(2, .inl (75 + (3 * (I 88 55)))), (1, .inl (I 88 55)), (0, .inr (.inr (some 82)))], [.inl 99, .inl 0, .inl 8, .inr (.inr (some 82)), .inl ((75 + (3 * (I 88 55))) + 1), .inr (.inr (some 88))], (I18, L, X), 0, 0) (fun _ => rfl) ?_
    have r20 : I18 82 7 = I12 82 7 := by rw [← w19, yi_u_ne _ _ (by omega)]
    have r21 : I18 82 8 = I12 82 8 := by rw [← w19, yi_u_ne _ _ (by omega)]
    refine yi_G_callv rfl rfl (ym_rcv hS) rfl (c_takeAfter d (by omega) hS ⟨by omega, by omega⟩ (by omega) (by omega) (ym_TK_t (fun k => by rw [← w19, yi_u_ne _ _ (fun z => absurd z.1 (by decide)), f13 84 k (by omega), ← w9, yi_u_ne _ _ (fun z => absurd z.1 (by decide))]) (fun k => by rw [← w19, yi_u_ne _ _ (fun z => absurd z.1 (by decide)), f13 85 k (by omega), ← w9, yi_u_ne _ _ (fun z => absurd z.1 (by decide))]) hT) ⟨by omega, by omega⟩ (by omega)) ?_
    rintro _ ⟨z24, I22, rfl, f23, h25a, h25b, h25c⟩
    show yi_G zi_Ms d zi_m105 (65, [(2, .inl (75 + (3 * (I 88 55)))), (1, .inl (I 88 55)), (0, .inr (.inr (some 82)))], [.inl z24, .inl ((75 + (3 * (I 88 55))) + 1), .inr (.inr (some 88))], (I22, L, X), 0, 0) _
    refine yi_G_iast (66, [(2, .inl (75 + (3 * (I 88 55)))), (1, .inl (I 88 55)), (0, .inr (.inr (some 82)))], [], ((yi_u I22 88 (((75 + (3 * (I 88 55))) + 1).toNat) z24), L, X), 0, 0) rfl (ym_si hS 5 rfl (by omega) (by omega)) ?_
    generalize w27 : yi_u I22 88 (((75 + (3 * (I 88 55))) + 1).toNat) z24 = I26
    refine yi_G_run 1 (67, [(2, .inl (75 + (3 * (I 88 55)))), (1, .inl (I 88 55)), (0, .inr (.inr (some 82)))], [.inr (.inr (some 82))], (I26, L, X), 0, 0) (fun _ => rfl) ?_
    refine yi_G_get (70, [(2, .inl (75 + (3 * (I 88 55)))), (1, .inl (I 88 55)), (0, .inr (.inr (some 82)))], [.inr (.inr (some 88))], (I26, L, X), 0, 0) rfl (ym_gr hS 5 rfl rfl rfl) ?_
    refine yi_G_run 2 (72, [(2, .inl (75 + (3 * (I 88 55)))), (1, .inl (I 88 55)), (0, .inr (.inr (some 82)))], [.inl 2, .inl (75 + (3 * (I 88 55))), .inr (.inr (some 88))], (I26, L, X), 0, 0) (fun _ => rfl) ?_
    refine yi_G_iadd rfl ((75 + (3 * (I 88 55))) + 2) (yi_wn (by omega) (by omega)) ?_
    refine yi_G_run 1 (74, [(2, .inl (75 + (3 * (I 88 55)))), (1, .inl (I 88 55)), (0, .inr (.inr (some 82)))], [.inr (.inr (some 82)), .inl ((75 + (3 * (I 88 55))) + 2), .inr (.inr (some 88))], (I26, L, X), 0, 0) (fun _ => rfl) ?_
    have r28 : I26 82 13 = I 82 13 := by rw [← w27, yi_u_ne _ _ (by omega), f23 82 (13) (by omega), ← w19, yi_u_ne _ _ (by omega), f13 82 (13) (by omega), ← w9, yi_u_ne _ _ (by omega)]
    refine yi_G_get (77, [(2, .inl (75 + (3 * (I 88 55)))), (1, .inl (I 88 55)), (0, .inr (.inr (some 82)))], [.inl (I 82 13), .inl ((75 + (3 * (I 88 55))) + 2), .inr (.inr (some 88))], (I26, L, X), 0, 0) rfl (ym_gi hS rfl rfl r28) ?_
    refine yi_G_iast (78, [(2, .inl (75 + (3 * (I 88 55)))), (1, .inl (I 88 55)), (0, .inr (.inr (some 82)))], [], ((yi_u I26 88 (((75 + (3 * (I 88 55))) + 2).toNat) (I 82 13)), L, X), 0, 0) rfl (ym_si hS 5 rfl (by omega) (by omega)) ?_
    generalize w30 : yi_u I26 88 (((75 + (3 * (I 88 55))) + 2).toNat) (I 82 13) = I29
    refine yi_G_run 2 (80, [(2, .inl (75 + (3 * (I 88 55)))), (1, .inl (I 88 55)), (0, .inr (.inr (some 82)))], [.inl 0, .inr (.inr (some 82))], (I29, L, X), 0, 0) (fun _ => rfl) ?_
    have r31 : I29 82 13 = I 82 13 := by rw [← w30, yi_u_ne _ _ (by omega), ← w27, yi_u_ne _ _ (by omega), f23 82 (13) (by omega), ← w19, yi_u_ne _ _ (by omega), f13 82 (13) (by omega), ← w9, yi_u_ne _ _ (by omega)]
    have r32 : I29 82 18 = I 82 18 := by rw [← w30, yi_u_ne _ _ (by omega), ← w27, yi_u_ne _ _ (by omega), f23 82 (18) (by omega), ← w19, yi_u_ne _ _ (by omega), f13 82 (18) (by omega), ← w9, yi_u_ne _ _ (by omega)]
    have r33 : I29 82 19 = I 82 19 := by rw [← w30, yi_u_ne _ _ (by omega), ← w27, yi_u_ne _ _ (by omega), f23 82 (19) (by omega), ← w19, yi_u_ne _ _ (by omega), f13 82 (19) (by omega), ← w9, yi_u_ne _ _ (by omega)]
    have r34 : I29 82 7 = I22 82 7 := by rw [← w30, yi_u_ne _ _ (by omega), ← w27, yi_u_ne _ _ (by omega)]
    have r35 : I29 82 8 = I22 82 8 := by rw [← w30, yi_u_ne _ _ (by omega), ← w27, yi_u_ne _ _ (by omega)]
    have r36 : I29 82 20 = I 82 20 := by rw [← w30, yi_u_ne _ _ (by omega), ← w27, yi_u_ne _ _ (by omega), f23 82 (20) (by omega), ← w19, yi_u_ne _ _ (by omega), f13 82 (20) (by omega), ← w9, yi_u_ne _ _ (by omega)]
    have r37 : I29 88 50 = I 88 50 := by rw [← w30, yi_u_ne _ _ (by omega), ← w27, yi_u_ne _ _ (by omega), f23 88 (50) (by omega), ← w19, yi_u_ne _ _ (by omega), f13 88 (50) (by omega), ← w9, yi_u_ne _ _ (by omega)]
    refine yi_G_callv rfl rfl (ym_rcv hS) rfl (c_formula0 hS d (by omega) I29 L te (I 82 13) (ym_TK_t (fun k => by rw [← w30, yi_u_ne _ _ (fun z => absurd z.1 (by decide)), ← w27, yi_u_ne _ _ (fun z => absurd z.1 (by decide)), f23 84 k (by omega), ← w19, yi_u_ne _ _ (fun z => absurd z.1 (by decide)), f13 84 k (by omega), ← w9, yi_u_ne _ _ (fun z => absurd z.1 (by decide))]) (fun k => by rw [← w30, yi_u_ne _ _ (fun z => absurd z.1 (by decide)), ← w27, yi_u_ne _ _ (fun z => absurd z.1 (by decide)), f23 85 k (by omega), ← w19, yi_u_ne _ _ (fun z => absurd z.1 (by decide)), f13 85 k (by omega), ← w9, yi_u_ne _ _ (fun z => absurd z.1 (by decide))]) hT) ⟨by omega, by omega⟩ (by omega) ⟨(by rw [r32]; omega), (by rw [r32]; omega)⟩ ⟨(by rw [r33]; omega), (by rw [r33]; omega)⟩ (ym_DY_50 (by rw [r36]; exact rf) (by omega)) r31 ⟨by omega, by omega⟩) ?_
    rintro _ ⟨I38, rfl, f39, h40a, h40b, h40c, h40d, lwI38, sgI38⟩
    show yi_G zi_Ms d zi_m105 (83, [(2, .inl (75 + (3 * (I 88 55)))), (1, .inl (I 88 55)), (0, .inr (.inr (some 82)))], [], (I38, L, X), 0, 0) _
    refine yi_G_run 3 (86, [(2, .inl (75 + (3 * (I 88 55)))), (1, .inl (I 88 55)), (0, .inr (.inr (some 82)))], [.inl 0, .inl 0, .inr (.inr (some 82))], (I38, L, X), 0, 0) (fun _ => rfl) ?_
    refine yi_G_callv rfl rfl (ym_rcv hS) rfl (c_emit d (by omega) hS rfl ⟨by omega, by omega⟩) ?_
    rintro _ ⟨I41, rfl, f42, eI41, emI41⟩
    show yi_G zi_Ms d zi_m105 (89, [(2, .inl (75 + (3 * (I 88 55)))), (1, .inl (I 88 55)), (0, .inr (.inr (some 82)))], [], (I41, L, X), 0, 0) _
    refine yi_G_run 1 (90, [(2, .inl (75 + (3 * (I 88 55)))), (1, .inl (I 88 55)), (0, .inr (.inr (some 82)))], [.inr (.inr (some 82))], (I41, L, X), 0, 0) (fun _ => rfl) ?_
    refine yi_G_get (93, [(2, .inl (75 + (3 * (I 88 55)))), (1, .inl (I 88 55)), (0, .inr (.inr (some 82)))], [.inr (.inr (some 88))], (I41, L, X), 0, 0) rfl (ym_gr hS 5 rfl rfl rfl) ?_
    refine yi_G_run 2 (96, [(2, .inl (75 + (3 * (I 88 55)))), (1, .inl (I 88 55)), (0, .inr (.inr (some 82)))], [.inl 55, .inr (.inr (some 88)), .inl 55, .inr (.inr (some 88))], (I41, L, X), 0, 0) (fun _ => rfl) ?_
    have r43 : I41 88 55 = I 88 55 := by rw [f42 88 (55) (by omega), f39 88 (55) (by omega), ← w30, yi_u_ne _ _ (by omega), ← w27, yi_u_ne _ _ (by omega), f23 88 (55) (by omega), ← w19, yi_u_ne _ _ (by omega), f13 88 (55) (by omega), ← w9, yi_u_ne _ _ (by omega)]
    refine yi_G_iald (97, [(2, .inl (75 + (3 * (I 88 55)))), (1, .inl (I 88 55)), (0, .inr (.inr (some 82)))], [.inl (I 88 55), .inl 55, .inr (.inr (some 88))], (I41, L, X), 0, 0) rfl (ym_li hS 5 rfl (by omega) (by omega) r43) ?_
    refine yi_G_run 1 (98, [(2, .inl (75 + (3 * (I 88 55)))), (1, .inl (I 88 55)), (0, .inr (.inr (some 82)))], [.inl 1, .inl (I 88 55), .inl 55, .inr (.inr (some 88))], (I41, L, X), 0, 0) (fun _ => rfl) ?_
    refine yi_G_iadd rfl ((I 88 55) + 1) (yi_wn (by omega) (by omega)) ?_
    refine yi_G_iast (100, [(2, .inl (75 + (3 * (I 88 55)))), (1, .inl (I 88 55)), (0, .inr (.inr (some 82)))], [], ((yi_u I41 88 55 ((I 88 55) + 1)), L, X), 0, 0) rfl (ym_si hS 5 rfl (by omega) (by omega)) ?_
    generalize w45 : yi_u I41 88 55 ((I 88 55) + 1) = I44
    have r46 : I44 82 7 = I38 82 7 := by rw [← w45, yi_u_ne _ _ (by omega), f42 82 (7) (by omega)]
    have r47 : I44 82 8 = I38 82 8 := by rw [← w45, yi_u_ne _ _ (by omega), f42 82 (8) (by omega)]
    have r48 : I44 82 13 = I41 82 13 := by rw [← w45, yi_u_ne _ _ (by omega)]
    have r49 : I44 82 19 = I 82 19 := by rw [← w45, yi_u_ne _ _ (by omega), f42 82 (19) (by omega), f39 82 (19) (by omega), ← w30, yi_u_ne _ _ (by omega), ← w27, yi_u_ne _ _ (by omega), f23 82 (19) (by omega), ← w19, yi_u_ne _ _ (by omega), f13 82 (19) (by omega), ← w9, yi_u_ne _ _ (by omega)]
    have r50 : I44 88 50 = I 88 50 := by rw [← w45, yi_u_ne _ _ (by omega), f42 88 (50) (by omega), f39 88 (50) (by omega), ← w30, yi_u_ne _ _ (by omega), ← w27, yi_u_ne _ _ (by omega), f23 88 (50) (by omega), ← w19, yi_u_ne _ _ (by omega), f13 88 (50) (by omega), ← w9, yi_u_ne _ _ (by omega)]
    have r51 : I44 88 51 = I 88 51 := by rw [← w45, yi_u_ne _ _ (by omega), f42 88 (51) (by omega), f39 88 (51) (by omega), ← w30, yi_u_ne _ _ (by omega), ← w27, yi_u_ne _ _ (by omega), f23 88 (51) (by omega), ← w19, yi_u_ne _ _ (by omega), f13 88 (51) (by omega), ← w9, yi_u_ne _ _ (by omega)]
    have r52 : I44 88 52 = I 88 52 := by rw [← w45, yi_u_ne _ _ (by omega), f42 88 (52) (by omega), f39 88 (52) (by omega), ← w30, yi_u_ne _ _ (by omega), ← w27, yi_u_ne _ _ (by omega), f23 88 (52) (by omega), ← w19, yi_u_ne _ _ (by omega), f13 88 (52) (by omega), ← w9, yi_u_ne _ _ (by omega)]
    have r53 : I44 88 53 = I 88 53 := by rw [← w45, yi_u_ne _ _ (by omega), f42 88 (53) (by omega), f39 88 (53) (by omega), ← w30, yi_u_ne _ _ (by omega), ← w27, yi_u_ne _ _ (by omega), f23 88 (53) (by omega), ← w19, yi_u_ne _ _ (by omega), f13 88 (53) (by omega), ← w9, yi_u_ne _ _ (by omega)]
    have r54 : I44 88 54 = I 88 54 := by rw [← w45, yi_u_ne _ _ (by omega), f42 88 (54) (by omega), f39 88 (54) (by omega), ← w30, yi_u_ne _ _ (by omega), ← w27, yi_u_ne _ _ (by omega), f23 88 (54) (by omega), ← w19, yi_u_ne _ _ (by omega), f13 88 (54) (by omega), ← w9, yi_u_ne _ _ (by omega)]
    have r55 : I44 88 55 = (I 88 55) + 1 := by rw [← w45, yi_u_eq]
    have r56 : I44 88 56 = I 88 56 := by rw [← w45, yi_u_ne _ _ (by omega), f42 88 (56) (by omega), f39 88 (56) (by omega), ← w30, yi_u_ne _ _ (by omega), ← w27, yi_u_ne _ _ (by omega), f23 88 (56) (by omega), ← w19, yi_u_ne _ _ (by omega), f13 88 (56) (by omega), ← w9, yi_u_ne _ _ (by omega)]
    have r57 : I44 88 (((75 + (3 * (I 88 55))) + 2).toNat) = I 82 13 := by rw [← w45, yi_u_ne _ _ (by omega), f42 88 (((75 + (3 * (I 88 55))) + 2).toNat) (by omega), f39 88 (((75 + (3 * (I 88 55))) + 2).toNat) (by omega), ← w30, yi_u_eq]
    have r58 : I44 88 ((75 + (3 * (I 88 55))).toNat) = z14 := by rw [← w45, yi_u_ne _ _ (by omega), f42 88 ((75 + (3 * (I 88 55))).toNat) (by omega), f39 88 ((75 + (3 * (I 88 55))).toNat) (by omega), ← w30, yi_u_ne _ _ (by omega), ← w27, yi_u_ne _ _ (by omega), f23 88 ((75 + (3 * (I 88 55))).toNat) (by omega), ← w19, yi_u_eq]
    exact yi_G_retv rfl rfl (⟨_, _, rfl, (fun p k hp => by rw [← w45, yi_u_ne _ _ (fun z => by omega), f42 p k (by omega), f39 p k (by omega), ← w30, yi_u_ne _ _ (fun z => by omega), ← w27, yi_u_ne _ _ (fun z => by omega), f23 p k (by omega), ← w19, yi_u_ne _ _ (fun z => by omega), f13 p k (by omega), ← w9, yi_u_ne _ _ (fun z => by omega)]), (fun _ _ _ => rfl), by omega, ⟨by omega, by omega⟩, by omega, ⟨by omega, by omega⟩, ⟨by omega, by omega⟩, by omega, (ym_LW_f (ym_LW_t (ym_LW_g lwI38 (fun k => by rw [← w30, yi_u_ne _ _ (fun z => absurd z.1 (by decide)), ← w27, yi_u_ne _ _ (fun z => absurd z.1 (by decide)), f23 89 k (by omega), ← w19, yi_u_ne _ _ (fun z => absurd z.1 (by decide)), f13 89 k (by omega), ← w9, yi_u_ne _ _ (fun z => absurd z.1 (by decide))]) (fun k => by rw [← w30, yi_u_ne _ _ (fun z => absurd z.1 (by decide)), ← w27, yi_u_ne _ _ (fun z => absurd z.1 (by decide)), f23 90 k (by omega), ← w19, yi_u_ne _ _ (fun z => absurd z.1 (by decide)), f13 90 k (by omega), ← w9, yi_u_ne _ _ (fun z => absurd z.1 (by decide))])) (ym_LW_e (n := I 82 13) emI41 (by omega) (by omega)) (Int.le_refl _)) (fun k => by rw [← w45, yi_u_ne _ _ (fun z => absurd z.1 (by decide))]) (fun k => by rw [← w45, yi_u_ne _ _ (fun z => absurd z.1 (by decide))])), (fun k hk => by rw [← w45, yi_u_ne _ _ (by omega), f42 88 k (by omega), f39 88 k (by omega), ← w30, yi_u_ne _ _ (by omega), ← w27, yi_u_ne _ _ (by omega), f23 88 k (by omega), ← w19, yi_u_ne _ _ (by omega), f13 88 k (by omega), ← w9, yi_u_ne _ _ (by omega)]), fun zz => ⟨⟨⟨by omega, by omega⟩, ⟨by omega, by omega⟩, ⟨by omega, by omega⟩, ⟨by omega, by omega⟩, ⟨by omega, by omega⟩, ⟨by omega, by omega⟩, by omega, by rw [r50, r51, r52]; omega⟩, ym_LP_w hLP (ym_LW_f (ym_LW_t (ym_LW_g lwI38 (fun k => by rw [← w30, yi_u_ne _ _ (fun z => absurd z.1 (by decide)), ← w27, yi_u_ne _ _ (fun z => absurd z.1 (by decide)), f23 89 k (by omega), ← w19, yi_u_ne _ _ (fun z => absurd z.1 (by decide)), f13 89 k (by omega), ← w9, yi_u_ne _ _ (fun z => absurd z.1 (by decide))]) (fun k => by rw [← w30, yi_u_ne _ _ (fun z => absurd z.1 (by decide)), ← w27, yi_u_ne _ _ (fun z => absurd z.1 (by decide)), f23 90 k (by omega), ← w19, yi_u_ne _ _ (fun z => absurd z.1 (by decide)), f13 90 k (by omega), ← w9, yi_u_ne _ _ (fun z => absurd z.1 (by decide))])) (ym_LW_e (n := I 82 13) emI41 (by omega) (by omega)) (Int.le_refl _)) (fun k => by rw [← w45, yi_u_ne _ _ (fun z => absurd z.1 (by decide))]) (fun k => by rw [← w45, yi_u_ne _ _ (fun z => absurd z.1 (by decide))])) (by omega) (by omega) ⟨by omega, by omega⟩ r54 r55 r56 (fun k a b => by rw [← w45, yi_u_ne _ _ (by omega), f42 88 k (by omega), f39 88 k (by omega), ← w30, yi_u_ne _ _ (by omega), ← w27, yi_u_ne _ _ (by omega), f23 88 k (by omega), ← w19, yi_u_ne _ _ (by omega), f13 88 k (by omega), ← w9, yi_u_ne _ _ (by omega)]) (by rw [r58]; omega) (by rw [r57]; exact (ym_QG_t (ym_QG_n (sgI38 (by omega)) emI41 eI41) (ym_LW_f (ym_LW_r _ _) (fun k => by rw [← w45, yi_u_ne _ _ (fun z => absurd z.1 (by decide))]) (fun k => by rw [← w45, yi_u_ne _ _ (fun z => absurd z.1 (by decide))])) (by omega)))⟩⟩)
theorem c_readPrice (D : Nat) (hD : 38 ≤ D) {I L : Nat → Nat → Int} {X : ym_X} (hS : ym_S X) {te : Int} (hT : ym_TK I te) (a0 : 0 ≤ I 82 7 ∧ I 82 7 ≤ te) (lt : I 82 7 < te) (f0 : I 82 8 = 0) (n0 : 0 ≤ I 82 18 ∧ I 82 18 ≤ 13) (hLD : ym_LD I) (hLP : ym_LP I) (k0 : 0 ≤ I 82 13 ∧ I 82 13 ≤ I 82 7) (rf : I 82 20 = 50) : yi_E zi_Ms D 102 [.inr (.inr (some 82))] (I, L, X) (fun r => ∃ I' L', r = (none, (I', L', X), 0, 0) ∧ (∀ p k, ¬ (p = 82 ∧ k = 7) ∧ ¬ (p = 82 ∧ k = 8) ∧ ¬ (p = 82 ∧ k = 13) ∧ ¬ (p = 82 ∧ k = 19) ∧ p ≠ 94 ∧ p ≠ 88 ∧ p ≠ 89 ∧ p ≠ 90 → I' p k = I p k) ∧ (∀ p k, p ≠ 92 → L' p k = L p k) ∧ (I 82 7 < I' 82 7 ∨ 0 < I' 82 8) ∧ (I 82 7 ≤ I' 82 7 ∧ I' 82 7 ≤ te) ∧ 0 ≤ I' 82 8 ∧ (0 ≤ I' 82 19 ∧ I' 82 19 ≤ 13) ∧ (I 82 13 ≤ I' 82 13 ∧ I' 82 13 ≤ I' 82 7 + 2) ∧ (I' 82 8 = 0 → I' 82 13 ≤ I' 82 7) ∧ ym_LW I I' (I 82 13) ∧ (∀ k : Nat, k < 50 → I' 88 k = I 88 k) ∧ (I' 82 8 = 0 → ym_LD I' ∧ ym_LP I')) := by
  obtain ⟨d, rfl⟩ : ∃ d, D = d + 1 := ⟨D - 1, by omega⟩
  refine yi_E_of (M := zi_m102) rfl rfl ?_
  obtain ⟨te0, te1, te2⟩ := id hT
  obtain ⟨g0, g1, g2, g3, g4, g5, g6, g7⟩ := id hLD
  have n1 : 0 ≤ I 82 19 ∧ I 82 19 ≤ 13 := by omega
  show yi_G zi_Ms d zi_m102 (0, [(0, .inr (.inr (some 82)))], [], (I, L, X), 0, 0) _
  have pt32 : ∀ (Ja : Nat → Nat → Int), (∀ p k, ¬ (p = 82 ∧ k = 8) → Ja p k = I p k) → (0 ≤ Ja 82 8) → (Ja 82 8 = 0 → I 82 7 < te ∧ I 88 56 < 0) → yi_G zi_Ms d zi_m102 (32, [(0, .inr (.inr (some 82)))], [], (Ja, L, X), 0, 0) (fun r => ∃ I' L', r = (none, (I', L', X), 0, 0) ∧ (∀ p k, ¬ (p = 82 ∧ k = 7) ∧ ¬ (p = 82 ∧ k = 8) ∧ ¬ (p = 82 ∧ k = 13) ∧ ¬ (p = 82 ∧ k = 19) ∧ p ≠ 94 ∧ p ≠ 88 ∧ p ≠ 89 ∧ p ≠ 90 → I' p k = I p k) ∧ (∀ p k, p ≠ 92 → L' p k = L p k) ∧ (I 82 7 < I' 82 7 ∨ 0 < I' 82 8) ∧ (I 82 7 ≤ I' 82 7 ∧ I' 82 7 ≤ te) ∧ 0 ≤ I' 82 8 ∧ (0 ≤ I' 82 19 ∧ I' 82 19 ≤ 13) ∧ (I 82 13 ≤ I' 82 13 ∧ I' 82 13 ≤ I' 82 7 + 2) ∧ (I' 82 8 = 0 → I' 82 13 ≤ I' 82 7) ∧ ym_LW I I' (I 82 13) ∧ (∀ k : Nat, k < 50 → I' 88 k = I 88 k) ∧ (I' 82 8 = 0 → ym_LD I' ∧ ym_LP I')) := by
    intro Ja fJa j0 j1 
    refine yi_G_run 1 (33, [(0, .inr (.inr (some 82)))], [.inr (.inr (some 82))], (Ja, L, X), 0, 0) (fun _ => rfl) ?_
    refine yi_G_get (36, [(0, .inr (.inr (some 82)))], [.inl (Ja 82 8)], (Ja, L, X), 0, 0) rfl (ym_gi hS rfl rfl rfl) ?_
    by_cases h1 : (Ja 82 8) ≤ 0
    · refine yi_G_if1 true rfl (yi_le_t h1) ?_
      refine yi_G_run 2 (42, [(0, .inr (.inr (some 82)))], [.inr (.inr (some 82)), .inr (.inr (some 82))], (Ja, L, X), 0, 0) (fun _ => rfl) ?_
      have r2 : Ja 82 7 = I 82 7 := by rw [fJa 82 (7) (by omega)]
      refine yi_G_get (45, [(0, .inr (.inr (some 82)))], [.inl (I 82 7), .inr (.inr (some 82))], (Ja, L, X), 0, 0) rfl (ym_gi hS rfl rfl r2) ?_
      refine yi_G_run 1 (46, [(0, .inr (.inr (some 82)))], [.inl 1, .inl (I 82 7), .inr (.inr (some 82))], (Ja, L, X), 0, 0) (fun _ => rfl) ?_
      refine yi_G_iadd rfl ((I 82 7) + 1) (yi_wn (by omega) (by omega)) ?_
      refine yi_G_put (50, [(0, .inr (.inr (some 82)))], [], ((yi_u Ja 82 7 ((I 82 7) + 1)), L, X), 0, 0) rfl (ym_pi hS rfl rfl) ?_
      generalize w4 : yi_u Ja 82 7 ((I 82 7) + 1) = I3
      refine yi_G_run 1 (51, [(0, .inr (.inr (some 82)))], [.inr (.inr (some 82))], (I3, L, X), 0, 0) (fun _ => rfl) ?_
      refine yi_G_get (54, [(0, .inr (.inr (some 82)))], [.inr (.inr (some 88))], (I3, L, X), 0, 0) rfl (ym_gr hS 5 rfl rfl rfl) ?_
      refine yi_G_run 2 (57, [(0, .inr (.inr (some 82)))], [.inr (.inr (some 82)), .inl 56, .inr (.inr (some 88))], (I3, L, X), 0, 0) (fun _ => rfl) ?_
      have r5 : I3 82 13 = I 82 13 := by rw [← w4, yi_u_ne _ _ (by omega), fJa 82 (13) (by omega)]
      refine yi_G_get (60, [(0, .inr (.inr (some 82)))], [.inl (I 82 13), .inl 56, .inr (.inr (some 88))], (I3, L, X), 0, 0) rfl (ym_gi hS rfl rfl r5) ?_
      refine yi_G_iast (61, [(0, .inr (.inr (some 82)))], [], ((yi_u I3 88 56 (I 82 13)), L, X), 0, 0) rfl (ym_si hS 5 rfl (by omega) (by omega)) ?_
      generalize w7 : yi_u I3 88 56 (I 82 13) = I6
      refine yi_G_run 2 (63, [(0, .inr (.inr (some 82)))], [.inl 0, .inr (.inr (some 82))], (I6, L, X), 0, 0) (fun _ => rfl) ?_
      have r8 : I6 82 13 = I 82 13 := by rw [← w7, yi_u_ne _ _ (by omega), ← w4, yi_u_ne _ _ (by omega), fJa 82 (13) (by omega)]
      have r9 : I6 82 18 = I 82 18 := by rw [← w7, yi_u_ne _ _ (by omega), ← w4, yi_u_ne _ _ (by omega), fJa 82 (18) (by omega)]
      have r10 : I6 82 19 = I 82 19 := by rw [← w7, yi_u_ne _ _ (by omega), ← w4, yi_u_ne _ _ (by omega), fJa 82 (19) (by omega)]
      have r11 : I6 82 7 = (I 82 7) + 1 := by rw [← w7, yi_u_ne _ _ (by omega), ← w4, yi_u_eq]
      have r12 : I6 82 8 = Ja 82 8 := by rw [← w7, yi_u_ne _ _ (by omega), ← w4, yi_u_ne _ _ (by omega)]
      have r13 : I6 82 20 = I 82 20 := by rw [← w7, yi_u_ne _ _ (by omega), ← w4, yi_u_ne _ _ (by omega), fJa 82 (20) (by omega)]
      have r14 : I6 88 50 = I 88 50 := by rw [← w7, yi_u_ne _ _ (by omega), ← w4, yi_u_ne _ _ (by omega), fJa 88 (50) (by omega)]
      refine yi_G_callv rfl rfl (ym_rcv hS) rfl (c_ors0 hS d (by omega) I6 L te (I 82 13) (ym_TK_t (fun k => by rw [← w7, yi_u_ne _ _ (fun z => absurd z.1 (by decide)), ← w4, yi_u_ne _ _ (fun z => absurd z.1 (by decide)), fJa 84 k (by omega)]) (fun k => by rw [← w7, yi_u_ne _ _ (fun z => absurd z.1 (by decide)), ← w4, yi_u_ne _ _ (fun z => absurd z.1 (by decide)), fJa 85 k (by omega)]) hT) ⟨by omega, by omega⟩ (by omega) ⟨(by rw [r9]; omega), (by rw [r9]; omega)⟩ ⟨(by rw [r10]; omega), (by rw [r10]; omega)⟩ (ym_DY_50 (by rw [r13]; exact rf) (by omega)) r8 ⟨by omega, by omega⟩) ?_
      rintro _ ⟨I15, rfl, f16, h17a, h17b, h17c, h17d, lwI15, sgI15⟩
      show yi_G zi_Ms d zi_m102 (66, [(0, .inr (.inr (some 82)))], [], (I15, L, X), 0, 0) _
      refine yi_G_run 3 (69, [(0, .inr (.inr (some 82)))], [.inl 0, .inl 0, .inr (.inr (some 82))], (I15, L, X), 0, 0) (fun _ => rfl) ?_
      refine yi_G_callv rfl rfl (ym_rcv hS) rfl (c_emit d (by omega) hS rfl ⟨by omega, by omega⟩) ?_
      rintro _ ⟨I18, rfl, f19, eI18, emI18⟩
      show yi_G zi_Ms d zi_m102 (72, [(0, .inr (.inr (some 82)))], [], (I18, L, X), 0, 0) _
      have r20 : I18 82 7 = I15 82 7 := by rw [f19 82 (7) (by omega)]
      have r21 : I18 82 8 = I15 82 8 := by rw [f19 82 (8) (by omega)]
      have r22 : I18 82 19 = I 82 19 := by rw [f19 82 (19) (by omega), f16 82 (19) (by omega), ← w7, yi_u_ne _ _ (by omega), ← w4, yi_u_ne _ _ (by omega), fJa 82 (19) (by omega)]
      have r23 : I18 88 50 = I 88 50 := by rw [f19 88 (50) (by omega), f16 88 (50) (by omega), ← w7, yi_u_ne _ _ (by omega), ← w4, yi_u_ne _ _ (by omega), fJa 88 (50) (by omega)]
      have r24 : I18 88 51 = I 88 51 := by rw [f19 88 (51) (by omega), f16 88 (51) (by omega), ← w7, yi_u_ne _ _ (by omega), ← w4, yi_u_ne _ _ (by omega), fJa 88 (51) (by omega)]
      have r25 : I18 88 52 = I 88 52 := by rw [f19 88 (52) (by omega), f16 88 (52) (by omega), ← w7, yi_u_ne _ _ (by omega), ← w4, yi_u_ne _ _ (by omega), fJa 88 (52) (by omega)]
      have r26 : I18 88 53 = I 88 53 := by rw [f19 88 (53) (by omega), f16 88 (53) (by omega), ← w7, yi_u_ne _ _ (by omega), ← w4, yi_u_ne _ _ (by omega), fJa 88 (53) (by omega)]
      have r27 : I18 88 54 = I 88 54 := by rw [f19 88 (54) (by omega), f16 88 (54) (by omega), ← w7, yi_u_ne _ _ (by omega), ← w4, yi_u_ne _ _ (by omega), fJa 88 (54) (by omega)]
      have r28 : I18 88 55 = I 88 55 := by rw [f19 88 (55) (by omega), f16 88 (55) (by omega), ← w7, yi_u_ne _ _ (by omega), ← w4, yi_u_ne _ _ (by omega), fJa 88 (55) (by omega)]
      have r29 : I18 88 56 = I 82 13 := by rw [f19 88 (56) (by omega), f16 88 (56) (by omega), ← w7, yi_u_eq]
      exact yi_G_retv rfl rfl (⟨_, _, rfl, (fun p k hp => by rw [f19 p k (by omega), f16 p k (by omega), ← w7, yi_u_ne _ _ (fun z => by omega), ← w4, yi_u_ne _ _ (fun z => by omega), fJa p k (by omega)]), (fun _ _ _ => rfl), by omega, ⟨by omega, by omega⟩, by omega, ⟨by omega, by omega⟩, ⟨by omega, by omega⟩, by omega, (ym_LW_t (ym_LW_g lwI15 (fun k => by rw [← w7, yi_u_ne _ _ (fun z => absurd z.1 (by decide)), ← w4, yi_u_ne _ _ (fun z => absurd z.1 (by decide)), fJa 89 k (by omega)]) (fun k => by rw [← w7, yi_u_ne _ _ (fun z => absurd z.1 (by decide)), ← w4, yi_u_ne _ _ (fun z => absurd z.1 (by decide)), fJa 90 k (by omega)])) (ym_LW_e (n := I 82 13) emI18 (by omega) (by omega)) (Int.le_refl _)), (fun k hk => by rw [f19 88 k (by omega), f16 88 k (by omega), ← w7, yi_u_ne _ _ (by omega), ← w4, yi_u_ne _ _ (by omega), fJa 88 k (by omega)]), fun zz => ⟨⟨⟨by omega, by omega⟩, ⟨by omega, by omega⟩, ⟨by omega, by omega⟩, ⟨by omega, by omega⟩, ⟨by omega, by omega⟩, ⟨by omega, by omega⟩, by omega, by rw [r23, r24, r25]; omega⟩, ym_LP_p hLP (ym_LW_t (ym_LW_g lwI15 (fun k => by rw [← w7, yi_u_ne _ _ (fun z => absurd z.1 (by decide)), ← w4, yi_u_ne _ _ (fun z => absurd z.1 (by decide)), fJa 89 k (by omega)]) (fun k => by rw [← w7, yi_u_ne _ _ (fun z => absurd z.1 (by decide)), ← w4, yi_u_ne _ _ (fun z => absurd z.1 (by decide)), fJa 90 k (by omega)])) (ym_LW_e (n := I 82 13) emI18 (by omega) (by omega)) (Int.le_refl _)) (by omega) (by omega) (by omega) r27 r28 (fun k a b => by rw [f19 88 k (by omega), f16 88 k (by omega), ← w7, yi_u_ne _ _ (by omega), ← w4, yi_u_ne _ _ (by omega), fJa 88 k (by omega)]) (by rw [r29]; exact (ym_QG_n (sgI15 (by omega)) emI18 eI18))⟩⟩)
    · refine yi_G_if1 false rfl (yi_le_f h1) ?_
      have r30 : Ja 82 7 = I 82 7 := by rw [fJa 82 (7) (by omega)]
      have r31 : Ja 82 13 = I 82 13 := by rw [fJa 82 (13) (by omega)]
      have r32 : Ja 82 19 = I 82 19 := by rw [fJa 82 (19) (by omega)]
      exact yi_G_retv rfl rfl (⟨_, _, rfl, (fun p k hp => by rw [fJa p k (by omega)]), (fun _ _ _ => rfl), by omega, ⟨by omega, by omega⟩, by omega, ⟨by omega, by omega⟩, ⟨by omega, by omega⟩, by omega, (ym_LW_f (ym_LW_r _ _) (fun k => by rw [fJa 89 k (by omega)]) (fun k => by rw [fJa 90 k (by omega)])), (fun k hk => by rw [fJa 88 k (by omega)]), fun zz => absurd zz (by omega)⟩)
  refine yi_G_run 2 (3, [(0, .inr (.inr (some 82)))], [.inl 9, .inr (.inr (some 82))], (I, L, X), 0, 0) (fun _ => rfl) ?_
  refine yi_G_callv rfl rfl (ym_rcv hS) rfl (c_isWord1 d (by omega) hS ⟨by omega, by omega⟩ rfl rfl rfl rfl ⟨by omega, by omega⟩) ?_
  rintro _ (⟨c33, rfl⟩ | ⟨c33, rfl⟩)
  · have lt34 : I 82 7 < te := ym_TK_lt hT (by omega) (by omega)
    show yi_G zi_Ms d zi_m102 (6, [(0, .inr (.inr (some 82)))], [.inl 1], (I, L, X), 0, 0) _
    refine yi_G_if1 true rfl (by decide) ?_
    refine yi_G_run 1 (18, [(0, .inr (.inr (some 82)))], [.inr (.inr (some 82))], (I, L, X), 0, 0) (fun _ => rfl) ?_
    refine yi_G_get (21, [(0, .inr (.inr (some 82)))], [.inr (.inr (some 88))], (I, L, X), 0, 0) rfl (ym_gr hS 5 rfl rfl rfl) ?_
    refine yi_G_run 1 (23, [(0, .inr (.inr (some 82)))], [.inl 56, .inr (.inr (some 88))], (I, L, X), 0, 0) (fun _ => rfl) ?_
    refine yi_G_iald (24, [(0, .inr (.inr (some 82)))], [.inl (I 88 56)], (I, L, X), 0, 0) rfl (ym_li hS 5 rfl (by omega) (by omega) rfl) ?_
    by_cases h35 : (I 88 56) < 0
    · refine yi_G_if1 true rfl (yi_lt_t h35) ?_
      exact pt32 I (fun _ _ _ => rfl) (by omega) (by omega)
    · refine yi_G_if1 false rfl (yi_lt_f h35) ?_
      refine yi_G_run 2 (29, [(0, .inr (.inr (some 82)))], [.inl 3, .inr (.inr (some 82))], (I, L, X), 0, 0) (fun _ => rfl) ?_
      refine yi_G_callv rfl rfl (ym_rcv hS) rfl (c_wrong d (by omega) hS ⟨by omega, by omega⟩ hT ⟨by omega, by omega⟩ (by omega)) ?_
      rintro _ ⟨I36, rfl, f37, h38⟩
      show yi_G zi_Ms d zi_m102 (32, [(0, .inr (.inr (some 82)))], [], (I36, L, X), 0, 0) _
      have r39 : I36 82 7 = I 82 7 := by rw [f37 82 (7) (by omega)]
      have r40 : I36 82 7 = I 82 7 := by rw [f37 82 (7) (by omega)]
      exact pt32 I36 (fun p k hp => by rw [f37 p k (by omega)]) (by omega) (by omega)
  · show yi_G zi_Ms d zi_m102 (6, [(0, .inr (.inr (some 82)))], [.inl 0], (I, L, X), 0, 0) _
    refine yi_G_if1 false rfl (by decide) ?_
    refine yi_G_run 2 (11, [(0, .inr (.inr (some 82)))], [.inl 1, .inr (.inr (some 82))], (I, L, X), 0, 0) (fun _ => rfl) ?_
    refine yi_G_callv rfl rfl (ym_rcv hS) rfl (c_wrong d (by omega) hS ⟨by omega, by omega⟩ hT ⟨by omega, by omega⟩ (by omega)) ?_
    rintro _ ⟨I41, rfl, f42, h43⟩
    show yi_G zi_Ms d zi_m102 (14, [(0, .inr (.inr (some 82)))], [], (I41, L, X), 0, 0) _
    refine yi_G_run 1 (32, [(0, .inr (.inr (some 82)))], [], (I41, L, X), 0, 0) (fun _ => rfl) ?_
    have r44 : I41 82 7 = I 82 7 := by rw [f42 82 (7) (by omega)]
    have r45 : I41 82 7 = I 82 7 := by rw [f42 82 (7) (by omega)]
    exact pt32 I41 (fun p k hp => by rw [f42 p k (by omega)]) (by omega) (by omega)
theorem c_readLine (D : Nat) (hD : 39 ≤ D) {I L : Nat → Nat → Int} {X : ym_X} (hS : ym_S X) {te : Int} (hT : ym_TK I te) (a0 : 0 ≤ I 82 7 ∧ I 82 7 ≤ te) (lt : I 82 7 < te) (f0 : I 82 8 = 0) (n0 : 0 ≤ I 82 18 ∧ I 82 18 ≤ 13) (hLD : ym_LD I) (hLP : ym_LP I) (k0 : 0 ≤ I 82 13 ∧ I 82 13 ≤ I 82 7) (rf : I 82 20 = 50) : yi_E zi_Ms D 99 [.inr (.inr (some 82))] (I, L, X) (fun r => ∃ I' L', r = (none, (I', L', X), 0, 0) ∧ (∀ p k, ¬ (p = 82 ∧ k = 7) ∧ ¬ (p = 82 ∧ k = 8) ∧ ¬ (p = 82 ∧ k = 13) ∧ ¬ (p = 82 ∧ k = 19) ∧ p ≠ 94 ∧ p ≠ 88 ∧ p ≠ 89 ∧ p ≠ 90 → I' p k = I p k) ∧ (∀ p k, p ≠ 92 → L' p k = L p k) ∧ (I 82 7 < I' 82 7 ∨ 0 < I' 82 8) ∧ (I 82 7 ≤ I' 82 7 ∧ I' 82 7 ≤ te) ∧ 0 ≤ I' 82 8 ∧ (0 ≤ I' 82 19 ∧ I' 82 19 ≤ 13) ∧ (I 82 13 ≤ I' 82 13 ∧ I' 82 13 ≤ I' 82 7 + 2) ∧ (I' 82 8 = 0 → I' 82 13 ≤ I' 82 7) ∧ ym_LW I I' (I 82 13) ∧ (∀ k : Nat, k < 50 → I' 88 k = I 88 k) ∧ (I' 82 8 = 0 → ym_LD I' ∧ ym_LP I')) := by
  obtain ⟨d, rfl⟩ : ∃ d, D = d + 1 := ⟨D - 1, by omega⟩
  refine yi_E_of (M := zi_m99) rfl rfl ?_
  obtain ⟨te0, te1, te2⟩ := id hT
  obtain ⟨g0, g1, g2, g3, g4, g5, g6, g7⟩ := id hLD
  have n1 : 0 ≤ I 82 19 ∧ I 82 19 ≤ 13 := by omega
  show yi_G zi_Ms d zi_m99 (0, [(0, .inr (.inr (some 82)))], [], (I, L, X), 0, 0) _
  refine yi_G_run 2 (2, [(0, .inr (.inr (some 82)))], [.inl 1, .inr (.inr (some 82))], (I, L, X), 0, 0) (fun _ => rfl) ?_
  refine yi_G_callv rfl rfl (ym_rcv hS) rfl (c_isWord1 d (by omega) hS ⟨by omega, by omega⟩ rfl rfl rfl rfl ⟨by omega, by omega⟩) ?_
  rintro _ (⟨c1, rfl⟩ | ⟨c1, rfl⟩)
  · have lt2 : I 82 7 < te := ym_TK_lt hT (by omega) (by omega)
    show yi_G zi_Ms d zi_m99 (5, [(0, .inr (.inr (some 82)))], [.inl 1], (I, L, X), 0, 0) _
    refine yi_G_if1 false rfl (by decide) ?_
    refine yi_G_run 1 (9, [(0, .inr (.inr (some 82)))], [.inr (.inr (some 82))], (I, L, X), 0, 0) (fun _ => rfl) ?_
    refine yi_G_callv rfl rfl (ym_rcv hS) rfl (c_readPerson d (by omega) hS hT a0 (by omega) f0 n0 hLD hLP k0 rf) ?_
    rintro _ ⟨I3, L5, rfl, f4, f6, h7a, h7b, h7c, h7d, h7e, h7f, lwI3, loI3, ldI3⟩
    show yi_G zi_Ms d zi_m99 (12, [(0, .inr (.inr (some 82)))], [], (I3, L5, X), 0, 0) _
    refine yi_G_run 1 (81, [(0, .inr (.inr (some 82)))], [], (I3, L5, X), 0, 0) (fun _ => rfl) ?_
    exact yi_G_retv rfl rfl (⟨_, _, rfl, f4, f6, by omega, ⟨by omega, by omega⟩, by omega, ⟨by omega, by omega⟩, ⟨by omega, by omega⟩, by omega, lwI3, loI3, ldI3⟩)
  · show yi_G zi_Ms d zi_m99 (5, [(0, .inr (.inr (some 82)))], [.inl 0], (I, L, X), 0, 0) _
    refine yi_G_if1 true rfl (by decide) ?_
    refine yi_G_run 2 (17, [(0, .inr (.inr (some 82)))], [.inl 3, .inr (.inr (some 82))], (I, L, X), 0, 0) (fun _ => rfl) ?_
    refine yi_G_callv rfl rfl (ym_rcv hS) rfl (c_isWord1 d (by omega) hS ⟨by omega, by omega⟩ rfl rfl rfl rfl ⟨by omega, by omega⟩) ?_
    rintro _ (⟨c8, rfl⟩ | ⟨c8, rfl⟩)
    · have lt9 : I 82 7 < te := ym_TK_lt hT (by omega) (by omega)
      show yi_G zi_Ms d zi_m99 (20, [(0, .inr (.inr (some 82)))], [.inl 1], (I, L, X), 0, 0) _
      refine yi_G_if1 false rfl (by decide) ?_
      refine yi_G_run 1 (24, [(0, .inr (.inr (some 82)))], [.inr (.inr (some 82))], (I, L, X), 0, 0) (fun _ => rfl) ?_
      refine yi_G_callv rfl rfl (ym_rcv hS) rfl (c_readEvent d (by omega) hS hT a0 (by omega) f0 n0 hLD hLP k0 rf) ?_
      rintro _ ⟨I10, L12, rfl, f11, f13, h14a, h14b, h14c, h14d, h14e, h14f, lwI10, loI10, ldI10⟩
      show yi_G zi_Ms d zi_m99 (27, [(0, .inr (.inr (some 82)))], [], (I10, L12, X), 0, 0) _
      refine yi_G_run 1 (81, [(0, .inr (.inr (some 82)))], [], (I10, L12, X), 0, 0) (fun _ => rfl) ?_
      exact yi_G_retv rfl rfl (⟨_, _, rfl, f11, f13, by omega, ⟨by omega, by omega⟩, by omega, ⟨by omega, by omega⟩, ⟨by omega, by omega⟩, by omega, lwI10, loI10, ldI10⟩)
    · show yi_G zi_Ms d zi_m99 (20, [(0, .inr (.inr (some 82)))], [.inl 0], (I, L, X), 0, 0) _
      refine yi_G_if1 true rfl (by decide) ?_
      refine yi_G_run 2 (32, [(0, .inr (.inr (some 82)))], [.inl 4, .inr (.inr (some 82))], (I, L, X), 0, 0) (fun _ => rfl) ?_
      refine yi_G_callv rfl rfl (ym_rcv hS) rfl (c_isWord1 d (by omega) hS ⟨by omega, by omega⟩ rfl rfl rfl rfl ⟨by omega, by omega⟩) ?_
      rintro _ (⟨c15, rfl⟩ | ⟨c15, rfl⟩)
      · have lt16 : I 82 7 < te := ym_TK_lt hT (by omega) (by omega)
        show yi_G zi_Ms d zi_m99 (35, [(0, .inr (.inr (some 82)))], [.inl 1], (I, L, X), 0, 0) _
        refine yi_G_if1 false rfl (by decide) ?_
        refine yi_G_run 1 (39, [(0, .inr (.inr (some 82)))], [.inr (.inr (some 82))], (I, L, X), 0, 0) (fun _ => rfl) ?_
        refine yi_G_callv rfl rfl (ym_rcv hS) rfl (c_readProphet d (by omega) hS hT a0 (by omega) f0 n0 hLD hLP k0 rf) ?_
        rintro _ ⟨I17, L19, rfl, f18, f20, h21a, h21b, h21c, h21d, h21e, h21f, lwI17, loI17, ldI17⟩
        show yi_G zi_Ms d zi_m99 (42, [(0, .inr (.inr (some 82)))], [], (I17, L19, X), 0, 0) _
        refine yi_G_run 1 (81, [(0, .inr (.inr (some 82)))], [], (I17, L19, X), 0, 0) (fun _ => rfl) ?_
        exact yi_G_retv rfl rfl (⟨_, _, rfl, f18, f20, by omega, ⟨by omega, by omega⟩, by omega, ⟨by omega, by omega⟩, ⟨by omega, by omega⟩, by omega, lwI17, loI17, ldI17⟩)
      · show yi_G zi_Ms d zi_m99 (35, [(0, .inr (.inr (some 82)))], [.inl 0], (I, L, X), 0, 0) _
        refine yi_G_if1 true rfl (by decide) ?_
        refine yi_G_run 2 (48, [(0, .inr (.inr (some 82)))], [.inl 6, .inr (.inr (some 82))], (I, L, X), 0, 0) (fun _ => rfl) ?_
        refine yi_G_callv rfl rfl (ym_rcv hS) rfl (c_isWord1 d (by omega) hS ⟨by omega, by omega⟩ rfl rfl rfl rfl ⟨by omega, by omega⟩) ?_
        rintro _ (⟨c22, rfl⟩ | ⟨c22, rfl⟩)
        · have lt23 : I 82 7 < te := ym_TK_lt hT (by omega) (by omega)
          show yi_G zi_Ms d zi_m99 (51, [(0, .inr (.inr (some 82)))], [.inl 1], (I, L, X), 0, 0) _
          refine yi_G_if1 false rfl (by decide) ?_
          refine yi_G_run 1 (55, [(0, .inr (.inr (some 82)))], [.inr (.inr (some 82))], (I, L, X), 0, 0) (fun _ => rfl) ?_
          refine yi_G_callv rfl rfl (ym_rcv hS) rfl (c_readLaw d (by omega) hS hT a0 (by omega) f0 n0 hLD hLP k0 rf) ?_
          rintro _ ⟨I24, L26, rfl, f25, f27, h28a, h28b, h28c, h28d, h28e, h28f, lwI24, loI24, ldI24⟩
          show yi_G zi_Ms d zi_m99 (58, [(0, .inr (.inr (some 82)))], [], (I24, L26, X), 0, 0) _
          refine yi_G_run 1 (81, [(0, .inr (.inr (some 82)))], [], (I24, L26, X), 0, 0) (fun _ => rfl) ?_
          exact yi_G_retv rfl rfl (⟨_, _, rfl, f25, f27, by omega, ⟨by omega, by omega⟩, by omega, ⟨by omega, by omega⟩, ⟨by omega, by omega⟩, by omega, lwI24, loI24, ldI24⟩)
        · show yi_G zi_Ms d zi_m99 (51, [(0, .inr (.inr (some 82)))], [.inl 0], (I, L, X), 0, 0) _
          refine yi_G_if1 true rfl (by decide) ?_
          refine yi_G_run 2 (64, [(0, .inr (.inr (some 82)))], [.inl 7, .inr (.inr (some 82))], (I, L, X), 0, 0) (fun _ => rfl) ?_
          refine yi_G_callv rfl rfl (ym_rcv hS) rfl (c_isWord1 d (by omega) hS ⟨by omega, by omega⟩ rfl rfl rfl rfl ⟨by omega, by omega⟩) ?_
          rintro _ (⟨c29, rfl⟩ | ⟨c29, rfl⟩)
          · have lt30 : I 82 7 < te := ym_TK_lt hT (by omega) (by omega)
            show yi_G zi_Ms d zi_m99 (67, [(0, .inr (.inr (some 82)))], [.inl 1], (I, L, X), 0, 0) _
            refine yi_G_if1 false rfl (by decide) ?_
            refine yi_G_run 1 (71, [(0, .inr (.inr (some 82)))], [.inr (.inr (some 82))], (I, L, X), 0, 0) (fun _ => rfl) ?_
            refine yi_G_callv rfl rfl (ym_rcv hS) rfl (c_readWish d (by omega) hS hT a0 (by omega) f0 n0 hLD hLP k0 rf) ?_
            rintro _ ⟨I31, L33, rfl, f32, f34, h35a, h35b, h35c, h35d, h35e, h35f, lwI31, loI31, ldI31⟩
            show yi_G zi_Ms d zi_m99 (74, [(0, .inr (.inr (some 82)))], [], (I31, L33, X), 0, 0) _
            refine yi_G_run 1 (81, [(0, .inr (.inr (some 82)))], [], (I31, L33, X), 0, 0) (fun _ => rfl) ?_
            exact yi_G_retv rfl rfl (⟨_, _, rfl, f32, f34, by omega, ⟨by omega, by omega⟩, by omega, ⟨by omega, by omega⟩, ⟨by omega, by omega⟩, by omega, lwI31, loI31, ldI31⟩)
          · show yi_G zi_Ms d zi_m99 (67, [(0, .inr (.inr (some 82)))], [.inl 0], (I, L, X), 0, 0) _
            refine yi_G_if1 true rfl (by decide) ?_
            refine yi_G_run 1 (78, [(0, .inr (.inr (some 82)))], [.inr (.inr (some 82))], (I, L, X), 0, 0) (fun _ => rfl) ?_
            refine yi_G_callv rfl rfl (ym_rcv hS) rfl (c_readPrice d (by omega) hS hT a0 lt f0 n0 hLD hLP k0 rf) ?_
            rintro _ ⟨I36, L38, rfl, f37, f39, h40a, h40b, h40c, h40d, h40e, h40f, lwI36, loI36, ldI36⟩
            show yi_G zi_Ms d zi_m99 (81, [(0, .inr (.inr (some 82)))], [], (I36, L38, X), 0, 0) _
            exact yi_G_retv rfl rfl (⟨_, _, rfl, f37, f39, by omega, ⟨by omega, by omega⟩, by omega, ⟨by omega, by omega⟩, ⟨by omega, by omega⟩, by omega, lwI36, loI36, ldI36⟩)
