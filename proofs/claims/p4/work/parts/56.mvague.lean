/-! Vague words, spans, what was known. -/
theorem c_holdsVague (D : Nat) (hD : 5 ≤ D) {I L : Nat → Nat → Int} {X : ym_X} (hS : ym_S X) {p ev k : Int} (hLR : ym_LR I) (h0 : 0 ≤ p) (h1 : p ≤ 3) (h2 : 0 ≤ k) (h3 : k ≤ 26) : yi_E zi_Ms D 44 [.inr (.inr (some 82)), .inl p, .inl ev, .inl k] (I, L, X) (fun r => r = (some (.inl 1), (I, L, X), 0, 0) ∨ r = (some (.inl 0), (I, L, X), 0, 0)) := by
  obtain ⟨d, rfl⟩ : ∃ d, D = d + 1 := ⟨D - 1, by omega⟩
  refine yi_E_of (M := zi_m44) rfl rfl ?_
  obtain ⟨l0, l1, l2, l3, l4, l5⟩ := id hLR
  show yi_G zi_Ms d zi_m44 (0, [(0, .inr (.inr (some 82))), (1, .inl p), (2, .inl ev), (3, .inl k)], [], (I, L, X), 0, 0) _
  refine yi_G_run 1 (1, [(0, .inr (.inr (some 82))), (1, .inl p), (2, .inl ev), (3, .inl k)], [.inr (.inr (some 82))], (I, L, X), 0, 0) (fun _ => rfl) ?_
  refine yi_G_callv rfl rfl (ym_rcv hS) rfl (c_days d (by omega) hS rfl) ?_
  rintro _ rfl
  show yi_G zi_Ms d zi_m44 (4, [(0, .inr (.inr (some 82))), (1, .inl p), (2, .inl ev), (3, .inl k)], [.inl (I 88 0)], (I, L, X), 0, 0) _
  refine yi_G_run 4 (10, [(4, .inl (I 88 0)), (0, .inr (.inr (some 82))), (1, .inl p), (2, .inl ev), (3, .inl k)], [.inl (I 88 0), .inl 3, .inl k], (I, L, X), 0, 0) (fun _ => rfl) ?_
  refine yi_G_imul rfl (3 * (I 88 0)) (yi_wn (by omega) (by omega)) ?_
  by_cases h1 : (3 * (I 88 0)) ≤ k
  · refine yi_G_if2 true rfl (yi_ge_t h1) ?_
    refine yi_G_run 3 (35, [(4, .inl (I 88 0)), (0, .inr (.inr (some 82))), (1, .inl p), (2, .inl ev), (3, .inl k)], [.inl (I 88 0), .inl 3, .inl k], (I, L, X), 0, 0) (fun _ => rfl) ?_
    refine yi_G_imul rfl (3 * (I 88 0)) (yi_wn (by omega) (by omega)) ?_
    refine yi_G_run 1 (37, [(4, .inl (I 88 0)), (0, .inr (.inr (some 82))), (1, .inl p), (2, .inl ev), (3, .inl k)], [.inl 2, .inl (3 * (I 88 0)), .inl k], (I, L, X), 0, 0) (fun _ => rfl) ?_
    refine yi_G_iadd rfl ((3 * (I 88 0)) + 2) (yi_wn (by omega) (by omega)) ?_
    by_cases h2 : ((3 * (I 88 0)) + 2) ≤ k
    · refine yi_G_if2 true rfl (yi_ge_t h2) ?_
      refine yi_G_run 7 (67, [(4, .inl (I 88 0)), (0, .inr (.inr (some 82))), (1, .inl p), (2, .inl ev), (3, .inl k)], [.inl (I 88 0), .inl 3, .inl k, .inl 5, .inl ev, .inl p, .inr (.inr (some 82))], (I, L, X), 0, 0) (fun _ => rfl) ?_
      refine yi_G_imul rfl (3 * (I 88 0)) (yi_wn (by omega) (by omega)) ?_
      refine yi_G_isub rfl (k - (3 * (I 88 0))) (yi_wn (by omega) (by omega)) ?_
      refine yi_G_run 1 (70, [(4, .inl (I 88 0)), (0, .inr (.inr (some 82))), (1, .inl p), (2, .inl ev), (3, .inl k)], [.inl 2, .inl (k - (3 * (I 88 0))), .inl 5, .inl ev, .inl p, .inr (.inr (some 82))], (I, L, X), 0, 0) (fun _ => rfl) ?_
      refine yi_G_isub rfl ((k - (3 * (I 88 0))) - 2) (yi_wn (by omega) (by omega)) ?_
      refine yi_G_callv rfl rfl (ym_rcv hS) rfl (c_holdsOf d (by omega) hS hLR (by omega) (by omega) (by omega) (by omega)) ?_
      rintro _ (rfl | rfl)
      · show yi_G zi_Ms d zi_m44 (74, [(4, .inl (I 88 0)), (0, .inr (.inr (some 82))), (1, .inl p), (2, .inl ev), (3, .inl k)], [.inl 1], (I, L, X), 0, 0) _
        exact yi_G_retb rfl rfl (by decide) (Or.inl rfl)
      · show yi_G zi_Ms d zi_m44 (74, [(4, .inl (I 88 0)), (0, .inr (.inr (some 82))), (1, .inl p), (2, .inl ev), (3, .inl k)], [.inl 0], (I, L, X), 0, 0) _
        exact yi_G_retb rfl rfl (by decide) (Or.inr rfl)
    · refine yi_G_if2 false rfl (yi_ge_f h2) ?_
      refine yi_G_run 5 (46, [(4, .inl (I 88 0)), (0, .inr (.inr (some 82))), (1, .inl p), (2, .inl ev), (3, .inl k)], [.inl k, .inl 3, .inl ev, .inl p, .inr (.inr (some 82))], (I, L, X), 0, 0) (fun _ => rfl) ?_
      refine yi_G_iadd rfl (3 + k) (yi_wn (by omega) (by omega)) ?_
      refine yi_G_run 2 (50, [(4, .inl (I 88 0)), (0, .inr (.inr (some 82))), (1, .inl p), (2, .inl ev), (3, .inl k)], [.inl (I 88 0), .inl 3, .inl (3 + k), .inl ev, .inl p, .inr (.inr (some 82))], (I, L, X), 0, 0) (fun _ => rfl) ?_
      refine yi_G_imul rfl (3 * (I 88 0)) (yi_wn (by omega) (by omega)) ?_
      refine yi_G_isub rfl ((3 + k) - (3 * (I 88 0))) (yi_wn (by omega) (by omega)) ?_
      refine yi_G_run 1 (53, [(4, .inl (I 88 0)), (0, .inr (.inr (some 82))), (1, .inl p), (2, .inl ev), (3, .inl k)], [.inl 0, .inl ((3 + k) - (3 * (I 88 0))), .inl ev, .inl p, .inr (.inr (some 82))], (I, L, X), 0, 0) (fun _ => rfl) ?_
      refine yi_G_callv rfl rfl (ym_rcv hS) rfl (c_holdsOf d (by omega) hS hLR (by omega) (by omega) (by omega) (by omega)) ?_
      rintro _ (rfl | rfl)
      · show yi_G zi_Ms d zi_m44 (56, [(4, .inl (I 88 0)), (0, .inr (.inr (some 82))), (1, .inl p), (2, .inl ev), (3, .inl k)], [.inl 1], (I, L, X), 0, 0) _
        refine yi_G_run 1 (74, [(4, .inl (I 88 0)), (0, .inr (.inr (some 82))), (1, .inl p), (2, .inl ev), (3, .inl k)], [.inl 1], (I, L, X), 0, 0) (fun _ => rfl) ?_
        exact yi_G_retb rfl rfl (by decide) (Or.inl rfl)
      · show yi_G zi_Ms d zi_m44 (56, [(4, .inl (I 88 0)), (0, .inr (.inr (some 82))), (1, .inl p), (2, .inl ev), (3, .inl k)], [.inl 0], (I, L, X), 0, 0) _
        refine yi_G_run 1 (74, [(4, .inl (I 88 0)), (0, .inr (.inr (some 82))), (1, .inl p), (2, .inl ev), (3, .inl k)], [.inl 0], (I, L, X), 0, 0) (fun _ => rfl) ?_
        exact yi_G_retb rfl rfl (by decide) (Or.inr rfl)
  · refine yi_G_if2 false rfl (yi_ge_f h1) ?_
    refine yi_G_run 5 (20, [(4, .inl (I 88 0)), (0, .inr (.inr (some 82))), (1, .inl p), (2, .inl ev), (3, .inl k)], [.inl (I 88 0), .inl k, .inl ev, .inl p, .inr (.inr (some 82))], (I, L, X), 0, 0) (fun _ => rfl) ?_
    have db := yi_db (f := k) (p := I 88 0) h2 (by omega)
    refine yi_G_idiv rfl (by omega) (k / (I 88 0)) (yi_dv (by omega) rfl (by omega) (by omega)) ?_
    refine yi_G_run 2 (24, [(4, .inl (I 88 0)), (0, .inr (.inr (some 82))), (1, .inl p), (2, .inl ev), (3, .inl k)], [.inl (I 88 0), .inl k, .inl (k / (I 88 0)), .inl ev, .inl p, .inr (.inr (some 82))], (I, L, X), 0, 0) (fun _ => rfl) ?_
    refine yi_G_irem rfl (by omega) (k % (I 88 0)) (yi_md (by omega) rfl) ?_
    refine yi_G_run 1 (26, [(4, .inl (I 88 0)), (0, .inr (.inr (some 82))), (1, .inl p), (2, .inl ev), (3, .inl k)], [.inl 1, .inl (k % (I 88 0)), .inl (k / (I 88 0)), .inl ev, .inl p, .inr (.inr (some 82))], (I, L, X), 0, 0) (fun _ => rfl) ?_
    have e1 := Int.emod_nonneg k (show I 88 0 ≠ 0 by omega)
    have e2 := Int.emod_lt_of_pos k (show 0 < I 88 0 by omega)
    refine yi_G_iadd rfl ((k % (I 88 0)) + 1) (yi_wn (by omega) (by omega)) ?_
    have e1 := Int.emod_nonneg k (show I 88 0 ≠ 0 by omega)
    have e2 := Int.emod_lt_of_pos k (show 0 < I 88 0 by omega)
    refine yi_G_callv rfl rfl (ym_rcv hS) rfl (c_holdsOf d (by omega) hS hLR (by omega) (by omega) (by omega) (by omega)) ?_
    rintro _ (rfl | rfl)
    · show yi_G zi_Ms d zi_m44 (30, [(4, .inl (I 88 0)), (0, .inr (.inr (some 82))), (1, .inl p), (2, .inl ev), (3, .inl k)], [.inl 1], (I, L, X), 0, 0) _
      exact yi_G_retb rfl rfl (by decide) (Or.inl rfl)
    · show yi_G zi_Ms d zi_m44 (30, [(4, .inl (I 88 0)), (0, .inr (.inr (some 82))), (1, .inl p), (2, .inl ev), (3, .inl k)], [.inl 0], (I, L, X), 0, 0) _
      exact yi_G_retb rfl rfl (by decide) (Or.inr rfl)
theorem c_findVague (D : Nat) (hD : 6 ≤ D) {I L : Nat → Nat → Int} {X : ym_X} (hS : ym_S X) {p ev : Int} (hLR : ym_LR I) (hS0 : ym_S0 I) (hl : 0 ≤ I 82 25 ∧ I 82 25 ≤ 512) (hPW : ym_PW I) (hF : 0 ≤ I 82 24 ∧ I 82 24 ≤ 32768) (h0 : 0 ≤ p) (h1 : p ≤ 3) : yi_E zi_Ms D 31 [.inr (.inr (some 82)), .inl p, .inl ev] (I, L, X) (fun r => ∃ z I' L', r = (some (.inl z), (I', L', X), 0, 0) ∧ (∀ p k, p ≠ 99 ∧ p ≠ 105 → I' p k = I p k) ∧ (∀ p k, p ≠ 97 → L' p k = L p k) ∧ -1 ≤ z ∧ z ≤ 26) := by
  obtain ⟨d, rfl⟩ : ∃ d, D = d + 1 := ⟨D - 1, by omega⟩
  refine yi_E_of (M := zi_m31) rfl rfl ?_
  obtain ⟨l0, l1, l2, l3, l4, l5⟩ := id hLR
  obtain ⟨t0, t1, t2, t3, t4⟩ := id hS0
  show yi_G zi_Ms d zi_m31 (0, [(0, .inr (.inr (some 82))), (1, .inl p), (2, .inl ev)], [], (I, L, X), 0, 0) _
  refine yi_G_run 1 (1, [(0, .inr (.inr (some 82))), (1, .inl p), (2, .inl ev)], [.inr (.inr (some 82))], (I, L, X), 0, 0) (fun _ => rfl) ?_
  refine yi_G_callv rfl rfl (ym_rcv hS) rfl (c_findLeft d (by omega) hS hLR hS0 ⟨(by omega), (by omega)⟩) ?_
  rintro _ ⟨z3, L1, rfl, f2⟩
  show yi_G zi_Ms d zi_m31 (4, [(0, .inr (.inr (some 82))), (1, .inl p), (2, .inl ev)], [.inl z3], (I, L1, X), 0, 0) _
  refine yi_G_run 3 (8, [(4, .inl 0), (3, .inl z3), (0, .inr (.inr (some 82))), (1, .inl p), (2, .inl ev)], [], (I, L1, X), 0, 0) (fun _ => rfl) ?_
  have pt8 : ∀ (m : Nat) (k : Int) (Ja : Nat → Nat → Int), (∀ p k, p ≠ 105 → Ja p k = I p k) → (0 ≤ k) → (k ≤ 4 * I 88 0 + 3) → (4 * I 88 0 + 3 - k).toNat = m → yi_G zi_Ms d zi_m31 (8, [(4, .inl k), (3, .inl z3), (0, .inr (.inr (some 82))), (1, .inl p), (2, .inl ev)], [], (Ja, L1, X), 0, 0) (fun r => ∃ z I' L', r = (some (.inl z), (I', L', X), 0, 0) ∧ (∀ p k, p ≠ 99 ∧ p ≠ 105 → I' p k = I p k) ∧ (∀ p k, p ≠ 97 → L' p k = L p k) ∧ -1 ≤ z ∧ z ≤ 26) := by
    intro m8
    induction m8 using Nat.strongRecOn with
    | _ m8 ih8 =>
    intro k Ja fJa k0 k1 hm8
    refine yi_G_run 2 (11, [(4, .inl k), (3, .inl z3), (0, .inr (.inr (some 82))), (1, .inl p), (2, .inl ev)], [.inr (.inr (some 82)), .inl k], (Ja, L1, X), 0, 0) (fun _ => rfl) ?_
    have r4 : Ja 88 0 = I 88 0 := by rw [fJa 88 (0) (by omega)]
    refine yi_G_callv rfl rfl (ym_rcv hS) rfl (c_vagueMany d (by omega) hS (ym_LR_t (fun k => by rw [fJa 88 k (by omega)]) hLR)) ?_
    rintro _ rfl
    show yi_G zi_Ms d zi_m31 (14, [(4, .inl k), (3, .inl z3), (0, .inr (.inr (some 82))), (1, .inl p), (2, .inl ev)], [.inl (4 * Ja 88 0 + 3), .inl k], (Ja, L1, X), 0, 0) _
    by_cases h5 : (4 * Ja 88 0 + 3) ≤ k
    · refine yi_G_if2 true rfl (yi_ge_t h5) ?_
      refine yi_G_run 2 (34, [(4, .inl 0), (3, .inl z3), (0, .inr (.inr (some 82))), (1, .inl p), (2, .inl ev)], [], (Ja, L1, X), 0, 0) (fun _ => rfl) ?_
      have pt34 : ∀ (m : Nat) (f : Int) (Jb : Nat → Nat → Int), (∀ p k, p ≠ 105 ∧ p ≠ 99 → Jb p k = Ja p k) → (0 ≤ f) → (f ≤ I 82 24) → (I 82 24 - f).toNat = m → yi_G zi_Ms d zi_m31 (34, [(4, .inl f), (3, .inl z3), (0, .inr (.inr (some 82))), (1, .inl p), (2, .inl ev)], [], (Jb, L1, X), 0, 0) (fun r => ∃ z I' L', r = (some (.inl z), (I', L', X), 0, 0) ∧ (∀ p k, p ≠ 99 ∧ p ≠ 105 → I' p k = I p k) ∧ (∀ p k, p ≠ 97 → L' p k = L p k) ∧ -1 ≤ z ∧ z ≤ 26) := by
        intro m34
        induction m34 using Nat.strongRecOn with
        | _ m34 ih34 =>
        intro f Jb fJb f0 f1 hm34
        refine yi_G_run 2 (37, [(4, .inl f), (3, .inl z3), (0, .inr (.inr (some 82))), (1, .inl p), (2, .inl ev)], [.inr (.inr (some 82)), .inl f], (Jb, L1, X), 0, 0) (fun _ => rfl) ?_
        have r6 : Jb 82 24 = I 82 24 := by rw [fJb 82 (24) (by omega), fJa 82 (24) (by omega)]
        refine yi_G_get (40, [(4, .inl f), (3, .inl z3), (0, .inr (.inr (some 82))), (1, .inl p), (2, .inl ev)], [.inl (I 82 24), .inl f], (Jb, L1, X), 0, 0) rfl (ym_gi hS rfl rfl r6) ?_
        by_cases h7 : (I 82 24) ≤ f
        · refine yi_G_if2 true rfl (yi_ge_t h7) ?_
          refine yi_G_run 4 (116, [(5, .inl 0), (4, .inl (-1)), (3, .inl z3), (0, .inr (.inr (some 82))), (1, .inl p), (2, .inl ev)], [], (Jb, L1, X), 0, 0) (fun _ => rfl) ?_
          have pt116 : ∀ (m : Nat) (k : Int) (be : Int), (0 ≤ k) → (k ≤ 4 * I 88 0 + 3) → (-1 ≤ be ∧ be < k) → (4 * I 88 0 + 3 - k).toNat = m → yi_G zi_Ms d zi_m31 (116, [(5, .inl k), (4, .inl be), (3, .inl z3), (0, .inr (.inr (some 82))), (1, .inl p), (2, .inl ev)], [], (Jb, L1, X), 0, 0) (fun r => ∃ z I' L', r = (some (.inl z), (I', L', X), 0, 0) ∧ (∀ p k, p ≠ 99 ∧ p ≠ 105 → I' p k = I p k) ∧ (∀ p k, p ≠ 97 → L' p k = L p k) ∧ -1 ≤ z ∧ z ≤ 26) := by
            intro m116
            induction m116 using Nat.strongRecOn with
            | _ m116 ih116 =>
            intro k be k4 k5 be0 hm116
            refine yi_G_run 2 (119, [(5, .inl k), (4, .inl be), (3, .inl z3), (0, .inr (.inr (some 82))), (1, .inl p), (2, .inl ev)], [.inr (.inr (some 82)), .inl k], (Jb, L1, X), 0, 0) (fun _ => rfl) ?_
            have r8 : Jb 88 0 = I 88 0 := by rw [fJb 88 (0) (by omega), fJa 88 (0) (by omega)]
            refine yi_G_callv rfl rfl (ym_rcv hS) rfl (c_vagueMany d (by omega) hS (ym_LR_t (fun k => by rw [fJb 88 k (by omega), fJa 88 k (by omega)]) hLR)) ?_
            rintro _ rfl
            show yi_G zi_Ms d zi_m31 (122, [(5, .inl k), (4, .inl be), (3, .inl z3), (0, .inr (.inr (some 82))), (1, .inl p), (2, .inl ev)], [.inl (4 * Jb 88 0 + 3), .inl k], (Jb, L1, X), 0, 0) _
            by_cases h9 : (4 * Jb 88 0 + 3) ≤ k
            · refine yi_G_if2 true rfl (yi_ge_t h9) ?_
              refine yi_G_run 1 (174, [(5, .inl k), (4, .inl be), (3, .inl z3), (0, .inr (.inr (some 82))), (1, .inl p), (2, .inl ev)], [.inl be], (Jb, L1, X), 0, 0) (fun _ => rfl) ?_
              exact yi_G_reti rfl rfl (⟨_, _, _, rfl, (fun p k hp => by rw [fJb p k (by omega), fJa p k (by omega)]), (fun p k hp => by rw [f2 p k (by omega)]), by omega, by omega⟩)
            · refine yi_G_if2 false rfl (yi_ge_f h9) ?_
              refine yi_G_run 2 (127, [(5, .inl k), (4, .inl be), (3, .inl z3), (0, .inr (.inr (some 82))), (1, .inl p), (2, .inl ev)], [.inr (.inr (some 82)), .inl z3], (Jb, L1, X), 0, 0) (fun _ => rfl) ?_
              refine yi_G_get (130, [(5, .inl k), (4, .inl be), (3, .inl z3), (0, .inr (.inr (some 82))), (1, .inl p), (2, .inl ev)], [.inr (.inr (some 105)), .inl z3], (Jb, L1, X), 0, 0) rfl (ym_gr hS 22 rfl rfl rfl) ?_
              refine yi_G_run 1 (132, [(5, .inl k), (4, .inl be), (3, .inl z3), (0, .inr (.inr (some 82))), (1, .inl p), (2, .inl ev)], [.inl k, .inr (.inr (some 105)), .inl z3], (Jb, L1, X), 0, 0) (fun _ => rfl) ?_
              refine yi_G_iald (133, [(5, .inl k), (4, .inl be), (3, .inl z3), (0, .inr (.inr (some 82))), (1, .inl p), (2, .inl ev)], [.inl (Jb 105 (k.toNat)), .inl z3], (Jb, L1, X), 0, 0) rfl (ym_li hS 22 rfl (by omega) (by omega) rfl) ?_
              refine yi_G_calls rfl rfl (c_how d (by omega) hS) ?_
              rintro _ ⟨z10, rfl, h11a, h11b⟩
              show yi_G zi_Ms d zi_m31 (136, [(5, .inl k), (4, .inl be), (3, .inl z3), (0, .inr (.inr (some 82))), (1, .inl p), (2, .inl ev)], [.inl z10], (Jb, L1, X), 0, 0) _
              refine yi_G_run 1 (137, [(5, .inl k), (4, .inl be), (3, .inl z3), (0, .inr (.inr (some 82))), (1, .inl p), (2, .inl ev)], [.inl 2, .inl z10], (Jb, L1, X), 0, 0) (fun _ => rfl) ?_
              by_cases h12 : z10 = 2
              · refine yi_G_if2 false rfl (yi_ne_f h12) ?_
                refine yi_G_run 1 (142, [(5, .inl k), (4, .inl be), (3, .inl z3), (0, .inr (.inr (some 82))), (1, .inl p), (2, .inl ev)], [.inl be], (Jb, L1, X), 0, 0) (fun _ => rfl) ?_
                by_cases h13 : be < 0
                · refine yi_G_if1 true rfl (yi_lt_t h13) ?_
                  refine yi_G_run 2 (166, [(4, .inl k), (5, .inl k), (3, .inl z3), (0, .inr (.inr (some 82))), (1, .inl p), (2, .inl ev)], [], (Jb, L1, X), 0, 0) (fun _ => rfl) ?_
                  refine yi_G_iinc [(5, .inl (k + 1)), (4, .inl k), (3, .inl z3), (0, .inr (.inr (some 82))), (1, .inl p), (2, .inl ev)] rfl rfl rfl (by rw [show yi_w (k + 1) = k + 1 from (yi_wn (by omega) (by omega)).trans (by omega)]; rfl) ?_
                  refine yi_G_run 1 (116, [(5, .inl (k + 1)), (4, .inl k), (3, .inl z3), (0, .inr (.inr (some 82))), (1, .inl p), (2, .inl ev)], [], (Jb, L1, X), 0, 0) (fun _ => rfl) ?_
                  exact ih116 _ (by omega) (k + 1) k (by omega) (by omega) (by omega) rfl
                · refine yi_G_if1 false rfl (yi_lt_f h13) ?_
                  refine yi_G_run 1 (146, [(5, .inl k), (4, .inl be), (3, .inl z3), (0, .inr (.inr (some 82))), (1, .inl p), (2, .inl ev)], [.inr (.inr (some 82))], (Jb, L1, X), 0, 0) (fun _ => rfl) ?_
                  refine yi_G_get (149, [(5, .inl k), (4, .inl be), (3, .inl z3), (0, .inr (.inr (some 82))), (1, .inl p), (2, .inl ev)], [.inr (.inr (some 105))], (Jb, L1, X), 0, 0) rfl (ym_gr hS 22 rfl rfl rfl) ?_
                  refine yi_G_run 1 (151, [(5, .inl k), (4, .inl be), (3, .inl z3), (0, .inr (.inr (some 82))), (1, .inl p), (2, .inl ev)], [.inl k, .inr (.inr (some 105))], (Jb, L1, X), 0, 0) (fun _ => rfl) ?_
                  refine yi_G_iald (152, [(5, .inl k), (4, .inl be), (3, .inl z3), (0, .inr (.inr (some 82))), (1, .inl p), (2, .inl ev)], [.inl (Jb 105 (k.toNat))], (Jb, L1, X), 0, 0) rfl (ym_li hS 22 rfl (by omega) (by omega) rfl) ?_
                  refine yi_G_run 1 (153, [(5, .inl k), (4, .inl be), (3, .inl z3), (0, .inr (.inr (some 82))), (1, .inl p), (2, .inl ev)], [.inr (.inr (some 82)), .inl (Jb 105 (k.toNat))], (Jb, L1, X), 0, 0) (fun _ => rfl) ?_
                  refine yi_G_get (156, [(5, .inl k), (4, .inl be), (3, .inl z3), (0, .inr (.inr (some 82))), (1, .inl p), (2, .inl ev)], [.inr (.inr (some 105)), .inl (Jb 105 (k.toNat))], (Jb, L1, X), 0, 0) rfl (ym_gr hS 22 rfl rfl rfl) ?_
                  refine yi_G_run 1 (158, [(5, .inl k), (4, .inl be), (3, .inl z3), (0, .inr (.inr (some 82))), (1, .inl p), (2, .inl ev)], [.inl be, .inr (.inr (some 105)), .inl (Jb 105 (k.toNat))], (Jb, L1, X), 0, 0) (fun _ => rfl) ?_
                  refine yi_G_iald (159, [(5, .inl k), (4, .inl be), (3, .inl z3), (0, .inr (.inr (some 82))), (1, .inl p), (2, .inl ev)], [.inl (Jb 105 (be.toNat)), .inl (Jb 105 (k.toNat))], (Jb, L1, X), 0, 0) rfl (ym_li hS 22 rfl (by omega) (by omega) rfl) ?_
                  by_cases h14 : (Jb 105 (k.toNat)) ≤ (Jb 105 (be.toNat))
                  · refine yi_G_if2 true rfl (yi_le_t h14) ?_
                    refine yi_G_iinc [(5, .inl (k + 1)), (4, .inl be), (3, .inl z3), (0, .inr (.inr (some 82))), (1, .inl p), (2, .inl ev)] rfl rfl rfl (by rw [show yi_w (k + 1) = k + 1 from (yi_wn (by omega) (by omega)).trans (by omega)]; rfl) ?_
                    refine yi_G_run 1 (116, [(5, .inl (k + 1)), (4, .inl be), (3, .inl z3), (0, .inr (.inr (some 82))), (1, .inl p), (2, .inl ev)], [], (Jb, L1, X), 0, 0) (fun _ => rfl) ?_
                    exact ih116 _ (by omega) (k + 1) be (by omega) (by omega) (by omega) rfl
                  · refine yi_G_if2 false rfl (yi_le_f h14) ?_
                    refine yi_G_run 2 (166, [(4, .inl k), (5, .inl k), (3, .inl z3), (0, .inr (.inr (some 82))), (1, .inl p), (2, .inl ev)], [], (Jb, L1, X), 0, 0) (fun _ => rfl) ?_
                    refine yi_G_iinc [(5, .inl (k + 1)), (4, .inl k), (3, .inl z3), (0, .inr (.inr (some 82))), (1, .inl p), (2, .inl ev)] rfl rfl rfl (by rw [show yi_w (k + 1) = k + 1 from (yi_wn (by omega) (by omega)).trans (by omega)]; rfl) ?_
                    refine yi_G_run 1 (116, [(5, .inl (k + 1)), (4, .inl k), (3, .inl z3), (0, .inr (.inr (some 82))), (1, .inl p), (2, .inl ev)], [], (Jb, L1, X), 0, 0) (fun _ => rfl) ?_
                    exact ih116 _ (by omega) (k + 1) k (by omega) (by omega) (by omega) rfl
              · refine yi_G_if2 true rfl (yi_ne_t h12) ?_
                refine yi_G_iinc [(5, .inl (k + 1)), (4, .inl be), (3, .inl z3), (0, .inr (.inr (some 82))), (1, .inl p), (2, .inl ev)] rfl rfl rfl (by rw [show yi_w (k + 1) = k + 1 from (yi_wn (by omega) (by omega)).trans (by omega)]; rfl) ?_
                refine yi_G_run 1 (116, [(5, .inl (k + 1)), (4, .inl be), (3, .inl z3), (0, .inr (.inr (some 82))), (1, .inl p), (2, .inl ev)], [], (Jb, L1, X), 0, 0) (fun _ => rfl) ?_
                exact ih116 _ (by omega) (k + 1) be (by omega) (by omega) (by omega) rfl
          exact pt116 _ 0 (-1) (by omega) (by omega) (by omega) rfl
        · refine yi_G_if2 false rfl (yi_ge_f h7) ?_
          refine yi_G_run 3 (48, [(4, .inl f), (3, .inl z3), (0, .inr (.inr (some 82))), (1, .inl p), (2, .inl ev)], [.inl f, .inl 39, .inr (.inr (some 82))], (Jb, L1, X), 0, 0) (fun _ => rfl) ?_
          refine yi_G_callv rfl rfl (ym_rcv hS) rfl (w_isSet (by omega) hS (by omega) (by omega) (by omega) (by omega) (by omega) ) ?_
          rintro _ (rfl | rfl)
          · show yi_G zi_Ms d zi_m31 (51, [(4, .inl f), (3, .inl z3), (0, .inr (.inr (some 82))), (1, .inl p), (2, .inl ev)], [.inl 1], (Jb, L1, X), 0, 0) _
            refine yi_G_if1 false rfl (by decide) ?_
            refine yi_G_run 2 (57, [(4, .inl f), (3, .inl z3), (0, .inr (.inr (some 82))), (1, .inl p), (2, .inl ev)], [.inl f, .inr (.inr (some 82))], (Jb, L1, X), 0, 0) (fun _ => rfl) ?_
            refine yi_G_callv rfl rfl (ym_rcv hS) rfl (c_laysFuture d (by omega) hS (ym_LR_t (fun k => by rw [fJb 88 k (by omega), fJa 88 k (by omega)]) hLR) (ym_PW_t (fun k => by rw [fJb 88 k (by omega), fJa 88 k (by omega)]) (fun k => by rw [fJb 98 k (by omega), fJa 98 k (by omega)]) hPW) (by omega) (by omega)) ?_
            rintro _ ⟨I15, rfl, f16, h17⟩
            show yi_G zi_Ms d zi_m31 (60, [(4, .inl f), (3, .inl z3), (0, .inr (.inr (some 82))), (1, .inl p), (2, .inl ev)], [], (I15, L1, X), 0, 0) _
            refine yi_G_run 2 (63, [(5, .inl 0), (4, .inl f), (3, .inl z3), (0, .inr (.inr (some 82))), (1, .inl p), (2, .inl ev)], [], (I15, L1, X), 0, 0) (fun _ => rfl) ?_
            have pt63 : ∀ (m : Nat) (k : Int) (Jc : Nat → Nat → Int), (∀ p k, p ≠ 105 → Jc p k = I15 p k) → (0 ≤ k) → (k ≤ 4 * I 88 0 + 3) → (4 * I 88 0 + 3 - k).toNat = m → yi_G zi_Ms d zi_m31 (63, [(5, .inl k), (4, .inl f), (3, .inl z3), (0, .inr (.inr (some 82))), (1, .inl p), (2, .inl ev)], [], (Jc, L1, X), 0, 0) (fun r => ∃ z I' L', r = (some (.inl z), (I', L', X), 0, 0) ∧ (∀ p k, p ≠ 99 ∧ p ≠ 105 → I' p k = I p k) ∧ (∀ p k, p ≠ 97 → L' p k = L p k) ∧ -1 ≤ z ∧ z ≤ 26) := by
              intro m63
              induction m63 using Nat.strongRecOn with
              | _ m63 ih63 =>
              intro k Jc fJc k2 k3 hm63
              refine yi_G_run 2 (66, [(5, .inl k), (4, .inl f), (3, .inl z3), (0, .inr (.inr (some 82))), (1, .inl p), (2, .inl ev)], [.inr (.inr (some 82)), .inl k], (Jc, L1, X), 0, 0) (fun _ => rfl) ?_
              have r18 : Jc 88 0 = I 88 0 := by rw [fJc 88 (0) (by omega), f16 88 (0) (by omega), fJb 88 (0) (by omega), fJa 88 (0) (by omega)]
              refine yi_G_callv rfl rfl (ym_rcv hS) rfl (c_vagueMany d (by omega) hS (ym_LR_t (fun k => by rw [fJc 88 k (by omega), f16 88 k (by omega), fJb 88 k (by omega), fJa 88 k (by omega)]) hLR)) ?_
              rintro _ rfl
              show yi_G zi_Ms d zi_m31 (69, [(5, .inl k), (4, .inl f), (3, .inl z3), (0, .inr (.inr (some 82))), (1, .inl p), (2, .inl ev)], [.inl (4 * Jc 88 0 + 3), .inl k], (Jc, L1, X), 0, 0) _
              by_cases h19 : (4 * Jc 88 0 + 3) ≤ k
              · refine yi_G_if2 true rfl (yi_ge_t h19) ?_
                refine yi_G_iinc [(4, .inl (f + 1)), (5, .inl k), (3, .inl z3), (0, .inr (.inr (some 82))), (1, .inl p), (2, .inl ev)] rfl rfl rfl (by rw [show yi_w (f + 1) = f + 1 from (yi_wn (by omega) (by omega)).trans (by omega)]; rfl) ?_
                refine yi_G_run 1 (34, [(4, .inl (f + 1)), (5, .inl k), (3, .inl z3), (0, .inr (.inr (some 82))), (1, .inl p), (2, .inl ev)], [], (Jc, L1, X), 0, 0) (fun _ => rfl) ?_
                refine yi_G_al (al := [(4, .inl (f + 1)), (3, .inl z3), (0, .inr (.inr (some 82))), (1, .inl p), (2, .inl ev)]) (show ([4, 3, 0, 1, 2] : List Nat).Nodup by decide) (show ([4, 5, 3, 0, 1, 2] : List Nat).Nodup by decide) (yi_mc (List.mem_of_getElem? (i := 0) rfl) (yi_mc (List.mem_of_getElem? (i := 2) rfl) (yi_mc (List.mem_of_getElem? (i := 3) rfl) (yi_mc (List.mem_of_getElem? (i := 4) rfl) (yi_mc (List.mem_of_getElem? (i := 5) rfl) yi_mn))))) ?_
                exact ih34 _ (by omega) (f + 1) Jc (fun p k hp => by rw [fJc p k (by omega), f16 p k (by omega), fJb p k (by omega)]) (by omega) (by omega) rfl
              · refine yi_G_if2 false rfl (yi_ge_f h19) ?_
                refine yi_G_run 1 (73, [(5, .inl k), (4, .inl f), (3, .inl z3), (0, .inr (.inr (some 82))), (1, .inl p), (2, .inl ev)], [.inr (.inr (some 82))], (Jc, L1, X), 0, 0) (fun _ => rfl) ?_
                refine yi_G_get (76, [(5, .inl k), (4, .inl f), (3, .inl z3), (0, .inr (.inr (some 82))), (1, .inl p), (2, .inl ev)], [.inr (.inr (some 105))], (Jc, L1, X), 0, 0) rfl (ym_gr hS 22 rfl rfl rfl) ?_
                refine yi_G_run 2 (79, [(5, .inl k), (4, .inl f), (3, .inl z3), (0, .inr (.inr (some 82))), (1, .inl p), (2, .inl ev)], [.inl k, .inr (.inr (some 105)), .inl k, .inr (.inr (some 105))], (Jc, L1, X), 0, 0) (fun _ => rfl) ?_
                refine yi_G_iald (80, [(5, .inl k), (4, .inl f), (3, .inl z3), (0, .inr (.inr (some 82))), (1, .inl p), (2, .inl ev)], [.inl (Jc 105 (k.toNat)), .inl k, .inr (.inr (some 105))], (Jc, L1, X), 0, 0) rfl (ym_li hS 22 rfl (by omega) (by omega) rfl) ?_
                refine yi_G_run 4 (85, [(5, .inl k), (4, .inl f), (3, .inl z3), (0, .inr (.inr (some 82))), (1, .inl p), (2, .inl ev)], [.inl k, .inl ev, .inl p, .inr (.inr (some 82)), .inl (Jc 105 (k.toNat)), .inl k, .inr (.inr (some 105))], (Jc, L1, X), 0, 0) (fun _ => rfl) ?_
                refine yi_G_callv rfl rfl (ym_rcv hS) rfl (c_holdsVague d (by omega) hS (ym_LR_t (fun k => by rw [fJc 88 k (by omega), f16 88 k (by omega), fJb 88 k (by omega), fJa 88 k (by omega)]) hLR) (by omega) (by omega) (by omega) (by omega)) ?_
                rintro _ (rfl | rfl)
                · show yi_G zi_Ms d zi_m31 (88, [(5, .inl k), (4, .inl f), (3, .inl z3), (0, .inr (.inr (some 82))), (1, .inl p), (2, .inl ev)], [.inl 1, .inl (Jc 105 (k.toNat)), .inl k, .inr (.inr (some 105))], (Jc, L1, X), 0, 0) _
                  refine yi_G_if1 false rfl (by decide) ?_
                  refine yi_G_run 3 (97, [(5, .inl k), (4, .inl f), (3, .inl z3), (0, .inr (.inr (some 82))), (1, .inl p), (2, .inl ev)], [.inl (yi_w ((Jc 105 (k.toNat)) + 1)), .inl k, .inr (.inr (some 105))], (Jc, L1, X), 0, 0) (fun _ => rfl) ?_
                  refine yi_G_iast (98, [(5, .inl k), (4, .inl f), (3, .inl z3), (0, .inr (.inr (some 82))), (1, .inl p), (2, .inl ev)], [], ((yi_u Jc 105 (k.toNat) (yi_w ((Jc 105 (k.toNat)) + 1))), L1, X), 0, 0) rfl (ym_si hS 22 rfl (by omega) (by omega)) ?_
                  generalize w21 : yi_u Jc 105 (k.toNat) (yi_w ((Jc 105 (k.toNat)) + 1)) = I20
                  refine yi_G_iinc [(5, .inl (k + 1)), (4, .inl f), (3, .inl z3), (0, .inr (.inr (some 82))), (1, .inl p), (2, .inl ev)] rfl rfl rfl (by rw [show yi_w (k + 1) = k + 1 from (yi_wn (by omega) (by omega)).trans (by omega)]; rfl) ?_
                  refine yi_G_run 1 (63, [(5, .inl (k + 1)), (4, .inl f), (3, .inl z3), (0, .inr (.inr (some 82))), (1, .inl p), (2, .inl ev)], [], (I20, L1, X), 0, 0) (fun _ => rfl) ?_
                  exact ih63 _ (by omega) (k + 1) I20 (fun p k hp => by rw [← w21, yi_u_ne _ _ (fun z => by omega), fJc p k (by omega)]) (by omega) (by omega) rfl
                · show yi_G zi_Ms d zi_m31 (88, [(5, .inl k), (4, .inl f), (3, .inl z3), (0, .inr (.inr (some 82))), (1, .inl p), (2, .inl ev)], [.inl 0, .inl (Jc 105 (k.toNat)), .inl k, .inr (.inr (some 105))], (Jc, L1, X), 0, 0) _
                  refine yi_G_if1 true rfl (by decide) ?_
                  refine yi_G_run 2 (97, [(5, .inl k), (4, .inl f), (3, .inl z3), (0, .inr (.inr (some 82))), (1, .inl p), (2, .inl ev)], [.inl (yi_w ((Jc 105 (k.toNat)) + 0)), .inl k, .inr (.inr (some 105))], (Jc, L1, X), 0, 0) (fun _ => rfl) ?_
                  refine yi_G_iast (98, [(5, .inl k), (4, .inl f), (3, .inl z3), (0, .inr (.inr (some 82))), (1, .inl p), (2, .inl ev)], [], ((yi_u Jc 105 (k.toNat) (yi_w ((Jc 105 (k.toNat)) + 0))), L1, X), 0, 0) rfl (ym_si hS 22 rfl (by omega) (by omega)) ?_
                  generalize w23 : yi_u Jc 105 (k.toNat) (yi_w ((Jc 105 (k.toNat)) + 0)) = I22
                  refine yi_G_iinc [(5, .inl (k + 1)), (4, .inl f), (3, .inl z3), (0, .inr (.inr (some 82))), (1, .inl p), (2, .inl ev)] rfl rfl rfl (by rw [show yi_w (k + 1) = k + 1 from (yi_wn (by omega) (by omega)).trans (by omega)]; rfl) ?_
                  refine yi_G_run 1 (63, [(5, .inl (k + 1)), (4, .inl f), (3, .inl z3), (0, .inr (.inr (some 82))), (1, .inl p), (2, .inl ev)], [], (I22, L1, X), 0, 0) (fun _ => rfl) ?_
                  exact ih63 _ (by omega) (k + 1) I22 (fun p k hp => by rw [← w23, yi_u_ne _ _ (fun z => by omega), fJc p k (by omega)]) (by omega) (by omega) rfl
            exact pt63 _ 0 I15 (fun _ _ _ => rfl) (by omega) (by omega) rfl
          · show yi_G zi_Ms d zi_m31 (51, [(4, .inl f), (3, .inl z3), (0, .inr (.inr (some 82))), (1, .inl p), (2, .inl ev)], [.inl 0], (Jb, L1, X), 0, 0) _
            refine yi_G_if1 true rfl (by decide) ?_
            refine yi_G_iinc [(4, .inl (f + 1)), (3, .inl z3), (0, .inr (.inr (some 82))), (1, .inl p), (2, .inl ev)] rfl rfl rfl (by rw [show yi_w (f + 1) = f + 1 from (yi_wn (by omega) (by omega)).trans (by omega)]; rfl) ?_
            refine yi_G_run 1 (34, [(4, .inl (f + 1)), (3, .inl z3), (0, .inr (.inr (some 82))), (1, .inl p), (2, .inl ev)], [], (Jb, L1, X), 0, 0) (fun _ => rfl) ?_
            exact ih34 _ (by omega) (f + 1) Jb (fun p k hp => by rw [fJb p k (by omega)]) (by omega) (by omega) rfl
      exact pt34 _ 0 Ja (fun _ _ _ => rfl) (by omega) (by omega) rfl
    · refine yi_G_if2 false rfl (yi_ge_f h5) ?_
      refine yi_G_run 1 (18, [(4, .inl k), (3, .inl z3), (0, .inr (.inr (some 82))), (1, .inl p), (2, .inl ev)], [.inr (.inr (some 82))], (Ja, L1, X), 0, 0) (fun _ => rfl) ?_
      refine yi_G_get (21, [(4, .inl k), (3, .inl z3), (0, .inr (.inr (some 82))), (1, .inl p), (2, .inl ev)], [.inr (.inr (some 105))], (Ja, L1, X), 0, 0) rfl (ym_gr hS 22 rfl rfl rfl) ?_
      refine yi_G_run 2 (24, [(4, .inl k), (3, .inl z3), (0, .inr (.inr (some 82))), (1, .inl p), (2, .inl ev)], [.inl 0, .inl k, .inr (.inr (some 105))], (Ja, L1, X), 0, 0) (fun _ => rfl) ?_
      refine yi_G_iast (25, [(4, .inl k), (3, .inl z3), (0, .inr (.inr (some 82))), (1, .inl p), (2, .inl ev)], [], ((yi_u Ja 105 (k.toNat) 0), L1, X), 0, 0) rfl (ym_si hS 22 rfl (by omega) (by omega)) ?_
      generalize w25 : yi_u Ja 105 (k.toNat) 0 = I24
      refine yi_G_iinc [(4, .inl (k + 1)), (3, .inl z3), (0, .inr (.inr (some 82))), (1, .inl p), (2, .inl ev)] rfl rfl rfl (by rw [show yi_w (k + 1) = k + 1 from (yi_wn (by omega) (by omega)).trans (by omega)]; rfl) ?_
      refine yi_G_run 1 (8, [(4, .inl (k + 1)), (3, .inl z3), (0, .inr (.inr (some 82))), (1, .inl p), (2, .inl ev)], [], (I24, L1, X), 0, 0) (fun _ => rfl) ?_
      exact ih8 _ (by omega) (k + 1) I24 (fun p k hp => by rw [← w25, yi_u_ne _ _ (fun z => by omega), fJa p k (by omega)]) (by omega) (by omega) rfl
  exact pt8 _ 0 I (fun _ _ _ => rfl) (by omega) (by omega) rfl
theorem q_vague (D : Nat) (hD : 7 ≤ D) {I L : Nat → Nat → Int} {X : ym_X} (hS : ym_S X) {p ev w : Int} (hLR : ym_LR I) (hS0 : ym_S0 I) (hl : 0 ≤ I 82 25 ∧ I 82 25 ≤ 512) (hPW : ym_PW I) (hF : 0 ≤ I 82 24 ∧ I 82 24 ≤ 32768) : yi_E zi_Ms D 125 [.inr (.inr (some 82)), .inl p, .inl ev, .inl w] (I, L, X) (fun r => ∃ z I' L', r = (some (.inl z), (I', L', X), 0, 0) ∧ (∀ p k, p ≠ 96 ∧ p ≠ 99 ∧ p ≠ 103 ∧ p ≠ 104 ∧ p ≠ 105 ∧ p ≠ 106 ∧ p ≠ 107 ∧ p ≠ 108 ∧ ¬ (p = 82 ∧ k = 0) ∧ ¬ (p = 82 ∧ k = 34) ∧ ¬ (p = 82 ∧ k = 35) ∧ ¬ (p = 82 ∧ k = 37) ∧ ¬ (p = 82 ∧ k = 40) → I' p k = I p k) ∧ (∀ p k, p ≠ 97 ∧ ¬ (p = 82 ∧ k = 43) → L' p k = L p k)) := by
  obtain ⟨d, rfl⟩ : ∃ d, D = d + 1 := ⟨D - 1, by omega⟩
  refine yi_E_of (M := zi_m125) rfl rfl ?_
  obtain ⟨l0, l1, l2, l3, l4, l5⟩ := id hLR
  obtain ⟨t0, t1, t2, t3, t4⟩ := id hS0
  show yi_G zi_Ms d zi_m125 (0, [(0, .inr (.inr (some 82))), (1, .inl p), (2, .inl ev), (3, .inl w)], [], (I, L, X), 0, 0) _
  refine yi_G_run 2 (2, [(0, .inr (.inr (some 82))), (1, .inl p), (2, .inl ev), (3, .inl w)], [.inl 0, .inr (.inr (some 82))], (I, L, X), 0, 0) (fun _ => rfl) ?_
  refine yi_G_put (5, [(0, .inr (.inr (some 82))), (1, .inl p), (2, .inl ev), (3, .inl w)], [], ((yi_u I 82 0 0), L, X), 0, 0) rfl (ym_pi hS rfl rfl) ?_
  generalize w2 : yi_u I 82 0 0 = I1
  refine yi_G_run 2 (7, [(0, .inr (.inr (some 82))), (1, .inl p), (2, .inl ev), (3, .inl w)], [.inl p, .inr (.inr (some 82))], (I1, L, X), 0, 0) (fun _ => rfl) ?_
  have r4 : I1 88 1 = I 88 1 := by rw [← w2, yi_u_ne _ _ (by omega)]
  refine yi_G_callv rfl rfl (ym_rcv hS) rfl (c_isPerson d (by omega) hS r4) ?_
  rintro _ (⟨c3, rfl⟩ | ⟨c3, rfl⟩)
  · show yi_G zi_Ms d zi_m125 (10, [(0, .inr (.inr (some 82))), (1, .inl p), (2, .inl ev), (3, .inl w)], [.inl 1], (I1, L, X), 0, 0) _
    refine yi_G_if1 false rfl (by decide) ?_
    refine yi_G_run 2 (15, [(0, .inr (.inr (some 82))), (1, .inl p), (2, .inl ev), (3, .inl w)], [.inl ev, .inr (.inr (some 82))], (I1, L, X), 0, 0) (fun _ => rfl) ?_
    have r6 : I1 88 2 = I 88 2 := by rw [← w2, yi_u_ne _ _ (by omega)]
    refine yi_G_callv rfl rfl (ym_rcv hS) rfl (c_isEvent d (by omega) hS r6) ?_
    rintro _ (⟨c5, rfl⟩ | ⟨c5, rfl⟩)
    · show yi_G zi_Ms d zi_m125 (18, [(0, .inr (.inr (some 82))), (1, .inl p), (2, .inl ev), (3, .inl w)], [.inl 1], (I1, L, X), 0, 0) _
      refine yi_G_if1 false rfl (by decide) ?_
      refine yi_G_run 3 (24, [(0, .inr (.inr (some 82))), (1, .inl p), (2, .inl ev), (3, .inl w)], [.inl 1, .inl 0, .inl w], (I1, L, X), 0, 0) (fun _ => rfl) ?_
      refine yi_G_calls rfl rfl (c_within d (by omega) hS) ?_
      rintro _ (⟨c7, rfl⟩ | ⟨c7, rfl⟩)
      · show yi_G zi_Ms d zi_m125 (27, [(0, .inr (.inr (some 82))), (1, .inl p), (2, .inl ev), (3, .inl w)], [.inl 1], (I1, L, X), 0, 0) _
        refine yi_G_if1 true rfl (by decide) ?_
        refine yi_G_run 3 (35, [(0, .inr (.inr (some 82))), (1, .inl p), (2, .inl ev), (3, .inl w)], [.inl ev, .inl p, .inr (.inr (some 82))], (I1, L, X), 0, 0) (fun _ => rfl) ?_
        have r14 : I1 82 25 = I 82 25 := by rw [← w2, yi_u_ne _ _ (by omega)]
        have r15 : I1 82 24 = I 82 24 := by rw [← w2, yi_u_ne _ _ (by omega)]
        refine yi_G_callv rfl rfl (ym_rcv hS) rfl (c_findVague d (by omega) hS (ym_LR_t (fun k => by rw [← w2, yi_u_ne _ _ (fun z => absurd z.1 (by decide))]) hLR) (ym_S0_t (fun k => by rw [← w2, yi_u_ne _ _ (fun z => absurd z.1 (by decide))]) hS0) ⟨(by rw [r14]; omega), (by rw [r14]; omega)⟩ (ym_PW_t (fun k => by rw [← w2, yi_u_ne _ _ (fun z => absurd z.1 (by decide))]) (fun k => by rw [← w2, yi_u_ne _ _ (fun z => absurd z.1 (by decide))]) hPW) ⟨(by rw [r15]; omega), (by rw [r15]; omega)⟩ (by omega) (by omega)) ?_
        rintro _ ⟨z12, I8, L10, rfl, f9, f11, h13a, h13b⟩
        show yi_G zi_Ms d zi_m125 (38, [(0, .inr (.inr (some 82))), (1, .inl p), (2, .inl ev), (3, .inl w)], [.inl z12], (I8, L10, X), 0, 0) _
        refine yi_G_run 2 (42, [(4, .inl z12), (0, .inr (.inr (some 82))), (1, .inl p), (2, .inl ev), (3, .inl w)], [.inl z12], (I8, L10, X), 0, 0) (fun _ => rfl) ?_
        by_cases h16 : z12 < 0
        · refine yi_G_if1 true rfl (yi_lt_t h16) ?_
          refine yi_G_run 2 (61, [(4, .inl z12), (0, .inr (.inr (some 82))), (1, .inl p), (2, .inl ev), (3, .inl w)], [.inl z12], (I8, L10, X), 0, 0) (fun _ => rfl) ?_
          exact yi_G_reti rfl rfl (⟨_, _, _, rfl, (fun p k hp => by rw [f9 p k (by omega), ← w2, yi_u_ne _ _ (fun z => by omega)]), (fun p k hp => by rw [f11 p k (by omega)])⟩)
        · refine yi_G_if1 false rfl (yi_lt_f h16) ?_
          refine yi_G_run 1 (46, [(4, .inl z12), (0, .inr (.inr (some 82))), (1, .inl p), (2, .inl ev), (3, .inl w)], [.inl w], (I8, L10, X), 0, 0) (fun _ => rfl) ?_
          by_cases h17 : w = 0
          · refine yi_G_if1 false rfl (yi_ne_f h17) ?_
            refine yi_G_run 2 (61, [(4, .inl z12), (0, .inr (.inr (some 82))), (1, .inl p), (2, .inl ev), (3, .inl w)], [.inl z12], (I8, L10, X), 0, 0) (fun _ => rfl) ?_
            exact yi_G_reti rfl rfl (⟨_, _, _, rfl, (fun p k hp => by rw [f9 p k (by omega), ← w2, yi_u_ne _ _ (fun z => by omega)]), (fun p k hp => by rw [f11 p k (by omega)])⟩)
          · refine yi_G_if1 true rfl (yi_ne_t h17) ?_
            refine yi_G_run 1 (55, [(4, .inl z12), (0, .inr (.inr (some 82))), (1, .inl p), (2, .inl ev), (3, .inl w)], [.inr (.inr (some 82))], (I8, L10, X), 0, 0) (fun _ => rfl) ?_
            refine yi_G_get (58, [(4, .inl z12), (0, .inr (.inr (some 82))), (1, .inl p), (2, .inl ev), (3, .inl w)], [.inr (.inr (some 105))], (I8, L10, X), 0, 0) rfl (ym_gr hS 22 rfl rfl rfl) ?_
            refine yi_G_run 1 (60, [(4, .inl z12), (0, .inr (.inr (some 82))), (1, .inl p), (2, .inl ev), (3, .inl w)], [.inl z12, .inr (.inr (some 105))], (I8, L10, X), 0, 0) (fun _ => rfl) ?_
            refine yi_G_iald (61, [(4, .inl z12), (0, .inr (.inr (some 82))), (1, .inl p), (2, .inl ev), (3, .inl w)], [.inl (I8 105 (z12.toNat))], (I8, L10, X), 0, 0) rfl (ym_li hS 22 rfl (by omega) (by omega) rfl) ?_
            exact yi_G_reti rfl rfl (⟨_, _, _, rfl, (fun p k hp => by rw [f9 p k (by omega), ← w2, yi_u_ne _ _ (fun z => by omega)]), (fun p k hp => by rw [f11 p k (by omega)])⟩)
      · show yi_G zi_Ms d zi_m125 (27, [(0, .inr (.inr (some 82))), (1, .inl p), (2, .inl ev), (3, .inl w)], [.inl 0], (I1, L, X), 0, 0) _
        refine yi_G_if1 false rfl (by decide) ?_
        refine yi_G_run 1 (31, [(0, .inr (.inr (some 82))), (1, .inl p), (2, .inl ev), (3, .inl w)], [.inl (-1)], (I1, L, X), 0, 0) (fun _ => rfl) ?_
        exact yi_G_reti rfl rfl (⟨_, _, _, rfl, (fun p k hp => by rw [← w2, yi_u_ne _ _ (fun z => by omega)]), (fun _ _ _ => rfl)⟩)
    · show yi_G zi_Ms d zi_m125 (18, [(0, .inr (.inr (some 82))), (1, .inl p), (2, .inl ev), (3, .inl w)], [.inl 0], (I1, L, X), 0, 0) _
      refine yi_G_if1 true rfl (by decide) ?_
      refine yi_G_run 1 (31, [(0, .inr (.inr (some 82))), (1, .inl p), (2, .inl ev), (3, .inl w)], [.inl (-1)], (I1, L, X), 0, 0) (fun _ => rfl) ?_
      exact yi_G_reti rfl rfl (⟨_, _, _, rfl, (fun p k hp => by rw [← w2, yi_u_ne _ _ (fun z => by omega)]), (fun _ _ _ => rfl)⟩)
  · show yi_G zi_Ms d zi_m125 (10, [(0, .inr (.inr (some 82))), (1, .inl p), (2, .inl ev), (3, .inl w)], [.inl 0], (I1, L, X), 0, 0) _
    refine yi_G_if1 true rfl (by decide) ?_
    refine yi_G_run 1 (31, [(0, .inr (.inr (some 82))), (1, .inl p), (2, .inl ev), (3, .inl w)], [.inl (-1)], (I1, L, X), 0, 0) (fun _ => rfl) ?_
    exact yi_G_reti rfl rfl (⟨_, _, _, rfl, (fun p k hp => by rw [← w2, yi_u_ne _ _ (fun z => by omega)]), (fun _ _ _ => rfl)⟩)
theorem q_span (D : Nat) (hD : 7 ≤ D) {I L : Nat → Nat → Int} {X : ym_X} (hS : ym_S X) {p ev w : Int} (hLR : ym_LR I) (hS0 : ym_S0 I) (hl : 0 ≤ I 82 25 ∧ I 82 25 ≤ 512) (hPW : ym_PW I) (hF : 0 ≤ I 82 24 ∧ I 82 24 ≤ 32768) : yi_E zi_Ms D 110 [.inr (.inr (some 82)), .inl p, .inl ev, .inl w] (I, L, X) (fun r => ∃ z I' L', r = (some (.inl z), (I', L', X), 0, 0) ∧ (∀ p k, p ≠ 96 ∧ p ≠ 99 ∧ p ≠ 103 ∧ p ≠ 104 ∧ p ≠ 105 ∧ p ≠ 106 ∧ p ≠ 107 ∧ p ≠ 108 ∧ ¬ (p = 82 ∧ k = 0) ∧ ¬ (p = 82 ∧ k = 34) ∧ ¬ (p = 82 ∧ k = 35) ∧ ¬ (p = 82 ∧ k = 37) ∧ ¬ (p = 82 ∧ k = 40) → I' p k = I p k) ∧ (∀ p k, p ≠ 97 ∧ ¬ (p = 82 ∧ k = 43) → L' p k = L p k)) := by
  obtain ⟨d, rfl⟩ : ∃ d, D = d + 1 := ⟨D - 1, by omega⟩
  refine yi_E_of (M := zi_m110) rfl rfl ?_
  obtain ⟨l0, l1, l2, l3, l4, l5⟩ := id hLR
  obtain ⟨t0, t1, t2, t3, t4⟩ := id hS0
  show yi_G zi_Ms d zi_m110 (0, [(0, .inr (.inr (some 82))), (1, .inl p), (2, .inl ev), (3, .inl w)], [], (I, L, X), 0, 0) _
  refine yi_G_run 2 (2, [(0, .inr (.inr (some 82))), (1, .inl p), (2, .inl ev), (3, .inl w)], [.inl 0, .inr (.inr (some 82))], (I, L, X), 0, 0) (fun _ => rfl) ?_
  refine yi_G_put (5, [(0, .inr (.inr (some 82))), (1, .inl p), (2, .inl ev), (3, .inl w)], [], ((yi_u I 82 0 0), L, X), 0, 0) rfl (ym_pi hS rfl rfl) ?_
  generalize w2 : yi_u I 82 0 0 = I1
  refine yi_G_run 2 (7, [(0, .inr (.inr (some 82))), (1, .inl p), (2, .inl ev), (3, .inl w)], [.inl p, .inr (.inr (some 82))], (I1, L, X), 0, 0) (fun _ => rfl) ?_
  have r4 : I1 88 1 = I 88 1 := by rw [← w2, yi_u_ne _ _ (by omega)]
  refine yi_G_callv rfl rfl (ym_rcv hS) rfl (c_isPerson d (by omega) hS r4) ?_
  rintro _ (⟨c3, rfl⟩ | ⟨c3, rfl⟩)
  · show yi_G zi_Ms d zi_m110 (10, [(0, .inr (.inr (some 82))), (1, .inl p), (2, .inl ev), (3, .inl w)], [.inl 1], (I1, L, X), 0, 0) _
    refine yi_G_if1 false rfl (by decide) ?_
    refine yi_G_run 2 (15, [(0, .inr (.inr (some 82))), (1, .inl p), (2, .inl ev), (3, .inl w)], [.inl ev, .inr (.inr (some 82))], (I1, L, X), 0, 0) (fun _ => rfl) ?_
    have r6 : I1 88 2 = I 88 2 := by rw [← w2, yi_u_ne _ _ (by omega)]
    refine yi_G_callv rfl rfl (ym_rcv hS) rfl (c_isEvent d (by omega) hS r6) ?_
    rintro _ (⟨c5, rfl⟩ | ⟨c5, rfl⟩)
    · show yi_G zi_Ms d zi_m110 (18, [(0, .inr (.inr (some 82))), (1, .inl p), (2, .inl ev), (3, .inl w)], [.inl 1], (I1, L, X), 0, 0) _
      refine yi_G_if1 false rfl (by decide) ?_
      refine yi_G_run 3 (24, [(0, .inr (.inr (some 82))), (1, .inl p), (2, .inl ev), (3, .inl w)], [.inl 1, .inl 0, .inl w], (I1, L, X), 0, 0) (fun _ => rfl) ?_
      refine yi_G_calls rfl rfl (c_within d (by omega) hS) ?_
      rintro _ (⟨c7, rfl⟩ | ⟨c7, rfl⟩)
      · show yi_G zi_Ms d zi_m110 (27, [(0, .inr (.inr (some 82))), (1, .inl p), (2, .inl ev), (3, .inl w)], [.inl 1], (I1, L, X), 0, 0) _
        refine yi_G_if1 true rfl (by decide) ?_
        refine yi_G_run 1 (33, [(0, .inr (.inr (some 82))), (1, .inl p), (2, .inl ev), (3, .inl w)], [.inr (.inr (some 82))], (I1, L, X), 0, 0) (fun _ => rfl) ?_
        have r11 : I1 82 25 = I 82 25 := by rw [← w2, yi_u_ne _ _ (by omega)]
        refine yi_G_callv rfl rfl (ym_rcv hS) rfl (c_findLeft d (by omega) hS (ym_LR_t (fun k => by rw [← w2, yi_u_ne _ _ (fun z => absurd z.1 (by decide))]) hLR) (ym_S0_t (fun k => by rw [← w2, yi_u_ne _ _ (fun z => absurd z.1 (by decide))]) hS0) ⟨(by rw [r11]; omega), (by rw [r11]; omega)⟩) ?_
        rintro _ ⟨z10, L8, rfl, f9⟩
        show yi_G zi_Ms d zi_m110 (36, [(0, .inr (.inr (some 82))), (1, .inl p), (2, .inl ev), (3, .inl w)], [.inl z10], (I1, L8, X), 0, 0) _
        refine yi_G_run 3 (40, [(4, .inl z10), (0, .inr (.inr (some 82))), (1, .inl p), (2, .inl ev), (3, .inl w)], [.inl 1, .inl w], (I1, L8, X), 0, 0) (fun _ => rfl) ?_
        by_cases h12 : w = 1
        · refine yi_G_if2 false rfl (yi_ne_f h12) ?_
          refine yi_G_run 3 (46, [(4, .inl z10), (0, .inr (.inr (some 82))), (1, .inl p), (2, .inl ev), (3, .inl w)], [.inl ev, .inl p, .inr (.inr (some 82))], (I1, L8, X), 0, 0) (fun _ => rfl) ?_
          have r19 : I1 82 25 = I 82 25 := by rw [← w2, yi_u_ne _ _ (by omega)]
          have r20 : I1 82 24 = I 82 24 := by rw [← w2, yi_u_ne _ _ (by omega)]
          refine yi_G_callv rfl rfl (ym_rcv hS) rfl (c_findVague d (by omega) hS (ym_LR_t (fun k => by rw [← w2, yi_u_ne _ _ (fun z => absurd z.1 (by decide))]) hLR) (ym_S0_t (fun k => by rw [← w2, yi_u_ne _ _ (fun z => absurd z.1 (by decide))]) hS0) ⟨(by rw [r19]; omega), (by rw [r19]; omega)⟩ (ym_PW_t (fun k => by rw [← w2, yi_u_ne _ _ (fun z => absurd z.1 (by decide))]) (fun k => by rw [← w2, yi_u_ne _ _ (fun z => absurd z.1 (by decide))]) hPW) ⟨(by rw [r20]; omega), (by rw [r20]; omega)⟩ (by omega) (by omega)) ?_
          rintro _ ⟨z17, I13, L15, rfl, f14, f16, h18a, h18b⟩
          show yi_G zi_Ms d zi_m110 (49, [(4, .inl z10), (0, .inr (.inr (some 82))), (1, .inl p), (2, .inl ev), (3, .inl w)], [.inl z17], (I13, L15, X), 0, 0) _
          refine yi_G_run 3 (53, [(5, .inl 1), (4, .inl z10), (0, .inr (.inr (some 82))), (1, .inl p), (2, .inl ev), (3, .inl w)], [], (I13, L15, X), 0, 0) (fun _ => rfl) ?_
          have pt53 : ∀ (m : Nat) (k : Int), (1 ≤ k) → (k ≤ I 88 0 + 1) → (I 88 0 + 1 - k).toNat = m → yi_G zi_Ms d zi_m110 (53, [(5, .inl k), (4, .inl z10), (0, .inr (.inr (some 82))), (1, .inl p), (2, .inl ev), (3, .inl w)], [], (I13, L15, X), 0, 0) (fun r => ∃ z I' L', r = (some (.inl z), (I', L', X), 0, 0) ∧ (∀ p k, p ≠ 96 ∧ p ≠ 99 ∧ p ≠ 103 ∧ p ≠ 104 ∧ p ≠ 105 ∧ p ≠ 106 ∧ p ≠ 107 ∧ p ≠ 108 ∧ ¬ (p = 82 ∧ k = 0) ∧ ¬ (p = 82 ∧ k = 34) ∧ ¬ (p = 82 ∧ k = 35) ∧ ¬ (p = 82 ∧ k = 37) ∧ ¬ (p = 82 ∧ k = 40) → I' p k = I p k) ∧ (∀ p k, p ≠ 97 ∧ ¬ (p = 82 ∧ k = 43) → L' p k = L p k)) := by
            intro m53
            induction m53 using Nat.strongRecOn with
            | _ m53 ih53 =>
            intro k k0 k1 hm53
            refine yi_G_run 2 (56, [(5, .inl k), (4, .inl z10), (0, .inr (.inr (some 82))), (1, .inl p), (2, .inl ev), (3, .inl w)], [.inr (.inr (some 82)), .inl k], (I13, L15, X), 0, 0) (fun _ => rfl) ?_
            have r21 : I13 88 0 = I 88 0 := by rw [f14 88 (0) (by omega), ← w2, yi_u_ne _ _ (by omega)]
            refine yi_G_callv rfl rfl (ym_rcv hS) rfl (c_days d (by omega) hS r21) ?_
            rintro _ rfl
            show yi_G zi_Ms d zi_m110 (59, [(5, .inl k), (4, .inl z10), (0, .inr (.inr (some 82))), (1, .inl p), (2, .inl ev), (3, .inl w)], [.inl (I 88 0), .inl k], (I13, L15, X), 0, 0) _
            by_cases h22 : (I 88 0) < k
            · refine yi_G_if2 true rfl (yi_gt_t h22) ?_
              refine yi_G_run 1 (129, [(5, .inl k), (4, .inl z10), (0, .inr (.inr (some 82))), (1, .inl p), (2, .inl ev), (3, .inl w)], [.inl (-1)], (I13, L15, X), 0, 0) (fun _ => rfl) ?_
              exact yi_G_reti rfl rfl (⟨_, _, _, rfl, (fun p k hp => by rw [f14 p k (by omega), ← w2, yi_u_ne _ _ (fun z => by omega)]), (fun p k hp => by rw [f16 p k (by omega), f9 p k (by omega)])⟩)
            · refine yi_G_if2 false rfl (yi_gt_f h22) ?_
              refine yi_G_run 1 (63, [(5, .inl k), (4, .inl z10), (0, .inr (.inr (some 82))), (1, .inl p), (2, .inl ev), (3, .inl w)], [.inl w], (I13, L15, X), 0, 0) (fun _ => rfl) ?_
              by_cases h23 : w = 0
              · refine yi_G_if1 false rfl (yi_ne_f h23) ?_
                refine yi_G_run 6 (74, [(5, .inl k), (4, .inl z10), (0, .inr (.inr (some 82))), (1, .inl p), (2, .inl ev), (3, .inl w)], [.inl ev, .inl k, .inl p, .inr (.inr (some 82)), .inl 39, .inr (.inr (some 82))], (I13, L15, X), 0, 0) (fun _ => rfl) ?_
                refine yi_G_callv rfl rfl (ym_rcv hS) rfl (c_wordAt d (by omega) hS (ym_LR_t (fun k => by rw [f14 88 k (by omega), ← w2, yi_u_ne _ _ (fun z => absurd z.1 (by decide))]) hLR) (by omega) (by omega) (by omega) (by omega) (by omega) (by omega)) ?_
                rintro _ ⟨z24, rfl, h25a, h25b, h25c⟩
                show yi_G zi_Ms d zi_m110 (77, [(5, .inl k), (4, .inl z10), (0, .inr (.inr (some 82))), (1, .inl p), (2, .inl ev), (3, .inl w)], [.inl z24, .inl 39, .inr (.inr (some 82))], (I13, L15, X), 0, 0) _
                have r26 : I13 82 25 = I 82 25 := by rw [f14 82 (25) (by omega), ← w2, yi_u_ne _ _ (by omega)]
                refine yi_G_callv rfl rfl (ym_rcv hS) rfl (w_isAny (by omega) hS (by omega) (by omega) (by omega) (by omega) (by rw [r26]; omega) (by rw [r26]; omega)) ?_
                rintro _ (rfl | rfl)
                · show yi_G zi_Ms d zi_m110 (80, [(5, .inl k), (4, .inl z10), (0, .inr (.inr (some 82))), (1, .inl p), (2, .inl ev), (3, .inl w)], [.inl 1], (I13, L15, X), 0, 0) _
                  refine yi_G_run 3 (116, [(6, .inl 1), (5, .inl k), (4, .inl z10), (0, .inr (.inr (some 82))), (1, .inl p), (2, .inl ev), (3, .inl w)], [.inl 1], (I13, L15, X), 0, 0) (fun _ => rfl) ?_
                  refine yi_G_if1 false rfl (by decide) ?_
                  refine yi_G_run 1 (121, [(6, .inl 1), (5, .inl k), (4, .inl z10), (0, .inr (.inr (some 82))), (1, .inl p), (2, .inl ev), (3, .inl w)], [.inl k], (I13, L15, X), 0, 0) (fun _ => rfl) ?_
                  exact yi_G_reti rfl rfl (⟨_, _, _, rfl, (fun p k hp => by rw [f14 p k (by omega), ← w2, yi_u_ne _ _ (fun z => by omega)]), (fun p k hp => by rw [f16 p k (by omega), f9 p k (by omega)])⟩)
                · show yi_G zi_Ms d zi_m110 (80, [(5, .inl k), (4, .inl z10), (0, .inr (.inr (some 82))), (1, .inl p), (2, .inl ev), (3, .inl w)], [.inl 0], (I13, L15, X), 0, 0) _
                  refine yi_G_run 3 (116, [(6, .inl 0), (5, .inl k), (4, .inl z10), (0, .inr (.inr (some 82))), (1, .inl p), (2, .inl ev), (3, .inl w)], [.inl 0], (I13, L15, X), 0, 0) (fun _ => rfl) ?_
                  refine yi_G_if1 true rfl (by decide) ?_
                  refine yi_G_iinc [(5, .inl (k + 1)), (6, .inl 0), (4, .inl z10), (0, .inr (.inr (some 82))), (1, .inl p), (2, .inl ev), (3, .inl w)] rfl rfl rfl (by rw [show yi_w (k + 1) = k + 1 from (yi_wn (by omega) (by omega)).trans (by omega)]; rfl) ?_
                  refine yi_G_run 1 (53, [(5, .inl (k + 1)), (6, .inl 0), (4, .inl z10), (0, .inr (.inr (some 82))), (1, .inl p), (2, .inl ev), (3, .inl w)], [], (I13, L15, X), 0, 0) (fun _ => rfl) ?_
                  refine yi_G_al (al := [(5, .inl (k + 1)), (4, .inl z10), (0, .inr (.inr (some 82))), (1, .inl p), (2, .inl ev), (3, .inl w)]) (show ([5, 4, 0, 1, 2, 3] : List Nat).Nodup by decide) (show ([5, 6, 4, 0, 1, 2, 3] : List Nat).Nodup by decide) (yi_mc (List.mem_of_getElem? (i := 0) rfl) (yi_mc (List.mem_of_getElem? (i := 2) rfl) (yi_mc (List.mem_of_getElem? (i := 3) rfl) (yi_mc (List.mem_of_getElem? (i := 4) rfl) (yi_mc (List.mem_of_getElem? (i := 5) rfl) (yi_mc (List.mem_of_getElem? (i := 6) rfl) yi_mn)))))) ?_
                  exact ih53 _ (by omega) (k + 1) (by omega) (by omega) rfl
              · refine yi_G_if1 true rfl (yi_ne_t h23) ?_
                refine yi_G_run 1 (85, [(5, .inl k), (4, .inl z10), (0, .inr (.inr (some 82))), (1, .inl p), (2, .inl ev), (3, .inl w)], [.inl z10], (I13, L15, X), 0, 0) (fun _ => rfl) ?_
                by_cases h27 : z10 ≤ 0
                · refine yi_G_if1 true rfl (yi_le_t h27) ?_
                  refine yi_G_run 3 (116, [(6, .inl 0), (5, .inl k), (4, .inl z10), (0, .inr (.inr (some 82))), (1, .inl p), (2, .inl ev), (3, .inl w)], [.inl 0], (I13, L15, X), 0, 0) (fun _ => rfl) ?_
                  refine yi_G_if1 true rfl (by decide) ?_
                  refine yi_G_iinc [(5, .inl (k + 1)), (6, .inl 0), (4, .inl z10), (0, .inr (.inr (some 82))), (1, .inl p), (2, .inl ev), (3, .inl w)] rfl rfl rfl (by rw [show yi_w (k + 1) = k + 1 from (yi_wn (by omega) (by omega)).trans (by omega)]; rfl) ?_
                  refine yi_G_run 1 (53, [(5, .inl (k + 1)), (6, .inl 0), (4, .inl z10), (0, .inr (.inr (some 82))), (1, .inl p), (2, .inl ev), (3, .inl w)], [], (I13, L15, X), 0, 0) (fun _ => rfl) ?_
                  refine yi_G_al (al := [(5, .inl (k + 1)), (4, .inl z10), (0, .inr (.inr (some 82))), (1, .inl p), (2, .inl ev), (3, .inl w)]) (show ([5, 4, 0, 1, 2, 3] : List Nat).Nodup by decide) (show ([5, 6, 4, 0, 1, 2, 3] : List Nat).Nodup by decide) (yi_mc (List.mem_of_getElem? (i := 0) rfl) (yi_mc (List.mem_of_getElem? (i := 2) rfl) (yi_mc (List.mem_of_getElem? (i := 3) rfl) (yi_mc (List.mem_of_getElem? (i := 4) rfl) (yi_mc (List.mem_of_getElem? (i := 5) rfl) (yi_mc (List.mem_of_getElem? (i := 6) rfl) yi_mn)))))) ?_
                  exact ih53 _ (by omega) (k + 1) (by omega) (by omega) rfl
                · refine yi_G_if1 false rfl (yi_le_f h27) ?_
                  refine yi_G_run 1 (89, [(5, .inl k), (4, .inl z10), (0, .inr (.inr (some 82))), (1, .inl p), (2, .inl ev), (3, .inl w)], [.inr (.inr (some 82))], (I13, L15, X), 0, 0) (fun _ => rfl) ?_
                  refine yi_G_get (92, [(5, .inl k), (4, .inl z10), (0, .inr (.inr (some 82))), (1, .inl p), (2, .inl ev), (3, .inl w)], [.inr (.inr (some 105))], (I13, L15, X), 0, 0) rfl (ym_gr hS 22 rfl rfl rfl) ?_
                  refine yi_G_run 1 (93, [(5, .inl k), (4, .inl z10), (0, .inr (.inr (some 82))), (1, .inl p), (2, .inl ev), (3, .inl w)], [.inr (.inr (some 82)), .inr (.inr (some 105))], (I13, L15, X), 0, 0) (fun _ => rfl) ?_
                  have r28 : I13 88 0 = I 88 0 := by rw [f14 88 (0) (by omega), ← w2, yi_u_ne _ _ (by omega)]
                  refine yi_G_callv rfl rfl (ym_rcv hS) rfl (c_days d (by omega) hS r28) ?_
                  rintro _ rfl
                  show yi_G zi_Ms d zi_m110 (96, [(5, .inl k), (4, .inl z10), (0, .inr (.inr (some 82))), (1, .inl p), (2, .inl ev), (3, .inl w)], [.inl (I 88 0), .inr (.inr (some 105))], (I13, L15, X), 0, 0) _
                  refine yi_G_run 1 (98, [(5, .inl k), (4, .inl z10), (0, .inr (.inr (some 82))), (1, .inl p), (2, .inl ev), (3, .inl w)], [.inl k, .inl (I 88 0), .inr (.inr (some 105))], (I13, L15, X), 0, 0) (fun _ => rfl) ?_
                  refine yi_G_iadd rfl ((I 88 0) + k) (yi_wn (by omega) (by omega)) ?_
                  refine yi_G_run 1 (100, [(5, .inl k), (4, .inl z10), (0, .inr (.inr (some 82))), (1, .inl p), (2, .inl ev), (3, .inl w)], [.inl 1, .inl ((I 88 0) + k), .inr (.inr (some 105))], (I13, L15, X), 0, 0) (fun _ => rfl) ?_
                  refine yi_G_isub rfl (((I 88 0) + k) - 1) (yi_wn (by omega) (by omega)) ?_
                  refine yi_G_iald (102, [(5, .inl k), (4, .inl z10), (0, .inr (.inr (some 82))), (1, .inl p), (2, .inl ev), (3, .inl w)], [.inl (I13 105 ((((I 88 0) + k) - 1).toNat))], (I13, L15, X), 0, 0) rfl (ym_li hS 22 rfl (by omega) (by omega) rfl) ?_
                  refine yi_G_run 1 (104, [(5, .inl k), (4, .inl z10), (0, .inr (.inr (some 82))), (1, .inl p), (2, .inl ev), (3, .inl w)], [.inl z10, .inl (I13 105 ((((I 88 0) + k) - 1).toNat))], (I13, L15, X), 0, 0) (fun _ => rfl) ?_
                  by_cases h29 : (I13 105 ((((I 88 0) + k) - 1).toNat)) = z10
                  · refine yi_G_if2 false rfl (yi_ne_f h29) ?_
                    refine yi_G_run 4 (116, [(6, .inl 1), (5, .inl k), (4, .inl z10), (0, .inr (.inr (some 82))), (1, .inl p), (2, .inl ev), (3, .inl w)], [.inl 1], (I13, L15, X), 0, 0) (fun _ => rfl) ?_
                    refine yi_G_if1 false rfl (by decide) ?_
                    refine yi_G_run 1 (121, [(6, .inl 1), (5, .inl k), (4, .inl z10), (0, .inr (.inr (some 82))), (1, .inl p), (2, .inl ev), (3, .inl w)], [.inl k], (I13, L15, X), 0, 0) (fun _ => rfl) ?_
                    exact yi_G_reti rfl rfl (⟨_, _, _, rfl, (fun p k hp => by rw [f14 p k (by omega), ← w2, yi_u_ne _ _ (fun z => by omega)]), (fun p k hp => by rw [f16 p k (by omega), f9 p k (by omega)])⟩)
                  · refine yi_G_if2 true rfl (yi_ne_t h29) ?_
                    refine yi_G_run 3 (116, [(6, .inl 0), (5, .inl k), (4, .inl z10), (0, .inr (.inr (some 82))), (1, .inl p), (2, .inl ev), (3, .inl w)], [.inl 0], (I13, L15, X), 0, 0) (fun _ => rfl) ?_
                    refine yi_G_if1 true rfl (by decide) ?_
                    refine yi_G_iinc [(5, .inl (k + 1)), (6, .inl 0), (4, .inl z10), (0, .inr (.inr (some 82))), (1, .inl p), (2, .inl ev), (3, .inl w)] rfl rfl rfl (by rw [show yi_w (k + 1) = k + 1 from (yi_wn (by omega) (by omega)).trans (by omega)]; rfl) ?_
                    refine yi_G_run 1 (53, [(5, .inl (k + 1)), (6, .inl 0), (4, .inl z10), (0, .inr (.inr (some 82))), (1, .inl p), (2, .inl ev), (3, .inl w)], [], (I13, L15, X), 0, 0) (fun _ => rfl) ?_
                    refine yi_G_al (al := [(5, .inl (k + 1)), (4, .inl z10), (0, .inr (.inr (some 82))), (1, .inl p), (2, .inl ev), (3, .inl w)]) (show ([5, 4, 0, 1, 2, 3] : List Nat).Nodup by decide) (show ([5, 6, 4, 0, 1, 2, 3] : List Nat).Nodup by decide) (yi_mc (List.mem_of_getElem? (i := 0) rfl) (yi_mc (List.mem_of_getElem? (i := 2) rfl) (yi_mc (List.mem_of_getElem? (i := 3) rfl) (yi_mc (List.mem_of_getElem? (i := 4) rfl) (yi_mc (List.mem_of_getElem? (i := 5) rfl) (yi_mc (List.mem_of_getElem? (i := 6) rfl) yi_mn)))))) ?_
                    exact ih53 _ (by omega) (k + 1) (by omega) (by omega) rfl
          exact pt53 _ 1 (by omega) (by omega) rfl
        · refine yi_G_if2 true rfl (yi_ne_t h12) ?_
          refine yi_G_run 2 (53, [(5, .inl 1), (4, .inl z10), (0, .inr (.inr (some 82))), (1, .inl p), (2, .inl ev), (3, .inl w)], [], (I1, L8, X), 0, 0) (fun _ => rfl) ?_
          have pt53 : ∀ (m : Nat) (k : Int), (1 ≤ k) → (k ≤ I 88 0 + 1) → (I 88 0 + 1 - k).toNat = m → yi_G zi_Ms d zi_m110 (53, [(5, .inl k), (4, .inl z10), (0, .inr (.inr (some 82))), (1, .inl p), (2, .inl ev), (3, .inl w)], [], (I1, L8, X), 0, 0) (fun r => ∃ z I' L', r = (some (.inl z), (I', L', X), 0, 0) ∧ (∀ p k, p ≠ 96 ∧ p ≠ 99 ∧ p ≠ 103 ∧ p ≠ 104 ∧ p ≠ 105 ∧ p ≠ 106 ∧ p ≠ 107 ∧ p ≠ 108 ∧ ¬ (p = 82 ∧ k = 0) ∧ ¬ (p = 82 ∧ k = 34) ∧ ¬ (p = 82 ∧ k = 35) ∧ ¬ (p = 82 ∧ k = 37) ∧ ¬ (p = 82 ∧ k = 40) → I' p k = I p k) ∧ (∀ p k, p ≠ 97 ∧ ¬ (p = 82 ∧ k = 43) → L' p k = L p k)) := by
            intro m53
            induction m53 using Nat.strongRecOn with
            | _ m53 ih53 =>
            intro k k0 k1 hm53
            refine yi_G_run 2 (56, [(5, .inl k), (4, .inl z10), (0, .inr (.inr (some 82))), (1, .inl p), (2, .inl ev), (3, .inl w)], [.inr (.inr (some 82)), .inl k], (I1, L8, X), 0, 0) (fun _ => rfl) ?_
            have r30 : I1 88 0 = I 88 0 := by rw [← w2, yi_u_ne _ _ (by omega)]
            refine yi_G_callv rfl rfl (ym_rcv hS) rfl (c_days d (by omega) hS r30) ?_
            rintro _ rfl
            show yi_G zi_Ms d zi_m110 (59, [(5, .inl k), (4, .inl z10), (0, .inr (.inr (some 82))), (1, .inl p), (2, .inl ev), (3, .inl w)], [.inl (I 88 0), .inl k], (I1, L8, X), 0, 0) _
            by_cases h31 : (I 88 0) < k
            · refine yi_G_if2 true rfl (yi_gt_t h31) ?_
              refine yi_G_run 1 (129, [(5, .inl k), (4, .inl z10), (0, .inr (.inr (some 82))), (1, .inl p), (2, .inl ev), (3, .inl w)], [.inl (-1)], (I1, L8, X), 0, 0) (fun _ => rfl) ?_
              exact yi_G_reti rfl rfl (⟨_, _, _, rfl, (fun p k hp => by rw [← w2, yi_u_ne _ _ (fun z => by omega)]), (fun p k hp => by rw [f9 p k (by omega)])⟩)
            · refine yi_G_if2 false rfl (yi_gt_f h31) ?_
              refine yi_G_run 1 (63, [(5, .inl k), (4, .inl z10), (0, .inr (.inr (some 82))), (1, .inl p), (2, .inl ev), (3, .inl w)], [.inl w], (I1, L8, X), 0, 0) (fun _ => rfl) ?_
              by_cases h32 : w = 0
              · refine yi_G_if1 false rfl (yi_ne_f h32) ?_
                refine yi_G_run 6 (74, [(5, .inl k), (4, .inl z10), (0, .inr (.inr (some 82))), (1, .inl p), (2, .inl ev), (3, .inl w)], [.inl ev, .inl k, .inl p, .inr (.inr (some 82)), .inl 39, .inr (.inr (some 82))], (I1, L8, X), 0, 0) (fun _ => rfl) ?_
                refine yi_G_callv rfl rfl (ym_rcv hS) rfl (c_wordAt d (by omega) hS (ym_LR_t (fun k => by rw [← w2, yi_u_ne _ _ (fun z => absurd z.1 (by decide))]) hLR) (by omega) (by omega) (by omega) (by omega) (by omega) (by omega)) ?_
                rintro _ ⟨z33, rfl, h34a, h34b, h34c⟩
                show yi_G zi_Ms d zi_m110 (77, [(5, .inl k), (4, .inl z10), (0, .inr (.inr (some 82))), (1, .inl p), (2, .inl ev), (3, .inl w)], [.inl z33, .inl 39, .inr (.inr (some 82))], (I1, L8, X), 0, 0) _
                have r35 : I1 82 25 = I 82 25 := by rw [← w2, yi_u_ne _ _ (by omega)]
                refine yi_G_callv rfl rfl (ym_rcv hS) rfl (w_isAny (by omega) hS (by omega) (by omega) (by omega) (by omega) (by rw [r35]; omega) (by rw [r35]; omega)) ?_
                rintro _ (rfl | rfl)
                · show yi_G zi_Ms d zi_m110 (80, [(5, .inl k), (4, .inl z10), (0, .inr (.inr (some 82))), (1, .inl p), (2, .inl ev), (3, .inl w)], [.inl 1], (I1, L8, X), 0, 0) _
                  refine yi_G_run 3 (116, [(6, .inl 1), (5, .inl k), (4, .inl z10), (0, .inr (.inr (some 82))), (1, .inl p), (2, .inl ev), (3, .inl w)], [.inl 1], (I1, L8, X), 0, 0) (fun _ => rfl) ?_
                  refine yi_G_if1 false rfl (by decide) ?_
                  refine yi_G_run 1 (121, [(6, .inl 1), (5, .inl k), (4, .inl z10), (0, .inr (.inr (some 82))), (1, .inl p), (2, .inl ev), (3, .inl w)], [.inl k], (I1, L8, X), 0, 0) (fun _ => rfl) ?_
                  exact yi_G_reti rfl rfl (⟨_, _, _, rfl, (fun p k hp => by rw [← w2, yi_u_ne _ _ (fun z => by omega)]), (fun p k hp => by rw [f9 p k (by omega)])⟩)
                · show yi_G zi_Ms d zi_m110 (80, [(5, .inl k), (4, .inl z10), (0, .inr (.inr (some 82))), (1, .inl p), (2, .inl ev), (3, .inl w)], [.inl 0], (I1, L8, X), 0, 0) _
                  refine yi_G_run 3 (116, [(6, .inl 0), (5, .inl k), (4, .inl z10), (0, .inr (.inr (some 82))), (1, .inl p), (2, .inl ev), (3, .inl w)], [.inl 0], (I1, L8, X), 0, 0) (fun _ => rfl) ?_
                  refine yi_G_if1 true rfl (by decide) ?_
                  refine yi_G_iinc [(5, .inl (k + 1)), (6, .inl 0), (4, .inl z10), (0, .inr (.inr (some 82))), (1, .inl p), (2, .inl ev), (3, .inl w)] rfl rfl rfl (by rw [show yi_w (k + 1) = k + 1 from (yi_wn (by omega) (by omega)).trans (by omega)]; rfl) ?_
                  refine yi_G_run 1 (53, [(5, .inl (k + 1)), (6, .inl 0), (4, .inl z10), (0, .inr (.inr (some 82))), (1, .inl p), (2, .inl ev), (3, .inl w)], [], (I1, L8, X), 0, 0) (fun _ => rfl) ?_
                  refine yi_G_al (al := [(5, .inl (k + 1)), (4, .inl z10), (0, .inr (.inr (some 82))), (1, .inl p), (2, .inl ev), (3, .inl w)]) (show ([5, 4, 0, 1, 2, 3] : List Nat).Nodup by decide) (show ([5, 6, 4, 0, 1, 2, 3] : List Nat).Nodup by decide) (yi_mc (List.mem_of_getElem? (i := 0) rfl) (yi_mc (List.mem_of_getElem? (i := 2) rfl) (yi_mc (List.mem_of_getElem? (i := 3) rfl) (yi_mc (List.mem_of_getElem? (i := 4) rfl) (yi_mc (List.mem_of_getElem? (i := 5) rfl) (yi_mc (List.mem_of_getElem? (i := 6) rfl) yi_mn)))))) ?_
                  exact ih53 _ (by omega) (k + 1) (by omega) (by omega) rfl
              · refine yi_G_if1 true rfl (yi_ne_t h32) ?_
                refine yi_G_run 1 (85, [(5, .inl k), (4, .inl z10), (0, .inr (.inr (some 82))), (1, .inl p), (2, .inl ev), (3, .inl w)], [.inl z10], (I1, L8, X), 0, 0) (fun _ => rfl) ?_
                by_cases h36 : z10 ≤ 0
                · refine yi_G_if1 true rfl (yi_le_t h36) ?_
                  refine yi_G_run 3 (116, [(6, .inl 0), (5, .inl k), (4, .inl z10), (0, .inr (.inr (some 82))), (1, .inl p), (2, .inl ev), (3, .inl w)], [.inl 0], (I1, L8, X), 0, 0) (fun _ => rfl) ?_
                  refine yi_G_if1 true rfl (by decide) ?_
                  refine yi_G_iinc [(5, .inl (k + 1)), (6, .inl 0), (4, .inl z10), (0, .inr (.inr (some 82))), (1, .inl p), (2, .inl ev), (3, .inl w)] rfl rfl rfl (by rw [show yi_w (k + 1) = k + 1 from (yi_wn (by omega) (by omega)).trans (by omega)]; rfl) ?_
                  refine yi_G_run 1 (53, [(5, .inl (k + 1)), (6, .inl 0), (4, .inl z10), (0, .inr (.inr (some 82))), (1, .inl p), (2, .inl ev), (3, .inl w)], [], (I1, L8, X), 0, 0) (fun _ => rfl) ?_
                  refine yi_G_al (al := [(5, .inl (k + 1)), (4, .inl z10), (0, .inr (.inr (some 82))), (1, .inl p), (2, .inl ev), (3, .inl w)]) (show ([5, 4, 0, 1, 2, 3] : List Nat).Nodup by decide) (show ([5, 6, 4, 0, 1, 2, 3] : List Nat).Nodup by decide) (yi_mc (List.mem_of_getElem? (i := 0) rfl) (yi_mc (List.mem_of_getElem? (i := 2) rfl) (yi_mc (List.mem_of_getElem? (i := 3) rfl) (yi_mc (List.mem_of_getElem? (i := 4) rfl) (yi_mc (List.mem_of_getElem? (i := 5) rfl) (yi_mc (List.mem_of_getElem? (i := 6) rfl) yi_mn)))))) ?_
                  exact ih53 _ (by omega) (k + 1) (by omega) (by omega) rfl
                · refine yi_G_if1 false rfl (yi_le_f h36) ?_
                  refine yi_G_run 1 (89, [(5, .inl k), (4, .inl z10), (0, .inr (.inr (some 82))), (1, .inl p), (2, .inl ev), (3, .inl w)], [.inr (.inr (some 82))], (I1, L8, X), 0, 0) (fun _ => rfl) ?_
                  refine yi_G_get (92, [(5, .inl k), (4, .inl z10), (0, .inr (.inr (some 82))), (1, .inl p), (2, .inl ev), (3, .inl w)], [.inr (.inr (some 105))], (I1, L8, X), 0, 0) rfl (ym_gr hS 22 rfl rfl rfl) ?_
                  refine yi_G_run 1 (93, [(5, .inl k), (4, .inl z10), (0, .inr (.inr (some 82))), (1, .inl p), (2, .inl ev), (3, .inl w)], [.inr (.inr (some 82)), .inr (.inr (some 105))], (I1, L8, X), 0, 0) (fun _ => rfl) ?_
                  have r37 : I1 88 0 = I 88 0 := by rw [← w2, yi_u_ne _ _ (by omega)]
                  refine yi_G_callv rfl rfl (ym_rcv hS) rfl (c_days d (by omega) hS r37) ?_
                  rintro _ rfl
                  show yi_G zi_Ms d zi_m110 (96, [(5, .inl k), (4, .inl z10), (0, .inr (.inr (some 82))), (1, .inl p), (2, .inl ev), (3, .inl w)], [.inl (I 88 0), .inr (.inr (some 105))], (I1, L8, X), 0, 0) _
                  refine yi_G_run 1 (98, [(5, .inl k), (4, .inl z10), (0, .inr (.inr (some 82))), (1, .inl p), (2, .inl ev), (3, .inl w)], [.inl k, .inl (I 88 0), .inr (.inr (some 105))], (I1, L8, X), 0, 0) (fun _ => rfl) ?_
                  refine yi_G_iadd rfl ((I 88 0) + k) (yi_wn (by omega) (by omega)) ?_
                  refine yi_G_run 1 (100, [(5, .inl k), (4, .inl z10), (0, .inr (.inr (some 82))), (1, .inl p), (2, .inl ev), (3, .inl w)], [.inl 1, .inl ((I 88 0) + k), .inr (.inr (some 105))], (I1, L8, X), 0, 0) (fun _ => rfl) ?_
                  refine yi_G_isub rfl (((I 88 0) + k) - 1) (yi_wn (by omega) (by omega)) ?_
                  have r38 : I1 105 ((((I 88 0) + k) - 1).toNat) = I 105 ((((I 88 0) + k) - 1).toNat) := by rw [← w2, yi_u_ne _ _ (by omega)]
                  refine yi_G_iald (102, [(5, .inl k), (4, .inl z10), (0, .inr (.inr (some 82))), (1, .inl p), (2, .inl ev), (3, .inl w)], [.inl (I 105 ((((I 88 0) + k) - 1).toNat))], (I1, L8, X), 0, 0) rfl (ym_li hS 22 rfl (by omega) (by omega) r38) ?_
                  refine yi_G_run 1 (104, [(5, .inl k), (4, .inl z10), (0, .inr (.inr (some 82))), (1, .inl p), (2, .inl ev), (3, .inl w)], [.inl z10, .inl (I 105 ((((I 88 0) + k) - 1).toNat))], (I1, L8, X), 0, 0) (fun _ => rfl) ?_
                  by_cases h39 : (I 105 ((((I 88 0) + k) - 1).toNat)) = z10
                  · refine yi_G_if2 false rfl (yi_ne_f h39) ?_
                    refine yi_G_run 4 (116, [(6, .inl 1), (5, .inl k), (4, .inl z10), (0, .inr (.inr (some 82))), (1, .inl p), (2, .inl ev), (3, .inl w)], [.inl 1], (I1, L8, X), 0, 0) (fun _ => rfl) ?_
                    refine yi_G_if1 false rfl (by decide) ?_
                    refine yi_G_run 1 (121, [(6, .inl 1), (5, .inl k), (4, .inl z10), (0, .inr (.inr (some 82))), (1, .inl p), (2, .inl ev), (3, .inl w)], [.inl k], (I1, L8, X), 0, 0) (fun _ => rfl) ?_
                    exact yi_G_reti rfl rfl (⟨_, _, _, rfl, (fun p k hp => by rw [← w2, yi_u_ne _ _ (fun z => by omega)]), (fun p k hp => by rw [f9 p k (by omega)])⟩)
                  · refine yi_G_if2 true rfl (yi_ne_t h39) ?_
                    refine yi_G_run 3 (116, [(6, .inl 0), (5, .inl k), (4, .inl z10), (0, .inr (.inr (some 82))), (1, .inl p), (2, .inl ev), (3, .inl w)], [.inl 0], (I1, L8, X), 0, 0) (fun _ => rfl) ?_
                    refine yi_G_if1 true rfl (by decide) ?_
                    refine yi_G_iinc [(5, .inl (k + 1)), (6, .inl 0), (4, .inl z10), (0, .inr (.inr (some 82))), (1, .inl p), (2, .inl ev), (3, .inl w)] rfl rfl rfl (by rw [show yi_w (k + 1) = k + 1 from (yi_wn (by omega) (by omega)).trans (by omega)]; rfl) ?_
                    refine yi_G_run 1 (53, [(5, .inl (k + 1)), (6, .inl 0), (4, .inl z10), (0, .inr (.inr (some 82))), (1, .inl p), (2, .inl ev), (3, .inl w)], [], (I1, L8, X), 0, 0) (fun _ => rfl) ?_
                    refine yi_G_al (al := [(5, .inl (k + 1)), (4, .inl z10), (0, .inr (.inr (some 82))), (1, .inl p), (2, .inl ev), (3, .inl w)]) (show ([5, 4, 0, 1, 2, 3] : List Nat).Nodup by decide) (show ([5, 6, 4, 0, 1, 2, 3] : List Nat).Nodup by decide) (yi_mc (List.mem_of_getElem? (i := 0) rfl) (yi_mc (List.mem_of_getElem? (i := 2) rfl) (yi_mc (List.mem_of_getElem? (i := 3) rfl) (yi_mc (List.mem_of_getElem? (i := 4) rfl) (yi_mc (List.mem_of_getElem? (i := 5) rfl) (yi_mc (List.mem_of_getElem? (i := 6) rfl) yi_mn)))))) ?_
                    exact ih53 _ (by omega) (k + 1) (by omega) (by omega) rfl
          exact pt53 _ 1 (by omega) (by omega) rfl
      · show yi_G zi_Ms d zi_m110 (27, [(0, .inr (.inr (some 82))), (1, .inl p), (2, .inl ev), (3, .inl w)], [.inl 0], (I1, L, X), 0, 0) _
        refine yi_G_if1 false rfl (by decide) ?_
        refine yi_G_run 1 (31, [(0, .inr (.inr (some 82))), (1, .inl p), (2, .inl ev), (3, .inl w)], [.inl (-1)], (I1, L, X), 0, 0) (fun _ => rfl) ?_
        exact yi_G_reti rfl rfl (⟨_, _, _, rfl, (fun p k hp => by rw [← w2, yi_u_ne _ _ (fun z => by omega)]), (fun _ _ _ => rfl)⟩)
    · show yi_G zi_Ms d zi_m110 (18, [(0, .inr (.inr (some 82))), (1, .inl p), (2, .inl ev), (3, .inl w)], [.inl 0], (I1, L, X), 0, 0) _
      refine yi_G_if1 true rfl (by decide) ?_
      refine yi_G_run 1 (31, [(0, .inr (.inr (some 82))), (1, .inl p), (2, .inl ev), (3, .inl w)], [.inl (-1)], (I1, L, X), 0, 0) (fun _ => rfl) ?_
      exact yi_G_reti rfl rfl (⟨_, _, _, rfl, (fun p k hp => by rw [← w2, yi_u_ne _ _ (fun z => by omega)]), (fun _ _ _ => rfl)⟩)
  · show yi_G zi_Ms d zi_m110 (10, [(0, .inr (.inr (some 82))), (1, .inl p), (2, .inl ev), (3, .inl w)], [.inl 0], (I1, L, X), 0, 0) _
    refine yi_G_if1 true rfl (by decide) ?_
    refine yi_G_run 1 (31, [(0, .inr (.inr (some 82))), (1, .inl p), (2, .inl ev), (3, .inl w)], [.inl (-1)], (I1, L, X), 0, 0) (fun _ => rfl) ?_
    exact yi_G_reti rfl rfl (⟨_, _, _, rfl, (fun p k hp => by rw [← w2, yi_u_ne _ _ (fun z => by omega)]), (fun _ _ _ => rfl)⟩)
theorem q_knew (D : Nat) (hD : 5 ≤ D) {I L : Nat → Nat → Int} {X : ym_X} (hS : ym_S X) {p w : Int} (hLR : ym_LR I) (hS0 : ym_S0 I) (hl : 0 ≤ I 82 25 ∧ I 82 25 ≤ 512) : yi_E zi_Ms D 71 [.inr (.inr (some 82)), .inl p, .inl w] (I, L, X) (fun r => ∃ z I' L', r = (some (.inl z), (I', L', X), 0, 0) ∧ (∀ p k, p ≠ 96 ∧ p ≠ 99 ∧ p ≠ 103 ∧ p ≠ 104 ∧ p ≠ 105 ∧ p ≠ 106 ∧ p ≠ 107 ∧ p ≠ 108 ∧ ¬ (p = 82 ∧ k = 0) ∧ ¬ (p = 82 ∧ k = 34) ∧ ¬ (p = 82 ∧ k = 35) ∧ ¬ (p = 82 ∧ k = 37) ∧ ¬ (p = 82 ∧ k = 40) → I' p k = I p k) ∧ (∀ p k, p ≠ 97 ∧ ¬ (p = 82 ∧ k = 43) → L' p k = L p k)) := by
  obtain ⟨d, rfl⟩ : ∃ d, D = d + 1 := ⟨D - 1, by omega⟩
  refine yi_E_of (M := zi_m71) rfl rfl ?_
  obtain ⟨l0, l1, l2, l3, l4, l5⟩ := id hLR
  obtain ⟨t0, t1, t2, t3, t4⟩ := id hS0
  show yi_G zi_Ms d zi_m71 (0, [(0, .inr (.inr (some 82))), (1, .inl p), (2, .inl w)], [], (I, L, X), 0, 0) _
  refine yi_G_run 2 (2, [(0, .inr (.inr (some 82))), (1, .inl p), (2, .inl w)], [.inl 0, .inr (.inr (some 82))], (I, L, X), 0, 0) (fun _ => rfl) ?_
  refine yi_G_put (5, [(0, .inr (.inr (some 82))), (1, .inl p), (2, .inl w)], [], ((yi_u I 82 0 0), L, X), 0, 0) rfl (ym_pi hS rfl rfl) ?_
  generalize w2 : yi_u I 82 0 0 = I1
  refine yi_G_run 2 (7, [(0, .inr (.inr (some 82))), (1, .inl p), (2, .inl w)], [.inl p, .inr (.inr (some 82))], (I1, L, X), 0, 0) (fun _ => rfl) ?_
  have r4 : I1 88 3 = I 88 3 := by rw [← w2, yi_u_ne _ _ (by omega)]
  refine yi_G_callv rfl rfl (ym_rcv hS) rfl (c_isProphet d (by omega) hS r4) ?_
  rintro _ (⟨c3, rfl⟩ | ⟨c3, rfl⟩)
  · show yi_G zi_Ms d zi_m71 (10, [(0, .inr (.inr (some 82))), (1, .inl p), (2, .inl w)], [.inl 1], (I1, L, X), 0, 0) _
    refine yi_G_if1 false rfl (by decide) ?_
    refine yi_G_run 3 (16, [(0, .inr (.inr (some 82))), (1, .inl p), (2, .inl w)], [.inl 1, .inl 0, .inl w], (I1, L, X), 0, 0) (fun _ => rfl) ?_
    refine yi_G_calls rfl rfl (c_within d (by omega) hS) ?_
    rintro _ (⟨c5, rfl⟩ | ⟨c5, rfl⟩)
    · show yi_G zi_Ms d zi_m71 (19, [(0, .inr (.inr (some 82))), (1, .inl p), (2, .inl w)], [.inl 1], (I1, L, X), 0, 0) _
      refine yi_G_if1 true rfl (by decide) ?_
      refine yi_G_run 4 (29, [(4, .inl 0), (3, .inl 0), (0, .inr (.inr (some 82))), (1, .inl p), (2, .inl w)], [], (I1, L, X), 0, 0) (fun _ => rfl) ?_
      have pt29 : ∀ (m : Nat) (k : Int) (y : Int), (0 ≤ k) → (k ≤ I 100 0) → (I 100 0 - k).toNat = m → yi_G zi_Ms d zi_m71 (29, [(4, .inl k), (3, .inl y), (0, .inr (.inr (some 82))), (1, .inl p), (2, .inl w)], [], (I1, L, X), 0, 0) (fun r => ∃ z I' L', r = (some (.inl z), (I', L', X), 0, 0) ∧ (∀ p k, p ≠ 96 ∧ p ≠ 99 ∧ p ≠ 103 ∧ p ≠ 104 ∧ p ≠ 105 ∧ p ≠ 106 ∧ p ≠ 107 ∧ p ≠ 108 ∧ ¬ (p = 82 ∧ k = 0) ∧ ¬ (p = 82 ∧ k = 34) ∧ ¬ (p = 82 ∧ k = 35) ∧ ¬ (p = 82 ∧ k = 37) ∧ ¬ (p = 82 ∧ k = 40) → I' p k = I p k) ∧ (∀ p k, p ≠ 97 ∧ ¬ (p = 82 ∧ k = 43) → L' p k = L p k)) := by
        intro m29
        induction m29 using Nat.strongRecOn with
        | _ m29 ih29 =>
        intro k y k0 k1 hm29
        refine yi_G_run 2 (32, [(4, .inl k), (3, .inl y), (0, .inr (.inr (some 82))), (1, .inl p), (2, .inl w)], [.inr (.inr (some 82)), .inl k], (I1, L, X), 0, 0) (fun _ => rfl) ?_
        refine yi_G_get (35, [(4, .inl k), (3, .inl y), (0, .inr (.inr (some 82))), (1, .inl p), (2, .inl w)], [.inr (.inr (some 100)), .inl k], (I1, L, X), 0, 0) rfl (ym_gr hS 17 rfl rfl rfl) ?_
        refine yi_G_run 1 (36, [(4, .inl k), (3, .inl y), (0, .inr (.inr (some 82))), (1, .inl p), (2, .inl w)], [.inl 0, .inr (.inr (some 100)), .inl k], (I1, L, X), 0, 0) (fun _ => rfl) ?_
        have r6 : I1 100 0 = I 100 0 := by rw [← w2, yi_u_ne _ _ (by omega)]
        refine yi_G_iald (37, [(4, .inl k), (3, .inl y), (0, .inr (.inr (some 82))), (1, .inl p), (2, .inl w)], [.inl (I 100 0), .inl k], (I1, L, X), 0, 0) rfl (ym_li hS 17 rfl (by omega) (by omega) r6) ?_
        by_cases h7 : (I 100 0) ≤ k
        · refine yi_G_if2 true rfl (yi_ge_t h7) ?_
          refine yi_G_run 4 (78, [(4, .inl k), (3, .inl y), (0, .inr (.inr (some 82))), (1, .inl p), (2, .inl w)], [.inl 0, .inl y, .inl 59, .inr (.inr (some 82))], (I1, L, X), 0, 0) (fun _ => rfl) ?_
          have r10 : I1 82 25 = I 82 25 := by rw [← w2, yi_u_ne _ _ (by omega)]
          refine yi_G_callv rfl rfl (ym_rcv hS) rfl (c_lays d (by omega) hS (ym_LR_t (fun k => by rw [← w2, yi_u_ne _ _ (fun z => absurd z.1 (by decide))]) hLR) (ym_S0_t (fun k => by rw [← w2, yi_u_ne _ _ (fun z => absurd z.1 (by decide))]) hS0) (by omega) (by omega) ⟨(by rw [r10]; omega), (by rw [r10]; omega)⟩) ?_
          rintro _ ⟨L8, rfl, f9⟩
          show yi_G zi_Ms d zi_m71 (81, [(4, .inl k), (3, .inl y), (0, .inr (.inr (some 82))), (1, .inl p), (2, .inl w)], [], (I1, L8, X), 0, 0) _
          refine yi_G_run 4 (87, [(5, .inl 0), (4, .inl 0), (3, .inl y), (0, .inr (.inr (some 82))), (1, .inl p), (2, .inl w)], [], (I1, L8, X), 0, 0) (fun _ => rfl) ?_
          have pt87 : ∀ (m : Nat) (k : Int) (y2 : Int), (0 ≤ k) → (k ≤ I 100 0) → (I 100 0 - k).toNat = m → yi_G zi_Ms d zi_m71 (87, [(5, .inl k), (4, .inl y2), (3, .inl y), (0, .inr (.inr (some 82))), (1, .inl p), (2, .inl w)], [], (I1, L8, X), 0, 0) (fun r => ∃ z I' L', r = (some (.inl z), (I', L', X), 0, 0) ∧ (∀ p k, p ≠ 96 ∧ p ≠ 99 ∧ p ≠ 103 ∧ p ≠ 104 ∧ p ≠ 105 ∧ p ≠ 106 ∧ p ≠ 107 ∧ p ≠ 108 ∧ ¬ (p = 82 ∧ k = 0) ∧ ¬ (p = 82 ∧ k = 34) ∧ ¬ (p = 82 ∧ k = 35) ∧ ¬ (p = 82 ∧ k = 37) ∧ ¬ (p = 82 ∧ k = 40) → I' p k = I p k) ∧ (∀ p k, p ≠ 97 ∧ ¬ (p = 82 ∧ k = 43) → L' p k = L p k)) := by
            intro m87
            induction m87 using Nat.strongRecOn with
            | _ m87 ih87 =>
            intro k y2 k2 k3 hm87
            refine yi_G_run 2 (90, [(5, .inl k), (4, .inl y2), (3, .inl y), (0, .inr (.inr (some 82))), (1, .inl p), (2, .inl w)], [.inr (.inr (some 82)), .inl k], (I1, L8, X), 0, 0) (fun _ => rfl) ?_
            refine yi_G_get (93, [(5, .inl k), (4, .inl y2), (3, .inl y), (0, .inr (.inr (some 82))), (1, .inl p), (2, .inl w)], [.inr (.inr (some 100)), .inl k], (I1, L8, X), 0, 0) rfl (ym_gr hS 17 rfl rfl rfl) ?_
            refine yi_G_run 1 (94, [(5, .inl k), (4, .inl y2), (3, .inl y), (0, .inr (.inr (some 82))), (1, .inl p), (2, .inl w)], [.inl 0, .inr (.inr (some 100)), .inl k], (I1, L8, X), 0, 0) (fun _ => rfl) ?_
            have r11 : I1 100 0 = I 100 0 := by rw [← w2, yi_u_ne _ _ (by omega)]
            refine yi_G_iald (95, [(5, .inl k), (4, .inl y2), (3, .inl y), (0, .inr (.inr (some 82))), (1, .inl p), (2, .inl w)], [.inl (I 100 0), .inl k], (I1, L8, X), 0, 0) rfl (ym_li hS 17 rfl (by omega) (by omega) r11) ?_
            by_cases h12 : (I 100 0) ≤ k
            · refine yi_G_if2 true rfl (yi_ge_t h12) ?_
              refine yi_G_run 1 (141, [(5, .inl k), (4, .inl y2), (3, .inl y), (0, .inr (.inr (some 82))), (1, .inl p), (2, .inl w)], [.inl w], (I1, L8, X), 0, 0) (fun _ => rfl) ?_
              by_cases h13 : w = 0
              · refine yi_G_if1 false rfl (yi_ne_f h13) ?_
                refine yi_G_run 2 (147, [(5, .inl k), (4, .inl y2), (3, .inl y), (0, .inr (.inr (some 82))), (1, .inl p), (2, .inl w)], [.inl 59, .inr (.inr (some 82))], (I1, L8, X), 0, 0) (fun _ => rfl) ?_
                have r14 : I1 82 25 = I 82 25 := by rw [← w2, yi_u_ne _ _ (by omega)]
                refine yi_G_callv rfl rfl (ym_rcv hS) rfl (w_many (by omega) hS (by omega) (by omega) (by rw [r14]; omega) (by rw [r14]; omega)) ?_
                rintro _ ⟨z15, rfl⟩
                show yi_G zi_Ms d zi_m71 (150, [(5, .inl k), (4, .inl y2), (3, .inl y), (0, .inr (.inr (some 82))), (1, .inl p), (2, .inl w)], [.inl z15], (I1, L8, X), 0, 0) _
                refine yi_G_run 1 (155, [(5, .inl k), (4, .inl y2), (3, .inl y), (0, .inr (.inr (some 82))), (1, .inl p), (2, .inl w)], [.inl z15], (I1, L8, X), 0, 0) (fun _ => rfl) ?_
                exact yi_G_reti rfl rfl (⟨_, _, _, rfl, (fun p k hp => by rw [← w2, yi_u_ne _ _ (fun z => by omega)]), (fun p k hp => by rw [f9 p k (by omega)])⟩)
              · refine yi_G_if1 true rfl (yi_ne_t h13) ?_
                refine yi_G_run 1 (155, [(5, .inl k), (4, .inl y2), (3, .inl y), (0, .inr (.inr (some 82))), (1, .inl p), (2, .inl w)], [.inl y2], (I1, L8, X), 0, 0) (fun _ => rfl) ?_
                exact yi_G_reti rfl rfl (⟨_, _, _, rfl, (fun p k hp => by rw [← w2, yi_u_ne _ _ (fun z => by omega)]), (fun p k hp => by rw [f9 p k (by omega)])⟩)
            · refine yi_G_if2 false rfl (yi_ge_f h12) ?_
              refine yi_G_run 3 (103, [(5, .inl k), (4, .inl y2), (3, .inl y), (0, .inr (.inr (some 82))), (1, .inl p), (2, .inl w)], [.inl k, .inl y, .inl y2], (I1, L8, X), 0, 0) (fun _ => rfl) ?_
              refine yi_G_calls rfl rfl (c_isIn d (by omega) hS) ?_
              rintro _ (⟨c16, rfl⟩ | ⟨c16, rfl⟩)
              · show yi_G zi_Ms d zi_m71 (106, [(5, .inl k), (4, .inl y2), (3, .inl y), (0, .inr (.inr (some 82))), (1, .inl p), (2, .inl w)], [.inl 1, .inl y2], (I1, L8, X), 0, 0) _
                refine yi_G_if1 true rfl (by decide) ?_
                refine yi_G_run 3 (134, [(4, .inl (yi_ior y2 0)), (5, .inl k), (3, .inl y), (0, .inr (.inr (some 82))), (1, .inl p), (2, .inl w)], [], (I1, L8, X), 0, 0) (fun _ => rfl) ?_
                refine yi_G_iinc [(5, .inl (k + 1)), (4, .inl (yi_ior y2 0)), (3, .inl y), (0, .inr (.inr (some 82))), (1, .inl p), (2, .inl w)] rfl rfl rfl (by rw [show yi_w (k + 1) = k + 1 from (yi_wn (by omega) (by omega)).trans (by omega)]; rfl) ?_
                refine yi_G_run 1 (87, [(5, .inl (k + 1)), (4, .inl (yi_ior y2 0)), (3, .inl y), (0, .inr (.inr (some 82))), (1, .inl p), (2, .inl w)], [], (I1, L8, X), 0, 0) (fun _ => rfl) ?_
                exact ih87 _ (by omega) (k + 1) (yi_ior y2 0) (by omega) (by omega) rfl
              · show yi_G zi_Ms d zi_m71 (106, [(5, .inl k), (4, .inl y2), (3, .inl y), (0, .inr (.inr (some 82))), (1, .inl p), (2, .inl w)], [.inl 0, .inl y2], (I1, L8, X), 0, 0) _
                refine yi_G_if1 false rfl (by decide) ?_
                refine yi_G_run 4 (116, [(5, .inl k), (4, .inl y2), (3, .inl y), (0, .inr (.inr (some 82))), (1, .inl p), (2, .inl w)], [.inl k, .inl 60, .inl 59, .inr (.inr (some 82)), .inl y2], (I1, L8, X), 0, 0) (fun _ => rfl) ?_
                refine yi_G_iadd rfl (60 + k) (yi_wn (by omega) (by omega)) ?_
                have r17 : I1 82 25 = I 82 25 := by rw [← w2, yi_u_ne _ _ (by omega)]
                refine yi_G_callv rfl rfl (ym_rcv hS) rfl (w_isAll (by omega) hS (by omega) (by omega) (by omega) (by omega) (by rw [r17]; omega) (by rw [r17]; omega)) ?_
                rintro _ (rfl | rfl)
                · show yi_G zi_Ms d zi_m71 (120, [(5, .inl k), (4, .inl y2), (3, .inl y), (0, .inr (.inr (some 82))), (1, .inl p), (2, .inl w)], [.inl 1, .inl y2], (I1, L8, X), 0, 0) _
                  refine yi_G_if1 false rfl (by decide) ?_
                  refine yi_G_run 6 (134, [(4, .inl (yi_ior y2 (yi_shl 1 k))), (5, .inl k), (3, .inl y), (0, .inr (.inr (some 82))), (1, .inl p), (2, .inl w)], [], (I1, L8, X), 0, 0) (fun _ => rfl) ?_
                  refine yi_G_iinc [(5, .inl (k + 1)), (4, .inl (yi_ior y2 (yi_shl 1 k))), (3, .inl y), (0, .inr (.inr (some 82))), (1, .inl p), (2, .inl w)] rfl rfl rfl (by rw [show yi_w (k + 1) = k + 1 from (yi_wn (by omega) (by omega)).trans (by omega)]; rfl) ?_
                  refine yi_G_run 1 (87, [(5, .inl (k + 1)), (4, .inl (yi_ior y2 (yi_shl 1 k))), (3, .inl y), (0, .inr (.inr (some 82))), (1, .inl p), (2, .inl w)], [], (I1, L8, X), 0, 0) (fun _ => rfl) ?_
                  exact ih87 _ (by omega) (k + 1) (yi_ior y2 (yi_shl 1 k)) (by omega) (by omega) rfl
                · show yi_G zi_Ms d zi_m71 (120, [(5, .inl k), (4, .inl y2), (3, .inl y), (0, .inr (.inr (some 82))), (1, .inl p), (2, .inl w)], [.inl 0, .inl y2], (I1, L8, X), 0, 0) _
                  refine yi_G_if1 true rfl (by decide) ?_
                  refine yi_G_run 3 (134, [(4, .inl (yi_ior y2 0)), (5, .inl k), (3, .inl y), (0, .inr (.inr (some 82))), (1, .inl p), (2, .inl w)], [], (I1, L8, X), 0, 0) (fun _ => rfl) ?_
                  refine yi_G_iinc [(5, .inl (k + 1)), (4, .inl (yi_ior y2 0)), (3, .inl y), (0, .inr (.inr (some 82))), (1, .inl p), (2, .inl w)] rfl rfl rfl (by rw [show yi_w (k + 1) = k + 1 from (yi_wn (by omega) (by omega)).trans (by omega)]; rfl) ?_
                  refine yi_G_run 1 (87, [(5, .inl (k + 1)), (4, .inl (yi_ior y2 0)), (3, .inl y), (0, .inr (.inr (some 82))), (1, .inl p), (2, .inl w)], [], (I1, L8, X), 0, 0) (fun _ => rfl) ?_
                  exact ih87 _ (by omega) (k + 1) (yi_ior y2 0) (by omega) (by omega) rfl
          exact pt87 _ 0 0 (by omega) (by omega) rfl
        · refine yi_G_if2 false rfl (yi_ge_f h7) ?_
          refine yi_G_run 2 (42, [(4, .inl k), (3, .inl y), (0, .inr (.inr (some 82))), (1, .inl p), (2, .inl w)], [.inr (.inr (some 82)), .inl y], (I1, L, X), 0, 0) (fun _ => rfl) ?_
          refine yi_G_get (45, [(4, .inl k), (3, .inl y), (0, .inr (.inr (some 82))), (1, .inl p), (2, .inl w)], [.inr (.inr (some 100)), .inl y], (I1, L, X), 0, 0) rfl (ym_gr hS 17 rfl rfl rfl) ?_
          refine yi_G_run 3 (50, [(4, .inl k), (3, .inl y), (0, .inr (.inr (some 82))), (1, .inl p), (2, .inl w)], [.inl k, .inl 3, .inl 8, .inr (.inr (some 100)), .inl y], (I1, L, X), 0, 0) (fun _ => rfl) ?_
          refine yi_G_imul rfl (3 * k) (yi_wn (by omega) (by omega)) ?_
          refine yi_G_iadd rfl (8 + (3 * k)) (yi_wn (by omega) (by omega)) ?_
          have r18 : I1 100 ((8 + (3 * k)).toNat) = I 100 ((8 + (3 * k)).toNat) := by rw [← w2, yi_u_ne _ _ (by omega)]
          refine yi_G_iald (53, [(4, .inl k), (3, .inl y), (0, .inr (.inr (some 82))), (1, .inl p), (2, .inl w)], [.inl (I 100 ((8 + (3 * k)).toNat)), .inl y], (I1, L, X), 0, 0) rfl (ym_li hS 17 rfl (by omega) (by omega) r18) ?_
          refine yi_G_run 1 (54, [(4, .inl k), (3, .inl y), (0, .inr (.inr (some 82))), (1, .inl p), (2, .inl w)], [.inl p, .inl (I 100 ((8 + (3 * k)).toNat)), .inl y], (I1, L, X), 0, 0) (fun _ => rfl) ?_
          by_cases h19 : (I 100 ((8 + (3 * k)).toNat)) = p
          · refine yi_G_if2 false rfl (yi_ne_f h19) ?_
            refine yi_G_run 6 (67, [(3, .inl (yi_ior y (yi_shl 1 k))), (4, .inl k), (0, .inr (.inr (some 82))), (1, .inl p), (2, .inl w)], [], (I1, L, X), 0, 0) (fun _ => rfl) ?_
            refine yi_G_iinc [(4, .inl (k + 1)), (3, .inl (yi_ior y (yi_shl 1 k))), (0, .inr (.inr (some 82))), (1, .inl p), (2, .inl w)] rfl rfl rfl (by rw [show yi_w (k + 1) = k + 1 from (yi_wn (by omega) (by omega)).trans (by omega)]; rfl) ?_
            refine yi_G_run 1 (29, [(4, .inl (k + 1)), (3, .inl (yi_ior y (yi_shl 1 k))), (0, .inr (.inr (some 82))), (1, .inl p), (2, .inl w)], [], (I1, L, X), 0, 0) (fun _ => rfl) ?_
            exact ih29 _ (by omega) (k + 1) (yi_ior y (yi_shl 1 k)) (by omega) (by omega) rfl
          · refine yi_G_if2 true rfl (yi_ne_t h19) ?_
            refine yi_G_run 3 (67, [(3, .inl (yi_ior y 0)), (4, .inl k), (0, .inr (.inr (some 82))), (1, .inl p), (2, .inl w)], [], (I1, L, X), 0, 0) (fun _ => rfl) ?_
            refine yi_G_iinc [(4, .inl (k + 1)), (3, .inl (yi_ior y 0)), (0, .inr (.inr (some 82))), (1, .inl p), (2, .inl w)] rfl rfl rfl (by rw [show yi_w (k + 1) = k + 1 from (yi_wn (by omega) (by omega)).trans (by omega)]; rfl) ?_
            refine yi_G_run 1 (29, [(4, .inl (k + 1)), (3, .inl (yi_ior y 0)), (0, .inr (.inr (some 82))), (1, .inl p), (2, .inl w)], [], (I1, L, X), 0, 0) (fun _ => rfl) ?_
            exact ih29 _ (by omega) (k + 1) (yi_ior y 0) (by omega) (by omega) rfl
      exact pt29 _ 0 0 (by omega) (by omega) rfl
    · show yi_G zi_Ms d zi_m71 (19, [(0, .inr (.inr (some 82))), (1, .inl p), (2, .inl w)], [.inl 0], (I1, L, X), 0, 0) _
      refine yi_G_if1 false rfl (by decide) ?_
      refine yi_G_run 1 (23, [(0, .inr (.inr (some 82))), (1, .inl p), (2, .inl w)], [.inl (-1)], (I1, L, X), 0, 0) (fun _ => rfl) ?_
      exact yi_G_reti rfl rfl (⟨_, _, _, rfl, (fun p k hp => by rw [← w2, yi_u_ne _ _ (fun z => by omega)]), (fun _ _ _ => rfl)⟩)
  · show yi_G zi_Ms d zi_m71 (10, [(0, .inr (.inr (some 82))), (1, .inl p), (2, .inl w)], [.inl 0], (I1, L, X), 0, 0) _
    refine yi_G_if1 true rfl (by decide) ?_
    refine yi_G_run 1 (23, [(0, .inr (.inr (some 82))), (1, .inl p), (2, .inl w)], [.inl (-1)], (I1, L, X), 0, 0) (fun _ => rfl) ?_
    exact yi_G_reti rfl rfl (⟨_, _, _, rfl, (fun p k hp => by rw [← w2, yi_u_ne _ _ (fun z => by omega)]), (fun _ _ _ => rfl)⟩)
