/-! The futures of a land. -/
theorem c_findsFutures (D : Nat) (hD : 8 ≤ D) {I L : Nat → Nat → Int} {X : ym_X} (hS : ym_S X) (hLR : ym_LR I) (hPL : ym_PL I) (hFo : 1 ≤ ym_fo (I 88 0) (I 88 1) (I 88 2)) : yi_E zi_Ms D 32 [.inr (.inr (some 82))] (I, L, X) (fun r => ∃ I' L', r = (none, (I', L', X), 0, 0) ∧ (∀ p k, p ≠ 98 ∧ p ≠ 99 ∧ p ≠ 96 ∧ ¬ (p = 82 ∧ k = 20) ∧ ¬ (p = 82 ∧ k = 24) ∧ ¬ (p = 82 ∧ k = 25) ∧ ¬ (p = 82 ∧ k = 28) → I' p k = I p k) ∧ (∀ p k, p ≠ 97 → L' p k = L p k) ∧ I' 82 24 = ym_fo (I 88 0) (I 88 1) (I 88 2) ∧ I' 82 25 = (ym_fo (I 88 0) (I 88 1) (I 88 2) + 63) / 64 ∧ I' 82 20 = 0 ∧ ym_PW I') := by
  obtain ⟨d, rfl⟩ : ∃ d, D = d + 1 := ⟨D - 1, by omega⟩
  refine yi_E_of (M := zi_m32) rfl rfl ?_
  obtain ⟨l0, l1, l2, l3, l4, l5⟩ := id hLR
  have m1 := yi_mb (a := I 88 0) (b := I 88 1) (A := 6) (B := 4) (by omega) (by omega) (by omega) (by omega)
  have hFb := ym_fo_b (da := I 88 0) (pe := I 88 1) (ev := I 88 2) (by omega)
  show yi_G zi_Ms d zi_m32 (0, [(0, .inr (.inr (some 82)))], [], (I, L, X), 0, 0) _
  refine yi_G_run 1 (1, [(0, .inr (.inr (some 82)))], [.inr (.inr (some 82))], (I, L, X), 0, 0) (fun _ => rfl) ?_
  refine yi_G_callv rfl rfl (ym_rcv hS) rfl (c_events d (by omega) hS rfl) ?_
  rintro _ rfl
  show yi_G zi_Ms d zi_m32 (4, [(0, .inr (.inr (some 82)))], [.inl (I 88 2)], (I, L, X), 0, 0) _
  by_cases h1 : (I 88 2) = 0
  · refine yi_G_if1 false rfl (yi_ne_f h1) ?_
    refine yi_G_run 5 (23, [(1, .inl 0), (0, .inr (.inr (some 82)))], [.inr (.inr (some 82)), .inr (.inr (some 82))], (I, L, X), 0, 0) (fun _ => rfl) ?_
    refine yi_G_callv rfl rfl (ym_rcv hS) rfl (c_days d (by omega) hS rfl) ?_
    rintro _ rfl
    show yi_G zi_Ms d zi_m32 (26, [(1, .inl 0), (0, .inr (.inr (some 82)))], [.inl (I 88 0), .inr (.inr (some 82))], (I, L, X), 0, 0) _
    refine yi_G_run 1 (27, [(1, .inl 0), (0, .inr (.inr (some 82)))], [.inr (.inr (some 82)), .inl (I 88 0), .inr (.inr (some 82))], (I, L, X), 0, 0) (fun _ => rfl) ?_
    refine yi_G_callv rfl rfl (ym_rcv hS) rfl (c_people d (by omega) hS rfl) ?_
    rintro _ rfl
    show yi_G zi_Ms d zi_m32 (30, [(1, .inl 0), (0, .inr (.inr (some 82)))], [.inl (I 88 1), .inl (I 88 0), .inr (.inr (some 82))], (I, L, X), 0, 0) _
    refine yi_G_run 1 (31, [(1, .inl 0), (0, .inr (.inr (some 82)))], [.inr (.inr (some 82)), .inl (I 88 1), .inl (I 88 0), .inr (.inr (some 82))], (I, L, X), 0, 0) (fun _ => rfl) ?_
    refine yi_G_callv rfl rfl (ym_rcv hS) rfl (c_events d (by omega) hS rfl) ?_
    rintro _ rfl
    show yi_G zi_Ms d zi_m32 (34, [(1, .inl 0), (0, .inr (.inr (some 82)))], [.inl (I 88 2), .inl (I 88 1), .inl (I 88 0), .inr (.inr (some 82))], (I, L, X), 0, 0) _
    refine yi_G_calls rfl rfl (c_futuresOf d (by omega) hS (by omega) (by omega)) ?_
    rintro _ rfl
    show yi_G zi_Ms d zi_m32 (37, [(1, .inl 0), (0, .inr (.inr (some 82)))], [.inl (ym_fo (I 88 0) (I 88 1) (I 88 2)), .inr (.inr (some 82))], (I, L, X), 0, 0) _
    refine yi_G_put (40, [(1, .inl 0), (0, .inr (.inr (some 82)))], [], ((yi_u I 82 24 (ym_fo (I 88 0) (I 88 1) (I 88 2))), L, X), 0, 0) rfl (ym_pi hS rfl rfl) ?_
    generalize w3 : yi_u I 82 24 (ym_fo (I 88 0) (I 88 1) (I 88 2)) = I2
    refine yi_G_run 2 (42, [(1, .inl 0), (0, .inr (.inr (some 82)))], [.inr (.inr (some 82)), .inr (.inr (some 82))], (I2, L, X), 0, 0) (fun _ => rfl) ?_
    have r4 : I2 82 24 = ym_fo (I 88 0) (I 88 1) (I 88 2) := by rw [← w3, yi_u_eq]
    refine yi_G_get (45, [(1, .inl 0), (0, .inr (.inr (some 82)))], [.inl (ym_fo (I 88 0) (I 88 1) (I 88 2)), .inr (.inr (some 82))], (I2, L, X), 0, 0) rfl (ym_gi hS rfl rfl r4) ?_
    refine yi_G_run 1 (47, [(1, .inl 0), (0, .inr (.inr (some 82)))], [.inl 63, .inl (ym_fo (I 88 0) (I 88 1) (I 88 2)), .inr (.inr (some 82))], (I2, L, X), 0, 0) (fun _ => rfl) ?_
    refine yi_G_iadd rfl ((ym_fo (I 88 0) (I 88 1) (I 88 2)) + 63) (yi_wn (by omega) (by omega)) ?_
    refine yi_G_run 1 (50, [(1, .inl 0), (0, .inr (.inr (some 82)))], [.inl 64, .inl ((ym_fo (I 88 0) (I 88 1) (I 88 2)) + 63), .inr (.inr (some 82))], (I2, L, X), 0, 0) (fun _ => rfl) ?_
    refine yi_G_idiv rfl (by decide) (((ym_fo (I 88 0) (I 88 1) (I 88 2)) + 63) / 64) (yi_dv (by omega) rfl (by omega) (by omega)) ?_
    refine yi_G_put (54, [(1, .inl 0), (0, .inr (.inr (some 82)))], [], ((yi_u I2 82 25 (((ym_fo (I 88 0) (I 88 1) (I 88 2)) + 63) / 64)), L, X), 0, 0) rfl (ym_pi hS rfl rfl) ?_
    generalize w6 : yi_u I2 82 25 (((ym_fo (I 88 0) (I 88 1) (I 88 2)) + 63) / 64) = I5
    refine yi_G_run 4 (58, [(2, .inl 1), (1, .inl 0), (0, .inr (.inr (some 82)))], [.inl 1, .inl 0], (I5, L, X), 0, 0) (fun _ => rfl) ?_
    refine yi_G_isub rfl ((-1)) (by decide) ?_
    refine yi_G_run 1 (60, [(3, .inl (-1)), (2, .inl 1), (1, .inl 0), (0, .inr (.inr (some 82)))], [], (I5, L, X), 0, 0) (fun _ => rfl) ?_
    have pt60 : ∀ (m : Nat) (k : Int) (y : Int) (n : Int) (Ja : Nat → Nat → Int), (∀ p k, p ≠ 98 → Ja p k = I5 p k) → (-1 ≤ k) → (k < n) → ((I 88 2 = 0 ∧ n = 0) ∨ (¬ I 88 2 = 0 ∧ n = I 88 0 * I 88 1)) → (y = ym_fn (I 88 2) (n - 1 - k).toNat) → (∀ j : Int, k < j → j < n → 1 ≤ Ja 98 j.toNat) → (k + 1).toNat = m → yi_G zi_Ms d zi_m32 (60, [(3, .inl k), (2, .inl y), (1, .inl n), (0, .inr (.inr (some 82)))], [], (Ja, L, X), 0, 0) (fun r => ∃ I' L', r = (none, (I', L', X), 0, 0) ∧ (∀ p k, p ≠ 98 ∧ p ≠ 99 ∧ p ≠ 96 ∧ ¬ (p = 82 ∧ k = 20) ∧ ¬ (p = 82 ∧ k = 24) ∧ ¬ (p = 82 ∧ k = 25) ∧ ¬ (p = 82 ∧ k = 28) → I' p k = I p k) ∧ (∀ p k, p ≠ 97 → L' p k = L p k) ∧ I' 82 24 = ym_fo (I 88 0) (I 88 1) (I 88 2) ∧ I' 82 25 = (ym_fo (I 88 0) (I 88 1) (I 88 2) + 63) / 64 ∧ I' 82 20 = 0 ∧ ym_PW I') := by
      intro m60
      induction m60 using Nat.strongRecOn with
      | _ m60 ih60 =>
      intro k y n Ja fJa k0 k1 hn hy pw hm60
      refine yi_G_run 1 (61, [(3, .inl k), (2, .inl y), (1, .inl n), (0, .inr (.inr (some 82)))], [.inl k], (Ja, L, X), 0, 0) (fun _ => rfl) ?_
      by_cases h7 : k < 0
      · refine yi_G_if1 true rfl (yi_lt_t h7) ?_
        refine yi_G_run 2 (86, [(3, .inl k), (2, .inl y), (1, .inl n), (0, .inr (.inr (some 82)))], [.inl 0, .inr (.inr (some 82))], (Ja, L, X), 0, 0) (fun _ => rfl) ?_
        have e88 : ∀ k, Ja 88 k = I 88 k := (fun k => by rw [fJa 88 k (by omega), ← w6, yi_u_ne _ _ (fun z => absurd z.1 (by decide)), ← w3, yi_u_ne _ _ (fun z => absurd z.1 (by decide))])
        have hPWa : ym_PW Ja := fun j a b c => by rw [e88, e88] at b; rw [e88] at c; exact pw j (by omega) (by omega)
        refine yi_G_put (89, [(3, .inl k), (2, .inl y), (1, .inl n), (0, .inr (.inr (some 82)))], [], ((yi_u Ja 82 20 0), L, X), 0, 0) rfl (ym_pi hS rfl rfl) ?_
        generalize w9 : yi_u Ja 82 20 0 = I8
        refine yi_G_run 2 (91, [(3, .inl 0), (2, .inl y), (1, .inl n), (0, .inr (.inr (some 82)))], [], (I8, L, X), 0, 0) (fun _ => rfl) ?_
        have pt91 : ∀ (m : Nat) (k : Int) (n : Int) (y : Int) (Ka : Nat → Nat → Int), (∀ p k, p ≠ 97 → Ka p k = L p k) → (0 ≤ k) → (k ≤ 32) → ((I 88 2 = 0 ∧ n = 0) ∨ (¬ I 88 2 = 0 ∧ n = I 88 0 * I 88 1)) → (32 - k).toNat = m → yi_G zi_Ms d zi_m32 (91, [(3, .inl k), (2, .inl y), (1, .inl n), (0, .inr (.inr (some 82)))], [], (I8, Ka, X), 0, 0) (fun r => ∃ I' L', r = (none, (I', L', X), 0, 0) ∧ (∀ p k, p ≠ 98 ∧ p ≠ 99 ∧ p ≠ 96 ∧ ¬ (p = 82 ∧ k = 20) ∧ ¬ (p = 82 ∧ k = 24) ∧ ¬ (p = 82 ∧ k = 25) ∧ ¬ (p = 82 ∧ k = 28) → I' p k = I p k) ∧ (∀ p k, p ≠ 97 → L' p k = L p k) ∧ I' 82 24 = ym_fo (I 88 0) (I 88 1) (I 88 2) ∧ I' 82 25 = (ym_fo (I 88 0) (I 88 1) (I 88 2) + 63) / 64 ∧ I' 82 20 = 0 ∧ ym_PW I') := by
          intro m91
          induction m91 using Nat.strongRecOn with
          | _ m91 ih91 =>
          intro k n y Ka fKa k0 k1 hn2 hm91
          refine yi_G_run 2 (94, [(3, .inl k), (2, .inl y), (1, .inl n), (0, .inr (.inr (some 82)))], [.inl 32, .inl k], (I8, Ka, X), 0, 0) (fun _ => rfl) ?_
          by_cases h10 : 32 ≤ k
          · refine yi_G_if2 true rfl (yi_ge_t h10) ?_
            refine yi_G_run 2 (111, [(3, .inl k), (2, .inl y), (1, .inl n), (0, .inr (.inr (some 82)))], [.inl 32, .inr (.inr (some 82))], (I8, Ka, X), 0, 0) (fun _ => rfl) ?_
            have r11 : I8 82 25 = ((ym_fo (I 88 0) (I 88 1) (I 88 2)) + 63) / 64 := by rw [← w9, yi_u_ne _ _ (by omega), fJa 82 (25) (by omega), ← w6, yi_u_eq]
            refine yi_G_callv rfl rfl (ym_rcv hS) rfl (w_clears (by omega) hS (by omega) (by omega) (by rw [r11]; omega) (by rw [r11]; omega)) ?_
            rintro _ ⟨L12, rfl, f13⟩
            show yi_G zi_Ms d zi_m32 (114, [(3, .inl k), (2, .inl y), (1, .inl n), (0, .inr (.inr (some 82)))], [], (I8, L12, X), 0, 0) _
            refine yi_G_run 2 (116, [(3, .inl 0), (2, .inl y), (1, .inl n), (0, .inr (.inr (some 82)))], [], (I8, L12, X), 0, 0) (fun _ => rfl) ?_
            have pt116 : ∀ (m : Nat) (f : Int) (n : Int) (Jb : Nat → Nat → Int) (Kb : Nat → Nat → Int), (∀ p k, p ≠ 99 ∧ p ≠ 96 → Jb p k = I8 p k) → (∀ p k, p ≠ 97 → Kb p k = L12 p k) → (0 ≤ f) → (f ≤ ym_fo (I 88 0) (I 88 1) (I 88 2)) → ((I 88 2 = 0 ∧ n = 0) ∨ (¬ I 88 2 = 0 ∧ n = I 88 0 * I 88 1)) → (ym_fo (I 88 0) (I 88 1) (I 88 2) - f).toNat = m → yi_G zi_Ms d zi_m32 (116, [(3, .inl f), (1, .inl n), (0, .inr (.inr (some 82)))], [], (Jb, Kb, X), 0, 0) (fun r => ∃ I' L', r = (none, (I', L', X), 0, 0) ∧ (∀ p k, p ≠ 98 ∧ p ≠ 99 ∧ p ≠ 96 ∧ ¬ (p = 82 ∧ k = 20) ∧ ¬ (p = 82 ∧ k = 24) ∧ ¬ (p = 82 ∧ k = 25) ∧ ¬ (p = 82 ∧ k = 28) → I' p k = I p k) ∧ (∀ p k, p ≠ 97 → L' p k = L p k) ∧ I' 82 24 = ym_fo (I 88 0) (I 88 1) (I 88 2) ∧ I' 82 25 = (ym_fo (I 88 0) (I 88 1) (I 88 2) + 63) / 64 ∧ I' 82 20 = 0 ∧ ym_PW I') := by
              intro m116
              induction m116 using Nat.strongRecOn with
              | _ m116 ih116 =>
              intro f n Jb Kb fJb fKb f0 f1 hn3 hm116
              refine yi_G_run 2 (118, [(3, .inl f), (1, .inl n), (0, .inr (.inr (some 82)))], [.inr (.inr (some 82)), .inl f], (Jb, Kb, X), 0, 0) (fun _ => rfl) ?_
              have r14 : Jb 82 24 = ym_fo (I 88 0) (I 88 1) (I 88 2) := by rw [fJb 82 (24) (by omega), ← w9, yi_u_ne _ _ (by omega), fJa 82 (24) (by omega), ← w6, yi_u_ne _ _ (by omega), ← w3, yi_u_eq]
              refine yi_G_get (121, [(3, .inl f), (1, .inl n), (0, .inr (.inr (some 82)))], [.inl (ym_fo (I 88 0) (I 88 1) (I 88 2)), .inl f], (Jb, Kb, X), 0, 0) rfl (ym_gi hS rfl rfl r14) ?_
              by_cases h15 : (ym_fo (I 88 0) (I 88 1) (I 88 2)) ≤ f
              · refine yi_G_if2 true rfl (yi_ge_t h15) ?_
                refine yi_G_run 2 (236, [(3, .inl 0), (1, .inl n), (0, .inr (.inr (some 82)))], [], (Jb, Kb, X), 0, 0) (fun _ => rfl) ?_
                have pt236 : ∀ (m : Nat) (w : Int) (n : Int) (Je : Nat → Nat → Int) (Ke : Nat → Nat → Int), (∀ p k, p ≠ 96 ∧ p ≠ 99 ∧ ¬ (p = 82 ∧ k = 28) → Je p k = Jb p k) → (∀ p k, p ≠ 97 → Ke p k = Kb p k) → (0 ≤ w) → (w ≤ I 88 5) → (I 88 5 - w).toNat = m → yi_G zi_Ms d zi_m32 (236, [(3, .inl w), (1, .inl n), (0, .inr (.inr (some 82)))], [], (Je, Ke, X), 0, 0) (fun r => ∃ I' L', r = (none, (I', L', X), 0, 0) ∧ (∀ p k, p ≠ 98 ∧ p ≠ 99 ∧ p ≠ 96 ∧ ¬ (p = 82 ∧ k = 20) ∧ ¬ (p = 82 ∧ k = 24) ∧ ¬ (p = 82 ∧ k = 25) ∧ ¬ (p = 82 ∧ k = 28) → I' p k = I p k) ∧ (∀ p k, p ≠ 97 → L' p k = L p k) ∧ I' 82 24 = ym_fo (I 88 0) (I 88 1) (I 88 2) ∧ I' 82 25 = (ym_fo (I 88 0) (I 88 1) (I 88 2) + 63) / 64 ∧ I' 82 20 = 0 ∧ ym_PW I') := by
                  intro m236
                  induction m236 using Nat.strongRecOn with
                  | _ m236 ih236 =>
                  intro w n Je Ke fJe fKe w0 w1 hm236
                  refine yi_G_run 2 (238, [(3, .inl w), (1, .inl n), (0, .inr (.inr (some 82)))], [.inr (.inr (some 82)), .inl w], (Je, Ke, X), 0, 0) (fun _ => rfl) ?_
                  refine yi_G_get (241, [(3, .inl w), (1, .inl n), (0, .inr (.inr (some 82)))], [.inr (.inr (some 88)), .inl w], (Je, Ke, X), 0, 0) rfl (ym_gr hS 5 rfl rfl rfl) ?_
                  refine yi_G_run 1 (242, [(3, .inl w), (1, .inl n), (0, .inr (.inr (some 82)))], [.inl 5, .inr (.inr (some 88)), .inl w], (Je, Ke, X), 0, 0) (fun _ => rfl) ?_
                  have r16 : Je 88 5 = I 88 5 := by rw [fJe 88 (5) (by omega), fJb 88 (5) (by omega), ← w9, yi_u_ne _ _ (by omega), fJa 88 (5) (by omega), ← w6, yi_u_ne _ _ (by omega), ← w3, yi_u_ne _ _ (by omega)]
                  refine yi_G_iald (243, [(3, .inl w), (1, .inl n), (0, .inr (.inr (some 82)))], [.inl (I 88 5), .inl w], (Je, Ke, X), 0, 0) rfl (ym_li hS 5 rfl (by omega) (by omega) r16) ?_
                  by_cases h17 : (I 88 5) ≤ w
                  · refine yi_G_if2 true rfl (yi_ge_t h17) ?_
                    exact yi_G_retv rfl rfl (⟨_, _, rfl, (fun p k hp => by rw [fJe p k (by omega), fJb p k (by omega), ← w9, yi_u_ne _ _ (fun z => by omega), fJa p k (by omega), ← w6, yi_u_ne _ _ (fun z => by omega), ← w3, yi_u_ne _ _ (fun z => by omega)]), (fun p k hp => by rw [fKe p k (by omega), fKb p k (by omega), f13 p k (by omega), fKa p k (by omega)]), (by rw [fJe 82 24 (by omega), fJb 82 24 (by omega), ← w9, yi_u_ne _ _ (by decide), fJa 82 24 (by omega), ← w6, yi_u_ne _ _ (by decide), ← w3, yi_u_eq]), (by rw [fJe 82 25 (by omega), fJb 82 25 (by omega), ← w9, yi_u_ne _ _ (by decide), fJa 82 25 (by omega), ← w6, yi_u_eq]), (by rw [fJe 82 20 (by omega), fJb 82 20 (by omega), ← w9, yi_u_eq]), (ym_PW_t (fun k => by rw [fJe 88 k (by omega), fJb 88 k (by omega), ← w9, yi_u_ne _ _ (fun z => absurd z.1 (by decide))]) (fun k => by rw [fJe 98 k (by omega), fJb 98 k (by omega), ← w9, yi_u_ne _ _ (fun z => absurd z.1 (by decide))]) hPWa)⟩)
                  · refine yi_G_if2 false rfl (yi_ge_f h17) ?_
                    refine yi_G_run 1 (247, [(3, .inl w), (1, .inl n), (0, .inr (.inr (some 82)))], [.inr (.inr (some 82))], (Je, Ke, X), 0, 0) (fun _ => rfl) ?_
                    refine yi_G_get (250, [(3, .inl w), (1, .inl n), (0, .inr (.inr (some 82)))], [.inr (.inr (some 88))], (Je, Ke, X), 0, 0) rfl (ym_gr hS 5 rfl rfl rfl) ?_
                    refine yi_G_run 3 (254, [(3, .inl w), (1, .inl n), (0, .inr (.inr (some 82)))], [.inl w, .inl 3, .inl 25, .inr (.inr (some 88))], (Je, Ke, X), 0, 0) (fun _ => rfl) ?_
                    refine yi_G_imul rfl (3 * w) (yi_wn (by omega) (by omega)) ?_
                    refine yi_G_iadd rfl (25 + (3 * w)) (yi_wn (by omega) (by omega)) ?_
                    have r18 : Je 88 ((25 + (3 * w)).toNat) = I 88 ((25 + (3 * w)).toNat) := by rw [fJe 88 ((25 + (3 * w)).toNat) (by omega), fJb 88 ((25 + (3 * w)).toNat) (by omega), ← w9, yi_u_ne _ _ (by omega), fJa 88 ((25 + (3 * w)).toNat) (by omega), ← w6, yi_u_ne _ _ (by omega), ← w3, yi_u_ne _ _ (by omega)]
                    refine yi_G_iald (257, [(3, .inl w), (1, .inl n), (0, .inr (.inr (some 82)))], [.inl (I 88 ((25 + (3 * w)).toNat))], (Je, Ke, X), 0, 0) rfl (ym_li hS 5 rfl (by omega) (by omega) r18) ?_
                    refine yi_G_run 4 (263, [(4, .inl (I 88 ((25 + (3 * w)).toNat))), (3, .inl w), (1, .inl n), (0, .inr (.inr (some 82)))], [.inl w, .inl 40, .inr (.inr (some 82))], (Je, Ke, X), 0, 0) (fun _ => rfl) ?_
                    refine yi_G_iadd rfl (40 + w) (yi_wn (by omega) (by omega)) ?_
                    refine yi_G_run 1 (265, [(4, .inl (I 88 ((25 + (3 * w)).toNat))), (3, .inl w), (1, .inl n), (0, .inr (.inr (some 82)))], [.inr (.inr (some 82)), .inl (40 + w), .inr (.inr (some 82))], (Je, Ke, X), 0, 0) (fun _ => rfl) ?_
                    refine yi_G_get (268, [(4, .inl (I 88 ((25 + (3 * w)).toNat))), (3, .inl w), (1, .inl n), (0, .inr (.inr (some 82)))], [.inr (.inr (some 88)), .inl (40 + w), .inr (.inr (some 82))], (Je, Ke, X), 0, 0) rfl (ym_gr hS 5 rfl rfl rfl) ?_
                    refine yi_G_run 3 (272, [(4, .inl (I 88 ((25 + (3 * w)).toNat))), (3, .inl w), (1, .inl n), (0, .inr (.inr (some 82)))], [.inl w, .inl 3, .inl 25, .inr (.inr (some 88)), .inl (40 + w), .inr (.inr (some 82))], (Je, Ke, X), 0, 0) (fun _ => rfl) ?_
                    refine yi_G_imul rfl (3 * w) (yi_wn (by omega) (by omega)) ?_
                    refine yi_G_iadd rfl (25 + (3 * w)) (yi_wn (by omega) (by omega)) ?_
                    refine yi_G_run 1 (275, [(4, .inl (I 88 ((25 + (3 * w)).toNat))), (3, .inl w), (1, .inl n), (0, .inr (.inr (some 82)))], [.inl 2, .inl (25 + (3 * w)), .inr (.inr (some 88)), .inl (40 + w), .inr (.inr (some 82))], (Je, Ke, X), 0, 0) (fun _ => rfl) ?_
                    refine yi_G_iadd rfl ((25 + (3 * w)) + 2) (yi_wn (by omega) (by omega)) ?_
                    have r19 : Je 88 (((25 + (3 * w)) + 2).toNat) = I 88 (((25 + (3 * w)) + 2).toNat) := by rw [fJe 88 (((25 + (3 * w)) + 2).toNat) (by omega), fJb 88 (((25 + (3 * w)) + 2).toNat) (by omega), ← w9, yi_u_ne _ _ (by omega), fJa 88 (((25 + (3 * w)) + 2).toNat) (by omega), ← w6, yi_u_ne _ _ (by omega), ← w3, yi_u_ne _ _ (by omega)]
                    refine yi_G_iald (277, [(4, .inl (I 88 ((25 + (3 * w)).toNat))), (3, .inl w), (1, .inl n), (0, .inr (.inr (some 82)))], [.inl (I 88 (((25 + (3 * w)) + 2).toNat)), .inl (40 + w), .inr (.inr (some 82))], (Je, Ke, X), 0, 0) rfl (ym_li hS 5 rfl (by omega) (by omega) r19) ?_
                    refine yi_G_run 2 (280, [(4, .inl (I 88 ((25 + (3 * w)).toNat))), (3, .inl w), (1, .inl n), (0, .inr (.inr (some 82)))], [.inl (I 88 ((25 + (3 * w)).toNat)), .inr (.inr (some 82)), .inl (I 88 (((25 + (3 * w)) + 2).toNat)), .inl (40 + w), .inr (.inr (some 82))], (Je, Ke, X), 0, 0) (fun _ => rfl) ?_
                    obtain ⟨hw, ee, he2⟩ := hPL.2.1 w w0 (by omega)
                    refine yi_G_callv rfl rfl (ym_rcv hS) rfl (c_kindOf d (by omega) hS (by omega) (by omega)) ?_
                    rintro _ rfl
                    show yi_G zi_Ms d zi_m32 (283, [(4, .inl (I 88 ((25 + (3 * w)).toNat))), (3, .inl w), (1, .inl n), (0, .inr (.inr (some 82)))], [.inl (Je 88 (11 + 2 * (I 88 ((25 + (3 * w)).toNat))).toNat), .inl (I 88 (((25 + (3 * w)) + 2).toNat)), .inl (40 + w), .inr (.inr (some 82))], (Je, Ke, X), 0, 0) _
                    have r24 : Je 82 24 = ym_fo (I 88 0) (I 88 1) (I 88 2) := by rw [fJe 82 (24) (by omega), fJb 82 (24) (by omega), ← w9, yi_u_ne _ _ (by omega), fJa 82 (24) (by omega), ← w6, yi_u_ne _ _ (by omega), ← w3, yi_u_eq]
                    have r25 : Je 82 25 = ((ym_fo (I 88 0) (I 88 1) (I 88 2)) + 63) / 64 := by rw [fJe 82 (25) (by omega), fJb 82 (25) (by omega), ← w9, yi_u_ne _ _ (by omega), fJa 82 (25) (by omega), ← w6, yi_u_eq]
                    refine yi_G_callv rfl rfl (ym_rcv hS) rfl (c_laysFormula d (by omega) hS (ym_LR_t (fun k => by rw [fJe 88 k (by omega), fJb 88 k (by omega), ← w9, yi_u_ne _ _ (fun z => absurd z.1 (by decide)), fJa 88 k (by omega), ← w6, yi_u_ne _ _ (fun z => absurd z.1 (by decide)), ← w3, yi_u_ne _ _ (fun z => absurd z.1 (by decide))]) hLR) (ym_PW_t (fun k => by rw [fJe 88 k (by omega), fJb 88 k (by omega), ← w9, yi_u_ne _ _ (fun z => absurd z.1 (by decide))]) (fun k => by rw [fJe 98 k (by omega), fJb 98 k (by omega), ← w9, yi_u_ne _ _ (fun z => absurd z.1 (by decide))]) hPWa) (ym_PG_t (fun k => by rw [fJe 89 k (by omega), fJb 89 k (by omega), ← w9, yi_u_ne _ _ (fun z => absurd z.1 (by decide)), fJa 89 k (by omega), ← w6, yi_u_ne _ _ (fun z => absurd z.1 (by decide)), ← w3, yi_u_ne _ _ (fun z => absurd z.1 (by decide))]) (fun k => by rw [fJe 90 k (by omega), fJb 90 k (by omega), ← w9, yi_u_ne _ _ (fun z => absurd z.1 (by decide)), fJa 90 k (by omega), ← w6, yi_u_ne _ _ (fun z => absurd z.1 (by decide)), ← w3, yi_u_ne _ _ (fun z => absurd z.1 (by decide))]) he2) (by omega) (by omega) ⟨(by rw [r24]; omega), (by rw [r24]; omega)⟩ ⟨(by rw [r25]; omega), (by rw [r25]; omega)⟩) ?_
                    rintro _ ⟨I20, L22, rfl, f21, f23⟩
                    show yi_G zi_Ms d zi_m32 (286, [(4, .inl (I 88 ((25 + (3 * w)).toNat))), (3, .inl w), (1, .inl n), (0, .inr (.inr (some 82)))], [], (I20, L22, X), 0, 0) _
                    refine yi_G_iinc [(3, .inl (w + 1)), (4, .inl (I 88 ((25 + (3 * w)).toNat))), (1, .inl n), (0, .inr (.inr (some 82)))] rfl rfl rfl (by rw [show yi_w (w + 1) = w + 1 from (yi_wn (by omega) (by omega)).trans (by omega)]; rfl) ?_
                    refine yi_G_run 1 (236, [(3, .inl (w + 1)), (4, .inl (I 88 ((25 + (3 * w)).toNat))), (1, .inl n), (0, .inr (.inr (some 82)))], [], (I20, L22, X), 0, 0) (fun _ => rfl) ?_
                    refine yi_G_al (al := [(3, .inl (w + 1)), (1, .inl n), (0, .inr (.inr (some 82)))]) (show ([3, 1, 0] : List Nat).Nodup by decide) (show ([3, 4, 1, 0] : List Nat).Nodup by decide) (yi_mc (List.mem_of_getElem? (i := 0) rfl) (yi_mc (List.mem_of_getElem? (i := 2) rfl) (yi_mc (List.mem_of_getElem? (i := 3) rfl) yi_mn))) ?_
                    exact ih236 _ (by omega) (w + 1) n I20 L22 (fun p k hp => by rw [f21 p k (by omega), fJe p k (by omega)]) (fun p k hp => by rw [f23 p k (by omega), fKe p k (by omega)]) (by omega) (by omega) rfl
                exact pt236 _ 0 n Jb Kb (fun _ _ _ => rfl) (fun _ _ _ => rfl) (by omega) (by omega) rfl
              · refine yi_G_if2 false rfl (yi_ge_f h15) ?_
                refine yi_G_run 2 (126, [(3, .inl f), (1, .inl n), (0, .inr (.inr (some 82)))], [.inl f, .inr (.inr (some 82))], (Jb, Kb, X), 0, 0) (fun _ => rfl) ?_
                refine yi_G_callv rfl rfl (ym_rcv hS) rfl (c_laysFuture d (by omega) hS (ym_LR_t (fun k => by rw [fJb 88 k (by omega), ← w9, yi_u_ne _ _ (fun z => absurd z.1 (by decide)), fJa 88 k (by omega), ← w6, yi_u_ne _ _ (fun z => absurd z.1 (by decide)), ← w3, yi_u_ne _ _ (fun z => absurd z.1 (by decide))]) hLR) (ym_PW_t (fun k => by rw [fJb 88 k (by omega), ← w9, yi_u_ne _ _ (fun z => absurd z.1 (by decide))]) (fun k => by rw [fJb 98 k (by omega), ← w9, yi_u_ne _ _ (fun z => absurd z.1 (by decide))]) hPWa) (by omega) (by omega)) ?_
                rintro _ ⟨I26, rfl, f27, h28⟩
                show yi_G zi_Ms d zi_m32 (129, [(3, .inl f), (1, .inl n), (0, .inr (.inr (some 82)))], [], (I26, Kb, X), 0, 0) _
                refine yi_G_run 2 (132, [(4, .inl 0), (3, .inl f), (1, .inl n), (0, .inr (.inr (some 82)))], [], (I26, Kb, X), 0, 0) (fun _ => rfl) ?_
                have pt132 : ∀ (m : Nat) (k : Int) (Kc : Nat → Nat → Int), (∀ p k, p ≠ 97 → Kc p k = Kb p k) → (0 ≤ k) → (k ≤ n) → (n - k).toNat = m → yi_G zi_Ms d zi_m32 (132, [(4, .inl k), (3, .inl f), (1, .inl n), (0, .inr (.inr (some 82)))], [], (I26, Kc, X), 0, 0) (fun r => ∃ I' L', r = (none, (I', L', X), 0, 0) ∧ (∀ p k, p ≠ 98 ∧ p ≠ 99 ∧ p ≠ 96 ∧ ¬ (p = 82 ∧ k = 20) ∧ ¬ (p = 82 ∧ k = 24) ∧ ¬ (p = 82 ∧ k = 25) ∧ ¬ (p = 82 ∧ k = 28) → I' p k = I p k) ∧ (∀ p k, p ≠ 97 → L' p k = L p k) ∧ I' 82 24 = ym_fo (I 88 0) (I 88 1) (I 88 2) ∧ I' 82 25 = (ym_fo (I 88 0) (I 88 1) (I 88 2) + 63) / 64 ∧ I' 82 20 = 0 ∧ ym_PW I') := by
                  intro m132
                  induction m132 using Nat.strongRecOn with
                  | _ m132 ih132 =>
                  intro k Kc fKc kk0 kk1 hm132
                  refine yi_G_run 2 (135, [(4, .inl k), (3, .inl f), (1, .inl n), (0, .inr (.inr (some 82)))], [.inl n, .inl k], (I26, Kc, X), 0, 0) (fun _ => rfl) ?_
                  by_cases h29 : n ≤ k
                  · refine yi_G_if2 true rfl (yi_ge_t h29) ?_
                    refine yi_G_run 4 (170, [(5, .inl 0), (4, .inl 1), (3, .inl f), (1, .inl n), (0, .inr (.inr (some 82)))], [], (I26, Kc, X), 0, 0) (fun _ => rfl) ?_
                    have pt170 : ∀ (m : Nat) (j : Int) (b : Int) (Jd : Nat → Nat → Int), (∀ p k, p ≠ 96 → Jd p k = I26 p k) → (0 ≤ j) → (j ≤ I 88 4) → (I 88 4 - j).toNat = m → yi_G zi_Ms d zi_m32 (170, [(5, .inl j), (4, .inl b), (3, .inl f), (1, .inl n), (0, .inr (.inr (some 82)))], [], (Jd, Kc, X), 0, 0) (fun r => ∃ I' L', r = (none, (I', L', X), 0, 0) ∧ (∀ p k, p ≠ 98 ∧ p ≠ 99 ∧ p ≠ 96 ∧ ¬ (p = 82 ∧ k = 20) ∧ ¬ (p = 82 ∧ k = 24) ∧ ¬ (p = 82 ∧ k = 25) ∧ ¬ (p = 82 ∧ k = 28) → I' p k = I p k) ∧ (∀ p k, p ≠ 97 → L' p k = L p k) ∧ I' 82 24 = ym_fo (I 88 0) (I 88 1) (I 88 2) ∧ I' 82 25 = (ym_fo (I 88 0) (I 88 1) (I 88 2) + 63) / 64 ∧ I' 82 20 = 0 ∧ ym_PW I') := by
                      intro m170
                      induction m170 using Nat.strongRecOn with
                      | _ m170 ih170 =>
                      intro j b Jd fJd j0 j1 hm170
                      refine yi_G_run 2 (173, [(5, .inl j), (4, .inl b), (3, .inl f), (1, .inl n), (0, .inr (.inr (some 82)))], [.inr (.inr (some 82)), .inl j], (Jd, Kc, X), 0, 0) (fun _ => rfl) ?_
                      refine yi_G_get (176, [(5, .inl j), (4, .inl b), (3, .inl f), (1, .inl n), (0, .inr (.inr (some 82)))], [.inr (.inr (some 88)), .inl j], (Jd, Kc, X), 0, 0) rfl (ym_gr hS 5 rfl rfl rfl) ?_
                      refine yi_G_run 1 (177, [(5, .inl j), (4, .inl b), (3, .inl f), (1, .inl n), (0, .inr (.inr (some 82)))], [.inl 4, .inr (.inr (some 88)), .inl j], (Jd, Kc, X), 0, 0) (fun _ => rfl) ?_
                      have r30 : Jd 88 4 = I 88 4 := by rw [fJd 88 (4) (by omega), f27 88 (4) (by omega), fJb 88 (4) (by omega), ← w9, yi_u_ne _ _ (by omega), fJa 88 (4) (by omega), ← w6, yi_u_ne _ _ (by omega), ← w3, yi_u_ne _ _ (by omega)]
                      refine yi_G_iald (178, [(5, .inl j), (4, .inl b), (3, .inl f), (1, .inl n), (0, .inr (.inr (some 82)))], [.inl (I 88 4), .inl j], (Jd, Kc, X), 0, 0) rfl (ym_li hS 5 rfl (by omega) (by omega) r30) ?_
                      by_cases h31 : (I 88 4) ≤ j
                      · refine yi_G_if2 true rfl (yi_ge_t h31) ?_
                        refine yi_G_run 1 (218, [(5, .inl j), (4, .inl b), (3, .inl f), (1, .inl n), (0, .inr (.inr (some 82)))], [.inl b], (Jd, Kc, X), 0, 0) (fun _ => rfl) ?_
                        by_cases h32 : b = 0
                        · refine yi_G_if1 true rfl (yi_eq_t h32) ?_
                          refine yi_G_iinc [(3, .inl (f + 1)), (5, .inl j), (4, .inl b), (1, .inl n), (0, .inr (.inr (some 82)))] rfl rfl rfl (by rw [show yi_w (f + 1) = f + 1 from (yi_wn (by omega) (by omega)).trans (by omega)]; rfl) ?_
                          refine yi_G_run 1 (116, [(3, .inl (f + 1)), (5, .inl j), (4, .inl b), (1, .inl n), (0, .inr (.inr (some 82)))], [], (Jd, Kc, X), 0, 0) (fun _ => rfl) ?_
                          refine yi_G_al (al := [(3, .inl (f + 1)), (1, .inl n), (0, .inr (.inr (some 82)))]) (show ([3, 1, 0] : List Nat).Nodup by decide) (show ([3, 5, 4, 1, 0] : List Nat).Nodup by decide) (yi_mc (List.mem_of_getElem? (i := 0) rfl) (yi_mc (List.mem_of_getElem? (i := 3) rfl) (yi_mc (List.mem_of_getElem? (i := 4) rfl) yi_mn))) ?_
                          exact ih116 _ (by omega) (f + 1) n Jd Kc (fun p k hp => by rw [fJd p k (by omega), f27 p k (by omega), fJb p k (by omega)]) (fun p k hp => by rw [fKc p k (by omega), fKb p k (by omega)]) (by omega) (by omega) (by omega) rfl
                        · refine yi_G_if1 false rfl (yi_eq_f h32) ?_
                          refine yi_G_run 3 (225, [(5, .inl j), (4, .inl b), (3, .inl f), (1, .inl n), (0, .inr (.inr (some 82)))], [.inl f, .inl 32, .inr (.inr (some 82))], (Jd, Kc, X), 0, 0) (fun _ => rfl) ?_
                          refine yi_G_callv rfl rfl (ym_rcv hS) rfl (w_sets (by omega) hS (by omega) (by omega) (by omega) (by omega) ) ?_
                          rintro _ ⟨L33, rfl, f34⟩
                          show yi_G zi_Ms d zi_m32 (228, [(5, .inl j), (4, .inl b), (3, .inl f), (1, .inl n), (0, .inr (.inr (some 82)))], [], (Jd, L33, X), 0, 0) _
                          refine yi_G_iinc [(3, .inl (f + 1)), (5, .inl j), (4, .inl b), (1, .inl n), (0, .inr (.inr (some 82)))] rfl rfl rfl (by rw [show yi_w (f + 1) = f + 1 from (yi_wn (by omega) (by omega)).trans (by omega)]; rfl) ?_
                          refine yi_G_run 1 (116, [(3, .inl (f + 1)), (5, .inl j), (4, .inl b), (1, .inl n), (0, .inr (.inr (some 82)))], [], (Jd, L33, X), 0, 0) (fun _ => rfl) ?_
                          refine yi_G_al (al := [(3, .inl (f + 1)), (1, .inl n), (0, .inr (.inr (some 82)))]) (show ([3, 1, 0] : List Nat).Nodup by decide) (show ([3, 5, 4, 1, 0] : List Nat).Nodup by decide) (yi_mc (List.mem_of_getElem? (i := 0) rfl) (yi_mc (List.mem_of_getElem? (i := 3) rfl) (yi_mc (List.mem_of_getElem? (i := 4) rfl) yi_mn))) ?_
                          exact ih116 _ (by omega) (f + 1) n Jd L33 (fun p k hp => by rw [fJd p k (by omega), f27 p k (by omega), fJb p k (by omega)]) (fun p k hp => by rw [f34 p k (by omega), fKc p k (by omega), fKb p k (by omega)]) (by omega) (by omega) (by omega) rfl
                      · refine yi_G_if2 false rfl (yi_ge_f h31) ?_
                        refine yi_G_run 1 (183, [(5, .inl j), (4, .inl b), (3, .inl f), (1, .inl n), (0, .inr (.inr (some 82)))], [.inl b], (Jd, Kc, X), 0, 0) (fun _ => rfl) ?_
                        by_cases h35 : b = 0
                        · refine yi_G_if1 true rfl (yi_eq_t h35) ?_
                          refine yi_G_run 1 (218, [(5, .inl j), (4, .inl b), (3, .inl f), (1, .inl n), (0, .inr (.inr (some 82)))], [.inl b], (Jd, Kc, X), 0, 0) (fun _ => rfl) ?_
                          by_cases h36 : b = 0
                          · refine yi_G_if1 true rfl (yi_eq_t h36) ?_
                            refine yi_G_iinc [(3, .inl (f + 1)), (5, .inl j), (4, .inl b), (1, .inl n), (0, .inr (.inr (some 82)))] rfl rfl rfl (by rw [show yi_w (f + 1) = f + 1 from (yi_wn (by omega) (by omega)).trans (by omega)]; rfl) ?_
                            refine yi_G_run 1 (116, [(3, .inl (f + 1)), (5, .inl j), (4, .inl b), (1, .inl n), (0, .inr (.inr (some 82)))], [], (Jd, Kc, X), 0, 0) (fun _ => rfl) ?_
                            refine yi_G_al (al := [(3, .inl (f + 1)), (1, .inl n), (0, .inr (.inr (some 82)))]) (show ([3, 1, 0] : List Nat).Nodup by decide) (show ([3, 5, 4, 1, 0] : List Nat).Nodup by decide) (yi_mc (List.mem_of_getElem? (i := 0) rfl) (yi_mc (List.mem_of_getElem? (i := 3) rfl) (yi_mc (List.mem_of_getElem? (i := 4) rfl) yi_mn))) ?_
                            exact ih116 _ (by omega) (f + 1) n Jd Kc (fun p k hp => by rw [fJd p k (by omega), f27 p k (by omega), fJb p k (by omega)]) (fun p k hp => by rw [fKc p k (by omega), fKb p k (by omega)]) (by omega) (by omega) (by omega) rfl
                          · refine yi_G_if1 false rfl (yi_eq_f h36) ?_
                            refine yi_G_run 3 (225, [(5, .inl j), (4, .inl b), (3, .inl f), (1, .inl n), (0, .inr (.inr (some 82)))], [.inl f, .inl 32, .inr (.inr (some 82))], (Jd, Kc, X), 0, 0) (fun _ => rfl) ?_
                            refine yi_G_callv rfl rfl (ym_rcv hS) rfl (w_sets (by omega) hS (by omega) (by omega) (by omega) (by omega) ) ?_
                            rintro _ ⟨L37, rfl, f38⟩
                            show yi_G zi_Ms d zi_m32 (228, [(5, .inl j), (4, .inl b), (3, .inl f), (1, .inl n), (0, .inr (.inr (some 82)))], [], (Jd, L37, X), 0, 0) _
                            refine yi_G_iinc [(3, .inl (f + 1)), (5, .inl j), (4, .inl b), (1, .inl n), (0, .inr (.inr (some 82)))] rfl rfl rfl (by rw [show yi_w (f + 1) = f + 1 from (yi_wn (by omega) (by omega)).trans (by omega)]; rfl) ?_
                            refine yi_G_run 1 (116, [(3, .inl (f + 1)), (5, .inl j), (4, .inl b), (1, .inl n), (0, .inr (.inr (some 82)))], [], (Jd, L37, X), 0, 0) (fun _ => rfl) ?_
                            refine yi_G_al (al := [(3, .inl (f + 1)), (1, .inl n), (0, .inr (.inr (some 82)))]) (show ([3, 1, 0] : List Nat).Nodup by decide) (show ([3, 5, 4, 1, 0] : List Nat).Nodup by decide) (yi_mc (List.mem_of_getElem? (i := 0) rfl) (yi_mc (List.mem_of_getElem? (i := 3) rfl) (yi_mc (List.mem_of_getElem? (i := 4) rfl) yi_mn))) ?_
                            exact ih116 _ (by omega) (f + 1) n Jd L37 (fun p k hp => by rw [fJd p k (by omega), f27 p k (by omega), fJb p k (by omega)]) (fun p k hp => by rw [f38 p k (by omega), fKc p k (by omega), fKb p k (by omega)]) (by omega) (by omega) (by omega) rfl
                        · refine yi_G_if1 false rfl (yi_eq_f h35) ?_
                          refine yi_G_run 2 (188, [(5, .inl j), (4, .inl b), (3, .inl f), (1, .inl n), (0, .inr (.inr (some 82)))], [.inr (.inr (some 82)), .inr (.inr (some 82))], (Jd, Kc, X), 0, 0) (fun _ => rfl) ?_
                          refine yi_G_get (191, [(5, .inl j), (4, .inl b), (3, .inl f), (1, .inl n), (0, .inr (.inr (some 82)))], [.inr (.inr (some 88)), .inr (.inr (some 82))], (Jd, Kc, X), 0, 0) rfl (ym_gr hS 5 rfl rfl rfl) ?_
                          refine yi_G_run 2 (195, [(5, .inl j), (4, .inl b), (3, .inl f), (1, .inl n), (0, .inr (.inr (some 82)))], [.inl j, .inl 21, .inr (.inr (some 88)), .inr (.inr (some 82))], (Jd, Kc, X), 0, 0) (fun _ => rfl) ?_
                          refine yi_G_iadd rfl (21 + j) (yi_wn (by omega) (by omega)) ?_
                          have r39 : Jd 88 ((21 + j).toNat) = I 88 ((21 + j).toNat) := by rw [fJd 88 ((21 + j).toNat) (by omega), f27 88 ((21 + j).toNat) (by omega), fJb 88 ((21 + j).toNat) (by omega), ← w9, yi_u_ne _ _ (by omega), fJa 88 ((21 + j).toNat) (by omega), ← w6, yi_u_ne _ _ (by omega), ← w3, yi_u_ne _ _ (by omega)]
                          refine yi_G_iald (197, [(5, .inl j), (4, .inl b), (3, .inl f), (1, .inl n), (0, .inr (.inr (some 82)))], [.inl (I 88 ((21 + j).toNat)), .inr (.inr (some 82))], (Jd, Kc, X), 0, 0) rfl (ym_li hS 5 rfl (by omega) (by omega) r39) ?_
                          obtain ⟨ee, he1⟩ := hPL.1 j j0 (by omega)
                          refine yi_G_callv rfl rfl (ym_rcv hS) rfl (c_worthAt d (by omega) hS (ym_LR_t (fun k => by rw [fJd 88 k (by omega), f27 88 k (by omega), fJb 88 k (by omega), ← w9, yi_u_ne _ _ (fun z => absurd z.1 (by decide)), fJa 88 k (by omega), ← w6, yi_u_ne _ _ (fun z => absurd z.1 (by decide)), ← w3, yi_u_ne _ _ (fun z => absurd z.1 (by decide))]) hLR) (ym_PG_t (fun k => by rw [fJd 89 k (by omega), f27 89 k (by omega), fJb 89 k (by omega), ← w9, yi_u_ne _ _ (fun z => absurd z.1 (by decide)), fJa 89 k (by omega), ← w6, yi_u_ne _ _ (fun z => absurd z.1 (by decide)), ← w3, yi_u_ne _ _ (fun z => absurd z.1 (by decide))]) (fun k => by rw [fJd 90 k (by omega), f27 90 k (by omega), fJb 90 k (by omega), ← w9, yi_u_ne _ _ (fun z => absurd z.1 (by decide)), fJa 90 k (by omega), ← w6, yi_u_ne _ _ (fun z => absurd z.1 (by decide)), ← w3, yi_u_ne _ _ (fun z => absurd z.1 (by decide))]) he1)) ?_
                          rintro _ ⟨z40, I41, rfl, f42⟩
                          show yi_G zi_Ms d zi_m32 (200, [(5, .inl j), (4, .inl b), (3, .inl f), (1, .inl n), (0, .inr (.inr (some 82)))], [.inl z40], (I41, Kc, X), 0, 0) _
                          by_cases h43 : z40 = 0
                          · refine yi_G_if1 true rfl (yi_eq_t h43) ?_
                            refine yi_G_run 2 (210, [(4, .inl 0), (5, .inl j), (3, .inl f), (1, .inl n), (0, .inr (.inr (some 82)))], [], (I41, Kc, X), 0, 0) (fun _ => rfl) ?_
                            refine yi_G_iinc [(5, .inl (j + 1)), (4, .inl 0), (3, .inl f), (1, .inl n), (0, .inr (.inr (some 82)))] rfl rfl rfl (by rw [show yi_w (j + 1) = j + 1 from (yi_wn (by omega) (by omega)).trans (by omega)]; rfl) ?_
                            refine yi_G_run 1 (170, [(5, .inl (j + 1)), (4, .inl 0), (3, .inl f), (1, .inl n), (0, .inr (.inr (some 82)))], [], (I41, Kc, X), 0, 0) (fun _ => rfl) ?_
                            exact ih170 _ (by omega) (j + 1) 0 I41 (fun p k hp => by rw [f42 p k (by omega), fJd p k (by omega)]) (by omega) (by omega) rfl
                          · refine yi_G_if1 false rfl (yi_eq_f h43) ?_
                            refine yi_G_run 3 (210, [(4, .inl 1), (5, .inl j), (3, .inl f), (1, .inl n), (0, .inr (.inr (some 82)))], [], (I41, Kc, X), 0, 0) (fun _ => rfl) ?_
                            refine yi_G_iinc [(5, .inl (j + 1)), (4, .inl 1), (3, .inl f), (1, .inl n), (0, .inr (.inr (some 82)))] rfl rfl rfl (by rw [show yi_w (j + 1) = j + 1 from (yi_wn (by omega) (by omega)).trans (by omega)]; rfl) ?_
                            refine yi_G_run 1 (170, [(5, .inl (j + 1)), (4, .inl 1), (3, .inl f), (1, .inl n), (0, .inr (.inr (some 82)))], [], (I41, Kc, X), 0, 0) (fun _ => rfl) ?_
                            exact ih170 _ (by omega) (j + 1) 1 I41 (fun p k hp => by rw [f42 p k (by omega), fJd p k (by omega)]) (by omega) (by omega) rfl
                    exact pt170 _ 0 1 I26 (fun _ _ _ => rfl) (by omega) (by omega) rfl
                  · refine yi_G_if2 false rfl (yi_ge_f h29) ?_
                    refine yi_G_run 2 (140, [(4, .inl k), (3, .inl f), (1, .inl n), (0, .inr (.inr (some 82)))], [.inr (.inr (some 82)), .inr (.inr (some 82))], (I26, Kc, X), 0, 0) (fun _ => rfl) ?_
                    have r44 : I26 88 2 = I 88 2 := by rw [f27 88 (2) (by omega), fJb 88 (2) (by omega), ← w9, yi_u_ne _ _ (by omega), fJa 88 (2) (by omega), ← w6, yi_u_ne _ _ (by omega), ← w3, yi_u_ne _ _ (by omega)]
                    refine yi_G_callv rfl rfl (ym_rcv hS) rfl (c_events d (by omega) hS r44) ?_
                    rintro _ rfl
                    show yi_G zi_Ms d zi_m32 (143, [(4, .inl k), (3, .inl f), (1, .inl n), (0, .inr (.inr (some 82)))], [.inl (I 88 2), .inr (.inr (some 82))], (I26, Kc, X), 0, 0) _
                    refine yi_G_run 1 (145, [(4, .inl k), (3, .inl f), (1, .inl n), (0, .inr (.inr (some 82)))], [.inl k, .inl (I 88 2), .inr (.inr (some 82))], (I26, Kc, X), 0, 0) (fun _ => rfl) ?_
                    have mk := yi_mb (a := I 88 2) (b := k) (A := 4) (B := 23) (by omega) (by omega) (by omega) (by omega)
                    refine yi_G_imul rfl ((I 88 2) * k) (yi_wn (by omega) (by omega)) ?_
                    refine yi_G_run 1 (147, [(4, .inl k), (3, .inl f), (1, .inl n), (0, .inr (.inr (some 82)))], [.inr (.inr (some 82)), .inl ((I 88 2) * k), .inr (.inr (some 82))], (I26, Kc, X), 0, 0) (fun _ => rfl) ?_
                    refine yi_G_get (150, [(4, .inl k), (3, .inl f), (1, .inl n), (0, .inr (.inr (some 82)))], [.inr (.inr (some 99)), .inl ((I 88 2) * k), .inr (.inr (some 82))], (I26, Kc, X), 0, 0) rfl (ym_gr hS 16 rfl rfl rfl) ?_
                    refine yi_G_run 1 (152, [(4, .inl k), (3, .inl f), (1, .inl n), (0, .inr (.inr (some 82)))], [.inl k, .inr (.inr (some 99)), .inl ((I 88 2) * k), .inr (.inr (some 82))], (I26, Kc, X), 0, 0) (fun _ => rfl) ?_
                    refine yi_G_iald (153, [(4, .inl k), (3, .inl f), (1, .inl n), (0, .inr (.inr (some 82)))], [.inl (I26 99 (k.toNat)), .inl ((I 88 2) * k), .inr (.inr (some 82))], (I26, Kc, X), 0, 0) rfl (ym_li hS 16 rfl (by omega) (by omega) rfl) ?_
                    have e88b : ∀ k, Jb 88 k = I 88 k := (fun k => by rw [fJb 88 k (by omega), ← w9, yi_u_ne _ _ (fun z => absurd z.1 (by decide)), fJa 88 k (by omega), ← w6, yi_u_ne _ _ (fun z => absurd z.1 (by decide)), ← w3, yi_u_ne _ _ (fun z => absurd z.1 (by decide))])
                    have hk9 := h28 k (by omega) (by rw [e88b, e88b]; omega) (by rw [e88b]; omega)
                    rw [e88b] at hk9
                    refine yi_G_iadd rfl (((I 88 2) * k) + (I26 99 (k.toNat))) (yi_wn (by omega) (by omega)) ?_
                    refine yi_G_run 1 (155, [(4, .inl k), (3, .inl f), (1, .inl n), (0, .inr (.inr (some 82)))], [.inl f, .inl (((I 88 2) * k) + (I26 99 (k.toNat))), .inr (.inr (some 82))], (I26, Kc, X), 0, 0) (fun _ => rfl) ?_
                    refine yi_G_callv rfl rfl (ym_rcv hS) rfl (w_sets (by omega) hS (by omega) (by omega) (by omega) (by omega) ) ?_
                    rintro _ ⟨L45, rfl, f46⟩
                    show yi_G zi_Ms d zi_m32 (158, [(4, .inl k), (3, .inl f), (1, .inl n), (0, .inr (.inr (some 82)))], [], (I26, L45, X), 0, 0) _
                    refine yi_G_iinc [(4, .inl (k + 1)), (3, .inl f), (1, .inl n), (0, .inr (.inr (some 82)))] rfl rfl rfl (by rw [show yi_w (k + 1) = k + 1 from (yi_wn (by omega) (by omega)).trans (by omega)]; rfl) ?_
                    refine yi_G_run 1 (132, [(4, .inl (k + 1)), (3, .inl f), (1, .inl n), (0, .inr (.inr (some 82)))], [], (I26, L45, X), 0, 0) (fun _ => rfl) ?_
                    exact ih132 _ (by omega) (k + 1) L45 (fun p k hp => by rw [f46 p k (by omega), fKc p k (by omega)]) (by omega) (by omega) rfl
                exact pt132 _ 0 Kb (fun _ _ _ => rfl) (by omega) (by omega) rfl
            refine yi_G_al (al := [(3, .inl 0), (1, .inl n), (0, .inr (.inr (some 82)))]) (show ([3, 1, 0] : List Nat).Nodup by decide) (show ([3, 2, 1, 0] : List Nat).Nodup by decide) (yi_mc (List.mem_of_getElem? (i := 0) rfl) (yi_mc (List.mem_of_getElem? (i := 2) rfl) (yi_mc (List.mem_of_getElem? (i := 3) rfl) yi_mn))) ?_
            exact pt116 _ 0 n I8 L12 (fun _ _ _ => rfl) (fun _ _ _ => rfl) (by omega) (by omega) (by omega) rfl
          · refine yi_G_if2 false rfl (yi_ge_f h10) ?_
            refine yi_G_run 2 (99, [(3, .inl k), (2, .inl y), (1, .inl n), (0, .inr (.inr (some 82)))], [.inl k, .inr (.inr (some 82))], (I8, Ka, X), 0, 0) (fun _ => rfl) ?_
            have r47 : I8 82 25 = ((ym_fo (I 88 0) (I 88 1) (I 88 2)) + 63) / 64 := by rw [← w9, yi_u_ne _ _ (by omega), fJa 82 (25) (by omega), ← w6, yi_u_eq]
            refine yi_G_callv rfl rfl (ym_rcv hS) rfl (w_clears (by omega) hS (by omega) (by omega) (by rw [r47]; omega) (by rw [r47]; omega)) ?_
            rintro _ ⟨L48, rfl, f49⟩
            show yi_G zi_Ms d zi_m32 (102, [(3, .inl k), (2, .inl y), (1, .inl n), (0, .inr (.inr (some 82)))], [], (I8, L48, X), 0, 0) _
            refine yi_G_iinc [(3, .inl (k + 1)), (2, .inl y), (1, .inl n), (0, .inr (.inr (some 82)))] rfl rfl rfl (by rw [show yi_w (k + 1) = k + 1 from (yi_wn (by omega) (by omega)).trans (by omega)]; rfl) ?_
            refine yi_G_run 1 (91, [(3, .inl (k + 1)), (2, .inl y), (1, .inl n), (0, .inr (.inr (some 82)))], [], (I8, L48, X), 0, 0) (fun _ => rfl) ?_
            exact ih91 _ (by omega) (k + 1) n y L48 (fun p k hp => by rw [f49 p k (by omega), fKa p k (by omega)]) (by omega) (by omega) (by omega) rfl
        exact pt91 _ 0 n y L (fun _ _ _ => rfl) (by omega) (by omega) (by omega) rfl
      · refine yi_G_if1 false rfl (yi_lt_f h7) ?_
        refine yi_G_run 1 (65, [(3, .inl k), (2, .inl y), (1, .inl n), (0, .inr (.inr (some 82)))], [.inr (.inr (some 82))], (Ja, L, X), 0, 0) (fun _ => rfl) ?_
        refine yi_G_get (68, [(3, .inl k), (2, .inl y), (1, .inl n), (0, .inr (.inr (some 82)))], [.inr (.inr (some 98))], (Ja, L, X), 0, 0) rfl (ym_gr hS 15 rfl rfl rfl) ?_
        refine yi_G_run 2 (70, [(3, .inl k), (2, .inl y), (1, .inl n), (0, .inr (.inr (some 82)))], [.inl y, .inl k, .inr (.inr (some 98))], (Ja, L, X), 0, 0) (fun _ => rfl) ?_
        have yb0 := ym_fn_b (e := I 88 2) (by omega) (by omega) (n - 1 - k).toNat
        have yb : ym_fn (I 88 2) (n - 1 - k).toNat ≤ 32768 := ym_fn_u (I 88 0 * I 88 1).toNat _ (by omega) (ym_fo_u (by omega) hFo)
        refine yi_G_iast (71, [(3, .inl k), (2, .inl y), (1, .inl n), (0, .inr (.inr (some 82)))], [], ((yi_u Ja 98 (k.toNat) y), L, X), 0, 0) rfl (ym_si hS 15 rfl (by omega) (by omega)) ?_
        generalize w51 : yi_u Ja 98 (k.toNat) y = I50
        refine yi_G_run 2 (73, [(3, .inl k), (2, .inl y), (1, .inl n), (0, .inr (.inr (some 82)))], [.inr (.inr (some 82)), .inl y], (I50, L, X), 0, 0) (fun _ => rfl) ?_
        have r52 : I50 88 2 = I 88 2 := by rw [← w51, yi_u_ne _ _ (by omega), fJa 88 (2) (by omega), ← w6, yi_u_ne _ _ (by omega), ← w3, yi_u_ne _ _ (by omega)]
        refine yi_G_callv rfl rfl (ym_rcv hS) rfl (c_events d (by omega) hS r52) ?_
        rintro _ rfl
        show yi_G zi_Ms d zi_m32 (76, [(3, .inl k), (2, .inl y), (1, .inl n), (0, .inr (.inr (some 82)))], [.inl (I 88 2), .inl y], (I50, L, X), 0, 0) _
        have mb := yi_mb (a := y) (b := I 88 2) (A := 32768) (B := 4) (by omega) (by omega) (by omega) (by omega)
        refine yi_G_imul rfl (y * (I 88 2)) (yi_wn (by omega) (by omega)) ?_
        refine yi_G_run 1 (78, [(2, .inl (y * (I 88 2))), (3, .inl k), (1, .inl n), (0, .inr (.inr (some 82)))], [], (I50, L, X), 0, 0) (fun _ => rfl) ?_
        refine yi_G_iinc [(3, .inl (k - 1)), (2, .inl (y * (I 88 2))), (1, .inl n), (0, .inr (.inr (some 82)))] rfl rfl rfl (by rw [show yi_w (k + (-1)) = k - 1 from (yi_wn (by omega) (by omega)).trans (by omega)]; rfl) ?_
        refine yi_G_run 1 (60, [(3, .inl (k - 1)), (2, .inl (y * (I 88 2))), (1, .inl n), (0, .inr (.inr (some 82)))], [], (I50, L, X), 0, 0) (fun _ => rfl) ?_
        exact ih60 _ (by omega) (k - 1) (y * (I 88 2)) n I50 (fun p k hp => by rw [← w51, yi_u_ne _ _ (fun z => by omega), fJa p k (by omega)]) (by omega) (by omega) (by omega) (by rw [show (n - 1 - (k - 1)).toNat = (n - 1 - k).toNat + 1 by omega, ym_fn_s (by omega) (by omega) yb, ← hy]) (fun j a b => by
          rw [← w51]
          by_cases e : j = k
          · subst e; rw [yi_u_eq]; omega
          · rw [yi_u_ne _ _ (fun z => e (by omega))]; exact pw j (by omega) b) rfl
    exact pt60 _ (-1) 1 0 I5 (fun _ _ _ => rfl) (by omega) (by omega) (by omega) (by rw [show ((0 : Int) - 1 - ((-1))).toNat = 0 by omega]; rfl) (fun j a b => absurd b (by omega)) rfl
  · refine yi_G_if1 true rfl (yi_ne_t h1) ?_
    refine yi_G_run 1 (12, [(0, .inr (.inr (some 82)))], [.inr (.inr (some 82))], (I, L, X), 0, 0) (fun _ => rfl) ?_
    refine yi_G_callv rfl rfl (ym_rcv hS) rfl (c_days d (by omega) hS rfl) ?_
    rintro _ rfl
    show yi_G zi_Ms d zi_m32 (15, [(0, .inr (.inr (some 82)))], [.inl (I 88 0)], (I, L, X), 0, 0) _
    refine yi_G_run 1 (16, [(0, .inr (.inr (some 82)))], [.inr (.inr (some 82)), .inl (I 88 0)], (I, L, X), 0, 0) (fun _ => rfl) ?_
    refine yi_G_callv rfl rfl (ym_rcv hS) rfl (c_people d (by omega) hS rfl) ?_
    rintro _ rfl
    show yi_G zi_Ms d zi_m32 (19, [(0, .inr (.inr (some 82)))], [.inl (I 88 1), .inl (I 88 0)], (I, L, X), 0, 0) _
    refine yi_G_imul rfl ((I 88 0) * (I 88 1)) (yi_wn (by omega) (by omega)) ?_
    refine yi_G_run 3 (23, [(1, .inl ((I 88 0) * (I 88 1))), (0, .inr (.inr (some 82)))], [.inr (.inr (some 82)), .inr (.inr (some 82))], (I, L, X), 0, 0) (fun _ => rfl) ?_
    refine yi_G_callv rfl rfl (ym_rcv hS) rfl (c_days d (by omega) hS rfl) ?_
    rintro _ rfl
    show yi_G zi_Ms d zi_m32 (26, [(1, .inl ((I 88 0) * (I 88 1))), (0, .inr (.inr (some 82)))], [.inl (I 88 0), .inr (.inr (some 82))], (I, L, X), 0, 0) _
    refine yi_G_run 1 (27, [(1, .inl ((I 88 0) * (I 88 1))), (0, .inr (.inr (some 82)))], [.inr (.inr (some 82)), .inl (I 88 0), .inr (.inr (some 82))], (I, L, X), 0, 0) (fun _ => rfl) ?_
    refine yi_G_callv rfl rfl (ym_rcv hS) rfl (c_people d (by omega) hS rfl) ?_
    rintro _ rfl
    show yi_G zi_Ms d zi_m32 (30, [(1, .inl ((I 88 0) * (I 88 1))), (0, .inr (.inr (some 82)))], [.inl (I 88 1), .inl (I 88 0), .inr (.inr (some 82))], (I, L, X), 0, 0) _
    refine yi_G_run 1 (31, [(1, .inl ((I 88 0) * (I 88 1))), (0, .inr (.inr (some 82)))], [.inr (.inr (some 82)), .inl (I 88 1), .inl (I 88 0), .inr (.inr (some 82))], (I, L, X), 0, 0) (fun _ => rfl) ?_
    refine yi_G_callv rfl rfl (ym_rcv hS) rfl (c_events d (by omega) hS rfl) ?_
    rintro _ rfl
    show yi_G zi_Ms d zi_m32 (34, [(1, .inl ((I 88 0) * (I 88 1))), (0, .inr (.inr (some 82)))], [.inl (I 88 2), .inl (I 88 1), .inl (I 88 0), .inr (.inr (some 82))], (I, L, X), 0, 0) _
    refine yi_G_calls rfl rfl (c_futuresOf d (by omega) hS (by omega) (by omega)) ?_
    rintro _ rfl
    show yi_G zi_Ms d zi_m32 (37, [(1, .inl ((I 88 0) * (I 88 1))), (0, .inr (.inr (some 82)))], [.inl (ym_fo (I 88 0) (I 88 1) (I 88 2)), .inr (.inr (some 82))], (I, L, X), 0, 0) _
    refine yi_G_put (40, [(1, .inl ((I 88 0) * (I 88 1))), (0, .inr (.inr (some 82)))], [], ((yi_u I 82 24 (ym_fo (I 88 0) (I 88 1) (I 88 2))), L, X), 0, 0) rfl (ym_pi hS rfl rfl) ?_
    generalize w54 : yi_u I 82 24 (ym_fo (I 88 0) (I 88 1) (I 88 2)) = I53
    refine yi_G_run 2 (42, [(1, .inl ((I 88 0) * (I 88 1))), (0, .inr (.inr (some 82)))], [.inr (.inr (some 82)), .inr (.inr (some 82))], (I53, L, X), 0, 0) (fun _ => rfl) ?_
    have r55 : I53 82 24 = ym_fo (I 88 0) (I 88 1) (I 88 2) := by rw [← w54, yi_u_eq]
    refine yi_G_get (45, [(1, .inl ((I 88 0) * (I 88 1))), (0, .inr (.inr (some 82)))], [.inl (ym_fo (I 88 0) (I 88 1) (I 88 2)), .inr (.inr (some 82))], (I53, L, X), 0, 0) rfl (ym_gi hS rfl rfl r55) ?_
    refine yi_G_run 1 (47, [(1, .inl ((I 88 0) * (I 88 1))), (0, .inr (.inr (some 82)))], [.inl 63, .inl (ym_fo (I 88 0) (I 88 1) (I 88 2)), .inr (.inr (some 82))], (I53, L, X), 0, 0) (fun _ => rfl) ?_
    refine yi_G_iadd rfl ((ym_fo (I 88 0) (I 88 1) (I 88 2)) + 63) (yi_wn (by omega) (by omega)) ?_
    refine yi_G_run 1 (50, [(1, .inl ((I 88 0) * (I 88 1))), (0, .inr (.inr (some 82)))], [.inl 64, .inl ((ym_fo (I 88 0) (I 88 1) (I 88 2)) + 63), .inr (.inr (some 82))], (I53, L, X), 0, 0) (fun _ => rfl) ?_
    refine yi_G_idiv rfl (by decide) (((ym_fo (I 88 0) (I 88 1) (I 88 2)) + 63) / 64) (yi_dv (by omega) rfl (by omega) (by omega)) ?_
    refine yi_G_put (54, [(1, .inl ((I 88 0) * (I 88 1))), (0, .inr (.inr (some 82)))], [], ((yi_u I53 82 25 (((ym_fo (I 88 0) (I 88 1) (I 88 2)) + 63) / 64)), L, X), 0, 0) rfl (ym_pi hS rfl rfl) ?_
    generalize w57 : yi_u I53 82 25 (((ym_fo (I 88 0) (I 88 1) (I 88 2)) + 63) / 64) = I56
    refine yi_G_run 4 (58, [(2, .inl 1), (1, .inl ((I 88 0) * (I 88 1))), (0, .inr (.inr (some 82)))], [.inl 1, .inl ((I 88 0) * (I 88 1))], (I56, L, X), 0, 0) (fun _ => rfl) ?_
    refine yi_G_isub rfl (((I 88 0) * (I 88 1)) - 1) (yi_wn (by omega) (by omega)) ?_
    refine yi_G_run 1 (60, [(3, .inl (((I 88 0) * (I 88 1)) - 1)), (2, .inl 1), (1, .inl ((I 88 0) * (I 88 1))), (0, .inr (.inr (some 82)))], [], (I56, L, X), 0, 0) (fun _ => rfl) ?_
    have pt60 : ∀ (m : Nat) (k : Int) (y : Int) (n : Int) (Ja : Nat → Nat → Int), (∀ p k, p ≠ 98 → Ja p k = I56 p k) → (-1 ≤ k) → (k < n) → ((I 88 2 = 0 ∧ n = 0) ∨ (¬ I 88 2 = 0 ∧ n = I 88 0 * I 88 1)) → (y = ym_fn (I 88 2) (n - 1 - k).toNat) → (∀ j : Int, k < j → j < n → 1 ≤ Ja 98 j.toNat) → (k + 1).toNat = m → yi_G zi_Ms d zi_m32 (60, [(3, .inl k), (2, .inl y), (1, .inl n), (0, .inr (.inr (some 82)))], [], (Ja, L, X), 0, 0) (fun r => ∃ I' L', r = (none, (I', L', X), 0, 0) ∧ (∀ p k, p ≠ 98 ∧ p ≠ 99 ∧ p ≠ 96 ∧ ¬ (p = 82 ∧ k = 20) ∧ ¬ (p = 82 ∧ k = 24) ∧ ¬ (p = 82 ∧ k = 25) ∧ ¬ (p = 82 ∧ k = 28) → I' p k = I p k) ∧ (∀ p k, p ≠ 97 → L' p k = L p k) ∧ I' 82 24 = ym_fo (I 88 0) (I 88 1) (I 88 2) ∧ I' 82 25 = (ym_fo (I 88 0) (I 88 1) (I 88 2) + 63) / 64 ∧ I' 82 20 = 0 ∧ ym_PW I') := by
      intro m60
      induction m60 using Nat.strongRecOn with
      | _ m60 ih60 =>
      intro k y n Ja fJa k0 k1 hn hy pw hm60
      refine yi_G_run 1 (61, [(3, .inl k), (2, .inl y), (1, .inl n), (0, .inr (.inr (some 82)))], [.inl k], (Ja, L, X), 0, 0) (fun _ => rfl) ?_
      by_cases h58 : k < 0
      · refine yi_G_if1 true rfl (yi_lt_t h58) ?_
        refine yi_G_run 2 (86, [(3, .inl k), (2, .inl y), (1, .inl n), (0, .inr (.inr (some 82)))], [.inl 0, .inr (.inr (some 82))], (Ja, L, X), 0, 0) (fun _ => rfl) ?_
        have e88 : ∀ k, Ja 88 k = I 88 k := (fun k => by rw [fJa 88 k (by omega), ← w57, yi_u_ne _ _ (fun z => absurd z.1 (by decide)), ← w54, yi_u_ne _ _ (fun z => absurd z.1 (by decide))])
        have hPWa : ym_PW Ja := fun j a b c => by rw [e88, e88] at b; rw [e88] at c; exact pw j (by omega) (by omega)
        refine yi_G_put (89, [(3, .inl k), (2, .inl y), (1, .inl n), (0, .inr (.inr (some 82)))], [], ((yi_u Ja 82 20 0), L, X), 0, 0) rfl (ym_pi hS rfl rfl) ?_
        generalize w60 : yi_u Ja 82 20 0 = I59
        refine yi_G_run 2 (91, [(3, .inl 0), (2, .inl y), (1, .inl n), (0, .inr (.inr (some 82)))], [], (I59, L, X), 0, 0) (fun _ => rfl) ?_
        have pt91 : ∀ (m : Nat) (k : Int) (n : Int) (y : Int) (Ka : Nat → Nat → Int), (∀ p k, p ≠ 97 → Ka p k = L p k) → (0 ≤ k) → (k ≤ 32) → ((I 88 2 = 0 ∧ n = 0) ∨ (¬ I 88 2 = 0 ∧ n = I 88 0 * I 88 1)) → (32 - k).toNat = m → yi_G zi_Ms d zi_m32 (91, [(3, .inl k), (2, .inl y), (1, .inl n), (0, .inr (.inr (some 82)))], [], (I59, Ka, X), 0, 0) (fun r => ∃ I' L', r = (none, (I', L', X), 0, 0) ∧ (∀ p k, p ≠ 98 ∧ p ≠ 99 ∧ p ≠ 96 ∧ ¬ (p = 82 ∧ k = 20) ∧ ¬ (p = 82 ∧ k = 24) ∧ ¬ (p = 82 ∧ k = 25) ∧ ¬ (p = 82 ∧ k = 28) → I' p k = I p k) ∧ (∀ p k, p ≠ 97 → L' p k = L p k) ∧ I' 82 24 = ym_fo (I 88 0) (I 88 1) (I 88 2) ∧ I' 82 25 = (ym_fo (I 88 0) (I 88 1) (I 88 2) + 63) / 64 ∧ I' 82 20 = 0 ∧ ym_PW I') := by
          intro m91
          induction m91 using Nat.strongRecOn with
          | _ m91 ih91 =>
          intro k n y Ka fKa k0 k1 hn2 hm91
          refine yi_G_run 2 (94, [(3, .inl k), (2, .inl y), (1, .inl n), (0, .inr (.inr (some 82)))], [.inl 32, .inl k], (I59, Ka, X), 0, 0) (fun _ => rfl) ?_
          by_cases h61 : 32 ≤ k
          · refine yi_G_if2 true rfl (yi_ge_t h61) ?_
            refine yi_G_run 2 (111, [(3, .inl k), (2, .inl y), (1, .inl n), (0, .inr (.inr (some 82)))], [.inl 32, .inr (.inr (some 82))], (I59, Ka, X), 0, 0) (fun _ => rfl) ?_
            have r62 : I59 82 25 = ((ym_fo (I 88 0) (I 88 1) (I 88 2)) + 63) / 64 := by rw [← w60, yi_u_ne _ _ (by omega), fJa 82 (25) (by omega), ← w57, yi_u_eq]
            refine yi_G_callv rfl rfl (ym_rcv hS) rfl (w_clears (by omega) hS (by omega) (by omega) (by rw [r62]; omega) (by rw [r62]; omega)) ?_
            rintro _ ⟨L63, rfl, f64⟩
            show yi_G zi_Ms d zi_m32 (114, [(3, .inl k), (2, .inl y), (1, .inl n), (0, .inr (.inr (some 82)))], [], (I59, L63, X), 0, 0) _
            refine yi_G_run 2 (116, [(3, .inl 0), (2, .inl y), (1, .inl n), (0, .inr (.inr (some 82)))], [], (I59, L63, X), 0, 0) (fun _ => rfl) ?_
            have pt116 : ∀ (m : Nat) (f : Int) (n : Int) (Jb : Nat → Nat → Int) (Kb : Nat → Nat → Int), (∀ p k, p ≠ 99 ∧ p ≠ 96 → Jb p k = I59 p k) → (∀ p k, p ≠ 97 → Kb p k = L63 p k) → (0 ≤ f) → (f ≤ ym_fo (I 88 0) (I 88 1) (I 88 2)) → ((I 88 2 = 0 ∧ n = 0) ∨ (¬ I 88 2 = 0 ∧ n = I 88 0 * I 88 1)) → (ym_fo (I 88 0) (I 88 1) (I 88 2) - f).toNat = m → yi_G zi_Ms d zi_m32 (116, [(3, .inl f), (1, .inl n), (0, .inr (.inr (some 82)))], [], (Jb, Kb, X), 0, 0) (fun r => ∃ I' L', r = (none, (I', L', X), 0, 0) ∧ (∀ p k, p ≠ 98 ∧ p ≠ 99 ∧ p ≠ 96 ∧ ¬ (p = 82 ∧ k = 20) ∧ ¬ (p = 82 ∧ k = 24) ∧ ¬ (p = 82 ∧ k = 25) ∧ ¬ (p = 82 ∧ k = 28) → I' p k = I p k) ∧ (∀ p k, p ≠ 97 → L' p k = L p k) ∧ I' 82 24 = ym_fo (I 88 0) (I 88 1) (I 88 2) ∧ I' 82 25 = (ym_fo (I 88 0) (I 88 1) (I 88 2) + 63) / 64 ∧ I' 82 20 = 0 ∧ ym_PW I') := by
              intro m116
              induction m116 using Nat.strongRecOn with
              | _ m116 ih116 =>
              intro f n Jb Kb fJb fKb f0 f1 hn3 hm116
              refine yi_G_run 2 (118, [(3, .inl f), (1, .inl n), (0, .inr (.inr (some 82)))], [.inr (.inr (some 82)), .inl f], (Jb, Kb, X), 0, 0) (fun _ => rfl) ?_
              have r65 : Jb 82 24 = ym_fo (I 88 0) (I 88 1) (I 88 2) := by rw [fJb 82 (24) (by omega), ← w60, yi_u_ne _ _ (by omega), fJa 82 (24) (by omega), ← w57, yi_u_ne _ _ (by omega), ← w54, yi_u_eq]
              refine yi_G_get (121, [(3, .inl f), (1, .inl n), (0, .inr (.inr (some 82)))], [.inl (ym_fo (I 88 0) (I 88 1) (I 88 2)), .inl f], (Jb, Kb, X), 0, 0) rfl (ym_gi hS rfl rfl r65) ?_
              by_cases h66 : (ym_fo (I 88 0) (I 88 1) (I 88 2)) ≤ f
              · refine yi_G_if2 true rfl (yi_ge_t h66) ?_
                refine yi_G_run 2 (236, [(3, .inl 0), (1, .inl n), (0, .inr (.inr (some 82)))], [], (Jb, Kb, X), 0, 0) (fun _ => rfl) ?_
                have pt236 : ∀ (m : Nat) (w : Int) (n : Int) (Je : Nat → Nat → Int) (Ke : Nat → Nat → Int), (∀ p k, p ≠ 96 ∧ p ≠ 99 ∧ ¬ (p = 82 ∧ k = 28) → Je p k = Jb p k) → (∀ p k, p ≠ 97 → Ke p k = Kb p k) → (0 ≤ w) → (w ≤ I 88 5) → (I 88 5 - w).toNat = m → yi_G zi_Ms d zi_m32 (236, [(3, .inl w), (1, .inl n), (0, .inr (.inr (some 82)))], [], (Je, Ke, X), 0, 0) (fun r => ∃ I' L', r = (none, (I', L', X), 0, 0) ∧ (∀ p k, p ≠ 98 ∧ p ≠ 99 ∧ p ≠ 96 ∧ ¬ (p = 82 ∧ k = 20) ∧ ¬ (p = 82 ∧ k = 24) ∧ ¬ (p = 82 ∧ k = 25) ∧ ¬ (p = 82 ∧ k = 28) → I' p k = I p k) ∧ (∀ p k, p ≠ 97 → L' p k = L p k) ∧ I' 82 24 = ym_fo (I 88 0) (I 88 1) (I 88 2) ∧ I' 82 25 = (ym_fo (I 88 0) (I 88 1) (I 88 2) + 63) / 64 ∧ I' 82 20 = 0 ∧ ym_PW I') := by
                  intro m236
                  induction m236 using Nat.strongRecOn with
                  | _ m236 ih236 =>
                  intro w n Je Ke fJe fKe w0 w1 hm236
                  refine yi_G_run 2 (238, [(3, .inl w), (1, .inl n), (0, .inr (.inr (some 82)))], [.inr (.inr (some 82)), .inl w], (Je, Ke, X), 0, 0) (fun _ => rfl) ?_
                  refine yi_G_get (241, [(3, .inl w), (1, .inl n), (0, .inr (.inr (some 82)))], [.inr (.inr (some 88)), .inl w], (Je, Ke, X), 0, 0) rfl (ym_gr hS 5 rfl rfl rfl) ?_
                  refine yi_G_run 1 (242, [(3, .inl w), (1, .inl n), (0, .inr (.inr (some 82)))], [.inl 5, .inr (.inr (some 88)), .inl w], (Je, Ke, X), 0, 0) (fun _ => rfl) ?_
                  have r67 : Je 88 5 = I 88 5 := by rw [fJe 88 (5) (by omega), fJb 88 (5) (by omega), ← w60, yi_u_ne _ _ (by omega), fJa 88 (5) (by omega), ← w57, yi_u_ne _ _ (by omega), ← w54, yi_u_ne _ _ (by omega)]
                  refine yi_G_iald (243, [(3, .inl w), (1, .inl n), (0, .inr (.inr (some 82)))], [.inl (I 88 5), .inl w], (Je, Ke, X), 0, 0) rfl (ym_li hS 5 rfl (by omega) (by omega) r67) ?_
                  by_cases h68 : (I 88 5) ≤ w
                  · refine yi_G_if2 true rfl (yi_ge_t h68) ?_
                    exact yi_G_retv rfl rfl (⟨_, _, rfl, (fun p k hp => by rw [fJe p k (by omega), fJb p k (by omega), ← w60, yi_u_ne _ _ (fun z => by omega), fJa p k (by omega), ← w57, yi_u_ne _ _ (fun z => by omega), ← w54, yi_u_ne _ _ (fun z => by omega)]), (fun p k hp => by rw [fKe p k (by omega), fKb p k (by omega), f64 p k (by omega), fKa p k (by omega)]), (by rw [fJe 82 24 (by omega), fJb 82 24 (by omega), ← w60, yi_u_ne _ _ (by decide), fJa 82 24 (by omega), ← w57, yi_u_ne _ _ (by decide), ← w54, yi_u_eq]), (by rw [fJe 82 25 (by omega), fJb 82 25 (by omega), ← w60, yi_u_ne _ _ (by decide), fJa 82 25 (by omega), ← w57, yi_u_eq]), (by rw [fJe 82 20 (by omega), fJb 82 20 (by omega), ← w60, yi_u_eq]), (ym_PW_t (fun k => by rw [fJe 88 k (by omega), fJb 88 k (by omega), ← w60, yi_u_ne _ _ (fun z => absurd z.1 (by decide))]) (fun k => by rw [fJe 98 k (by omega), fJb 98 k (by omega), ← w60, yi_u_ne _ _ (fun z => absurd z.1 (by decide))]) hPWa)⟩)
                  · refine yi_G_if2 false rfl (yi_ge_f h68) ?_
                    refine yi_G_run 1 (247, [(3, .inl w), (1, .inl n), (0, .inr (.inr (some 82)))], [.inr (.inr (some 82))], (Je, Ke, X), 0, 0) (fun _ => rfl) ?_
                    refine yi_G_get (250, [(3, .inl w), (1, .inl n), (0, .inr (.inr (some 82)))], [.inr (.inr (some 88))], (Je, Ke, X), 0, 0) rfl (ym_gr hS 5 rfl rfl rfl) ?_
                    refine yi_G_run 3 (254, [(3, .inl w), (1, .inl n), (0, .inr (.inr (some 82)))], [.inl w, .inl 3, .inl 25, .inr (.inr (some 88))], (Je, Ke, X), 0, 0) (fun _ => rfl) ?_
                    refine yi_G_imul rfl (3 * w) (yi_wn (by omega) (by omega)) ?_
                    refine yi_G_iadd rfl (25 + (3 * w)) (yi_wn (by omega) (by omega)) ?_
                    have r69 : Je 88 ((25 + (3 * w)).toNat) = I 88 ((25 + (3 * w)).toNat) := by rw [fJe 88 ((25 + (3 * w)).toNat) (by omega), fJb 88 ((25 + (3 * w)).toNat) (by omega), ← w60, yi_u_ne _ _ (by omega), fJa 88 ((25 + (3 * w)).toNat) (by omega), ← w57, yi_u_ne _ _ (by omega), ← w54, yi_u_ne _ _ (by omega)]
                    refine yi_G_iald (257, [(3, .inl w), (1, .inl n), (0, .inr (.inr (some 82)))], [.inl (I 88 ((25 + (3 * w)).toNat))], (Je, Ke, X), 0, 0) rfl (ym_li hS 5 rfl (by omega) (by omega) r69) ?_
                    refine yi_G_run 4 (263, [(4, .inl (I 88 ((25 + (3 * w)).toNat))), (3, .inl w), (1, .inl n), (0, .inr (.inr (some 82)))], [.inl w, .inl 40, .inr (.inr (some 82))], (Je, Ke, X), 0, 0) (fun _ => rfl) ?_
                    refine yi_G_iadd rfl (40 + w) (yi_wn (by omega) (by omega)) ?_
                    refine yi_G_run 1 (265, [(4, .inl (I 88 ((25 + (3 * w)).toNat))), (3, .inl w), (1, .inl n), (0, .inr (.inr (some 82)))], [.inr (.inr (some 82)), .inl (40 + w), .inr (.inr (some 82))], (Je, Ke, X), 0, 0) (fun _ => rfl) ?_
                    refine yi_G_get (268, [(4, .inl (I 88 ((25 + (3 * w)).toNat))), (3, .inl w), (1, .inl n), (0, .inr (.inr (some 82)))], [.inr (.inr (some 88)), .inl (40 + w), .inr (.inr (some 82))], (Je, Ke, X), 0, 0) rfl (ym_gr hS 5 rfl rfl rfl) ?_
                    refine yi_G_run 3 (272, [(4, .inl (I 88 ((25 + (3 * w)).toNat))), (3, .inl w), (1, .inl n), (0, .inr (.inr (some 82)))], [.inl w, .inl 3, .inl 25, .inr (.inr (some 88)), .inl (40 + w), .inr (.inr (some 82))], (Je, Ke, X), 0, 0) (fun _ => rfl) ?_
                    refine yi_G_imul rfl (3 * w) (yi_wn (by omega) (by omega)) ?_
                    refine yi_G_iadd rfl (25 + (3 * w)) (yi_wn (by omega) (by omega)) ?_
                    refine yi_G_run 1 (275, [(4, .inl (I 88 ((25 + (3 * w)).toNat))), (3, .inl w), (1, .inl n), (0, .inr (.inr (some 82)))], [.inl 2, .inl (25 + (3 * w)), .inr (.inr (some 88)), .inl (40 + w), .inr (.inr (some 82))], (Je, Ke, X), 0, 0) (fun _ => rfl) ?_
                    refine yi_G_iadd rfl ((25 + (3 * w)) + 2) (yi_wn (by omega) (by omega)) ?_
                    have r70 : Je 88 (((25 + (3 * w)) + 2).toNat) = I 88 (((25 + (3 * w)) + 2).toNat) := by rw [fJe 88 (((25 + (3 * w)) + 2).toNat) (by omega), fJb 88 (((25 + (3 * w)) + 2).toNat) (by omega), ← w60, yi_u_ne _ _ (by omega), fJa 88 (((25 + (3 * w)) + 2).toNat) (by omega), ← w57, yi_u_ne _ _ (by omega), ← w54, yi_u_ne _ _ (by omega)]
                    refine yi_G_iald (277, [(4, .inl (I 88 ((25 + (3 * w)).toNat))), (3, .inl w), (1, .inl n), (0, .inr (.inr (some 82)))], [.inl (I 88 (((25 + (3 * w)) + 2).toNat)), .inl (40 + w), .inr (.inr (some 82))], (Je, Ke, X), 0, 0) rfl (ym_li hS 5 rfl (by omega) (by omega) r70) ?_
                    refine yi_G_run 2 (280, [(4, .inl (I 88 ((25 + (3 * w)).toNat))), (3, .inl w), (1, .inl n), (0, .inr (.inr (some 82)))], [.inl (I 88 ((25 + (3 * w)).toNat)), .inr (.inr (some 82)), .inl (I 88 (((25 + (3 * w)) + 2).toNat)), .inl (40 + w), .inr (.inr (some 82))], (Je, Ke, X), 0, 0) (fun _ => rfl) ?_
                    obtain ⟨hw, ee, he2⟩ := hPL.2.1 w w0 (by omega)
                    refine yi_G_callv rfl rfl (ym_rcv hS) rfl (c_kindOf d (by omega) hS (by omega) (by omega)) ?_
                    rintro _ rfl
                    show yi_G zi_Ms d zi_m32 (283, [(4, .inl (I 88 ((25 + (3 * w)).toNat))), (3, .inl w), (1, .inl n), (0, .inr (.inr (some 82)))], [.inl (Je 88 (11 + 2 * (I 88 ((25 + (3 * w)).toNat))).toNat), .inl (I 88 (((25 + (3 * w)) + 2).toNat)), .inl (40 + w), .inr (.inr (some 82))], (Je, Ke, X), 0, 0) _
                    have r75 : Je 82 24 = ym_fo (I 88 0) (I 88 1) (I 88 2) := by rw [fJe 82 (24) (by omega), fJb 82 (24) (by omega), ← w60, yi_u_ne _ _ (by omega), fJa 82 (24) (by omega), ← w57, yi_u_ne _ _ (by omega), ← w54, yi_u_eq]
                    have r76 : Je 82 25 = ((ym_fo (I 88 0) (I 88 1) (I 88 2)) + 63) / 64 := by rw [fJe 82 (25) (by omega), fJb 82 (25) (by omega), ← w60, yi_u_ne _ _ (by omega), fJa 82 (25) (by omega), ← w57, yi_u_eq]
                    refine yi_G_callv rfl rfl (ym_rcv hS) rfl (c_laysFormula d (by omega) hS (ym_LR_t (fun k => by rw [fJe 88 k (by omega), fJb 88 k (by omega), ← w60, yi_u_ne _ _ (fun z => absurd z.1 (by decide)), fJa 88 k (by omega), ← w57, yi_u_ne _ _ (fun z => absurd z.1 (by decide)), ← w54, yi_u_ne _ _ (fun z => absurd z.1 (by decide))]) hLR) (ym_PW_t (fun k => by rw [fJe 88 k (by omega), fJb 88 k (by omega), ← w60, yi_u_ne _ _ (fun z => absurd z.1 (by decide))]) (fun k => by rw [fJe 98 k (by omega), fJb 98 k (by omega), ← w60, yi_u_ne _ _ (fun z => absurd z.1 (by decide))]) hPWa) (ym_PG_t (fun k => by rw [fJe 89 k (by omega), fJb 89 k (by omega), ← w60, yi_u_ne _ _ (fun z => absurd z.1 (by decide)), fJa 89 k (by omega), ← w57, yi_u_ne _ _ (fun z => absurd z.1 (by decide)), ← w54, yi_u_ne _ _ (fun z => absurd z.1 (by decide))]) (fun k => by rw [fJe 90 k (by omega), fJb 90 k (by omega), ← w60, yi_u_ne _ _ (fun z => absurd z.1 (by decide)), fJa 90 k (by omega), ← w57, yi_u_ne _ _ (fun z => absurd z.1 (by decide)), ← w54, yi_u_ne _ _ (fun z => absurd z.1 (by decide))]) he2) (by omega) (by omega) ⟨(by rw [r75]; omega), (by rw [r75]; omega)⟩ ⟨(by rw [r76]; omega), (by rw [r76]; omega)⟩) ?_
                    rintro _ ⟨I71, L73, rfl, f72, f74⟩
                    show yi_G zi_Ms d zi_m32 (286, [(4, .inl (I 88 ((25 + (3 * w)).toNat))), (3, .inl w), (1, .inl n), (0, .inr (.inr (some 82)))], [], (I71, L73, X), 0, 0) _
                    refine yi_G_iinc [(3, .inl (w + 1)), (4, .inl (I 88 ((25 + (3 * w)).toNat))), (1, .inl n), (0, .inr (.inr (some 82)))] rfl rfl rfl (by rw [show yi_w (w + 1) = w + 1 from (yi_wn (by omega) (by omega)).trans (by omega)]; rfl) ?_
                    refine yi_G_run 1 (236, [(3, .inl (w + 1)), (4, .inl (I 88 ((25 + (3 * w)).toNat))), (1, .inl n), (0, .inr (.inr (some 82)))], [], (I71, L73, X), 0, 0) (fun _ => rfl) ?_
                    refine yi_G_al (al := [(3, .inl (w + 1)), (1, .inl n), (0, .inr (.inr (some 82)))]) (show ([3, 1, 0] : List Nat).Nodup by decide) (show ([3, 4, 1, 0] : List Nat).Nodup by decide) (yi_mc (List.mem_of_getElem? (i := 0) rfl) (yi_mc (List.mem_of_getElem? (i := 2) rfl) (yi_mc (List.mem_of_getElem? (i := 3) rfl) yi_mn))) ?_
                    exact ih236 _ (by omega) (w + 1) n I71 L73 (fun p k hp => by rw [f72 p k (by omega), fJe p k (by omega)]) (fun p k hp => by rw [f74 p k (by omega), fKe p k (by omega)]) (by omega) (by omega) rfl
                exact pt236 _ 0 n Jb Kb (fun _ _ _ => rfl) (fun _ _ _ => rfl) (by omega) (by omega) rfl
              · refine yi_G_if2 false rfl (yi_ge_f h66) ?_
                refine yi_G_run 2 (126, [(3, .inl f), (1, .inl n), (0, .inr (.inr (some 82)))], [.inl f, .inr (.inr (some 82))], (Jb, Kb, X), 0, 0) (fun _ => rfl) ?_
                refine yi_G_callv rfl rfl (ym_rcv hS) rfl (c_laysFuture d (by omega) hS (ym_LR_t (fun k => by rw [fJb 88 k (by omega), ← w60, yi_u_ne _ _ (fun z => absurd z.1 (by decide)), fJa 88 k (by omega), ← w57, yi_u_ne _ _ (fun z => absurd z.1 (by decide)), ← w54, yi_u_ne _ _ (fun z => absurd z.1 (by decide))]) hLR) (ym_PW_t (fun k => by rw [fJb 88 k (by omega), ← w60, yi_u_ne _ _ (fun z => absurd z.1 (by decide))]) (fun k => by rw [fJb 98 k (by omega), ← w60, yi_u_ne _ _ (fun z => absurd z.1 (by decide))]) hPWa) (by omega) (by omega)) ?_
                rintro _ ⟨I77, rfl, f78, h79⟩
                show yi_G zi_Ms d zi_m32 (129, [(3, .inl f), (1, .inl n), (0, .inr (.inr (some 82)))], [], (I77, Kb, X), 0, 0) _
                refine yi_G_run 2 (132, [(4, .inl 0), (3, .inl f), (1, .inl n), (0, .inr (.inr (some 82)))], [], (I77, Kb, X), 0, 0) (fun _ => rfl) ?_
                have pt132 : ∀ (m : Nat) (k : Int) (Kc : Nat → Nat → Int), (∀ p k, p ≠ 97 → Kc p k = Kb p k) → (0 ≤ k) → (k ≤ n) → (n - k).toNat = m → yi_G zi_Ms d zi_m32 (132, [(4, .inl k), (3, .inl f), (1, .inl n), (0, .inr (.inr (some 82)))], [], (I77, Kc, X), 0, 0) (fun r => ∃ I' L', r = (none, (I', L', X), 0, 0) ∧ (∀ p k, p ≠ 98 ∧ p ≠ 99 ∧ p ≠ 96 ∧ ¬ (p = 82 ∧ k = 20) ∧ ¬ (p = 82 ∧ k = 24) ∧ ¬ (p = 82 ∧ k = 25) ∧ ¬ (p = 82 ∧ k = 28) → I' p k = I p k) ∧ (∀ p k, p ≠ 97 → L' p k = L p k) ∧ I' 82 24 = ym_fo (I 88 0) (I 88 1) (I 88 2) ∧ I' 82 25 = (ym_fo (I 88 0) (I 88 1) (I 88 2) + 63) / 64 ∧ I' 82 20 = 0 ∧ ym_PW I') := by
                  intro m132
                  induction m132 using Nat.strongRecOn with
                  | _ m132 ih132 =>
                  intro k Kc fKc kk0 kk1 hm132
                  refine yi_G_run 2 (135, [(4, .inl k), (3, .inl f), (1, .inl n), (0, .inr (.inr (some 82)))], [.inl n, .inl k], (I77, Kc, X), 0, 0) (fun _ => rfl) ?_
                  by_cases h80 : n ≤ k
                  · refine yi_G_if2 true rfl (yi_ge_t h80) ?_
                    refine yi_G_run 4 (170, [(5, .inl 0), (4, .inl 1), (3, .inl f), (1, .inl n), (0, .inr (.inr (some 82)))], [], (I77, Kc, X), 0, 0) (fun _ => rfl) ?_
                    have pt170 : ∀ (m : Nat) (j : Int) (b : Int) (Jd : Nat → Nat → Int), (∀ p k, p ≠ 96 → Jd p k = I77 p k) → (0 ≤ j) → (j ≤ I 88 4) → (I 88 4 - j).toNat = m → yi_G zi_Ms d zi_m32 (170, [(5, .inl j), (4, .inl b), (3, .inl f), (1, .inl n), (0, .inr (.inr (some 82)))], [], (Jd, Kc, X), 0, 0) (fun r => ∃ I' L', r = (none, (I', L', X), 0, 0) ∧ (∀ p k, p ≠ 98 ∧ p ≠ 99 ∧ p ≠ 96 ∧ ¬ (p = 82 ∧ k = 20) ∧ ¬ (p = 82 ∧ k = 24) ∧ ¬ (p = 82 ∧ k = 25) ∧ ¬ (p = 82 ∧ k = 28) → I' p k = I p k) ∧ (∀ p k, p ≠ 97 → L' p k = L p k) ∧ I' 82 24 = ym_fo (I 88 0) (I 88 1) (I 88 2) ∧ I' 82 25 = (ym_fo (I 88 0) (I 88 1) (I 88 2) + 63) / 64 ∧ I' 82 20 = 0 ∧ ym_PW I') := by
                      intro m170
                      induction m170 using Nat.strongRecOn with
                      | _ m170 ih170 =>
                      intro j b Jd fJd j0 j1 hm170
                      refine yi_G_run 2 (173, [(5, .inl j), (4, .inl b), (3, .inl f), (1, .inl n), (0, .inr (.inr (some 82)))], [.inr (.inr (some 82)), .inl j], (Jd, Kc, X), 0, 0) (fun _ => rfl) ?_
                      refine yi_G_get (176, [(5, .inl j), (4, .inl b), (3, .inl f), (1, .inl n), (0, .inr (.inr (some 82)))], [.inr (.inr (some 88)), .inl j], (Jd, Kc, X), 0, 0) rfl (ym_gr hS 5 rfl rfl rfl) ?_
                      refine yi_G_run 1 (177, [(5, .inl j), (4, .inl b), (3, .inl f), (1, .inl n), (0, .inr (.inr (some 82)))], [.inl 4, .inr (.inr (some 88)), .inl j], (Jd, Kc, X), 0, 0) (fun _ => rfl) ?_
                      have r81 : Jd 88 4 = I 88 4 := by rw [fJd 88 (4) (by omega), f78 88 (4) (by omega), fJb 88 (4) (by omega), ← w60, yi_u_ne _ _ (by omega), fJa 88 (4) (by omega), ← w57, yi_u_ne _ _ (by omega), ← w54, yi_u_ne _ _ (by omega)]
                      refine yi_G_iald (178, [(5, .inl j), (4, .inl b), (3, .inl f), (1, .inl n), (0, .inr (.inr (some 82)))], [.inl (I 88 4), .inl j], (Jd, Kc, X), 0, 0) rfl (ym_li hS 5 rfl (by omega) (by omega) r81) ?_
                      by_cases h82 : (I 88 4) ≤ j
                      · refine yi_G_if2 true rfl (yi_ge_t h82) ?_
                        refine yi_G_run 1 (218, [(5, .inl j), (4, .inl b), (3, .inl f), (1, .inl n), (0, .inr (.inr (some 82)))], [.inl b], (Jd, Kc, X), 0, 0) (fun _ => rfl) ?_
                        by_cases h83 : b = 0
                        · refine yi_G_if1 true rfl (yi_eq_t h83) ?_
                          refine yi_G_iinc [(3, .inl (f + 1)), (5, .inl j), (4, .inl b), (1, .inl n), (0, .inr (.inr (some 82)))] rfl rfl rfl (by rw [show yi_w (f + 1) = f + 1 from (yi_wn (by omega) (by omega)).trans (by omega)]; rfl) ?_
                          refine yi_G_run 1 (116, [(3, .inl (f + 1)), (5, .inl j), (4, .inl b), (1, .inl n), (0, .inr (.inr (some 82)))], [], (Jd, Kc, X), 0, 0) (fun _ => rfl) ?_
                          refine yi_G_al (al := [(3, .inl (f + 1)), (1, .inl n), (0, .inr (.inr (some 82)))]) (show ([3, 1, 0] : List Nat).Nodup by decide) (show ([3, 5, 4, 1, 0] : List Nat).Nodup by decide) (yi_mc (List.mem_of_getElem? (i := 0) rfl) (yi_mc (List.mem_of_getElem? (i := 3) rfl) (yi_mc (List.mem_of_getElem? (i := 4) rfl) yi_mn))) ?_
                          exact ih116 _ (by omega) (f + 1) n Jd Kc (fun p k hp => by rw [fJd p k (by omega), f78 p k (by omega), fJb p k (by omega)]) (fun p k hp => by rw [fKc p k (by omega), fKb p k (by omega)]) (by omega) (by omega) (by omega) rfl
                        · refine yi_G_if1 false rfl (yi_eq_f h83) ?_
                          refine yi_G_run 3 (225, [(5, .inl j), (4, .inl b), (3, .inl f), (1, .inl n), (0, .inr (.inr (some 82)))], [.inl f, .inl 32, .inr (.inr (some 82))], (Jd, Kc, X), 0, 0) (fun _ => rfl) ?_
                          refine yi_G_callv rfl rfl (ym_rcv hS) rfl (w_sets (by omega) hS (by omega) (by omega) (by omega) (by omega) ) ?_
                          rintro _ ⟨L84, rfl, f85⟩
                          show yi_G zi_Ms d zi_m32 (228, [(5, .inl j), (4, .inl b), (3, .inl f), (1, .inl n), (0, .inr (.inr (some 82)))], [], (Jd, L84, X), 0, 0) _
                          refine yi_G_iinc [(3, .inl (f + 1)), (5, .inl j), (4, .inl b), (1, .inl n), (0, .inr (.inr (some 82)))] rfl rfl rfl (by rw [show yi_w (f + 1) = f + 1 from (yi_wn (by omega) (by omega)).trans (by omega)]; rfl) ?_
                          refine yi_G_run 1 (116, [(3, .inl (f + 1)), (5, .inl j), (4, .inl b), (1, .inl n), (0, .inr (.inr (some 82)))], [], (Jd, L84, X), 0, 0) (fun _ => rfl) ?_
                          refine yi_G_al (al := [(3, .inl (f + 1)), (1, .inl n), (0, .inr (.inr (some 82)))]) (show ([3, 1, 0] : List Nat).Nodup by decide) (show ([3, 5, 4, 1, 0] : List Nat).Nodup by decide) (yi_mc (List.mem_of_getElem? (i := 0) rfl) (yi_mc (List.mem_of_getElem? (i := 3) rfl) (yi_mc (List.mem_of_getElem? (i := 4) rfl) yi_mn))) ?_
                          exact ih116 _ (by omega) (f + 1) n Jd L84 (fun p k hp => by rw [fJd p k (by omega), f78 p k (by omega), fJb p k (by omega)]) (fun p k hp => by rw [f85 p k (by omega), fKc p k (by omega), fKb p k (by omega)]) (by omega) (by omega) (by omega) rfl
                      · refine yi_G_if2 false rfl (yi_ge_f h82) ?_
                        refine yi_G_run 1 (183, [(5, .inl j), (4, .inl b), (3, .inl f), (1, .inl n), (0, .inr (.inr (some 82)))], [.inl b], (Jd, Kc, X), 0, 0) (fun _ => rfl) ?_
                        by_cases h86 : b = 0
                        · refine yi_G_if1 true rfl (yi_eq_t h86) ?_
                          refine yi_G_run 1 (218, [(5, .inl j), (4, .inl b), (3, .inl f), (1, .inl n), (0, .inr (.inr (some 82)))], [.inl b], (Jd, Kc, X), 0, 0) (fun _ => rfl) ?_
                          by_cases h87 : b = 0
                          · refine yi_G_if1 true rfl (yi_eq_t h87) ?_
                            refine yi_G_iinc [(3, .inl (f + 1)), (5, .inl j), (4, .inl b), (1, .inl n), (0, .inr (.inr (some 82)))] rfl rfl rfl (by rw [show yi_w (f + 1) = f + 1 from (yi_wn (by omega) (by omega)).trans (by omega)]; rfl) ?_
                            refine yi_G_run 1 (116, [(3, .inl (f + 1)), (5, .inl j), (4, .inl b), (1, .inl n), (0, .inr (.inr (some 82)))], [], (Jd, Kc, X), 0, 0) (fun _ => rfl) ?_
                            refine yi_G_al (al := [(3, .inl (f + 1)), (1, .inl n), (0, .inr (.inr (some 82)))]) (show ([3, 1, 0] : List Nat).Nodup by decide) (show ([3, 5, 4, 1, 0] : List Nat).Nodup by decide) (yi_mc (List.mem_of_getElem? (i := 0) rfl) (yi_mc (List.mem_of_getElem? (i := 3) rfl) (yi_mc (List.mem_of_getElem? (i := 4) rfl) yi_mn))) ?_
                            exact ih116 _ (by omega) (f + 1) n Jd Kc (fun p k hp => by rw [fJd p k (by omega), f78 p k (by omega), fJb p k (by omega)]) (fun p k hp => by rw [fKc p k (by omega), fKb p k (by omega)]) (by omega) (by omega) (by omega) rfl
                          · refine yi_G_if1 false rfl (yi_eq_f h87) ?_
                            refine yi_G_run 3 (225, [(5, .inl j), (4, .inl b), (3, .inl f), (1, .inl n), (0, .inr (.inr (some 82)))], [.inl f, .inl 32, .inr (.inr (some 82))], (Jd, Kc, X), 0, 0) (fun _ => rfl) ?_
                            refine yi_G_callv rfl rfl (ym_rcv hS) rfl (w_sets (by omega) hS (by omega) (by omega) (by omega) (by omega) ) ?_
                            rintro _ ⟨L88, rfl, f89⟩
                            show yi_G zi_Ms d zi_m32 (228, [(5, .inl j), (4, .inl b), (3, .inl f), (1, .inl n), (0, .inr (.inr (some 82)))], [], (Jd, L88, X), 0, 0) _
                            refine yi_G_iinc [(3, .inl (f + 1)), (5, .inl j), (4, .inl b), (1, .inl n), (0, .inr (.inr (some 82)))] rfl rfl rfl (by rw [show yi_w (f + 1) = f + 1 from (yi_wn (by omega) (by omega)).trans (by omega)]; rfl) ?_
                            refine yi_G_run 1 (116, [(3, .inl (f + 1)), (5, .inl j), (4, .inl b), (1, .inl n), (0, .inr (.inr (some 82)))], [], (Jd, L88, X), 0, 0) (fun _ => rfl) ?_
                            refine yi_G_al (al := [(3, .inl (f + 1)), (1, .inl n), (0, .inr (.inr (some 82)))]) (show ([3, 1, 0] : List Nat).Nodup by decide) (show ([3, 5, 4, 1, 0] : List Nat).Nodup by decide) (yi_mc (List.mem_of_getElem? (i := 0) rfl) (yi_mc (List.mem_of_getElem? (i := 3) rfl) (yi_mc (List.mem_of_getElem? (i := 4) rfl) yi_mn))) ?_
                            exact ih116 _ (by omega) (f + 1) n Jd L88 (fun p k hp => by rw [fJd p k (by omega), f78 p k (by omega), fJb p k (by omega)]) (fun p k hp => by rw [f89 p k (by omega), fKc p k (by omega), fKb p k (by omega)]) (by omega) (by omega) (by omega) rfl
                        · refine yi_G_if1 false rfl (yi_eq_f h86) ?_
                          refine yi_G_run 2 (188, [(5, .inl j), (4, .inl b), (3, .inl f), (1, .inl n), (0, .inr (.inr (some 82)))], [.inr (.inr (some 82)), .inr (.inr (some 82))], (Jd, Kc, X), 0, 0) (fun _ => rfl) ?_
                          refine yi_G_get (191, [(5, .inl j), (4, .inl b), (3, .inl f), (1, .inl n), (0, .inr (.inr (some 82)))], [.inr (.inr (some 88)), .inr (.inr (some 82))], (Jd, Kc, X), 0, 0) rfl (ym_gr hS 5 rfl rfl rfl) ?_
                          refine yi_G_run 2 (195, [(5, .inl j), (4, .inl b), (3, .inl f), (1, .inl n), (0, .inr (.inr (some 82)))], [.inl j, .inl 21, .inr (.inr (some 88)), .inr (.inr (some 82))], (Jd, Kc, X), 0, 0) (fun _ => rfl) ?_
                          refine yi_G_iadd rfl (21 + j) (yi_wn (by omega) (by omega)) ?_
                          have r90 : Jd 88 ((21 + j).toNat) = I 88 ((21 + j).toNat) := by rw [fJd 88 ((21 + j).toNat) (by omega), f78 88 ((21 + j).toNat) (by omega), fJb 88 ((21 + j).toNat) (by omega), ← w60, yi_u_ne _ _ (by omega), fJa 88 ((21 + j).toNat) (by omega), ← w57, yi_u_ne _ _ (by omega), ← w54, yi_u_ne _ _ (by omega)]
                          refine yi_G_iald (197, [(5, .inl j), (4, .inl b), (3, .inl f), (1, .inl n), (0, .inr (.inr (some 82)))], [.inl (I 88 ((21 + j).toNat)), .inr (.inr (some 82))], (Jd, Kc, X), 0, 0) rfl (ym_li hS 5 rfl (by omega) (by omega) r90) ?_
                          obtain ⟨ee, he1⟩ := hPL.1 j j0 (by omega)
                          refine yi_G_callv rfl rfl (ym_rcv hS) rfl (c_worthAt d (by omega) hS (ym_LR_t (fun k => by rw [fJd 88 k (by omega), f78 88 k (by omega), fJb 88 k (by omega), ← w60, yi_u_ne _ _ (fun z => absurd z.1 (by decide)), fJa 88 k (by omega), ← w57, yi_u_ne _ _ (fun z => absurd z.1 (by decide)), ← w54, yi_u_ne _ _ (fun z => absurd z.1 (by decide))]) hLR) (ym_PG_t (fun k => by rw [fJd 89 k (by omega), f78 89 k (by omega), fJb 89 k (by omega), ← w60, yi_u_ne _ _ (fun z => absurd z.1 (by decide)), fJa 89 k (by omega), ← w57, yi_u_ne _ _ (fun z => absurd z.1 (by decide)), ← w54, yi_u_ne _ _ (fun z => absurd z.1 (by decide))]) (fun k => by rw [fJd 90 k (by omega), f78 90 k (by omega), fJb 90 k (by omega), ← w60, yi_u_ne _ _ (fun z => absurd z.1 (by decide)), fJa 90 k (by omega), ← w57, yi_u_ne _ _ (fun z => absurd z.1 (by decide)), ← w54, yi_u_ne _ _ (fun z => absurd z.1 (by decide))]) he1)) ?_
                          rintro _ ⟨z91, I92, rfl, f93⟩
                          show yi_G zi_Ms d zi_m32 (200, [(5, .inl j), (4, .inl b), (3, .inl f), (1, .inl n), (0, .inr (.inr (some 82)))], [.inl z91], (I92, Kc, X), 0, 0) _
                          by_cases h94 : z91 = 0
                          · refine yi_G_if1 true rfl (yi_eq_t h94) ?_
                            refine yi_G_run 2 (210, [(4, .inl 0), (5, .inl j), (3, .inl f), (1, .inl n), (0, .inr (.inr (some 82)))], [], (I92, Kc, X), 0, 0) (fun _ => rfl) ?_
                            refine yi_G_iinc [(5, .inl (j + 1)), (4, .inl 0), (3, .inl f), (1, .inl n), (0, .inr (.inr (some 82)))] rfl rfl rfl (by rw [show yi_w (j + 1) = j + 1 from (yi_wn (by omega) (by omega)).trans (by omega)]; rfl) ?_
                            refine yi_G_run 1 (170, [(5, .inl (j + 1)), (4, .inl 0), (3, .inl f), (1, .inl n), (0, .inr (.inr (some 82)))], [], (I92, Kc, X), 0, 0) (fun _ => rfl) ?_
                            exact ih170 _ (by omega) (j + 1) 0 I92 (fun p k hp => by rw [f93 p k (by omega), fJd p k (by omega)]) (by omega) (by omega) rfl
                          · refine yi_G_if1 false rfl (yi_eq_f h94) ?_
                            refine yi_G_run 3 (210, [(4, .inl 1), (5, .inl j), (3, .inl f), (1, .inl n), (0, .inr (.inr (some 82)))], [], (I92, Kc, X), 0, 0) (fun _ => rfl) ?_
                            refine yi_G_iinc [(5, .inl (j + 1)), (4, .inl 1), (3, .inl f), (1, .inl n), (0, .inr (.inr (some 82)))] rfl rfl rfl (by rw [show yi_w (j + 1) = j + 1 from (yi_wn (by omega) (by omega)).trans (by omega)]; rfl) ?_
                            refine yi_G_run 1 (170, [(5, .inl (j + 1)), (4, .inl 1), (3, .inl f), (1, .inl n), (0, .inr (.inr (some 82)))], [], (I92, Kc, X), 0, 0) (fun _ => rfl) ?_
                            exact ih170 _ (by omega) (j + 1) 1 I92 (fun p k hp => by rw [f93 p k (by omega), fJd p k (by omega)]) (by omega) (by omega) rfl
                    exact pt170 _ 0 1 I77 (fun _ _ _ => rfl) (by omega) (by omega) rfl
                  · refine yi_G_if2 false rfl (yi_ge_f h80) ?_
                    refine yi_G_run 2 (140, [(4, .inl k), (3, .inl f), (1, .inl n), (0, .inr (.inr (some 82)))], [.inr (.inr (some 82)), .inr (.inr (some 82))], (I77, Kc, X), 0, 0) (fun _ => rfl) ?_
                    have r95 : I77 88 2 = I 88 2 := by rw [f78 88 (2) (by omega), fJb 88 (2) (by omega), ← w60, yi_u_ne _ _ (by omega), fJa 88 (2) (by omega), ← w57, yi_u_ne _ _ (by omega), ← w54, yi_u_ne _ _ (by omega)]
                    refine yi_G_callv rfl rfl (ym_rcv hS) rfl (c_events d (by omega) hS r95) ?_
                    rintro _ rfl
                    show yi_G zi_Ms d zi_m32 (143, [(4, .inl k), (3, .inl f), (1, .inl n), (0, .inr (.inr (some 82)))], [.inl (I 88 2), .inr (.inr (some 82))], (I77, Kc, X), 0, 0) _
                    refine yi_G_run 1 (145, [(4, .inl k), (3, .inl f), (1, .inl n), (0, .inr (.inr (some 82)))], [.inl k, .inl (I 88 2), .inr (.inr (some 82))], (I77, Kc, X), 0, 0) (fun _ => rfl) ?_
                    have mk := yi_mb (a := I 88 2) (b := k) (A := 4) (B := 23) (by omega) (by omega) (by omega) (by omega)
                    refine yi_G_imul rfl ((I 88 2) * k) (yi_wn (by omega) (by omega)) ?_
                    refine yi_G_run 1 (147, [(4, .inl k), (3, .inl f), (1, .inl n), (0, .inr (.inr (some 82)))], [.inr (.inr (some 82)), .inl ((I 88 2) * k), .inr (.inr (some 82))], (I77, Kc, X), 0, 0) (fun _ => rfl) ?_
                    refine yi_G_get (150, [(4, .inl k), (3, .inl f), (1, .inl n), (0, .inr (.inr (some 82)))], [.inr (.inr (some 99)), .inl ((I 88 2) * k), .inr (.inr (some 82))], (I77, Kc, X), 0, 0) rfl (ym_gr hS 16 rfl rfl rfl) ?_
                    refine yi_G_run 1 (152, [(4, .inl k), (3, .inl f), (1, .inl n), (0, .inr (.inr (some 82)))], [.inl k, .inr (.inr (some 99)), .inl ((I 88 2) * k), .inr (.inr (some 82))], (I77, Kc, X), 0, 0) (fun _ => rfl) ?_
                    refine yi_G_iald (153, [(4, .inl k), (3, .inl f), (1, .inl n), (0, .inr (.inr (some 82)))], [.inl (I77 99 (k.toNat)), .inl ((I 88 2) * k), .inr (.inr (some 82))], (I77, Kc, X), 0, 0) rfl (ym_li hS 16 rfl (by omega) (by omega) rfl) ?_
                    have e88b : ∀ k, Jb 88 k = I 88 k := (fun k => by rw [fJb 88 k (by omega), ← w60, yi_u_ne _ _ (fun z => absurd z.1 (by decide)), fJa 88 k (by omega), ← w57, yi_u_ne _ _ (fun z => absurd z.1 (by decide)), ← w54, yi_u_ne _ _ (fun z => absurd z.1 (by decide))])
                    have hk9 := h79 k (by omega) (by rw [e88b, e88b]; omega) (by rw [e88b]; omega)
                    rw [e88b] at hk9
                    refine yi_G_iadd rfl (((I 88 2) * k) + (I77 99 (k.toNat))) (yi_wn (by omega) (by omega)) ?_
                    refine yi_G_run 1 (155, [(4, .inl k), (3, .inl f), (1, .inl n), (0, .inr (.inr (some 82)))], [.inl f, .inl (((I 88 2) * k) + (I77 99 (k.toNat))), .inr (.inr (some 82))], (I77, Kc, X), 0, 0) (fun _ => rfl) ?_
                    refine yi_G_callv rfl rfl (ym_rcv hS) rfl (w_sets (by omega) hS (by omega) (by omega) (by omega) (by omega) ) ?_
                    rintro _ ⟨L96, rfl, f97⟩
                    show yi_G zi_Ms d zi_m32 (158, [(4, .inl k), (3, .inl f), (1, .inl n), (0, .inr (.inr (some 82)))], [], (I77, L96, X), 0, 0) _
                    refine yi_G_iinc [(4, .inl (k + 1)), (3, .inl f), (1, .inl n), (0, .inr (.inr (some 82)))] rfl rfl rfl (by rw [show yi_w (k + 1) = k + 1 from (yi_wn (by omega) (by omega)).trans (by omega)]; rfl) ?_
                    refine yi_G_run 1 (132, [(4, .inl (k + 1)), (3, .inl f), (1, .inl n), (0, .inr (.inr (some 82)))], [], (I77, L96, X), 0, 0) (fun _ => rfl) ?_
                    exact ih132 _ (by omega) (k + 1) L96 (fun p k hp => by rw [f97 p k (by omega), fKc p k (by omega)]) (by omega) (by omega) rfl
                exact pt132 _ 0 Kb (fun _ _ _ => rfl) (by omega) (by omega) rfl
            refine yi_G_al (al := [(3, .inl 0), (1, .inl n), (0, .inr (.inr (some 82)))]) (show ([3, 1, 0] : List Nat).Nodup by decide) (show ([3, 2, 1, 0] : List Nat).Nodup by decide) (yi_mc (List.mem_of_getElem? (i := 0) rfl) (yi_mc (List.mem_of_getElem? (i := 2) rfl) (yi_mc (List.mem_of_getElem? (i := 3) rfl) yi_mn))) ?_
            exact pt116 _ 0 n I59 L63 (fun _ _ _ => rfl) (fun _ _ _ => rfl) (by omega) (by omega) (by omega) rfl
          · refine yi_G_if2 false rfl (yi_ge_f h61) ?_
            refine yi_G_run 2 (99, [(3, .inl k), (2, .inl y), (1, .inl n), (0, .inr (.inr (some 82)))], [.inl k, .inr (.inr (some 82))], (I59, Ka, X), 0, 0) (fun _ => rfl) ?_
            have r98 : I59 82 25 = ((ym_fo (I 88 0) (I 88 1) (I 88 2)) + 63) / 64 := by rw [← w60, yi_u_ne _ _ (by omega), fJa 82 (25) (by omega), ← w57, yi_u_eq]
            refine yi_G_callv rfl rfl (ym_rcv hS) rfl (w_clears (by omega) hS (by omega) (by omega) (by rw [r98]; omega) (by rw [r98]; omega)) ?_
            rintro _ ⟨L99, rfl, f100⟩
            show yi_G zi_Ms d zi_m32 (102, [(3, .inl k), (2, .inl y), (1, .inl n), (0, .inr (.inr (some 82)))], [], (I59, L99, X), 0, 0) _
            refine yi_G_iinc [(3, .inl (k + 1)), (2, .inl y), (1, .inl n), (0, .inr (.inr (some 82)))] rfl rfl rfl (by rw [show yi_w (k + 1) = k + 1 from (yi_wn (by omega) (by omega)).trans (by omega)]; rfl) ?_
            refine yi_G_run 1 (91, [(3, .inl (k + 1)), (2, .inl y), (1, .inl n), (0, .inr (.inr (some 82)))], [], (I59, L99, X), 0, 0) (fun _ => rfl) ?_
            exact ih91 _ (by omega) (k + 1) n y L99 (fun p k hp => by rw [f100 p k (by omega), fKa p k (by omega)]) (by omega) (by omega) (by omega) rfl
        exact pt91 _ 0 n y L (fun _ _ _ => rfl) (by omega) (by omega) (by omega) rfl
      · refine yi_G_if1 false rfl (yi_lt_f h58) ?_
        refine yi_G_run 1 (65, [(3, .inl k), (2, .inl y), (1, .inl n), (0, .inr (.inr (some 82)))], [.inr (.inr (some 82))], (Ja, L, X), 0, 0) (fun _ => rfl) ?_
        refine yi_G_get (68, [(3, .inl k), (2, .inl y), (1, .inl n), (0, .inr (.inr (some 82)))], [.inr (.inr (some 98))], (Ja, L, X), 0, 0) rfl (ym_gr hS 15 rfl rfl rfl) ?_
        refine yi_G_run 2 (70, [(3, .inl k), (2, .inl y), (1, .inl n), (0, .inr (.inr (some 82)))], [.inl y, .inl k, .inr (.inr (some 98))], (Ja, L, X), 0, 0) (fun _ => rfl) ?_
        have yb0 := ym_fn_b (e := I 88 2) (by omega) (by omega) (n - 1 - k).toNat
        have yb : ym_fn (I 88 2) (n - 1 - k).toNat ≤ 32768 := ym_fn_u (I 88 0 * I 88 1).toNat _ (by omega) (ym_fo_u (by omega) hFo)
        refine yi_G_iast (71, [(3, .inl k), (2, .inl y), (1, .inl n), (0, .inr (.inr (some 82)))], [], ((yi_u Ja 98 (k.toNat) y), L, X), 0, 0) rfl (ym_si hS 15 rfl (by omega) (by omega)) ?_
        generalize w102 : yi_u Ja 98 (k.toNat) y = I101
        refine yi_G_run 2 (73, [(3, .inl k), (2, .inl y), (1, .inl n), (0, .inr (.inr (some 82)))], [.inr (.inr (some 82)), .inl y], (I101, L, X), 0, 0) (fun _ => rfl) ?_
        have r103 : I101 88 2 = I 88 2 := by rw [← w102, yi_u_ne _ _ (by omega), fJa 88 (2) (by omega), ← w57, yi_u_ne _ _ (by omega), ← w54, yi_u_ne _ _ (by omega)]
        refine yi_G_callv rfl rfl (ym_rcv hS) rfl (c_events d (by omega) hS r103) ?_
        rintro _ rfl
        show yi_G zi_Ms d zi_m32 (76, [(3, .inl k), (2, .inl y), (1, .inl n), (0, .inr (.inr (some 82)))], [.inl (I 88 2), .inl y], (I101, L, X), 0, 0) _
        have mb := yi_mb (a := y) (b := I 88 2) (A := 32768) (B := 4) (by omega) (by omega) (by omega) (by omega)
        refine yi_G_imul rfl (y * (I 88 2)) (yi_wn (by omega) (by omega)) ?_
        refine yi_G_run 1 (78, [(2, .inl (y * (I 88 2))), (3, .inl k), (1, .inl n), (0, .inr (.inr (some 82)))], [], (I101, L, X), 0, 0) (fun _ => rfl) ?_
        refine yi_G_iinc [(3, .inl (k - 1)), (2, .inl (y * (I 88 2))), (1, .inl n), (0, .inr (.inr (some 82)))] rfl rfl rfl (by rw [show yi_w (k + (-1)) = k - 1 from (yi_wn (by omega) (by omega)).trans (by omega)]; rfl) ?_
        refine yi_G_run 1 (60, [(3, .inl (k - 1)), (2, .inl (y * (I 88 2))), (1, .inl n), (0, .inr (.inr (some 82)))], [], (I101, L, X), 0, 0) (fun _ => rfl) ?_
        exact ih60 _ (by omega) (k - 1) (y * (I 88 2)) n I101 (fun p k hp => by rw [← w102, yi_u_ne _ _ (fun z => by omega), fJa p k (by omega)]) (by omega) (by omega) (by omega) (by rw [show (n - 1 - (k - 1)).toNat = (n - 1 - k).toNat + 1 by omega, ym_fn_s (by omega) (by omega) yb, ← hy]) (fun j a b => by
          rw [← w102]
          by_cases e : j = k
          · subst e; rw [yi_u_eq]; omega
          · rw [yi_u_ne _ _ (fun z => e (by omega))]; exact pw j (by omega) b) rfl
    exact pt60 _ (((I 88 0) * (I 88 1)) - 1) 1 ((I 88 0) * (I 88 1)) I56 (fun _ _ _ => rfl) (by omega) (by omega) (by omega) (by rw [show (((I 88 0) * (I 88 1) : Int) - 1 - (((I 88 0) * (I 88 1)) - 1)).toNat = 0 by omega]; rfl) (fun j a b => absurd b (by omega)) rfl
