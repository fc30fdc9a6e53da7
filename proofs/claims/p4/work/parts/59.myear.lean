/-! A year of draws. -/
theorem q_year (D : Nat) (hD : 5 ≤ D) {I L : Nat → Nat → Int} {X : ym_X} (hS : ym_S X) {se tu w : Int} (hLR : ym_LR I) (hS0 : ym_S0 I) (hl : 0 ≤ I 82 25 ∧ I 82 25 ≤ 512) : yi_E zi_Ms D 137 [.inr (.inr (some 82)), .inl se, .inl tu, .inl w] (I, L, X) (fun r => ∃ z I' L', r = (some (.inl z), (I', L', X), 0, 0) ∧ (∀ p k, p ≠ 96 ∧ p ≠ 99 ∧ p ≠ 103 ∧ p ≠ 104 ∧ p ≠ 105 ∧ p ≠ 106 ∧ p ≠ 107 ∧ p ≠ 108 ∧ ¬ (p = 82 ∧ k = 0) ∧ ¬ (p = 82 ∧ k = 34) ∧ ¬ (p = 82 ∧ k = 35) ∧ ¬ (p = 82 ∧ k = 37) ∧ ¬ (p = 82 ∧ k = 40) → I' p k = I p k) ∧ (∀ p k, p ≠ 97 ∧ ¬ (p = 82 ∧ k = 43) → L' p k = L p k)) := by
  obtain ⟨d, rfl⟩ : ∃ d, D = d + 1 := ⟨D - 1, by omega⟩
  refine yi_E_of (M := zi_m137) rfl rfl ?_
  obtain ⟨l0, l1, l2, l3, l4, l5⟩ := id hLR
  obtain ⟨t0, t1, t2, t3, t4⟩ := id hS0
  show yi_G zi_Ms d zi_m137 (0, [(0, .inr (.inr (some 82))), (1, .inl se), (2, .inl tu), (3, .inl w)], [], (I, L, X), 0, 0) _
  refine yi_G_run 2 (2, [(0, .inr (.inr (some 82))), (1, .inl se), (2, .inl tu), (3, .inl w)], [.inl 0, .inr (.inr (some 82))], (I, L, X), 0, 0) (fun _ => rfl) ?_
  refine yi_G_put (5, [(0, .inr (.inr (some 82))), (1, .inl se), (2, .inl tu), (3, .inl w)], [], ((yi_u I 82 0 0), L, X), 0, 0) rfl (ym_pi hS rfl rfl) ?_
  generalize w2 : yi_u I 82 0 0 = I1
  refine yi_G_run 3 (10, [(0, .inr (.inr (some 82))), (1, .inl se), (2, .inl tu), (3, .inl w)], [.inl 9999, .inl 0, .inl se], (I1, L, X), 0, 0) (fun _ => rfl) ?_
  refine yi_G_calls rfl rfl (c_within d (by omega) hS) ?_
  rintro _ (⟨c3, rfl⟩ | ⟨c3, rfl⟩)
  · show yi_G zi_Ms d zi_m137 (13, [(0, .inr (.inr (some 82))), (1, .inl se), (2, .inl tu), (3, .inl w)], [.inl 1], (I1, L, X), 0, 0) _
    refine yi_G_if1 false rfl (by decide) ?_
    refine yi_G_run 3 (20, [(0, .inr (.inr (some 82))), (1, .inl se), (2, .inl tu), (3, .inl w)], [.inl 60, .inl 1, .inl tu], (I1, L, X), 0, 0) (fun _ => rfl) ?_
    refine yi_G_calls rfl rfl (c_within d (by omega) hS) ?_
    rintro _ (⟨c4, rfl⟩ | ⟨c4, rfl⟩)
    · show yi_G zi_Ms d zi_m137 (23, [(0, .inr (.inr (some 82))), (1, .inl se), (2, .inl tu), (3, .inl w)], [.inl 1], (I1, L, X), 0, 0) _
      refine yi_G_if1 false rfl (by decide) ?_
      refine yi_G_run 3 (29, [(0, .inr (.inr (some 82))), (1, .inl se), (2, .inl tu), (3, .inl w)], [.inl 2, .inl 0, .inl w], (I1, L, X), 0, 0) (fun _ => rfl) ?_
      refine yi_G_calls rfl rfl (c_within d (by omega) hS) ?_
      rintro _ (⟨c5, rfl⟩ | ⟨c5, rfl⟩)
      · show yi_G zi_Ms d zi_m137 (32, [(0, .inr (.inr (some 82))), (1, .inl se), (2, .inl tu), (3, .inl w)], [.inl 1], (I1, L, X), 0, 0) _
        refine yi_G_if1 false rfl (by decide) ?_
        refine yi_G_run 1 (36, [(0, .inr (.inr (some 82))), (1, .inl se), (2, .inl tu), (3, .inl w)], [.inr (.inr (some 82))], (I1, L, X), 0, 0) (fun _ => rfl) ?_
        refine yi_G_get (39, [(0, .inr (.inr (some 82))), (1, .inl se), (2, .inl tu), (3, .inl w)], [.inr (.inr (some 88))], (I1, L, X), 0, 0) rfl (ym_gr hS 5 rfl rfl rfl) ?_
        refine yi_G_run 1 (40, [(0, .inr (.inr (some 82))), (1, .inl se), (2, .inl tu), (3, .inl w)], [.inl 3, .inr (.inr (some 88))], (I1, L, X), 0, 0) (fun _ => rfl) ?_
        have r6 : I1 88 3 = I 88 3 := by rw [← w2, yi_u_ne _ _ (by omega)]
        refine yi_G_iald (41, [(0, .inr (.inr (some 82))), (1, .inl se), (2, .inl tu), (3, .inl w)], [.inl (I 88 3)], (I1, L, X), 0, 0) rfl (ym_li hS 5 rfl (by omega) (by omega) r6) ?_
        by_cases h7 : (I 88 3) = 0
        · refine yi_G_if1 true rfl (yi_eq_t h7) ?_
          refine yi_G_run 1 (59, [(0, .inr (.inr (some 82))), (1, .inl se), (2, .inl tu), (3, .inl w)], [.inl (-1)], (I1, L, X), 0, 0) (fun _ => rfl) ?_
          exact yi_G_reti rfl rfl (⟨_, _, _, rfl, (fun p k hp => by rw [← w2, yi_u_ne _ _ (fun z => by omega)]), (fun _ _ _ => rfl)⟩)
        · refine yi_G_if1 false rfl (yi_eq_f h7) ?_
          refine yi_G_run 1 (45, [(0, .inr (.inr (some 82))), (1, .inl se), (2, .inl tu), (3, .inl w)], [.inr (.inr (some 82))], (I1, L, X), 0, 0) (fun _ => rfl) ?_
          have r8 : I1 88 1 = I 88 1 := by rw [← w2, yi_u_ne _ _ (by omega)]
          refine yi_G_callv rfl rfl (ym_rcv hS) rfl (c_people d (by omega) hS r8) ?_
          rintro _ rfl
          show yi_G zi_Ms d zi_m137 (48, [(0, .inr (.inr (some 82))), (1, .inl se), (2, .inl tu), (3, .inl w)], [.inl (I 88 1)], (I1, L, X), 0, 0) _
          by_cases h9 : (I 88 1) = 0
          · refine yi_G_if1 true rfl (yi_eq_t h9) ?_
            refine yi_G_run 1 (59, [(0, .inr (.inr (some 82))), (1, .inl se), (2, .inl tu), (3, .inl w)], [.inl (-1)], (I1, L, X), 0, 0) (fun _ => rfl) ?_
            exact yi_G_reti rfl rfl (⟨_, _, _, rfl, (fun p k hp => by rw [← w2, yi_u_ne _ _ (fun z => by omega)]), (fun _ _ _ => rfl)⟩)
          · refine yi_G_if1 false rfl (yi_eq_f h9) ?_
            refine yi_G_run 1 (52, [(0, .inr (.inr (some 82))), (1, .inl se), (2, .inl tu), (3, .inl w)], [.inr (.inr (some 82))], (I1, L, X), 0, 0) (fun _ => rfl) ?_
            have r10 : I1 88 2 = I 88 2 := by rw [← w2, yi_u_ne _ _ (by omega)]
            refine yi_G_callv rfl rfl (ym_rcv hS) rfl (c_events d (by omega) hS r10) ?_
            rintro _ rfl
            show yi_G zi_Ms d zi_m137 (55, [(0, .inr (.inr (some 82))), (1, .inl se), (2, .inl tu), (3, .inl w)], [.inl (I 88 2)], (I1, L, X), 0, 0) _
            by_cases h11 : (I 88 2) = 0
            · refine yi_G_if1 false rfl (yi_ne_f h11) ?_
              refine yi_G_run 1 (59, [(0, .inr (.inr (some 82))), (1, .inl se), (2, .inl tu), (3, .inl w)], [.inl (-1)], (I1, L, X), 0, 0) (fun _ => rfl) ?_
              exact yi_G_reti rfl rfl (⟨_, _, _, rfl, (fun p k hp => by rw [← w2, yi_u_ne _ _ (fun z => by omega)]), (fun _ _ _ => rfl)⟩)
            · refine yi_G_if1 true rfl (yi_ne_t h11) ?_
              refine yi_G_run 3 (63, [(0, .inr (.inr (some 82))), (1, .inl se), (2, .inl tu), (3, .inl w)], [.inr (.inl se), .inr (.inr (some 82))], (I1, L, X), 0, 0) (fun _ => rfl) ?_
              refine yi_G_put (66, [(0, .inr (.inr (some 82))), (1, .inl se), (2, .inl tu), (3, .inl w)], [], (I1, (yi_u L 82 43 se), X), 0, 0) rfl (ym_plg hS rfl rfl) ?_
              generalize w13 : yi_u L 82 43 se = L12
              refine yi_G_run 1 (67, [(0, .inr (.inr (some 82))), (1, .inl se), (2, .inl tu), (3, .inl w)], [.inr (.inr (some 82))], (I1, L12, X), 0, 0) (fun _ => rfl) ?_
              have r17 : I1 82 25 = I 82 25 := by rw [← w2, yi_u_ne _ _ (by omega)]
              refine yi_G_callv rfl rfl (ym_rcv hS) rfl (c_findLeft d (by omega) hS (ym_LR_t (fun k => by rw [← w2, yi_u_ne _ _ (fun z => absurd z.1 (by decide))]) hLR) (ym_S0_t (fun k => by rw [← w2, yi_u_ne _ _ (fun z => absurd z.1 (by decide))]) hS0) ⟨(by rw [r17]; omega), (by rw [r17]; omega)⟩) ?_
              rintro _ ⟨z16, L14, rfl, f15⟩
              show yi_G zi_Ms d zi_m137 (70, [(0, .inr (.inr (some 82))), (1, .inl se), (2, .inl tu), (3, .inl w)], [.inl z16], (I1, L14, X), 0, 0) _
              refine yi_G_run 5 (77, [(5, .inl 0), (4, .inl 0), (0, .inr (.inr (some 82))), (1, .inl se), (2, .inl tu), (3, .inl w)], [], (I1, L14, X), 0, 0) (fun _ => rfl) ?_
              have pt77 : ∀ (m : Nat) (k : Int) (Ja : Nat → Nat → Int), (∀ p k, p ≠ 108 → Ja p k = I1 p k) → (0 ≤ k) → (k ≤ 5) → (5 - k).toNat = m → yi_G zi_Ms d zi_m137 (77, [(5, .inl k), (4, .inl 0), (0, .inr (.inr (some 82))), (1, .inl se), (2, .inl tu), (3, .inl w)], [], (Ja, L14, X), 0, 0) (fun r => ∃ z I' L', r = (some (.inl z), (I', L', X), 0, 0) ∧ (∀ p k, p ≠ 96 ∧ p ≠ 99 ∧ p ≠ 103 ∧ p ≠ 104 ∧ p ≠ 105 ∧ p ≠ 106 ∧ p ≠ 107 ∧ p ≠ 108 ∧ ¬ (p = 82 ∧ k = 0) ∧ ¬ (p = 82 ∧ k = 34) ∧ ¬ (p = 82 ∧ k = 35) ∧ ¬ (p = 82 ∧ k = 37) ∧ ¬ (p = 82 ∧ k = 40) → I' p k = I p k) ∧ (∀ p k, p ≠ 97 ∧ ¬ (p = 82 ∧ k = 43) → L' p k = L p k)) := by
                intro m77
                induction m77 using Nat.strongRecOn with
                | _ m77 ih77 =>
                intro k Ja fJa k0 k1 hm77
                refine yi_G_run 2 (80, [(5, .inl k), (4, .inl 0), (0, .inr (.inr (some 82))), (1, .inl se), (2, .inl tu), (3, .inl w)], [.inl 5, .inl k], (Ja, L14, X), 0, 0) (fun _ => rfl) ?_
                by_cases h18 : 5 ≤ k
                · refine yi_G_if2 true rfl (yi_ge_t h18) ?_
                  refine yi_G_run 2 (100, [(5, .inl 0), (4, .inl 0), (0, .inr (.inr (some 82))), (1, .inl se), (2, .inl tu), (3, .inl w)], [], (Ja, L14, X), 0, 0) (fun _ => rfl) ?_
                  have pt100 : ∀ (m : Nat) (t : Int) (to : Int) (Jb : Nat → Nat → Int) (Ka : Nat → Nat → Int), (∀ p k, p ≠ 108 → Jb p k = Ja p k) → (∀ p k, p ≠ 97 ∧ ¬ (p = 82 ∧ k = 43) → Ka p k = L14 p k) → (0 ≤ t) → (t ≤ tu) → (0 ≤ to ∧ to ≤ t) → (0 ≤ Ka 82 43 ∧ Ka 82 43 < 2147483648) → (tu - t).toNat = m → yi_G zi_Ms d zi_m137 (100, [(5, .inl t), (4, .inl to), (0, .inr (.inr (some 82))), (1, .inl se), (2, .inl tu), (3, .inl w)], [], (Jb, Ka, X), 0, 0) (fun r => ∃ z I' L', r = (some (.inl z), (I', L', X), 0, 0) ∧ (∀ p k, p ≠ 96 ∧ p ≠ 99 ∧ p ≠ 103 ∧ p ≠ 104 ∧ p ≠ 105 ∧ p ≠ 106 ∧ p ≠ 107 ∧ p ≠ 108 ∧ ¬ (p = 82 ∧ k = 0) ∧ ¬ (p = 82 ∧ k = 34) ∧ ¬ (p = 82 ∧ k = 35) ∧ ¬ (p = 82 ∧ k = 37) ∧ ¬ (p = 82 ∧ k = 40) → I' p k = I p k) ∧ (∀ p k, p ≠ 97 ∧ ¬ (p = 82 ∧ k = 43) → L' p k = L p k)) := by
                    intro m100
                    induction m100 using Nat.strongRecOn with
                    | _ m100 ih100 =>
                    intro t to Jb Ka fJb fKa tt0 tt1 to0 gg hm100
                    refine yi_G_run 2 (103, [(5, .inl t), (4, .inl to), (0, .inr (.inr (some 82))), (1, .inl se), (2, .inl tu), (3, .inl w)], [.inl tu, .inl t], (Jb, Ka, X), 0, 0) (fun _ => rfl) ?_
                    by_cases h19 : tu ≤ t
                    · refine yi_G_if2 true rfl (yi_ge_t h19) ?_
                      refine yi_G_run 4 (213, [(6, .inl 1), (5, .inl 0), (4, .inl to), (0, .inr (.inr (some 82))), (1, .inl se), (2, .inl tu), (3, .inl w)], [], (Jb, Ka, X), 0, 0) (fun _ => rfl) ?_
                      have pt213 : ∀ (m : Nat) (k : Int) (mo : Int), (1 ≤ k) → (k ≤ 5) → (0 ≤ mo ∧ mo ≤ 4) → (5 - k).toNat = m → yi_G zi_Ms d zi_m137 (213, [(6, .inl k), (5, .inl mo), (4, .inl to), (0, .inr (.inr (some 82))), (1, .inl se), (2, .inl tu), (3, .inl w)], [], (Jb, Ka, X), 0, 0) (fun r => ∃ z I' L', r = (some (.inl z), (I', L', X), 0, 0) ∧ (∀ p k, p ≠ 96 ∧ p ≠ 99 ∧ p ≠ 103 ∧ p ≠ 104 ∧ p ≠ 105 ∧ p ≠ 106 ∧ p ≠ 107 ∧ p ≠ 108 ∧ ¬ (p = 82 ∧ k = 0) ∧ ¬ (p = 82 ∧ k = 34) ∧ ¬ (p = 82 ∧ k = 35) ∧ ¬ (p = 82 ∧ k = 37) ∧ ¬ (p = 82 ∧ k = 40) → I' p k = I p k) ∧ (∀ p k, p ≠ 97 ∧ ¬ (p = 82 ∧ k = 43) → L' p k = L p k)) := by
                        intro m213
                        induction m213 using Nat.strongRecOn with
                        | _ m213 ih213 =>
                        intro k mo k2 k3 mo0 hm213
                        refine yi_G_run 2 (216, [(6, .inl k), (5, .inl mo), (4, .inl to), (0, .inr (.inr (some 82))), (1, .inl se), (2, .inl tu), (3, .inl w)], [.inl 5, .inl k], (Jb, Ka, X), 0, 0) (fun _ => rfl) ?_
                        by_cases h20 : 5 ≤ k
                        · refine yi_G_if2 true rfl (yi_ge_t h20) ?_
                          refine yi_G_run 1 (252, [(6, .inl k), (5, .inl mo), (4, .inl to), (0, .inr (.inr (some 82))), (1, .inl se), (2, .inl tu), (3, .inl w)], [.inl w], (Jb, Ka, X), 0, 0) (fun _ => rfl) ?_
                          by_cases h21 : w = 0
                          · refine yi_G_if1 false rfl (yi_ne_f h21) ?_
                            refine yi_G_run 2 (276, [(6, .inl k), (5, .inl mo), (4, .inl to), (0, .inr (.inr (some 82))), (1, .inl se), (2, .inl tu), (3, .inl w)], [.inl to], (Jb, Ka, X), 0, 0) (fun _ => rfl) ?_
                            exact yi_G_reti rfl rfl (⟨_, _, _, rfl, (fun p k hp => by rw [fJb p k (by omega), fJa p k (by omega), ← w2, yi_u_ne _ _ (fun z => by omega)]), (fun p k hp => by rw [fKa p k (by omega), f15 p k (by omega), ← w13, yi_u_ne _ _ (fun z => by omega)])⟩)
                          · refine yi_G_if1 true rfl (yi_ne_t h21) ?_
                            refine yi_G_run 2 (262, [(6, .inl k), (5, .inl mo), (4, .inl to), (0, .inr (.inr (some 82))), (1, .inl se), (2, .inl tu), (3, .inl w)], [.inl 1, .inl w], (Jb, Ka, X), 0, 0) (fun _ => rfl) ?_
                            by_cases h22 : w = 1
                            · refine yi_G_if2 false rfl (yi_ne_f h22) ?_
                              refine yi_G_run 2 (268, [(6, .inl k), (5, .inl mo), (4, .inl to), (0, .inr (.inr (some 82))), (1, .inl se), (2, .inl tu), (3, .inl w)], [.inl 39, .inr (.inr (some 82))], (Jb, Ka, X), 0, 0) (fun _ => rfl) ?_
                              have r23 : Jb 82 25 = I 82 25 := by rw [fJb 82 (25) (by omega), fJa 82 (25) (by omega), ← w2, yi_u_ne _ _ (by omega)]
                              refine yi_G_callv rfl rfl (ym_rcv hS) rfl (w_many (by omega) hS (by omega) (by omega) (by rw [r23]; omega) (by rw [r23]; omega)) ?_
                              rintro _ ⟨z24, rfl⟩
                              show yi_G zi_Ms d zi_m137 (271, [(6, .inl k), (5, .inl mo), (4, .inl to), (0, .inr (.inr (some 82))), (1, .inl se), (2, .inl tu), (3, .inl w)], [.inl z24], (Jb, Ka, X), 0, 0) _
                              refine yi_G_run 1 (276, [(6, .inl k), (5, .inl mo), (4, .inl to), (0, .inr (.inr (some 82))), (1, .inl se), (2, .inl tu), (3, .inl w)], [.inl z24], (Jb, Ka, X), 0, 0) (fun _ => rfl) ?_
                              exact yi_G_reti rfl rfl (⟨_, _, _, rfl, (fun p k hp => by rw [fJb p k (by omega), fJa p k (by omega), ← w2, yi_u_ne _ _ (fun z => by omega)]), (fun p k hp => by rw [fKa p k (by omega), f15 p k (by omega), ← w13, yi_u_ne _ _ (fun z => by omega)])⟩)
                            · refine yi_G_if2 true rfl (yi_ne_t h22) ?_
                              refine yi_G_run 1 (276, [(6, .inl k), (5, .inl mo), (4, .inl to), (0, .inr (.inr (some 82))), (1, .inl se), (2, .inl tu), (3, .inl w)], [.inl mo], (Jb, Ka, X), 0, 0) (fun _ => rfl) ?_
                              exact yi_G_reti rfl rfl (⟨_, _, _, rfl, (fun p k hp => by rw [fJb p k (by omega), fJa p k (by omega), ← w2, yi_u_ne _ _ (fun z => by omega)]), (fun p k hp => by rw [fKa p k (by omega), f15 p k (by omega), ← w13, yi_u_ne _ _ (fun z => by omega)])⟩)
                        · refine yi_G_if2 false rfl (yi_ge_f h20) ?_
                          refine yi_G_run 1 (220, [(6, .inl k), (5, .inl mo), (4, .inl to), (0, .inr (.inr (some 82))), (1, .inl se), (2, .inl tu), (3, .inl w)], [.inr (.inr (some 82))], (Jb, Ka, X), 0, 0) (fun _ => rfl) ?_
                          refine yi_G_get (223, [(6, .inl k), (5, .inl mo), (4, .inl to), (0, .inr (.inr (some 82))), (1, .inl se), (2, .inl tu), (3, .inl w)], [.inr (.inr (some 108))], (Jb, Ka, X), 0, 0) rfl (ym_gr hS 25 rfl rfl rfl) ?_
                          refine yi_G_run 1 (225, [(6, .inl k), (5, .inl mo), (4, .inl to), (0, .inr (.inr (some 82))), (1, .inl se), (2, .inl tu), (3, .inl w)], [.inl k, .inr (.inr (some 108))], (Jb, Ka, X), 0, 0) (fun _ => rfl) ?_
                          refine yi_G_iald (226, [(6, .inl k), (5, .inl mo), (4, .inl to), (0, .inr (.inr (some 82))), (1, .inl se), (2, .inl tu), (3, .inl w)], [.inl (Jb 108 (k.toNat))], (Jb, Ka, X), 0, 0) rfl (ym_li hS 25 rfl (by omega) (by omega) rfl) ?_
                          refine yi_G_run 1 (227, [(6, .inl k), (5, .inl mo), (4, .inl to), (0, .inr (.inr (some 82))), (1, .inl se), (2, .inl tu), (3, .inl w)], [.inr (.inr (some 82)), .inl (Jb 108 (k.toNat))], (Jb, Ka, X), 0, 0) (fun _ => rfl) ?_
                          refine yi_G_get (230, [(6, .inl k), (5, .inl mo), (4, .inl to), (0, .inr (.inr (some 82))), (1, .inl se), (2, .inl tu), (3, .inl w)], [.inr (.inr (some 108)), .inl (Jb 108 (k.toNat))], (Jb, Ka, X), 0, 0) rfl (ym_gr hS 25 rfl rfl rfl) ?_
                          refine yi_G_run 1 (232, [(6, .inl k), (5, .inl mo), (4, .inl to), (0, .inr (.inr (some 82))), (1, .inl se), (2, .inl tu), (3, .inl w)], [.inl mo, .inr (.inr (some 108)), .inl (Jb 108 (k.toNat))], (Jb, Ka, X), 0, 0) (fun _ => rfl) ?_
                          refine yi_G_iald (233, [(6, .inl k), (5, .inl mo), (4, .inl to), (0, .inr (.inr (some 82))), (1, .inl se), (2, .inl tu), (3, .inl w)], [.inl (Jb 108 (mo.toNat)), .inl (Jb 108 (k.toNat))], (Jb, Ka, X), 0, 0) rfl (ym_li hS 25 rfl (by omega) (by omega) rfl) ?_
                          by_cases h25 : (Jb 108 (k.toNat)) ≤ (Jb 108 (mo.toNat))
                          · refine yi_G_if2 true rfl (yi_le_t h25) ?_
                            refine yi_G_run 2 (245, [(5, .inl mo), (6, .inl k), (4, .inl to), (0, .inr (.inr (some 82))), (1, .inl se), (2, .inl tu), (3, .inl w)], [], (Jb, Ka, X), 0, 0) (fun _ => rfl) ?_
                            refine yi_G_iinc [(6, .inl (k + 1)), (5, .inl mo), (4, .inl to), (0, .inr (.inr (some 82))), (1, .inl se), (2, .inl tu), (3, .inl w)] rfl rfl rfl (by rw [show yi_w (k + 1) = k + 1 from (yi_wn (by omega) (by omega)).trans (by omega)]; rfl) ?_
                            refine yi_G_run 1 (213, [(6, .inl (k + 1)), (5, .inl mo), (4, .inl to), (0, .inr (.inr (some 82))), (1, .inl se), (2, .inl tu), (3, .inl w)], [], (Jb, Ka, X), 0, 0) (fun _ => rfl) ?_
                            exact ih213 _ (by omega) (k + 1) mo (by omega) (by omega) (by omega) rfl
                          · refine yi_G_if2 false rfl (yi_le_f h25) ?_
                            refine yi_G_run 3 (245, [(5, .inl k), (6, .inl k), (4, .inl to), (0, .inr (.inr (some 82))), (1, .inl se), (2, .inl tu), (3, .inl w)], [], (Jb, Ka, X), 0, 0) (fun _ => rfl) ?_
                            refine yi_G_iinc [(6, .inl (k + 1)), (5, .inl k), (4, .inl to), (0, .inr (.inr (some 82))), (1, .inl se), (2, .inl tu), (3, .inl w)] rfl rfl rfl (by rw [show yi_w (k + 1) = k + 1 from (yi_wn (by omega) (by omega)).trans (by omega)]; rfl) ?_
                            refine yi_G_run 1 (213, [(6, .inl (k + 1)), (5, .inl k), (4, .inl to), (0, .inr (.inr (some 82))), (1, .inl se), (2, .inl tu), (3, .inl w)], [], (Jb, Ka, X), 0, 0) (fun _ => rfl) ?_
                            exact ih213 _ (by omega) (k + 1) k (by omega) (by omega) (by omega) rfl
                      exact pt213 _ 1 0 (by omega) (by omega) (by omega) rfl
                    · refine yi_G_if2 false rfl (yi_ge_f h19) ?_
                      refine yi_G_run 2 (108, [(5, .inl t), (4, .inl to), (0, .inr (.inr (some 82))), (1, .inl se), (2, .inl tu), (3, .inl w)], [.inr (.inr (some 82)), .inr (.inr (some 82))], (Jb, Ka, X), 0, 0) (fun _ => rfl) ?_
                      refine yi_G_get (111, [(5, .inl t), (4, .inl to), (0, .inr (.inr (some 82))), (1, .inl se), (2, .inl tu), (3, .inl w)], [.inr (.inr (some 88)), .inr (.inr (some 82))], (Jb, Ka, X), 0, 0) rfl (ym_gr hS 5 rfl rfl rfl) ?_
                      refine yi_G_run 1 (112, [(5, .inl t), (4, .inl to), (0, .inr (.inr (some 82))), (1, .inl se), (2, .inl tu), (3, .inl w)], [.inl 3, .inr (.inr (some 88)), .inr (.inr (some 82))], (Jb, Ka, X), 0, 0) (fun _ => rfl) ?_
                      have r26 : Jb 88 3 = I 88 3 := by rw [fJb 88 (3) (by omega), fJa 88 (3) (by omega), ← w2, yi_u_ne _ _ (by omega)]
                      refine yi_G_iald (113, [(5, .inl t), (4, .inl to), (0, .inr (.inr (some 82))), (1, .inl se), (2, .inl tu), (3, .inl w)], [.inl (I 88 3), .inr (.inr (some 82))], (Jb, Ka, X), 0, 0) rfl (ym_li hS 5 rfl (by omega) (by omega) r26) ?_
                      refine yi_G_callv rfl rfl (ym_rcv hS) rfl (w_draw (by omega) hS (by omega) (by omega) ⟨(by omega), (by omega)⟩) ?_
                      rintro _ ⟨z29, L27, rfl, h30, g31, f28⟩
                      show yi_G zi_Ms d zi_m137 (116, [(5, .inl t), (4, .inl to), (0, .inr (.inr (some 82))), (1, .inl se), (2, .inl tu), (3, .inl w)], [.inl z29], (Jb, L27, X), 0, 0) _
                      refine yi_G_run 4 (121, [(6, .inl z29), (5, .inl t), (4, .inl to), (0, .inr (.inr (some 82))), (1, .inl se), (2, .inl tu), (3, .inl w)], [.inr (.inr (some 82)), .inr (.inr (some 82)), .inl 1], (Jb, L27, X), 0, 0) (fun _ => rfl) ?_
                      have r32 : Jb 88 0 = I 88 0 := by rw [fJb 88 (0) (by omega), fJa 88 (0) (by omega), ← w2, yi_u_ne _ _ (by omega)]
                      refine yi_G_callv rfl rfl (ym_rcv hS) rfl (c_days d (by omega) hS r32) ?_
                      rintro _ rfl
                      show yi_G zi_Ms d zi_m137 (124, [(6, .inl z29), (5, .inl t), (4, .inl to), (0, .inr (.inr (some 82))), (1, .inl se), (2, .inl tu), (3, .inl w)], [.inl (I 88 0), .inr (.inr (some 82)), .inl 1], (Jb, L27, X), 0, 0) _
                      refine yi_G_callv rfl rfl (ym_rcv hS) rfl (w_draw (by omega) hS (by omega) (by omega) ⟨(by omega), (by omega)⟩) ?_
                      rintro _ ⟨z35, L33, rfl, h36, g37, f34⟩
                      show yi_G zi_Ms d zi_m137 (127, [(6, .inl z29), (5, .inl t), (4, .inl to), (0, .inr (.inr (some 82))), (1, .inl se), (2, .inl tu), (3, .inl w)], [.inl z35, .inl 1], (Jb, L33, X), 0, 0) _
                      refine yi_G_iadd rfl (1 + z35) (yi_wn (by omega) (by omega)) ?_
                      refine yi_G_run 3 (132, [(7, .inl (1 + z35)), (6, .inl z29), (5, .inl t), (4, .inl to), (0, .inr (.inr (some 82))), (1, .inl se), (2, .inl tu), (3, .inl w)], [.inr (.inr (some 82)), .inr (.inr (some 82))], (Jb, L33, X), 0, 0) (fun _ => rfl) ?_
                      have r38 : Jb 88 1 = I 88 1 := by rw [fJb 88 (1) (by omega), fJa 88 (1) (by omega), ← w2, yi_u_ne _ _ (by omega)]
                      refine yi_G_callv rfl rfl (ym_rcv hS) rfl (c_people d (by omega) hS r38) ?_
                      rintro _ rfl
                      show yi_G zi_Ms d zi_m137 (135, [(7, .inl (1 + z35)), (6, .inl z29), (5, .inl t), (4, .inl to), (0, .inr (.inr (some 82))), (1, .inl se), (2, .inl tu), (3, .inl w)], [.inl (I 88 1), .inr (.inr (some 82))], (Jb, L33, X), 0, 0) _
                      refine yi_G_callv rfl rfl (ym_rcv hS) rfl (w_draw (by omega) hS (by omega) (by omega) ⟨(by omega), (by omega)⟩) ?_
                      rintro _ ⟨z41, L39, rfl, h42, g43, f40⟩
                      show yi_G zi_Ms d zi_m137 (138, [(7, .inl (1 + z35)), (6, .inl z29), (5, .inl t), (4, .inl to), (0, .inr (.inr (some 82))), (1, .inl se), (2, .inl tu), (3, .inl w)], [.inl z41], (Jb, L39, X), 0, 0) _
                      refine yi_G_run 3 (142, [(8, .inl z41), (7, .inl (1 + z35)), (6, .inl z29), (5, .inl t), (4, .inl to), (0, .inr (.inr (some 82))), (1, .inl se), (2, .inl tu), (3, .inl w)], [.inr (.inr (some 82)), .inr (.inr (some 82))], (Jb, L39, X), 0, 0) (fun _ => rfl) ?_
                      have r44 : Jb 88 2 = I 88 2 := by rw [fJb 88 (2) (by omega), fJa 88 (2) (by omega), ← w2, yi_u_ne _ _ (by omega)]
                      refine yi_G_callv rfl rfl (ym_rcv hS) rfl (c_events d (by omega) hS r44) ?_
                      rintro _ rfl
                      show yi_G zi_Ms d zi_m137 (145, [(8, .inl z41), (7, .inl (1 + z35)), (6, .inl z29), (5, .inl t), (4, .inl to), (0, .inr (.inr (some 82))), (1, .inl se), (2, .inl tu), (3, .inl w)], [.inl (I 88 2), .inr (.inr (some 82))], (Jb, L39, X), 0, 0) _
                      refine yi_G_callv rfl rfl (ym_rcv hS) rfl (w_draw (by omega) hS (by omega) (by omega) ⟨(by omega), (by omega)⟩) ?_
                      rintro _ ⟨z47, L45, rfl, h48, g49, f46⟩
                      show yi_G zi_Ms d zi_m137 (148, [(8, .inl z41), (7, .inl (1 + z35)), (6, .inl z29), (5, .inl t), (4, .inl to), (0, .inr (.inr (some 82))), (1, .inl se), (2, .inl tu), (3, .inl w)], [.inl z47], (Jb, L45, X), 0, 0) _
                      refine yi_G_run 8 (162, [(9, .inl z47), (8, .inl z41), (7, .inl (1 + z35)), (6, .inl z29), (5, .inl t), (4, .inl to), (0, .inr (.inr (some 82))), (1, .inl se), (2, .inl tu), (3, .inl w)], [.inl z29, .inr (.inr (some 82)), .inl z47, .inl (1 + z35), .inl z41, .inl 38, .inr (.inr (some 82))], (Jb, L45, X), 0, 0) (fun _ => rfl) ?_
                      refine yi_G_callv rfl rfl (ym_rcv hS) rfl (c_kindOf d (by omega) hS (by omega) (by omega)) ?_
                      rintro _ rfl
                      show yi_G zi_Ms d zi_m137 (165, [(9, .inl z47), (8, .inl z41), (7, .inl (1 + z35)), (6, .inl z29), (5, .inl t), (4, .inl to), (0, .inr (.inr (some 82))), (1, .inl se), (2, .inl tu), (3, .inl w)], [.inl (Jb 88 (11 + 2 * z29).toNat), .inl z47, .inl (1 + z35), .inl z41, .inl 38, .inr (.inr (some 82))], (Jb, L45, X), 0, 0) _
                      have r52 : Jb 82 25 = I 82 25 := by rw [fJb 82 (25) (by omega), fJa 82 (25) (by omega), ← w2, yi_u_ne _ _ (by omega)]
                      refine yi_G_callv rfl rfl (ym_rcv hS) rfl (c_laysWord d (by omega) hS (ym_LR_t (fun k => by rw [fJb 88 k (by omega), fJa 88 k (by omega), ← w2, yi_u_ne _ _ (fun z => absurd z.1 (by decide))]) hLR) (by omega) (by omega) (by omega) (by omega) (by omega) (by omega) (by omega) (by omega) ⟨(by rw [r52]; omega), (by rw [r52]; omega)⟩) ?_
                      rintro _ ⟨L50, rfl, f51⟩
                      show yi_G zi_Ms d zi_m137 (168, [(9, .inl z47), (8, .inl z41), (7, .inl (1 + z35)), (6, .inl z29), (5, .inl t), (4, .inl to), (0, .inr (.inr (some 82))), (1, .inl se), (2, .inl tu), (3, .inl w)], [], (Jb, L50, X), 0, 0) _
                      refine yi_G_run 3 (173, [(9, .inl z47), (8, .inl z41), (7, .inl (1 + z35)), (6, .inl z29), (5, .inl t), (4, .inl to), (0, .inr (.inr (some 82))), (1, .inl se), (2, .inl tu), (3, .inl w)], [.inl 38, .inl 39, .inr (.inr (some 82))], (Jb, L50, X), 0, 0) (fun _ => rfl) ?_
                      have r53 : Jb 82 25 = I 82 25 := by rw [fJb 82 (25) (by omega), fJa 82 (25) (by omega), ← w2, yi_u_ne _ _ (by omega)]
                      refine yi_G_callv rfl rfl (ym_rcv hS) rfl (w_isAny (by omega) hS (by omega) (by omega) (by omega) (by omega) (by rw [r53]; omega) (by rw [r53]; omega)) ?_
                      rintro _ (rfl | rfl)
                      · show yi_G zi_Ms d zi_m137 (176, [(9, .inl z47), (8, .inl z41), (7, .inl (1 + z35)), (6, .inl z29), (5, .inl t), (4, .inl to), (0, .inr (.inr (some 82))), (1, .inl se), (2, .inl tu), (3, .inl w)], [.inl 1], (Jb, L50, X), 0, 0) _
                        refine yi_G_if1 false rfl (by decide) ?_
                        refine yi_G_run 3 (184, [(9, .inl z47), (8, .inl z41), (7, .inl (1 + z35)), (6, .inl z29), (5, .inl t), (4, .inl to), (0, .inr (.inr (some 82))), (1, .inl se), (2, .inl tu), (3, .inl w)], [.inl 38, .inl 39, .inr (.inr (some 82))], (Jb, L50, X), 0, 0) (fun _ => rfl) ?_
                        have r54 : Jb 82 25 = I 82 25 := by rw [fJb 82 (25) (by omega), fJa 82 (25) (by omega), ← w2, yi_u_ne _ _ (by omega)]
                        refine yi_G_callv rfl rfl (ym_rcv hS) rfl (w_meets (by omega) hS (by omega) (by omega) (by omega) (by omega) (by rw [r54]; omega) (by rw [r54]; omega)) ?_
                        rintro _ ⟨L55, rfl, f56⟩
                        show yi_G zi_Ms d zi_m137 (187, [(9, .inl z47), (8, .inl z41), (7, .inl (1 + z35)), (6, .inl z29), (5, .inl t), (4, .inl to), (0, .inr (.inr (some 82))), (1, .inl se), (2, .inl tu), (3, .inl w)], [], (Jb, L55, X), 0, 0) _
                        refine yi_G_run 1 (188, [(9, .inl z47), (8, .inl z41), (7, .inl (1 + z35)), (6, .inl z29), (5, .inl t), (4, .inl to), (0, .inr (.inr (some 82))), (1, .inl se), (2, .inl tu), (3, .inl w)], [.inr (.inr (some 82))], (Jb, L55, X), 0, 0) (fun _ => rfl) ?_
                        refine yi_G_get (191, [(9, .inl z47), (8, .inl z41), (7, .inl (1 + z35)), (6, .inl z29), (5, .inl t), (4, .inl to), (0, .inr (.inr (some 82))), (1, .inl se), (2, .inl tu), (3, .inl w)], [.inr (.inr (some 108))], (Jb, L55, X), 0, 0) rfl (ym_gr hS 25 rfl rfl rfl) ?_
                        refine yi_G_run 2 (194, [(9, .inl z47), (8, .inl z41), (7, .inl (1 + z35)), (6, .inl z29), (5, .inl t), (4, .inl to), (0, .inr (.inr (some 82))), (1, .inl se), (2, .inl tu), (3, .inl w)], [.inl z29, .inr (.inr (some 108)), .inl z29, .inr (.inr (some 108))], (Jb, L55, X), 0, 0) (fun _ => rfl) ?_
                        refine yi_G_iald (195, [(9, .inl z47), (8, .inl z41), (7, .inl (1 + z35)), (6, .inl z29), (5, .inl t), (4, .inl to), (0, .inr (.inr (some 82))), (1, .inl se), (2, .inl tu), (3, .inl w)], [.inl (Jb 108 (z29.toNat)), .inl z29, .inr (.inr (some 108))], (Jb, L55, X), 0, 0) rfl (ym_li hS 25 rfl (by omega) (by omega) rfl) ?_
                        refine yi_G_run 2 (197, [(9, .inl z47), (8, .inl z41), (7, .inl (1 + z35)), (6, .inl z29), (5, .inl t), (4, .inl to), (0, .inr (.inr (some 82))), (1, .inl se), (2, .inl tu), (3, .inl w)], [.inl (yi_w ((Jb 108 (z29.toNat)) + 1)), .inl z29, .inr (.inr (some 108))], (Jb, L55, X), 0, 0) (fun _ => rfl) ?_
                        refine yi_G_iast (198, [(9, .inl z47), (8, .inl z41), (7, .inl (1 + z35)), (6, .inl z29), (5, .inl t), (4, .inl to), (0, .inr (.inr (some 82))), (1, .inl se), (2, .inl tu), (3, .inl w)], [], ((yi_u Jb 108 (z29.toNat) (yi_w ((Jb 108 (z29.toNat)) + 1))), L55, X), 0, 0) rfl (ym_si hS 25 rfl (by omega) (by omega)) ?_
                        generalize w58 : yi_u Jb 108 (z29.toNat) (yi_w ((Jb 108 (z29.toNat)) + 1)) = I57
                        refine yi_G_iinc [(4, .inl (to + 1)), (9, .inl z47), (8, .inl z41), (7, .inl (1 + z35)), (6, .inl z29), (5, .inl t), (0, .inr (.inr (some 82))), (1, .inl se), (2, .inl tu), (3, .inl w)] rfl rfl rfl (by rw [show yi_w (to + 1) = to + 1 from (yi_wn (by omega) (by omega)).trans (by omega)]; rfl) ?_
                        refine yi_G_iinc [(5, .inl (t + 1)), (4, .inl (to + 1)), (9, .inl z47), (8, .inl z41), (7, .inl (1 + z35)), (6, .inl z29), (0, .inr (.inr (some 82))), (1, .inl se), (2, .inl tu), (3, .inl w)] rfl rfl rfl (by rw [show yi_w (t + 1) = t + 1 from (yi_wn (by omega) (by omega)).trans (by omega)]; rfl) ?_
                        refine yi_G_run 1 (100, [(5, .inl (t + 1)), (4, .inl (to + 1)), (9, .inl z47), (8, .inl z41), (7, .inl (1 + z35)), (6, .inl z29), (0, .inr (.inr (some 82))), (1, .inl se), (2, .inl tu), (3, .inl w)], [], (I57, L55, X), 0, 0) (fun _ => rfl) ?_
                        refine yi_G_al (al := [(5, .inl (t + 1)), (4, .inl (to + 1)), (0, .inr (.inr (some 82))), (1, .inl se), (2, .inl tu), (3, .inl w)]) (show ([5, 4, 0, 1, 2, 3] : List Nat).Nodup by decide) (show ([5, 4, 9, 8, 7, 6, 0, 1, 2, 3] : List Nat).Nodup by decide) (yi_mc (List.mem_of_getElem? (i := 0) rfl) (yi_mc (List.mem_of_getElem? (i := 1) rfl) (yi_mc (List.mem_of_getElem? (i := 6) rfl) (yi_mc (List.mem_of_getElem? (i := 7) rfl) (yi_mc (List.mem_of_getElem? (i := 8) rfl) (yi_mc (List.mem_of_getElem? (i := 9) rfl) yi_mn)))))) ?_
                        exact ih100 _ (by omega) (t + 1) (to + 1) I57 L55 (fun p k hp => by rw [← w58, yi_u_ne _ _ (fun z => by omega), fJb p k (by omega)]) (fun p k hp => by rw [f56 p k (by omega), f51 p k (by omega), f46 p k (by omega), f40 p k (by omega), f34 p k (by omega), f28 p k (by omega), fKa p k (by omega)]) (by omega) (by omega) (by omega) ⟨(by rw [f56 82 43 (by omega), f51 82 43 (by omega)]; omega), (by rw [f56 82 43 (by omega), f51 82 43 (by omega)]; omega)⟩ rfl
                      · show yi_G zi_Ms d zi_m137 (176, [(9, .inl z47), (8, .inl z41), (7, .inl (1 + z35)), (6, .inl z29), (5, .inl t), (4, .inl to), (0, .inr (.inr (some 82))), (1, .inl se), (2, .inl tu), (3, .inl w)], [.inl 0], (Jb, L50, X), 0, 0) _
                        refine yi_G_if1 true rfl (by decide) ?_
                        refine yi_G_iinc [(5, .inl (t + 1)), (9, .inl z47), (8, .inl z41), (7, .inl (1 + z35)), (6, .inl z29), (4, .inl to), (0, .inr (.inr (some 82))), (1, .inl se), (2, .inl tu), (3, .inl w)] rfl rfl rfl (by rw [show yi_w (t + 1) = t + 1 from (yi_wn (by omega) (by omega)).trans (by omega)]; rfl) ?_
                        refine yi_G_run 1 (100, [(5, .inl (t + 1)), (9, .inl z47), (8, .inl z41), (7, .inl (1 + z35)), (6, .inl z29), (4, .inl to), (0, .inr (.inr (some 82))), (1, .inl se), (2, .inl tu), (3, .inl w)], [], (Jb, L50, X), 0, 0) (fun _ => rfl) ?_
                        refine yi_G_al (al := [(5, .inl (t + 1)), (4, .inl to), (0, .inr (.inr (some 82))), (1, .inl se), (2, .inl tu), (3, .inl w)]) (show ([5, 4, 0, 1, 2, 3] : List Nat).Nodup by decide) (show ([5, 9, 8, 7, 6, 4, 0, 1, 2, 3] : List Nat).Nodup by decide) (yi_mc (List.mem_of_getElem? (i := 0) rfl) (yi_mc (List.mem_of_getElem? (i := 5) rfl) (yi_mc (List.mem_of_getElem? (i := 6) rfl) (yi_mc (List.mem_of_getElem? (i := 7) rfl) (yi_mc (List.mem_of_getElem? (i := 8) rfl) (yi_mc (List.mem_of_getElem? (i := 9) rfl) yi_mn)))))) ?_
                        exact ih100 _ (by omega) (t + 1) to Jb L50 (fun p k hp => by rw [fJb p k (by omega)]) (fun p k hp => by rw [f51 p k (by omega), f46 p k (by omega), f40 p k (by omega), f34 p k (by omega), f28 p k (by omega), fKa p k (by omega)]) (by omega) (by omega) (by omega) ⟨(by rw [f51 82 43 (by omega)]; omega), (by rw [f51 82 43 (by omega)]; omega)⟩ rfl
                  exact pt100 _ 0 0 Ja L14 (fun _ _ _ => rfl) (fun _ _ _ => rfl) (by omega) (by omega) (by omega) ⟨(by rw [f15 82 43 (by omega), ← w13, yi_u_eq]; omega), (by rw [f15 82 43 (by omega), ← w13, yi_u_eq]; omega)⟩ rfl
                · refine yi_G_if2 false rfl (yi_ge_f h18) ?_
                  refine yi_G_run 1 (84, [(5, .inl k), (4, .inl 0), (0, .inr (.inr (some 82))), (1, .inl se), (2, .inl tu), (3, .inl w)], [.inr (.inr (some 82))], (Ja, L14, X), 0, 0) (fun _ => rfl) ?_
                  refine yi_G_get (87, [(5, .inl k), (4, .inl 0), (0, .inr (.inr (some 82))), (1, .inl se), (2, .inl tu), (3, .inl w)], [.inr (.inr (some 108))], (Ja, L14, X), 0, 0) rfl (ym_gr hS 25 rfl rfl rfl) ?_
                  refine yi_G_run 2 (90, [(5, .inl k), (4, .inl 0), (0, .inr (.inr (some 82))), (1, .inl se), (2, .inl tu), (3, .inl w)], [.inl 0, .inl k, .inr (.inr (some 108))], (Ja, L14, X), 0, 0) (fun _ => rfl) ?_
                  refine yi_G_iast (91, [(5, .inl k), (4, .inl 0), (0, .inr (.inr (some 82))), (1, .inl se), (2, .inl tu), (3, .inl w)], [], ((yi_u Ja 108 (k.toNat) 0), L14, X), 0, 0) rfl (ym_si hS 25 rfl (by omega) (by omega)) ?_
                  generalize w60 : yi_u Ja 108 (k.toNat) 0 = I59
                  refine yi_G_iinc [(5, .inl (k + 1)), (4, .inl 0), (0, .inr (.inr (some 82))), (1, .inl se), (2, .inl tu), (3, .inl w)] rfl rfl rfl (by rw [show yi_w (k + 1) = k + 1 from (yi_wn (by omega) (by omega)).trans (by omega)]; rfl) ?_
                  refine yi_G_run 1 (77, [(5, .inl (k + 1)), (4, .inl 0), (0, .inr (.inr (some 82))), (1, .inl se), (2, .inl tu), (3, .inl w)], [], (I59, L14, X), 0, 0) (fun _ => rfl) ?_
                  exact ih77 _ (by omega) (k + 1) I59 (fun p k hp => by rw [← w60, yi_u_ne _ _ (fun z => by omega), fJa p k (by omega)]) (by omega) (by omega) rfl
              exact pt77 _ 0 I1 (fun _ _ _ => rfl) (by omega) (by omega) rfl
      · show yi_G zi_Ms d zi_m137 (32, [(0, .inr (.inr (some 82))), (1, .inl se), (2, .inl tu), (3, .inl w)], [.inl 0], (I1, L, X), 0, 0) _
        refine yi_G_if1 true rfl (by decide) ?_
        refine yi_G_run 1 (59, [(0, .inr (.inr (some 82))), (1, .inl se), (2, .inl tu), (3, .inl w)], [.inl (-1)], (I1, L, X), 0, 0) (fun _ => rfl) ?_
        exact yi_G_reti rfl rfl (⟨_, _, _, rfl, (fun p k hp => by rw [← w2, yi_u_ne _ _ (fun z => by omega)]), (fun _ _ _ => rfl)⟩)
    · show yi_G zi_Ms d zi_m137 (23, [(0, .inr (.inr (some 82))), (1, .inl se), (2, .inl tu), (3, .inl w)], [.inl 0], (I1, L, X), 0, 0) _
      refine yi_G_if1 true rfl (by decide) ?_
      refine yi_G_run 1 (59, [(0, .inr (.inr (some 82))), (1, .inl se), (2, .inl tu), (3, .inl w)], [.inl (-1)], (I1, L, X), 0, 0) (fun _ => rfl) ?_
      exact yi_G_reti rfl rfl (⟨_, _, _, rfl, (fun p k hp => by rw [← w2, yi_u_ne _ _ (fun z => by omega)]), (fun _ _ _ => rfl)⟩)
  · show yi_G zi_Ms d zi_m137 (13, [(0, .inr (.inr (some 82))), (1, .inl se), (2, .inl tu), (3, .inl w)], [.inl 0], (I1, L, X), 0, 0) _
    refine yi_G_if1 true rfl (by decide) ?_
    refine yi_G_run 1 (59, [(0, .inr (.inr (some 82))), (1, .inl se), (2, .inl tu), (3, .inl w)], [.inl (-1)], (I1, L, X), 0, 0) (fun _ => rfl) ?_
    exact yi_G_reti rfl rfl (⟨_, _, _, rfl, (fun p k hp => by rw [← w2, yi_u_ne _ _ (fun z => by omega)]), (fun _ _ _ => rfl)⟩)
