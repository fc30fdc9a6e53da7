/-! The check's land, as later calls find it. -/
theorem c_landG (D : Nat) (hD : 40 ≤ D) {I L : Nat → Nat → Int} {X : ym_X} (hS : ym_S X) (hIV : ym_IV I) : yi_E zi_Ms D 72 [.inr (.inr (some 82))] (I, L, X) (fun r => ∃ z I' L', r = (some (.inl z), (I', L', X), 0, 0) ∧ I' 82 2 = 0 ∧ ym_IV I' ∧ (∀ p k, (p < 82 ∨ 108 < p ∨ p = 83 ∨ p = 87) → I' p k = I p k) ∧ (∀ p k, (p < 82 ∨ 108 < p ∨ p = 83 ∨ p = 87) → L' p k = L p k) ∧ (z = 0 ∨ ((∀ k : Nat, k < 50 → I' 88 k = I 88 k) ∧ (∀ k, I' 93 k = I 93 k) ∧ (∀ k, L' 91 k = L 91 k) ∧ I' 82 18 = I 82 18))) := by
  obtain ⟨d, rfl⟩ : ∃ d, D = d + 1 := ⟨D - 1, by omega⟩
  refine yi_E_of (M := zi_m72) rfl rfl ?_
  obtain ⟨hLR, hPK, hPW, hST, hF, hl, n0, n1, t9, hFo⟩ := id hIV
  obtain ⟨l0, l1, l2, l3, l4, l5⟩ := id hLR
  have fo0 : ∀ da : Int, 1 ≤ ym_fo da 0 0 := fun da => by unfold ym_fo; rw [if_neg (by omega)]; decide
  show yi_G zi_Ms d zi_m72 (0, [(0, .inr (.inr (some 82)))], [], (I, L, X), 0, 0) _
  refine yi_G_run 2 (2, [(0, .inr (.inr (some 82)))], [.inl 0, .inr (.inr (some 82))], (I, L, X), 0, 0) (fun _ => rfl) ?_
  refine yi_G_put (5, [(0, .inr (.inr (some 82)))], [], ((yi_u I 82 0 0), L, X), 0, 0) rfl (ym_pi hS rfl rfl) ?_
  generalize w2 : yi_u I 82 0 0 = I1
  refine yi_G_run 1 (6, [(0, .inr (.inr (some 82)))], [.inr (.inr (some 82))], (I1, L, X), 0, 0) (fun _ => rfl) ?_
  have r3 : I1 82 2 = I 82 2 := by rw [← w2, yi_u_ne _ _ (by omega)]
  refine yi_G_callv rfl rfl (ym_rcv hS) rfl (c_cutAll d (by omega) hS ⟨by omega, by omega⟩) ?_
  rintro _ ⟨I4, L6, te, rfl, f5, f7, hTI4, c2I4, c7I4, c8I4⟩
  obtain ⟨te0, te1, te2⟩ := id hTI4
  show yi_G zi_Ms d zi_m72 (9, [(0, .inr (.inr (some 82)))], [], (I4, L6, X), 0, 0) _
  refine yi_G_run 2 (11, [(0, .inr (.inr (some 82)))], [.inl 0, .inr (.inr (some 82))], (I4, L6, X), 0, 0) (fun _ => rfl) ?_
  refine yi_G_put (14, [(0, .inr (.inr (some 82)))], [], ((yi_u I4 82 13 0), L6, X), 0, 0) rfl (ym_pi hS rfl rfl) ?_
  generalize w9 : yi_u I4 82 13 0 = I8
  refine yi_G_run 2 (16, [(0, .inr (.inr (some 82)))], [.inl 0, .inr (.inr (some 82))], (I8, L6, X), 0, 0) (fun _ => rfl) ?_
  refine yi_G_put (19, [(0, .inr (.inr (some 82)))], [], ((yi_u I8 82 19 0), L6, X), 0, 0) rfl (ym_pi hS rfl rfl) ?_
  generalize w11 : yi_u I8 82 19 0 = I10
  refine yi_G_run 2 (22, [(0, .inr (.inr (some 82)))], [.inl 50, .inr (.inr (some 82))], (I10, L6, X), 0, 0) (fun _ => rfl) ?_
  refine yi_G_put (25, [(0, .inr (.inr (some 82)))], [], ((yi_u I10 82 20 50), L6, X), 0, 0) rfl (ym_pi hS rfl rfl) ?_
  generalize w13 : yi_u I10 82 20 50 = I12
  refine yi_G_run 2 (28, [(0, .inr (.inr (some 82)))], [.inl 50, .inr (.inr (some 82))], (I12, L6, X), 0, 0) (fun _ => rfl) ?_
  refine yi_G_callv rfl rfl (ym_rcv hS) rfl (c_stands d (by omega) hS) ?_
  rintro _ ⟨I14, rfl, f15, slo, shi⟩
  have sh50 := shi 50 (by omega) (by omega)
  have sh51 := shi 51 (by omega) (by omega)
  have sh52 := shi 52 (by omega) (by omega)
  have sh53 := shi 53 (by omega) (by omega)
  have sh54 := shi 54 (by omega) (by omega)
  have sh55 := shi 55 (by omega) (by omega)
  have sh56 := shi 56 (by omega) (by omega)
  rw [if_neg (by omega)] at sh50 sh51 sh52 sh53 sh54 sh55
  rw [if_pos rfl] at sh56
  show yi_G zi_Ms d zi_m72 (31, [(0, .inr (.inr (some 82)))], [], (I14, L6, X), 0, 0) _
  refine yi_G_run 2 (33, [(0, .inr (.inr (some 82)))], [.inl 0, .inr (.inr (some 82))], (I14, L6, X), 0, 0) (fun _ => rfl) ?_
  have r16 : I14 82 7 = 0 := by rw [f15 82 (7) (by omega), ← w13, yi_u_ne _ _ (by omega), ← w11, yi_u_ne _ _ (by omega), ← w9, yi_u_ne _ _ (by omega), c7I4]
  have r17 : I14 82 8 = 0 := by rw [f15 82 (8) (by omega), ← w13, yi_u_ne _ _ (by omega), ← w11, yi_u_ne _ _ (by omega), ← w9, yi_u_ne _ _ (by omega), c8I4]
  refine yi_G_callv rfl rfl (ym_rcv hS) rfl (c_takeWord d (by omega) hS ⟨by omega, by omega⟩ (ym_TK_t (fun k => by rw [f15 84 k (by omega), ← w13, yi_u_ne _ _ (fun z => absurd z.1 (by decide)), ← w11, yi_u_ne _ _ (fun z => absurd z.1 (by decide)), ← w9, yi_u_ne _ _ (fun z => absurd z.1 (by decide))]) (fun k => by rw [f15 85 k (by omega), ← w13, yi_u_ne _ _ (fun z => absurd z.1 (by decide)), ← w11, yi_u_ne _ _ (fun z => absurd z.1 (by decide)), ← w9, yi_u_ne _ _ (fun z => absurd z.1 (by decide))]) hTI4) ⟨by omega, by omega⟩ (by omega)) ?_
  rintro _ ⟨I18, rfl, f19, h20a, h20b, h20c⟩
  show yi_G zi_Ms d zi_m72 (36, [(0, .inr (.inr (some 82)))], [], (I18, L6, X), 0, 0) _
  refine yi_G_run 1 (37, [(0, .inr (.inr (some 82)))], [.inr (.inr (some 82))], (I18, L6, X), 0, 0) (fun _ => rfl) ?_
  refine yi_G_get (40, [(0, .inr (.inr (some 82)))], [.inr (.inr (some 88))], (I18, L6, X), 0, 0) rfl (ym_gr hS 5 rfl rfl rfl) ?_
  refine yi_G_run 4 (46, [(0, .inr (.inr (some 82)))], [.inl 6, .inl 1, .inr (.inr (some 82)), .inl 50, .inr (.inr (some 88))], (I18, L6, X), 0, 0) (fun _ => rfl) ?_
  refine yi_G_callv rfl rfl (ym_rcv hS) rfl (c_takeNumber d (by omega) hS (by omega) (by omega) (ym_TK_t (fun k => by rw [f19 84 k (by omega), f15 84 k (by omega), ← w13, yi_u_ne _ _ (fun z => absurd z.1 (by decide)), ← w11, yi_u_ne _ _ (fun z => absurd z.1 (by decide)), ← w9, yi_u_ne _ _ (fun z => absurd z.1 (by decide))]) (fun k => by rw [f19 85 k (by omega), f15 85 k (by omega), ← w13, yi_u_ne _ _ (fun z => absurd z.1 (by decide)), ← w11, yi_u_ne _ _ (fun z => absurd z.1 (by decide)), ← w9, yi_u_ne _ _ (fun z => absurd z.1 (by decide))]) hTI4) ⟨by omega, by omega⟩ (by omega)) ?_
  rintro _ ⟨z23, I21, rfl, f22, h24a, h24b, h24c⟩
  show yi_G zi_Ms d zi_m72 (49, [(0, .inr (.inr (some 82)))], [.inl z23, .inl 50, .inr (.inr (some 88))], (I21, L6, X), 0, 0) _
  refine yi_G_iast (50, [(0, .inr (.inr (some 82)))], [], ((yi_u I21 88 50 z23), L6, X), 0, 0) rfl (ym_si hS 5 rfl (by omega) (by omega)) ?_
  generalize w26 : yi_u I21 88 50 z23 = I25
  refine yi_G_run 2 (53, [(0, .inr (.inr (some 82)))], [.inl 59, .inr (.inr (some 82))], (I25, L6, X), 0, 0) (fun _ => rfl) ?_
  have r27 : I25 82 7 = I21 82 7 := by rw [← w26, yi_u_ne _ _ (by omega)]
  have r28 : I25 82 8 = I21 82 8 := by rw [← w26, yi_u_ne _ _ (by omega)]
  refine yi_G_callv rfl rfl (ym_rcv hS) rfl (c_takeSign d (by omega) hS (ym_TK_t (fun k => by rw [← w26, yi_u_ne _ _ (fun z => absurd z.1 (by decide)), f22 84 k (by omega), f19 84 k (by omega), f15 84 k (by omega), ← w13, yi_u_ne _ _ (fun z => absurd z.1 (by decide)), ← w11, yi_u_ne _ _ (fun z => absurd z.1 (by decide)), ← w9, yi_u_ne _ _ (fun z => absurd z.1 (by decide))]) (fun k => by rw [← w26, yi_u_ne _ _ (fun z => absurd z.1 (by decide)), f22 85 k (by omega), f19 85 k (by omega), f15 85 k (by omega), ← w13, yi_u_ne _ _ (fun z => absurd z.1 (by decide)), ← w11, yi_u_ne _ _ (fun z => absurd z.1 (by decide)), ← w9, yi_u_ne _ _ (fun z => absurd z.1 (by decide))]) hTI4) ⟨by omega, by omega⟩ (by omega)) ?_
  rintro _ ⟨I29, rfl, f30, h31a, h31b, h31c⟩
  show yi_G zi_Ms d zi_m72 (56, [(0, .inr (.inr (some 82)))], [], (I29, L6, X), 0, 0) _
  have pt56 : ∀ (m : Nat) (Ja : Nat → Nat → Int) (Ka : Nat → Nat → Int), (∀ p k, ¬ (p = 82 ∧ k = 7) ∧ ¬ (p = 82 ∧ k = 8) ∧ ¬ (p = 82 ∧ k = 13) ∧ ¬ (p = 82 ∧ k = 19) ∧ p ≠ 94 ∧ p ≠ 88 ∧ p ≠ 89 ∧ p ≠ 90 → Ja p k = I29 p k) → (∀ p k, p ≠ 92 → Ka p k = L6 p k) → (0 ≤ Ja 82 7 ∧ Ja 82 7 ≤ te) → (0 ≤ Ja 82 8) → (0 ≤ Ja 82 19 ∧ Ja 82 19 ≤ 13) → (0 ≤ Ja 82 13 ∧ Ja 82 13 ≤ Ja 82 7 + 2) → (Ja 82 8 = 0 → Ja 82 13 ≤ Ja 82 7) → (ym_LW I Ja 0) → (∀ k : Nat, k < 50 → Ja 88 k = I 88 k) → (Ja 82 8 = 0 → ym_LD Ja ∧ ym_LP Ja) → (2 * (te - Ja 82 7) + 1 - min (Ja 82 8) 1).toNat = m → yi_G zi_Ms d zi_m72 (56, [(0, .inr (.inr (some 82)))], [], (Ja, Ka, X), 0, 0) (fun r => ∃ z I' L', r = (some (.inl z), (I', L', X), 0, 0) ∧ I' 82 2 = 0 ∧ ym_IV I' ∧ (∀ p k, (p < 82 ∨ 108 < p ∨ p = 83 ∨ p = 87) → I' p k = I p k) ∧ (∀ p k, (p < 82 ∨ 108 < p ∨ p = 83 ∨ p = 87) → L' p k = L p k) ∧ (z = 0 ∨ ((∀ k : Nat, k < 50 → I' 88 k = I 88 k) ∧ (∀ k, I' 93 k = I 93 k) ∧ (∀ k, L' 91 k = L 91 k) ∧ I' 82 18 = I 82 18))) := by
    intro m56
    induction m56 using Nat.strongRecOn with
    | _ m56 ih56 =>
    intro Ja Ka fJa fKa pa pf pn pk pz plw plo pld hm56
    refine yi_G_run 1 (57, [(0, .inr (.inr (some 82)))], [.inr (.inr (some 82))], (Ja, Ka, X), 0, 0) (fun _ => rfl) ?_
    refine yi_G_get (60, [(0, .inr (.inr (some 82)))], [.inl (Ja 82 8)], (Ja, Ka, X), 0, 0) rfl (ym_gi hS rfl rfl rfl) ?_
    by_cases h32 : (Ja 82 8) = 0
    · refine yi_G_if1 false rfl (yi_ne_f h32) ?_
      refine yi_G_run 1 (64, [(0, .inr (.inr (some 82)))], [.inr (.inr (some 82))], (Ja, Ka, X), 0, 0) (fun _ => rfl) ?_
      refine yi_G_get (67, [(0, .inr (.inr (some 82)))], [.inr (.inr (some 84))], (Ja, Ka, X), 0, 0) rfl (ym_gr hS 1 rfl rfl rfl) ?_
      refine yi_G_run 1 (68, [(0, .inr (.inr (some 82)))], [.inr (.inr (some 82)), .inr (.inr (some 84))], (Ja, Ka, X), 0, 0) (fun _ => rfl) ?_
      refine yi_G_get (71, [(0, .inr (.inr (some 82)))], [.inl (Ja 82 7), .inr (.inr (some 84))], (Ja, Ka, X), 0, 0) rfl (ym_gi hS rfl rfl rfl) ?_
      have r33 : Ja 84 ((Ja 82 7).toNat) = I4 84 ((Ja 82 7).toNat) := by rw [fJa 84 ((Ja 82 7).toNat) (by omega), f30 84 ((Ja 82 7).toNat) (by omega), ← w26, yi_u_ne _ _ (by omega), f22 84 ((Ja 82 7).toNat) (by omega), f19 84 ((Ja 82 7).toNat) (by omega), f15 84 ((Ja 82 7).toNat) (by omega), ← w13, yi_u_ne _ _ (by omega), ← w11, yi_u_ne _ _ (by omega), ← w9, yi_u_ne _ _ (by omega)]
      refine yi_G_iald (72, [(0, .inr (.inr (some 82)))], [.inl (I4 84 ((Ja 82 7).toNat))], (Ja, Ka, X), 0, 0) rfl (ym_li hS 1 rfl (by omega) (by omega) r33) ?_
      by_cases h34 : (I4 84 ((Ja 82 7).toNat)) = 0
      · refine yi_G_if1 true rfl (yi_eq_t h34) ?_
        refine yi_G_run 1 (89, [(0, .inr (.inr (some 82)))], [.inr (.inr (some 82))], (Ja, Ka, X), 0, 0) (fun _ => rfl) ?_
        refine yi_G_get (92, [(0, .inr (.inr (some 82)))], [.inl (Ja 82 8)], (Ja, Ka, X), 0, 0) rfl (ym_gi hS rfl rfl rfl) ?_
        by_cases h35 : (Ja 82 8) ≤ 0
        · refine yi_G_if1 true rfl (yi_le_t h35) ?_
          refine yi_G_run 2 (102, [(1, .inl 0), (0, .inr (.inr (some 82)))], [], (Ja, Ka, X), 0, 0) (fun _ => rfl) ?_
          have pt102 : ∀ (m : Nat) (k : Int) (Jb : Nat → Nat → Int), (∀ p k, p ≠ 88 → Jb p k = Ja p k) → (0 ≤ k ∧ k ≤ 50) → (∀ j : Nat, (j : Int) < k → Jb 88 j = Ja 88 (50 + j)) → (∀ j : Nat, 50 ≤ j → Jb 88 j = Ja 88 j) → (50 - k).toNat = m → yi_G zi_Ms d zi_m72 (102, [(1, .inl k), (0, .inr (.inr (some 82)))], [], (Jb, Ka, X), 0, 0) (fun r => ∃ z I' L', r = (some (.inl z), (I', L', X), 0, 0) ∧ I' 82 2 = 0 ∧ ym_IV I' ∧ (∀ p k, (p < 82 ∨ 108 < p ∨ p = 83 ∨ p = 87) → I' p k = I p k) ∧ (∀ p k, (p < 82 ∨ 108 < p ∨ p = 83 ∨ p = 87) → L' p k = L p k) ∧ (z = 0 ∨ ((∀ k : Nat, k < 50 → I' 88 k = I 88 k) ∧ (∀ k, I' 93 k = I 93 k) ∧ (∀ k, L' 91 k = L 91 k) ∧ I' 82 18 = I 82 18))) := by
            intro m102
            induction m102 using Nat.strongRecOn with
            | _ m102 ih102 =>
            intro k Jb fJb k0 hb1 hb2 hm102
            refine yi_G_run 2 (105, [(1, .inl k), (0, .inr (.inr (some 82)))], [.inl 50, .inl k], (Jb, Ka, X), 0, 0) (fun _ => rfl) ?_
            by_cases h36 : 50 ≤ k
            · refine yi_G_if2 true rfl (yi_ge_t h36) ?_
              refine yi_G_run 2 (131, [(1, .inl 0), (0, .inr (.inr (some 82)))], [], (Jb, Ka, X), 0, 0) (fun _ => rfl) ?_
              have pt131 : ∀ (m : Nat) (q : Int) (Jc : Nat → Nat → Int), (∀ p k, p ≠ 89 ∧ p ≠ 90 → Jc p k = Jb p k) → (0 ≤ q ∧ q ≤ Ja 82 13) → (∀ j : Nat, (j : Int) < q → Jc 89 j = Jb 89 (1100 + j) ∧ Jc 90 j = Jb 90 (1100 + j)) → (∀ j : Nat, 1100 ≤ j → Jc 89 j = Jb 89 j ∧ Jc 90 j = Jb 90 j) → (Ja 82 13 - q).toNat = m → yi_G zi_Ms d zi_m72 (131, [(1, .inl q), (0, .inr (.inr (some 82)))], [], (Jc, Ka, X), 0, 0) (fun r => ∃ z I' L', r = (some (.inl z), (I', L', X), 0, 0) ∧ I' 82 2 = 0 ∧ ym_IV I' ∧ (∀ p k, (p < 82 ∨ 108 < p ∨ p = 83 ∨ p = 87) → I' p k = I p k) ∧ (∀ p k, (p < 82 ∨ 108 < p ∨ p = 83 ∨ p = 87) → L' p k = L p k) ∧ (z = 0 ∨ ((∀ k : Nat, k < 50 → I' 88 k = I 88 k) ∧ (∀ k, I' 93 k = I 93 k) ∧ (∀ k, L' 91 k = L 91 k) ∧ I' 82 18 = I 82 18))) := by
                intro m131
                induction m131 using Nat.strongRecOn with
                | _ m131 ih131 =>
                intro q Jc fJc q0 hc1 hc2 hm131
                refine yi_G_run 2 (133, [(1, .inl q), (0, .inr (.inr (some 82)))], [.inr (.inr (some 82)), .inl q], (Jc, Ka, X), 0, 0) (fun _ => rfl) ?_
                have r37 : Jc 82 13 = Ja 82 13 := by rw [fJc 82 (13) (by omega), fJb 82 (13) (by omega)]
                refine yi_G_get (136, [(1, .inl q), (0, .inr (.inr (some 82)))], [.inl (Ja 82 13), .inl q], (Jc, Ka, X), 0, 0) rfl (ym_gi hS rfl rfl r37) ?_
                by_cases h38 : (Ja 82 13) ≤ q
                · refine yi_G_if2 true rfl (yi_ge_t h38) ?_
                  refine yi_G_run 2 (179, [(1, .inl 0), (0, .inr (.inr (some 82)))], [], (Jc, Ka, X), 0, 0) (fun _ => rfl) ?_
                  have pt179 : ∀ (m : Nat) (u : Int) (Jd : Nat → Nat → Int) (Kd : Nat → Nat → Int), (∀ p k, p ≠ 93 → Jd p k = Jc p k) → (∀ p k, p ≠ 91 → Kd p k = Ka p k) → (0 ≤ u ∧ u ≤ Ja 82 19) → (Ja 82 19 - u).toNat = m → yi_G zi_Ms d zi_m72 (179, [(1, .inl u), (0, .inr (.inr (some 82)))], [], (Jd, Kd, X), 0, 0) (fun r => ∃ z I' L', r = (some (.inl z), (I', L', X), 0, 0) ∧ I' 82 2 = 0 ∧ ym_IV I' ∧ (∀ p k, (p < 82 ∨ 108 < p ∨ p = 83 ∨ p = 87) → I' p k = I p k) ∧ (∀ p k, (p < 82 ∨ 108 < p ∨ p = 83 ∨ p = 87) → L' p k = L p k) ∧ (z = 0 ∨ ((∀ k : Nat, k < 50 → I' 88 k = I 88 k) ∧ (∀ k, I' 93 k = I 93 k) ∧ (∀ k, L' 91 k = L 91 k) ∧ I' 82 18 = I 82 18))) := by
                    intro m179
                    induction m179 using Nat.strongRecOn with
                    | _ m179 ih179 =>
                    intro u Jd Kd fJd fKd u0 hm179
                    refine yi_G_run 2 (181, [(1, .inl u), (0, .inr (.inr (some 82)))], [.inr (.inr (some 82)), .inl u], (Jd, Kd, X), 0, 0) (fun _ => rfl) ?_
                    have r39 : Jd 82 19 = Ja 82 19 := by rw [fJd 82 (19) (by omega), fJc 82 (19) (by omega), fJb 82 (19) (by omega)]
                    refine yi_G_get (184, [(1, .inl u), (0, .inr (.inr (some 82)))], [.inl (Ja 82 19), .inl u], (Jd, Kd, X), 0, 0) rfl (ym_gi hS rfl rfl r39) ?_
                    by_cases h40 : (Ja 82 19) ≤ u
                    · refine yi_G_if2 true rfl (yi_ge_t h40) ?_
                      refine yi_G_run 2 (219, [(1, .inl u), (0, .inr (.inr (some 82)))], [.inr (.inr (some 82)), .inr (.inr (some 82))], (Jd, Kd, X), 0, 0) (fun _ => rfl) ?_
                      have r41 : Jd 82 19 = Ja 82 19 := by rw [fJd 82 (19) (by omega), fJc 82 (19) (by omega), fJb 82 (19) (by omega)]
                      refine yi_G_get (222, [(1, .inl u), (0, .inr (.inr (some 82)))], [.inl (Ja 82 19), .inr (.inr (some 82))], (Jd, Kd, X), 0, 0) rfl (ym_gi hS rfl rfl r41) ?_
                      refine yi_G_put (225, [(1, .inl u), (0, .inr (.inr (some 82)))], [], ((yi_u Jd 82 18 (Ja 82 19)), Kd, X), 0, 0) rfl (ym_pi hS rfl rfl) ?_
                      generalize w43 : yi_u Jd 82 18 (Ja 82 19) = I42
                      refine yi_G_run 1 (226, [(1, .inl u), (0, .inr (.inr (some 82)))], [.inr (.inr (some 82))], (I42, Kd, X), 0, 0) (fun _ => rfl) ?_
                      have r44 : I42 82 13 = Ja 82 13 := by rw [← w43, yi_u_ne _ _ (by omega), fJd 82 (13) (by omega), fJc 82 (13) (by omega), fJb 82 (13) (by omega)]
                      have r45 : I42 82 19 = Ja 82 19 := by rw [← w43, yi_u_ne _ _ (by omega), fJd 82 (19) (by omega), fJc 82 (19) (by omega), fJb 82 (19) (by omega)]
                      have ll := pld (by omega)
                      have e50 : ∀ k : Nat, k < 50 → I42 88 k = Ja 88 (50 + k) := fun k hk => by rw [← w43, yi_u_ne _ _ (by omega), fJd 88 k (by omega), fJc 88 k (by omega)]; exact hb1 k (by omega)
                      have e89 : ∀ k : Nat, (k : Int) < Ja 82 13 → I42 89 k = Ja 89 (1100 + k) ∧ I42 90 k = Ja 90 (1100 + k) := fun k hk => ⟨by rw [← w43, yi_u_ne _ _ (by omega), fJd 89 k (by omega)]; rw [(hc1 k (by omega)).1]; exact fJb 89 _ (by omega), by rw [← w43, yi_u_ne _ _ (by omega), fJd 90 k (by omega)]; rw [(hc1 k (by omega)).2]; exact fJb 90 _ (by omega)⟩
                      obtain ⟨lrb, fob⟩ := ym_LR_of ll.1 e50
                      have pkb : ym_PK I42 := ym_PK_of ll.1 ll.2 rfl (by omega) e50 e89
                      have fbb := ym_fo_b (da := I42 88 0) (pe := I42 88 1) (ev := I42 88 2) (by have := lrb.2.2.1; omega)
                      refine yi_G_callv rfl rfl (ym_rcv hS) rfl (c_begins d (by omega) hS lrb (ym_PK_PL pkb) fob) ?_
                      rintro _ ⟨I46, L48, rfl, f47, f49, v24, v25, v20, pwb, s0b, v30, mkb⟩
                      show yi_G zi_Ms d zi_m72 (229, [(1, .inl u), (0, .inr (.inr (some 82)))], [], (I46, L48, X), 0, 0) _
                      refine yi_G_run 1 (230, [(1, .inl u), (0, .inr (.inr (some 82)))], [.inl 0], (I46, L48, X), 0, 0) (fun _ => rfl) ?_
                      have r50 : I46 82 2 = 0 := by rw [f47 82 (2) (by omega), ← w43, yi_u_ne _ _ (by omega), fJd 82 (2) (by omega), fJc 82 (2) (by omega), fJb 82 (2) (by omega), fJa 82 (2) (by omega), f30 82 (2) (by omega), ← w26, yi_u_ne _ _ (by omega), f22 82 (2) (by omega), f19 82 (2) (by omega), f15 82 (2) (by omega), ← w13, yi_u_ne _ _ (by omega), ← w11, yi_u_ne _ _ (by omega), ← w9, yi_u_ne _ _ (by omega), c2I4]
                      have r51 : I46 82 18 = Ja 82 19 := by rw [f47 82 (18) (by omega), ← w43, yi_u_eq]
                      have r52 : I46 82 19 = Ja 82 19 := by rw [f47 82 (19) (by omega), ← w43, yi_u_ne _ _ (by omega), fJd 82 (19) (by omega), fJc 82 (19) (by omega), fJb 82 (19) (by omega)]
                      exact yi_G_reti rfl rfl (⟨_, _, _, rfl, by omega, ⟨ym_LR_t (fun k => f47 88 k (by omega)) lrb, ym_PK_t ⟨lrb.2.2.2.2.1.2, lrb.2.2.2.2.2.2⟩ (fun k _ => f47 88 k (by omega)) (fun k _ => ⟨f47 89 k (by omega), f47 90 k (by omega)⟩) pkb, pwb, ym_ST_0 s0b v30 mkb, by omega, by omega, by omega, by omega, by omega, by rw [f47 88 0 (by omega), f47 88 1 (by omega), f47 88 2 (by omega)]; exact fob⟩, (fun p k hp => by rw [f47 p k (by omega), ← w43, yi_u_ne _ _ (fun z => by omega), fJd p k (by omega), fJc p k (by omega), fJb p k (by omega), fJa p k (by omega), f30 p k (by omega), ← w26, yi_u_ne _ _ (fun z => by omega), f22 p k (by omega), f19 p k (by omega), f15 p k (by omega), ← w13, yi_u_ne _ _ (fun z => by omega), ← w11, yi_u_ne _ _ (fun z => by omega), ← w9, yi_u_ne _ _ (fun z => by omega), f5 p k (by omega), ← w2, yi_u_ne _ _ (fun z => by omega)]), (fun p k hp => by rw [f49 p k (by omega), fKd p k (by omega), fKa p k (by omega), f7 p k (by omega)]), Or.inl rfl⟩)
                    · refine yi_G_if2 false rfl (yi_ge_f h40) ?_
                      refine yi_G_run 1 (188, [(1, .inl u), (0, .inr (.inr (some 82)))], [.inr (.inr (some 82))], (Jd, Kd, X), 0, 0) (fun _ => rfl) ?_
                      refine yi_G_get (191, [(1, .inl u), (0, .inr (.inr (some 82)))], [.inr (.inr (some 91))], (Jd, Kd, X), 0, 0) rfl (ym_gr hS 8 rfl rfl rfl) ?_
                      refine yi_G_run 2 (193, [(1, .inl u), (0, .inr (.inr (some 82)))], [.inr (.inr (some 82)), .inl u, .inr (.inr (some 91))], (Jd, Kd, X), 0, 0) (fun _ => rfl) ?_
                      refine yi_G_get (196, [(1, .inl u), (0, .inr (.inr (some 82)))], [.inr (.inr (some 92)), .inl u, .inr (.inr (some 91))], (Jd, Kd, X), 0, 0) rfl (ym_gr hS 9 rfl rfl rfl) ?_
                      refine yi_G_run 1 (197, [(1, .inl u), (0, .inr (.inr (some 82)))], [.inl u, .inr (.inr (some 92)), .inl u, .inr (.inr (some 91))], (Jd, Kd, X), 0, 0) (fun _ => rfl) ?_
                      have r53 : Kd 92 (u.toNat) = Ka 92 (u.toNat) := by rw [fKd 92 (u.toNat) (by omega)]
                      refine yi_G_lald (198, [(1, .inl u), (0, .inr (.inr (some 82)))], [.inr (.inl (Ka 92 (u.toNat))), .inl u, .inr (.inr (some 91))], (Jd, Kd, X), 0, 0) rfl (ym_ll hS 9 rfl (by omega) (by omega) r53) ?_
                      refine yi_G_last (199, [(1, .inl u), (0, .inr (.inr (some 82)))], [], (Jd, (yi_u Kd 91 (u.toNat) (Ka 92 (u.toNat))), X), 0, 0) rfl (ym_sl hS 8 rfl (by omega) (by omega)) ?_
                      generalize w55 : yi_u Kd 91 (u.toNat) (Ka 92 (u.toNat)) = L54
                      refine yi_G_run 1 (200, [(1, .inl u), (0, .inr (.inr (some 82)))], [.inr (.inr (some 82))], (Jd, L54, X), 0, 0) (fun _ => rfl) ?_
                      refine yi_G_get (203, [(1, .inl u), (0, .inr (.inr (some 82)))], [.inr (.inr (some 93))], (Jd, L54, X), 0, 0) rfl (ym_gr hS 10 rfl rfl rfl) ?_
                      refine yi_G_run 2 (205, [(1, .inl u), (0, .inr (.inr (some 82)))], [.inr (.inr (some 82)), .inl u, .inr (.inr (some 93))], (Jd, L54, X), 0, 0) (fun _ => rfl) ?_
                      refine yi_G_get (208, [(1, .inl u), (0, .inr (.inr (some 82)))], [.inr (.inr (some 94)), .inl u, .inr (.inr (some 93))], (Jd, L54, X), 0, 0) rfl (ym_gr hS 11 rfl rfl rfl) ?_
                      refine yi_G_run 1 (209, [(1, .inl u), (0, .inr (.inr (some 82)))], [.inl u, .inr (.inr (some 94)), .inl u, .inr (.inr (some 93))], (Jd, L54, X), 0, 0) (fun _ => rfl) ?_
                      have r56 : Jd 94 (u.toNat) = Ja 94 (u.toNat) := by rw [fJd 94 (u.toNat) (by omega), fJc 94 (u.toNat) (by omega), fJb 94 (u.toNat) (by omega)]
                      refine yi_G_iald (210, [(1, .inl u), (0, .inr (.inr (some 82)))], [.inl (Ja 94 (u.toNat)), .inl u, .inr (.inr (some 93))], (Jd, L54, X), 0, 0) rfl (ym_li hS 11 rfl (by omega) (by omega) r56) ?_
                      refine yi_G_iast (211, [(1, .inl u), (0, .inr (.inr (some 82)))], [], ((yi_u Jd 93 (u.toNat) (Ja 94 (u.toNat))), L54, X), 0, 0) rfl (ym_si hS 10 rfl (by omega) (by omega)) ?_
                      generalize w58 : yi_u Jd 93 (u.toNat) (Ja 94 (u.toNat)) = I57
                      refine yi_G_iinc [(1, .inl (u + 1)), (0, .inr (.inr (some 82)))] rfl rfl rfl (by rw [show yi_w (u + 1) = u + 1 from (yi_wn (by omega) (by omega)).trans (by omega)]; rfl) ?_
                      refine yi_G_run 1 (179, [(1, .inl (u + 1)), (0, .inr (.inr (some 82)))], [], (I57, L54, X), 0, 0) (fun _ => rfl) ?_
                      exact ih179 _ (by omega) (u + 1) I57 L54 (fun p k hp => by rw [← w58, yi_u_ne _ _ (fun z => by omega), fJd p k (by omega)]) (fun p k hp => by rw [← w55, yi_u_ne _ _ (fun z => by omega), fKd p k (by omega)]) (by omega) rfl
                  exact pt179 _ 0 Jc Ka (fun _ _ _ => rfl) (fun _ _ _ => rfl) (by omega) rfl
                · refine yi_G_if2 false rfl (yi_ge_f h38) ?_
                  refine yi_G_run 1 (140, [(1, .inl q), (0, .inr (.inr (some 82)))], [.inr (.inr (some 82))], (Jc, Ka, X), 0, 0) (fun _ => rfl) ?_
                  refine yi_G_get (143, [(1, .inl q), (0, .inr (.inr (some 82)))], [.inr (.inr (some 89))], (Jc, Ka, X), 0, 0) rfl (ym_gr hS 6 rfl rfl rfl) ?_
                  refine yi_G_run 2 (145, [(1, .inl q), (0, .inr (.inr (some 82)))], [.inr (.inr (some 82)), .inl q, .inr (.inr (some 89))], (Jc, Ka, X), 0, 0) (fun _ => rfl) ?_
                  refine yi_G_get (148, [(1, .inl q), (0, .inr (.inr (some 82)))], [.inr (.inr (some 89)), .inl q, .inr (.inr (some 89))], (Jc, Ka, X), 0, 0) rfl (ym_gr hS 6 rfl rfl rfl) ?_
                  refine yi_G_run 2 (152, [(1, .inl q), (0, .inr (.inr (some 82)))], [.inl q, .inl 1100, .inr (.inr (some 89)), .inl q, .inr (.inr (some 89))], (Jc, Ka, X), 0, 0) (fun _ => rfl) ?_
                  refine yi_G_iadd rfl (1100 + q) (yi_wn (by omega) (by omega)) ?_
                  refine yi_G_iald (154, [(1, .inl q), (0, .inr (.inr (some 82)))], [.inl (Jc 89 ((1100 + q).toNat)), .inl q, .inr (.inr (some 89))], (Jc, Ka, X), 0, 0) rfl (ym_li hS 6 rfl (by omega) (by omega) rfl) ?_
                  refine yi_G_iast (155, [(1, .inl q), (0, .inr (.inr (some 82)))], [], ((yi_u Jc 89 (q.toNat) (Jc 89 ((1100 + q).toNat))), Ka, X), 0, 0) rfl (ym_si hS 6 rfl (by omega) (by omega)) ?_
                  generalize w60 : yi_u Jc 89 (q.toNat) (Jc 89 ((1100 + q).toNat)) = I59
                  refine yi_G_run 1 (156, [(1, .inl q), (0, .inr (.inr (some 82)))], [.inr (.inr (some 82))], (I59, Ka, X), 0, 0) (fun _ => rfl) ?_
                  refine yi_G_get (159, [(1, .inl q), (0, .inr (.inr (some 82)))], [.inr (.inr (some 90))], (I59, Ka, X), 0, 0) rfl (ym_gr hS 7 rfl rfl rfl) ?_
                  refine yi_G_run 2 (161, [(1, .inl q), (0, .inr (.inr (some 82)))], [.inr (.inr (some 82)), .inl q, .inr (.inr (some 90))], (I59, Ka, X), 0, 0) (fun _ => rfl) ?_
                  refine yi_G_get (164, [(1, .inl q), (0, .inr (.inr (some 82)))], [.inr (.inr (some 90)), .inl q, .inr (.inr (some 90))], (I59, Ka, X), 0, 0) rfl (ym_gr hS 7 rfl rfl rfl) ?_
                  refine yi_G_run 2 (168, [(1, .inl q), (0, .inr (.inr (some 82)))], [.inl q, .inl 1100, .inr (.inr (some 90)), .inl q, .inr (.inr (some 90))], (I59, Ka, X), 0, 0) (fun _ => rfl) ?_
                  refine yi_G_iadd rfl (1100 + q) (yi_wn (by omega) (by omega)) ?_
                  have r61 : I59 90 ((1100 + q).toNat) = Jc 90 ((1100 + q).toNat) := by rw [← w60, yi_u_ne _ _ (by omega)]
                  refine yi_G_iald (170, [(1, .inl q), (0, .inr (.inr (some 82)))], [.inl (Jc 90 ((1100 + q).toNat)), .inl q, .inr (.inr (some 90))], (I59, Ka, X), 0, 0) rfl (ym_li hS 7 rfl (by omega) (by omega) r61) ?_
                  refine yi_G_iast (171, [(1, .inl q), (0, .inr (.inr (some 82)))], [], ((yi_u I59 90 (q.toNat) (Jc 90 ((1100 + q).toNat))), Ka, X), 0, 0) rfl (ym_si hS 7 rfl (by omega) (by omega)) ?_
                  generalize w63 : yi_u I59 90 (q.toNat) (Jc 90 ((1100 + q).toNat)) = I62
                  refine yi_G_iinc [(1, .inl (q + 1)), (0, .inr (.inr (some 82)))] rfl rfl rfl (by rw [show yi_w (q + 1) = q + 1 from (yi_wn (by omega) (by omega)).trans (by omega)]; rfl) ?_
                  refine yi_G_run 1 (131, [(1, .inl (q + 1)), (0, .inr (.inr (some 82)))], [], (I62, Ka, X), 0, 0) (fun _ => rfl) ?_
                  exact ih131 _ (by omega) (q + 1) I62 (fun p k hp => by rw [← w63, yi_u_ne _ _ (fun z => by omega), ← w60, yi_u_ne _ _ (fun z => by omega), fJc p k (by omega)]) (by omega) (fun j hj => by rw [← w63, ← w60]; exact (by by_cases e : j = q.toNat; (subst e; rw [yi_u_ne _ _ (by omega), yi_u_eq, yi_u_eq]; constructor; (first | rfl | (rw [(hc2 _ (by omega)).1]; congr 1; omega)); (first | rfl | (rw [(hc2 _ (by omega)).2]; congr 1; omega))); (rw [yi_u_ne _ _ (by omega), yi_u_ne _ _ (by omega), yi_u_ne _ _ (by omega), yi_u_ne _ _ (by omega)]; exact hc1 j (by omega)))) (fun j hj => ⟨by rw [← w63, yi_u_ne _ _ (by omega), ← w60, yi_u_ne _ _ (by omega)]; exact (hc2 j hj).1, by rw [← w63, yi_u_ne _ _ (by omega), ← w60, yi_u_ne _ _ (by omega)]; exact (hc2 j hj).2⟩) rfl
              exact pt131 _ 0 Jb (fun _ _ _ => rfl) (by omega) (fun j hj => absurd hj (by omega)) (fun j hj => ⟨rfl, rfl⟩) rfl
            · refine yi_G_if2 false rfl (yi_ge_f h36) ?_
              refine yi_G_run 1 (109, [(1, .inl k), (0, .inr (.inr (some 82)))], [.inr (.inr (some 82))], (Jb, Ka, X), 0, 0) (fun _ => rfl) ?_
              refine yi_G_get (112, [(1, .inl k), (0, .inr (.inr (some 82)))], [.inr (.inr (some 88))], (Jb, Ka, X), 0, 0) rfl (ym_gr hS 5 rfl rfl rfl) ?_
              refine yi_G_run 2 (114, [(1, .inl k), (0, .inr (.inr (some 82)))], [.inr (.inr (some 82)), .inl k, .inr (.inr (some 88))], (Jb, Ka, X), 0, 0) (fun _ => rfl) ?_
              refine yi_G_get (117, [(1, .inl k), (0, .inr (.inr (some 82)))], [.inr (.inr (some 88)), .inl k, .inr (.inr (some 88))], (Jb, Ka, X), 0, 0) rfl (ym_gr hS 5 rfl rfl rfl) ?_
              refine yi_G_run 2 (120, [(1, .inl k), (0, .inr (.inr (some 82)))], [.inl k, .inl 50, .inr (.inr (some 88)), .inl k, .inr (.inr (some 88))], (Jb, Ka, X), 0, 0) (fun _ => rfl) ?_
              refine yi_G_iadd rfl (50 + k) (yi_wn (by omega) (by omega)) ?_
              refine yi_G_iald (122, [(1, .inl k), (0, .inr (.inr (some 82)))], [.inl (Jb 88 ((50 + k).toNat)), .inl k, .inr (.inr (some 88))], (Jb, Ka, X), 0, 0) rfl (ym_li hS 5 rfl (by omega) (by omega) rfl) ?_
              refine yi_G_iast (123, [(1, .inl k), (0, .inr (.inr (some 82)))], [], ((yi_u Jb 88 (k.toNat) (Jb 88 ((50 + k).toNat))), Ka, X), 0, 0) rfl (ym_si hS 5 rfl (by omega) (by omega)) ?_
              generalize w65 : yi_u Jb 88 (k.toNat) (Jb 88 ((50 + k).toNat)) = I64
              refine yi_G_iinc [(1, .inl (k + 1)), (0, .inr (.inr (some 82)))] rfl rfl rfl (by rw [show yi_w (k + 1) = k + 1 from (yi_wn (by omega) (by omega)).trans (by omega)]; rfl) ?_
              refine yi_G_run 1 (102, [(1, .inl (k + 1)), (0, .inr (.inr (some 82)))], [], (I64, Ka, X), 0, 0) (fun _ => rfl) ?_
              exact ih102 _ (by omega) (k + 1) I64 (fun p k hp => by rw [← w65, yi_u_ne _ _ (fun z => by omega), fJb p k (by omega)]) (by omega) (fun j hj => by rw [← w65]; exact (by by_cases e : j = k.toNat; (subst e; rw [yi_u_eq]; first | rfl | (rw [hb2 _ (by omega)]; congr 1; omega)); (rw [yi_u_ne _ _ (by omega)]; exact hb1 j (by omega)))) (fun j hj => by rw [← w65, yi_u_ne _ _ (by omega)]; exact hb2 j hj) rfl
          exact pt102 _ 0 Ja (fun _ _ _ => rfl) (by omega) (fun j hj => absurd hj (by omega)) (fun j hj => rfl) rfl
        · refine yi_G_if1 false rfl (yi_le_f h35) ?_
          refine yi_G_run 1 (96, [(0, .inr (.inr (some 82)))], [.inr (.inr (some 82))], (Ja, Ka, X), 0, 0) (fun _ => rfl) ?_
          refine yi_G_get (99, [(0, .inr (.inr (some 82)))], [.inl (Ja 82 8)], (Ja, Ka, X), 0, 0) rfl (ym_gi hS rfl rfl rfl) ?_
          have r66 : Ja 82 2 = 0 := by rw [fJa 82 (2) (by omega), f30 82 (2) (by omega), ← w26, yi_u_ne _ _ (by omega), f22 82 (2) (by omega), f19 82 (2) (by omega), f15 82 (2) (by omega), ← w13, yi_u_ne _ _ (by omega), ← w11, yi_u_ne _ _ (by omega), ← w9, yi_u_ne _ _ (by omega), c2I4]
          have r67 : Ja 82 24 = I 82 24 := by rw [fJa 82 (24) (by omega), f30 82 (24) (by omega), ← w26, yi_u_ne _ _ (by omega), f22 82 (24) (by omega), f19 82 (24) (by omega), f15 82 (24) (by omega), ← w13, yi_u_ne _ _ (by omega), ← w11, yi_u_ne _ _ (by omega), ← w9, yi_u_ne _ _ (by omega), f5 82 (24) (by omega), ← w2, yi_u_ne _ _ (by omega)]
          have r68 : Ja 82 25 = I 82 25 := by rw [fJa 82 (25) (by omega), f30 82 (25) (by omega), ← w26, yi_u_ne _ _ (by omega), f22 82 (25) (by omega), f19 82 (25) (by omega), f15 82 (25) (by omega), ← w13, yi_u_ne _ _ (by omega), ← w11, yi_u_ne _ _ (by omega), ← w9, yi_u_ne _ _ (by omega), f5 82 (25) (by omega), ← w2, yi_u_ne _ _ (by omega)]
          have r69 : Ja 82 18 = I 82 18 := by rw [fJa 82 (18) (by omega), f30 82 (18) (by omega), ← w26, yi_u_ne _ _ (by omega), f22 82 (18) (by omega), f19 82 (18) (by omega), f15 82 (18) (by omega), ← w13, yi_u_ne _ _ (by omega), ← w11, yi_u_ne _ _ (by omega), ← w9, yi_u_ne _ _ (by omega), f5 82 (18) (by omega), ← w2, yi_u_ne _ _ (by omega)]
          have FI : ∀ p k, (p < 82 ∨ 108 < p ∨ p = 83 ∨ p = 87 ∨ p = 93 ∨ (p = 82 ∧ k = 18)) → Ja p k = I p k := (fun p k hp => by rw [fJa p k (by omega), f30 p k (by omega), ← w26, yi_u_ne _ _ (fun z => by omega), f22 p k (by omega), f19 p k (by omega), f15 p k (by omega), ← w13, yi_u_ne _ _ (fun z => by omega), ← w11, yi_u_ne _ _ (fun z => by omega), ← w9, yi_u_ne _ _ (fun z => by omega), f5 p k (by omega), ← w2, yi_u_ne _ _ (fun z => by omega)])
          have FL : ∀ p k, (p < 82 ∨ 108 < p ∨ p = 83 ∨ p = 87 ∨ p = 91) → Ka p k = L p k := (fun p k hp => by rw [fKa p k (by omega), f7 p k (by omega)])
          exact yi_G_reti rfl rfl (⟨_, _, _, rfl, by omega, ym_IV_t hIV plo plw (fun k => by rw [fJa 98 k (by omega), f30 98 k (by omega), ← w26, yi_u_ne _ _ (by omega), f22 98 k (by omega), f19 98 k (by omega), f15 98 k (by omega), ← w13, yi_u_ne _ _ (by omega), ← w11, yi_u_ne _ _ (by omega), ← w9, yi_u_ne _ _ (by omega), f5 98 k (by omega), ← w2, yi_u_ne _ _ (by omega)]) ((ym_ST_t (fun k => fJa 100 k (by omega)) (fJa 82 30 (by omega)) (fun k => fJa 101 k (by omega)) (fun k => fJa 102 k (by omega)) (ym_ST_t (fun k => f30 100 k (by omega)) (f30 82 30 (by omega)) (fun k => f30 101 k (by omega)) (fun k => f30 102 k (by omega)) (ym_ST_t (fun k => by rw [← w26, yi_u_ne _ _ (by omega)]) (by rw [← w26, yi_u_ne _ _ (by omega)]) (fun k => by rw [← w26, yi_u_ne _ _ (by omega)]) (fun k => by rw [← w26, yi_u_ne _ _ (by omega)]) (ym_ST_t (fun k => f22 100 k (by omega)) (f22 82 30 (by omega)) (fun k => f22 101 k (by omega)) (fun k => f22 102 k (by omega)) (ym_ST_t (fun k => f19 100 k (by omega)) (f19 82 30 (by omega)) (fun k => f19 101 k (by omega)) (fun k => f19 102 k (by omega)) (ym_ST_t (fun k => f15 100 k (by omega)) (f15 82 30 (by omega)) (fun k => f15 101 k (by omega)) (fun k => f15 102 k (by omega)) (ym_ST_t (fun k => by rw [← w13, yi_u_ne _ _ (by omega)]) (by rw [← w13, yi_u_ne _ _ (by omega)]) (fun k => by rw [← w13, yi_u_ne _ _ (by omega)]) (fun k => by rw [← w13, yi_u_ne _ _ (by omega)]) (ym_ST_t (fun k => by rw [← w11, yi_u_ne _ _ (by omega)]) (by rw [← w11, yi_u_ne _ _ (by omega)]) (fun k => by rw [← w11, yi_u_ne _ _ (by omega)]) (fun k => by rw [← w11, yi_u_ne _ _ (by omega)]) (ym_ST_t (fun k => by rw [← w9, yi_u_ne _ _ (by omega)]) (by rw [← w9, yi_u_ne _ _ (by omega)]) (fun k => by rw [← w9, yi_u_ne _ _ (by omega)]) (fun k => by rw [← w9, yi_u_ne _ _ (by omega)]) (ym_ST_t (fun k => f5 100 k (by omega)) (f5 82 30 (by omega)) (fun k => f5 101 k (by omega)) (fun k => f5 102 k (by omega)) (ym_ST_t (fun k => by rw [← w2, yi_u_ne _ _ (by omega)]) (by rw [← w2, yi_u_ne _ _ (by omega)]) (fun k => by rw [← w2, yi_u_ne _ _ (by omega)]) (fun k => by rw [← w2, yi_u_ne _ _ (by omega)]) hST)))))))))))) r67 r68 r69 pn (by omega), (fun p k hp => FI p k (by omega)), (fun p k hp => FL p k (by omega)), Or.inr ⟨plo, fun k => FI 93 k (by omega), fun k => FL 91 k (by omega), FI 82 18 (by omega)⟩⟩)
      · refine yi_G_if1 false rfl (yi_eq_f h34) ?_
        refine yi_G_run 1 (76, [(0, .inr (.inr (some 82)))], [.inr (.inr (some 82))], (Ja, Ka, X), 0, 0) (fun _ => rfl) ?_
        have r70 : Ja 82 18 = I 82 18 := by rw [fJa 82 (18) (by omega), f30 82 (18) (by omega), ← w26, yi_u_ne _ _ (by omega), f22 82 (18) (by omega), f19 82 (18) (by omega), f15 82 (18) (by omega), ← w13, yi_u_ne _ _ (by omega), ← w11, yi_u_ne _ _ (by omega), ← w9, yi_u_ne _ _ (by omega), f5 82 (18) (by omega), ← w2, yi_u_ne _ _ (by omega)]
        have r71 : Ja 82 20 = 50 := by rw [fJa 82 (20) (by omega), f30 82 (20) (by omega), ← w26, yi_u_ne _ _ (by omega), f22 82 (20) (by omega), f19 82 (20) (by omega), f15 82 (20) (by omega), ← w13, yi_u_eq]
        refine yi_G_callv rfl rfl (ym_rcv hS) rfl (c_readLine d (by omega) hS (ym_TK_t (fun k => by rw [fJa 84 k (by omega), f30 84 k (by omega), ← w26, yi_u_ne _ _ (fun z => absurd z.1 (by decide)), f22 84 k (by omega), f19 84 k (by omega), f15 84 k (by omega), ← w13, yi_u_ne _ _ (fun z => absurd z.1 (by decide)), ← w11, yi_u_ne _ _ (fun z => absurd z.1 (by decide)), ← w9, yi_u_ne _ _ (fun z => absurd z.1 (by decide))]) (fun k => by rw [fJa 85 k (by omega), f30 85 k (by omega), ← w26, yi_u_ne _ _ (fun z => absurd z.1 (by decide)), f22 85 k (by omega), f19 85 k (by omega), f15 85 k (by omega), ← w13, yi_u_ne _ _ (fun z => absurd z.1 (by decide)), ← w11, yi_u_ne _ _ (fun z => absurd z.1 (by decide)), ← w9, yi_u_ne _ _ (fun z => absurd z.1 (by decide))]) hTI4) ⟨by omega, by omega⟩ (ym_TK_lt hTI4 (by omega) (by omega)) (by omega) ⟨by omega, by omega⟩ (pld (by omega)).1 (pld (by omega)).2 ⟨by omega, by omega⟩ (by omega)) ?_
        rintro _ ⟨I72, L74, rfl, f73, f75, h76a, h76b, h76c, h76d, h76e, h76f, lwI72, loI72, ldI72⟩
        show yi_G zi_Ms d zi_m72 (79, [(0, .inr (.inr (some 82)))], [], (I72, L74, X), 0, 0) _
        refine yi_G_run 2 (82, [(0, .inr (.inr (some 82)))], [.inl 59, .inr (.inr (some 82))], (I72, L74, X), 0, 0) (fun _ => rfl) ?_
        refine yi_G_callv rfl rfl (ym_rcv hS) rfl (c_takeSign d (by omega) hS (ym_TK_t (fun k => by rw [f73 84 k (by omega), fJa 84 k (by omega), f30 84 k (by omega), ← w26, yi_u_ne _ _ (fun z => absurd z.1 (by decide)), f22 84 k (by omega), f19 84 k (by omega), f15 84 k (by omega), ← w13, yi_u_ne _ _ (fun z => absurd z.1 (by decide)), ← w11, yi_u_ne _ _ (fun z => absurd z.1 (by decide)), ← w9, yi_u_ne _ _ (fun z => absurd z.1 (by decide))]) (fun k => by rw [f73 85 k (by omega), fJa 85 k (by omega), f30 85 k (by omega), ← w26, yi_u_ne _ _ (fun z => absurd z.1 (by decide)), f22 85 k (by omega), f19 85 k (by omega), f15 85 k (by omega), ← w13, yi_u_ne _ _ (fun z => absurd z.1 (by decide)), ← w11, yi_u_ne _ _ (fun z => absurd z.1 (by decide)), ← w9, yi_u_ne _ _ (fun z => absurd z.1 (by decide))]) hTI4) ⟨by omega, by omega⟩ (by omega)) ?_
        rintro _ ⟨I77, rfl, f78, h79a, h79b, h79c⟩
        show yi_G zi_Ms d zi_m72 (85, [(0, .inr (.inr (some 82)))], [], (I77, L74, X), 0, 0) _
        refine yi_G_run 1 (56, [(0, .inr (.inr (some 82)))], [], (I77, L74, X), 0, 0) (fun _ => rfl) ?_
        have r80 : I77 82 13 = I72 82 13 := by rw [f78 82 (13) (by omega)]
        have r81 : I77 82 19 = I72 82 19 := by rw [f78 82 (19) (by omega)]
        have r82 : I77 82 13 = I72 82 13 := by rw [f78 82 (13) (by omega)]
        have r83 : I77 82 19 = I72 82 19 := by rw [f78 82 (19) (by omega)]
        have r84 : I77 82 13 = I72 82 13 := by rw [f78 82 (13) (by omega)]
        have r85 : I77 82 19 = I72 82 19 := by rw [f78 82 (19) (by omega)]
        have r86 : I77 82 13 = I72 82 13 := by rw [f78 82 (13) (by omega)]
        have r87 : I77 82 19 = I72 82 19 := by rw [f78 82 (19) (by omega)]
        have r88 : I77 82 13 = I72 82 13 := by rw [f78 82 (13) (by omega)]
        have r89 : I77 82 19 = I72 82 19 := by rw [f78 82 (19) (by omega)]
        exact ih56 _ (by omega) I77 L74 (fun p k hp => by rw [f78 p k (by omega), f73 p k (by omega), fJa p k (by omega)]) (fun p k hp => by rw [f75 p k (by omega), fKa p k (by omega)]) (by omega) (by omega) (by omega) (by omega) (by omega) (ym_LW_f (ym_LW_t plw lwI72 (by omega)) (fun k => by rw [f78 89 k (by omega)]) (fun k => by rw [f78 90 k (by omega)])) (fun k hk => by rw [f78 88 k (by omega), loI72 k hk]; exact plo k hk) (fun zz => ym_LL_t (fun k => f78 88 k (by omega)) (fun k => f78 89 k (by omega)) (fun k => f78 90 k (by omega)) (f78 82 19 (by omega)) (f78 82 13 (by omega)) (ldI72 (by omega))) rfl
    · refine yi_G_if1 true rfl (yi_ne_t h32) ?_
      refine yi_G_run 1 (89, [(0, .inr (.inr (some 82)))], [.inr (.inr (some 82))], (Ja, Ka, X), 0, 0) (fun _ => rfl) ?_
      refine yi_G_get (92, [(0, .inr (.inr (some 82)))], [.inl (Ja 82 8)], (Ja, Ka, X), 0, 0) rfl (ym_gi hS rfl rfl rfl) ?_
      by_cases h90 : (Ja 82 8) ≤ 0
      · refine yi_G_if1 true rfl (yi_le_t h90) ?_
        refine yi_G_run 2 (102, [(1, .inl 0), (0, .inr (.inr (some 82)))], [], (Ja, Ka, X), 0, 0) (fun _ => rfl) ?_
        have pt102 : ∀ (m : Nat) (k : Int) (Jb : Nat → Nat → Int), (∀ p k, p ≠ 88 → Jb p k = Ja p k) → (0 ≤ k ∧ k ≤ 50) → (∀ j : Nat, (j : Int) < k → Jb 88 j = Ja 88 (50 + j)) → (∀ j : Nat, 50 ≤ j → Jb 88 j = Ja 88 j) → (50 - k).toNat = m → yi_G zi_Ms d zi_m72 (102, [(1, .inl k), (0, .inr (.inr (some 82)))], [], (Jb, Ka, X), 0, 0) (fun r => ∃ z I' L', r = (some (.inl z), (I', L', X), 0, 0) ∧ I' 82 2 = 0 ∧ ym_IV I' ∧ (∀ p k, (p < 82 ∨ 108 < p ∨ p = 83 ∨ p = 87) → I' p k = I p k) ∧ (∀ p k, (p < 82 ∨ 108 < p ∨ p = 83 ∨ p = 87) → L' p k = L p k) ∧ (z = 0 ∨ ((∀ k : Nat, k < 50 → I' 88 k = I 88 k) ∧ (∀ k, I' 93 k = I 93 k) ∧ (∀ k, L' 91 k = L 91 k) ∧ I' 82 18 = I 82 18))) := by
          intro m102
          induction m102 using Nat.strongRecOn with
          | _ m102 ih102 =>
          intro k Jb fJb k0 hb1 hb2 hm102
          refine yi_G_run 2 (105, [(1, .inl k), (0, .inr (.inr (some 82)))], [.inl 50, .inl k], (Jb, Ka, X), 0, 0) (fun _ => rfl) ?_
          by_cases h91 : 50 ≤ k
          · refine yi_G_if2 true rfl (yi_ge_t h91) ?_
            refine yi_G_run 2 (131, [(1, .inl 0), (0, .inr (.inr (some 82)))], [], (Jb, Ka, X), 0, 0) (fun _ => rfl) ?_
            have pt131 : ∀ (m : Nat) (q : Int) (Jc : Nat → Nat → Int), (∀ p k, p ≠ 89 ∧ p ≠ 90 → Jc p k = Jb p k) → (0 ≤ q ∧ q ≤ Ja 82 13) → (∀ j : Nat, (j : Int) < q → Jc 89 j = Jb 89 (1100 + j) ∧ Jc 90 j = Jb 90 (1100 + j)) → (∀ j : Nat, 1100 ≤ j → Jc 89 j = Jb 89 j ∧ Jc 90 j = Jb 90 j) → (Ja 82 13 - q).toNat = m → yi_G zi_Ms d zi_m72 (131, [(1, .inl q), (0, .inr (.inr (some 82)))], [], (Jc, Ka, X), 0, 0) (fun r => ∃ z I' L', r = (some (.inl z), (I', L', X), 0, 0) ∧ I' 82 2 = 0 ∧ ym_IV I' ∧ (∀ p k, (p < 82 ∨ 108 < p ∨ p = 83 ∨ p = 87) → I' p k = I p k) ∧ (∀ p k, (p < 82 ∨ 108 < p ∨ p = 83 ∨ p = 87) → L' p k = L p k) ∧ (z = 0 ∨ ((∀ k : Nat, k < 50 → I' 88 k = I 88 k) ∧ (∀ k, I' 93 k = I 93 k) ∧ (∀ k, L' 91 k = L 91 k) ∧ I' 82 18 = I 82 18))) := by
              intro m131
              induction m131 using Nat.strongRecOn with
              | _ m131 ih131 =>
              intro q Jc fJc q0 hc1 hc2 hm131
              refine yi_G_run 2 (133, [(1, .inl q), (0, .inr (.inr (some 82)))], [.inr (.inr (some 82)), .inl q], (Jc, Ka, X), 0, 0) (fun _ => rfl) ?_
              have r92 : Jc 82 13 = Ja 82 13 := by rw [fJc 82 (13) (by omega), fJb 82 (13) (by omega)]
              refine yi_G_get (136, [(1, .inl q), (0, .inr (.inr (some 82)))], [.inl (Ja 82 13), .inl q], (Jc, Ka, X), 0, 0) rfl (ym_gi hS rfl rfl r92) ?_
              by_cases h93 : (Ja 82 13) ≤ q
              · refine yi_G_if2 true rfl (yi_ge_t h93) ?_
                refine yi_G_run 2 (179, [(1, .inl 0), (0, .inr (.inr (some 82)))], [], (Jc, Ka, X), 0, 0) (fun _ => rfl) ?_
                have pt179 : ∀ (m : Nat) (u : Int) (Jd : Nat → Nat → Int) (Kd : Nat → Nat → Int), (∀ p k, p ≠ 93 → Jd p k = Jc p k) → (∀ p k, p ≠ 91 → Kd p k = Ka p k) → (0 ≤ u ∧ u ≤ Ja 82 19) → (Ja 82 19 - u).toNat = m → yi_G zi_Ms d zi_m72 (179, [(1, .inl u), (0, .inr (.inr (some 82)))], [], (Jd, Kd, X), 0, 0) (fun r => ∃ z I' L', r = (some (.inl z), (I', L', X), 0, 0) ∧ I' 82 2 = 0 ∧ ym_IV I' ∧ (∀ p k, (p < 82 ∨ 108 < p ∨ p = 83 ∨ p = 87) → I' p k = I p k) ∧ (∀ p k, (p < 82 ∨ 108 < p ∨ p = 83 ∨ p = 87) → L' p k = L p k) ∧ (z = 0 ∨ ((∀ k : Nat, k < 50 → I' 88 k = I 88 k) ∧ (∀ k, I' 93 k = I 93 k) ∧ (∀ k, L' 91 k = L 91 k) ∧ I' 82 18 = I 82 18))) := by
                  intro m179
                  induction m179 using Nat.strongRecOn with
                  | _ m179 ih179 =>
                  intro u Jd Kd fJd fKd u0 hm179
                  refine yi_G_run 2 (181, [(1, .inl u), (0, .inr (.inr (some 82)))], [.inr (.inr (some 82)), .inl u], (Jd, Kd, X), 0, 0) (fun _ => rfl) ?_
                  have r94 : Jd 82 19 = Ja 82 19 := by rw [fJd 82 (19) (by omega), fJc 82 (19) (by omega), fJb 82 (19) (by omega)]
                  refine yi_G_get (184, [(1, .inl u), (0, .inr (.inr (some 82)))], [.inl (Ja 82 19), .inl u], (Jd, Kd, X), 0, 0) rfl (ym_gi hS rfl rfl r94) ?_
                  by_cases h95 : (Ja 82 19) ≤ u
                  · refine yi_G_if2 true rfl (yi_ge_t h95) ?_
                    refine yi_G_run 2 (219, [(1, .inl u), (0, .inr (.inr (some 82)))], [.inr (.inr (some 82)), .inr (.inr (some 82))], (Jd, Kd, X), 0, 0) (fun _ => rfl) ?_
                    have r96 : Jd 82 19 = Ja 82 19 := by rw [fJd 82 (19) (by omega), fJc 82 (19) (by omega), fJb 82 (19) (by omega)]
                    refine yi_G_get (222, [(1, .inl u), (0, .inr (.inr (some 82)))], [.inl (Ja 82 19), .inr (.inr (some 82))], (Jd, Kd, X), 0, 0) rfl (ym_gi hS rfl rfl r96) ?_
                    refine yi_G_put (225, [(1, .inl u), (0, .inr (.inr (some 82)))], [], ((yi_u Jd 82 18 (Ja 82 19)), Kd, X), 0, 0) rfl (ym_pi hS rfl rfl) ?_
                    generalize w98 : yi_u Jd 82 18 (Ja 82 19) = I97
                    refine yi_G_run 1 (226, [(1, .inl u), (0, .inr (.inr (some 82)))], [.inr (.inr (some 82))], (I97, Kd, X), 0, 0) (fun _ => rfl) ?_
                    have r99 : I97 82 13 = Ja 82 13 := by rw [← w98, yi_u_ne _ _ (by omega), fJd 82 (13) (by omega), fJc 82 (13) (by omega), fJb 82 (13) (by omega)]
                    have r100 : I97 82 19 = Ja 82 19 := by rw [← w98, yi_u_ne _ _ (by omega), fJd 82 (19) (by omega), fJc 82 (19) (by omega), fJb 82 (19) (by omega)]
                    have ll := pld (by omega)
                    have e50 : ∀ k : Nat, k < 50 → I97 88 k = Ja 88 (50 + k) := fun k hk => by rw [← w98, yi_u_ne _ _ (by omega), fJd 88 k (by omega), fJc 88 k (by omega)]; exact hb1 k (by omega)
                    have e89 : ∀ k : Nat, (k : Int) < Ja 82 13 → I97 89 k = Ja 89 (1100 + k) ∧ I97 90 k = Ja 90 (1100 + k) := fun k hk => ⟨by rw [← w98, yi_u_ne _ _ (by omega), fJd 89 k (by omega)]; rw [(hc1 k (by omega)).1]; exact fJb 89 _ (by omega), by rw [← w98, yi_u_ne _ _ (by omega), fJd 90 k (by omega)]; rw [(hc1 k (by omega)).2]; exact fJb 90 _ (by omega)⟩
                    obtain ⟨lrb, fob⟩ := ym_LR_of ll.1 e50
                    have pkb : ym_PK I97 := ym_PK_of ll.1 ll.2 rfl (by omega) e50 e89
                    have fbb := ym_fo_b (da := I97 88 0) (pe := I97 88 1) (ev := I97 88 2) (by have := lrb.2.2.1; omega)
                    refine yi_G_callv rfl rfl (ym_rcv hS) rfl (c_begins d (by omega) hS lrb (ym_PK_PL pkb) fob) ?_
                    rintro _ ⟨I101, L103, rfl, f102, f104, v24, v25, v20, pwb, s0b, v30, mkb⟩
                    show yi_G zi_Ms d zi_m72 (229, [(1, .inl u), (0, .inr (.inr (some 82)))], [], (I101, L103, X), 0, 0) _
                    refine yi_G_run 1 (230, [(1, .inl u), (0, .inr (.inr (some 82)))], [.inl 0], (I101, L103, X), 0, 0) (fun _ => rfl) ?_
                    have r105 : I101 82 2 = 0 := by rw [f102 82 (2) (by omega), ← w98, yi_u_ne _ _ (by omega), fJd 82 (2) (by omega), fJc 82 (2) (by omega), fJb 82 (2) (by omega), fJa 82 (2) (by omega), f30 82 (2) (by omega), ← w26, yi_u_ne _ _ (by omega), f22 82 (2) (by omega), f19 82 (2) (by omega), f15 82 (2) (by omega), ← w13, yi_u_ne _ _ (by omega), ← w11, yi_u_ne _ _ (by omega), ← w9, yi_u_ne _ _ (by omega), c2I4]
                    have r106 : I101 82 18 = Ja 82 19 := by rw [f102 82 (18) (by omega), ← w98, yi_u_eq]
                    have r107 : I101 82 19 = Ja 82 19 := by rw [f102 82 (19) (by omega), ← w98, yi_u_ne _ _ (by omega), fJd 82 (19) (by omega), fJc 82 (19) (by omega), fJb 82 (19) (by omega)]
                    exact yi_G_reti rfl rfl (⟨_, _, _, rfl, by omega, ⟨ym_LR_t (fun k => f102 88 k (by omega)) lrb, ym_PK_t ⟨lrb.2.2.2.2.1.2, lrb.2.2.2.2.2.2⟩ (fun k _ => f102 88 k (by omega)) (fun k _ => ⟨f102 89 k (by omega), f102 90 k (by omega)⟩) pkb, pwb, ym_ST_0 s0b v30 mkb, by omega, by omega, by omega, by omega, by omega, by rw [f102 88 0 (by omega), f102 88 1 (by omega), f102 88 2 (by omega)]; exact fob⟩, (fun p k hp => by rw [f102 p k (by omega), ← w98, yi_u_ne _ _ (fun z => by omega), fJd p k (by omega), fJc p k (by omega), fJb p k (by omega), fJa p k (by omega), f30 p k (by omega), ← w26, yi_u_ne _ _ (fun z => by omega), f22 p k (by omega), f19 p k (by omega), f15 p k (by omega), ← w13, yi_u_ne _ _ (fun z => by omega), ← w11, yi_u_ne _ _ (fun z => by omega), ← w9, yi_u_ne _ _ (fun z => by omega), f5 p k (by omega), ← w2, yi_u_ne _ _ (fun z => by omega)]), (fun p k hp => by rw [f104 p k (by omega), fKd p k (by omega), fKa p k (by omega), f7 p k (by omega)]), Or.inl rfl⟩)
                  · refine yi_G_if2 false rfl (yi_ge_f h95) ?_
                    refine yi_G_run 1 (188, [(1, .inl u), (0, .inr (.inr (some 82)))], [.inr (.inr (some 82))], (Jd, Kd, X), 0, 0) (fun _ => rfl) ?_
                    refine yi_G_get (191, [(1, .inl u), (0, .inr (.inr (some 82)))], [.inr (.inr (some 91))], (Jd, Kd, X), 0, 0) rfl (ym_gr hS 8 rfl rfl rfl) ?_
                    refine yi_G_run 2 (193, [(1, .inl u), (0, .inr (.inr (some 82)))], [.inr (.inr (some 82)), .inl u, .inr (.inr (some 91))], (Jd, Kd, X), 0, 0) (fun _ => rfl) ?_
                    refine yi_G_get (196, [(1, .inl u), (0, .inr (.inr (some 82)))], [.inr (.inr (some 92)), .inl u, .inr (.inr (some 91))], (Jd, Kd, X), 0, 0) rfl (ym_gr hS 9 rfl rfl rfl) ?_
                    refine yi_G_run 1 (197, [(1, .inl u), (0, .inr (.inr (some 82)))], [.inl u, .inr (.inr (some 92)), .inl u, .inr (.inr (some 91))], (Jd, Kd, X), 0, 0) (fun _ => rfl) ?_
                    have r108 : Kd 92 (u.toNat) = Ka 92 (u.toNat) := by rw [fKd 92 (u.toNat) (by omega)]
                    refine yi_G_lald (198, [(1, .inl u), (0, .inr (.inr (some 82)))], [.inr (.inl (Ka 92 (u.toNat))), .inl u, .inr (.inr (some 91))], (Jd, Kd, X), 0, 0) rfl (ym_ll hS 9 rfl (by omega) (by omega) r108) ?_
                    refine yi_G_last (199, [(1, .inl u), (0, .inr (.inr (some 82)))], [], (Jd, (yi_u Kd 91 (u.toNat) (Ka 92 (u.toNat))), X), 0, 0) rfl (ym_sl hS 8 rfl (by omega) (by omega)) ?_
                    generalize w110 : yi_u Kd 91 (u.toNat) (Ka 92 (u.toNat)) = L109
                    refine yi_G_run 1 (200, [(1, .inl u), (0, .inr (.inr (some 82)))], [.inr (.inr (some 82))], (Jd, L109, X), 0, 0) (fun _ => rfl) ?_
                    refine yi_G_get (203, [(1, .inl u), (0, .inr (.inr (some 82)))], [.inr (.inr (some 93))], (Jd, L109, X), 0, 0) rfl (ym_gr hS 10 rfl rfl rfl) ?_
                    refine yi_G_run 2 (205, [(1, .inl u), (0, .inr (.inr (some 82)))], [.inr (.inr (some 82)), .inl u, .inr (.inr (some 93))], (Jd, L109, X), 0, 0) (fun _ => rfl) ?_
                    refine yi_G_get (208, [(1, .inl u), (0, .inr (.inr (some 82)))], [.inr (.inr (some 94)), .inl u, .inr (.inr (some 93))], (Jd, L109, X), 0, 0) rfl (ym_gr hS 11 rfl rfl rfl) ?_
                    refine yi_G_run 1 (209, [(1, .inl u), (0, .inr (.inr (some 82)))], [.inl u, .inr (.inr (some 94)), .inl u, .inr (.inr (some 93))], (Jd, L109, X), 0, 0) (fun _ => rfl) ?_
                    have r111 : Jd 94 (u.toNat) = Ja 94 (u.toNat) := by rw [fJd 94 (u.toNat) (by omega), fJc 94 (u.toNat) (by omega), fJb 94 (u.toNat) (by omega)]
                    refine yi_G_iald (210, [(1, .inl u), (0, .inr (.inr (some 82)))], [.inl (Ja 94 (u.toNat)), .inl u, .inr (.inr (some 93))], (Jd, L109, X), 0, 0) rfl (ym_li hS 11 rfl (by omega) (by omega) r111) ?_
                    refine yi_G_iast (211, [(1, .inl u), (0, .inr (.inr (some 82)))], [], ((yi_u Jd 93 (u.toNat) (Ja 94 (u.toNat))), L109, X), 0, 0) rfl (ym_si hS 10 rfl (by omega) (by omega)) ?_
                    generalize w113 : yi_u Jd 93 (u.toNat) (Ja 94 (u.toNat)) = I112
                    refine yi_G_iinc [(1, .inl (u + 1)), (0, .inr (.inr (some 82)))] rfl rfl rfl (by rw [show yi_w (u + 1) = u + 1 from (yi_wn (by omega) (by omega)).trans (by omega)]; rfl) ?_
                    refine yi_G_run 1 (179, [(1, .inl (u + 1)), (0, .inr (.inr (some 82)))], [], (I112, L109, X), 0, 0) (fun _ => rfl) ?_
                    exact ih179 _ (by omega) (u + 1) I112 L109 (fun p k hp => by rw [← w113, yi_u_ne _ _ (fun z => by omega), fJd p k (by omega)]) (fun p k hp => by rw [← w110, yi_u_ne _ _ (fun z => by omega), fKd p k (by omega)]) (by omega) rfl
                exact pt179 _ 0 Jc Ka (fun _ _ _ => rfl) (fun _ _ _ => rfl) (by omega) rfl
              · refine yi_G_if2 false rfl (yi_ge_f h93) ?_
                refine yi_G_run 1 (140, [(1, .inl q), (0, .inr (.inr (some 82)))], [.inr (.inr (some 82))], (Jc, Ka, X), 0, 0) (fun _ => rfl) ?_
                refine yi_G_get (143, [(1, .inl q), (0, .inr (.inr (some 82)))], [.inr (.inr (some 89))], (Jc, Ka, X), 0, 0) rfl (ym_gr hS 6 rfl rfl rfl) ?_
                refine yi_G_run 2 (145, [(1, .inl q), (0, .inr (.inr (some 82)))], [.inr (.inr (some 82)), .inl q, .inr (.inr (some 89))], (Jc, Ka, X), 0, 0) (fun _ => rfl) ?_
                refine yi_G_get (148, [(1, .inl q), (0, .inr (.inr (some 82)))], [.inr (.inr (some 89)), .inl q, .inr (.inr (some 89))], (Jc, Ka, X), 0, 0) rfl (ym_gr hS 6 rfl rfl rfl) ?_
                refine yi_G_run 2 (152, [(1, .inl q), (0, .inr (.inr (some 82)))], [.inl q, .inl 1100, .inr (.inr (some 89)), .inl q, .inr (.inr (some 89))], (Jc, Ka, X), 0, 0) (fun _ => rfl) ?_
                refine yi_G_iadd rfl (1100 + q) (yi_wn (by omega) (by omega)) ?_
                refine yi_G_iald (154, [(1, .inl q), (0, .inr (.inr (some 82)))], [.inl (Jc 89 ((1100 + q).toNat)), .inl q, .inr (.inr (some 89))], (Jc, Ka, X), 0, 0) rfl (ym_li hS 6 rfl (by omega) (by omega) rfl) ?_
                refine yi_G_iast (155, [(1, .inl q), (0, .inr (.inr (some 82)))], [], ((yi_u Jc 89 (q.toNat) (Jc 89 ((1100 + q).toNat))), Ka, X), 0, 0) rfl (ym_si hS 6 rfl (by omega) (by omega)) ?_
                generalize w115 : yi_u Jc 89 (q.toNat) (Jc 89 ((1100 + q).toNat)) = I114
                refine yi_G_run 1 (156, [(1, .inl q), (0, .inr (.inr (some 82)))], [.inr (.inr (some 82))], (I114, Ka, X), 0, 0) (fun _ => rfl) ?_
                refine yi_G_get (159, [(1, .inl q), (0, .inr (.inr (some 82)))], [.inr (.inr (some 90))], (I114, Ka, X), 0, 0) rfl (ym_gr hS 7 rfl rfl rfl) ?_
                refine yi_G_run 2 (161, [(1, .inl q), (0, .inr (.inr (some 82)))], [.inr (.inr (some 82)), .inl q, .inr (.inr (some 90))], (I114, Ka, X), 0, 0) (fun _ => rfl) ?_
                refine yi_G_get (164, [(1, .inl q), (0, .inr (.inr (some 82)))], [.inr (.inr (some 90)), .inl q, .inr (.inr (some 90))], (I114, Ka, X), 0, 0) rfl (ym_gr hS 7 rfl rfl rfl) ?_
                refine yi_G_run 2 (168, [(1, .inl q), (0, .inr (.inr (some 82)))], [.inl q, .inl 1100, .inr (.inr (some 90)), .inl q, .inr (.inr (some 90))], (I114, Ka, X), 0, 0) (fun _ => rfl) ?_
                refine yi_G_iadd rfl (1100 + q) (yi_wn (by omega) (by omega)) ?_
                have r116 : I114 90 ((1100 + q).toNat) = Jc 90 ((1100 + q).toNat) := by rw [← w115, yi_u_ne _ _ (by omega)]
                refine yi_G_iald (170, [(1, .inl q), (0, .inr (.inr (some 82)))], [.inl (Jc 90 ((1100 + q).toNat)), .inl q, .inr (.inr (some 90))], (I114, Ka, X), 0, 0) rfl (ym_li hS 7 rfl (by omega) (by omega) r116) ?_
                refine yi_G_iast (171, [(1, .inl q), (0, .inr (.inr (some 82)))], [], ((yi_u I114 90 (q.toNat) (Jc 90 ((1100 + q).toNat))), Ka, X), 0, 0) rfl (ym_si hS 7 rfl (by omega) (by omega)) ?_
                generalize w118 : yi_u I114 90 (q.toNat) (Jc 90 ((1100 + q).toNat)) = I117
                refine yi_G_iinc [(1, .inl (q + 1)), (0, .inr (.inr (some 82)))] rfl rfl rfl (by rw [show yi_w (q + 1) = q + 1 from (yi_wn (by omega) (by omega)).trans (by omega)]; rfl) ?_
                refine yi_G_run 1 (131, [(1, .inl (q + 1)), (0, .inr (.inr (some 82)))], [], (I117, Ka, X), 0, 0) (fun _ => rfl) ?_
                exact ih131 _ (by omega) (q + 1) I117 (fun p k hp => by rw [← w118, yi_u_ne _ _ (fun z => by omega), ← w115, yi_u_ne _ _ (fun z => by omega), fJc p k (by omega)]) (by omega) (fun j hj => by rw [← w118, ← w115]; exact (by by_cases e : j = q.toNat; (subst e; rw [yi_u_ne _ _ (by omega), yi_u_eq, yi_u_eq]; constructor; (first | rfl | (rw [(hc2 _ (by omega)).1]; congr 1; omega)); (first | rfl | (rw [(hc2 _ (by omega)).2]; congr 1; omega))); (rw [yi_u_ne _ _ (by omega), yi_u_ne _ _ (by omega), yi_u_ne _ _ (by omega), yi_u_ne _ _ (by omega)]; exact hc1 j (by omega)))) (fun j hj => ⟨by rw [← w118, yi_u_ne _ _ (by omega), ← w115, yi_u_ne _ _ (by omega)]; exact (hc2 j hj).1, by rw [← w118, yi_u_ne _ _ (by omega), ← w115, yi_u_ne _ _ (by omega)]; exact (hc2 j hj).2⟩) rfl
            exact pt131 _ 0 Jb (fun _ _ _ => rfl) (by omega) (fun j hj => absurd hj (by omega)) (fun j hj => ⟨rfl, rfl⟩) rfl
          · refine yi_G_if2 false rfl (yi_ge_f h91) ?_
            refine yi_G_run 1 (109, [(1, .inl k), (0, .inr (.inr (some 82)))], [.inr (.inr (some 82))], (Jb, Ka, X), 0, 0) (fun _ => rfl) ?_
            refine yi_G_get (112, [(1, .inl k), (0, .inr (.inr (some 82)))], [.inr (.inr (some 88))], (Jb, Ka, X), 0, 0) rfl (ym_gr hS 5 rfl rfl rfl) ?_
            refine yi_G_run 2 (114, [(1, .inl k), (0, .inr (.inr (some 82)))], [.inr (.inr (some 82)), .inl k, .inr (.inr (some 88))], (Jb, Ka, X), 0, 0) (fun _ => rfl) ?_
            refine yi_G_get (117, [(1, .inl k), (0, .inr (.inr (some 82)))], [.inr (.inr (some 88)), .inl k, .inr (.inr (some 88))], (Jb, Ka, X), 0, 0) rfl (ym_gr hS 5 rfl rfl rfl) ?_
            refine yi_G_run 2 (120, [(1, .inl k), (0, .inr (.inr (some 82)))], [.inl k, .inl 50, .inr (.inr (some 88)), .inl k, .inr (.inr (some 88))], (Jb, Ka, X), 0, 0) (fun _ => rfl) ?_
            refine yi_G_iadd rfl (50 + k) (yi_wn (by omega) (by omega)) ?_
            refine yi_G_iald (122, [(1, .inl k), (0, .inr (.inr (some 82)))], [.inl (Jb 88 ((50 + k).toNat)), .inl k, .inr (.inr (some 88))], (Jb, Ka, X), 0, 0) rfl (ym_li hS 5 rfl (by omega) (by omega) rfl) ?_
            refine yi_G_iast (123, [(1, .inl k), (0, .inr (.inr (some 82)))], [], ((yi_u Jb 88 (k.toNat) (Jb 88 ((50 + k).toNat))), Ka, X), 0, 0) rfl (ym_si hS 5 rfl (by omega) (by omega)) ?_
            generalize w120 : yi_u Jb 88 (k.toNat) (Jb 88 ((50 + k).toNat)) = I119
            refine yi_G_iinc [(1, .inl (k + 1)), (0, .inr (.inr (some 82)))] rfl rfl rfl (by rw [show yi_w (k + 1) = k + 1 from (yi_wn (by omega) (by omega)).trans (by omega)]; rfl) ?_
            refine yi_G_run 1 (102, [(1, .inl (k + 1)), (0, .inr (.inr (some 82)))], [], (I119, Ka, X), 0, 0) (fun _ => rfl) ?_
            exact ih102 _ (by omega) (k + 1) I119 (fun p k hp => by rw [← w120, yi_u_ne _ _ (fun z => by omega), fJb p k (by omega)]) (by omega) (fun j hj => by rw [← w120]; exact (by by_cases e : j = k.toNat; (subst e; rw [yi_u_eq]; first | rfl | (rw [hb2 _ (by omega)]; congr 1; omega)); (rw [yi_u_ne _ _ (by omega)]; exact hb1 j (by omega)))) (fun j hj => by rw [← w120, yi_u_ne _ _ (by omega)]; exact hb2 j hj) rfl
        exact pt102 _ 0 Ja (fun _ _ _ => rfl) (by omega) (fun j hj => absurd hj (by omega)) (fun j hj => rfl) rfl
      · refine yi_G_if1 false rfl (yi_le_f h90) ?_
        refine yi_G_run 1 (96, [(0, .inr (.inr (some 82)))], [.inr (.inr (some 82))], (Ja, Ka, X), 0, 0) (fun _ => rfl) ?_
        refine yi_G_get (99, [(0, .inr (.inr (some 82)))], [.inl (Ja 82 8)], (Ja, Ka, X), 0, 0) rfl (ym_gi hS rfl rfl rfl) ?_
        have r121 : Ja 82 2 = 0 := by rw [fJa 82 (2) (by omega), f30 82 (2) (by omega), ← w26, yi_u_ne _ _ (by omega), f22 82 (2) (by omega), f19 82 (2) (by omega), f15 82 (2) (by omega), ← w13, yi_u_ne _ _ (by omega), ← w11, yi_u_ne _ _ (by omega), ← w9, yi_u_ne _ _ (by omega), c2I4]
        have r122 : Ja 82 24 = I 82 24 := by rw [fJa 82 (24) (by omega), f30 82 (24) (by omega), ← w26, yi_u_ne _ _ (by omega), f22 82 (24) (by omega), f19 82 (24) (by omega), f15 82 (24) (by omega), ← w13, yi_u_ne _ _ (by omega), ← w11, yi_u_ne _ _ (by omega), ← w9, yi_u_ne _ _ (by omega), f5 82 (24) (by omega), ← w2, yi_u_ne _ _ (by omega)]
        have r123 : Ja 82 25 = I 82 25 := by rw [fJa 82 (25) (by omega), f30 82 (25) (by omega), ← w26, yi_u_ne _ _ (by omega), f22 82 (25) (by omega), f19 82 (25) (by omega), f15 82 (25) (by omega), ← w13, yi_u_ne _ _ (by omega), ← w11, yi_u_ne _ _ (by omega), ← w9, yi_u_ne _ _ (by omega), f5 82 (25) (by omega), ← w2, yi_u_ne _ _ (by omega)]
        have r124 : Ja 82 18 = I 82 18 := by rw [fJa 82 (18) (by omega), f30 82 (18) (by omega), ← w26, yi_u_ne _ _ (by omega), f22 82 (18) (by omega), f19 82 (18) (by omega), f15 82 (18) (by omega), ← w13, yi_u_ne _ _ (by omega), ← w11, yi_u_ne _ _ (by omega), ← w9, yi_u_ne _ _ (by omega), f5 82 (18) (by omega), ← w2, yi_u_ne _ _ (by omega)]
        have FI : ∀ p k, (p < 82 ∨ 108 < p ∨ p = 83 ∨ p = 87 ∨ p = 93 ∨ (p = 82 ∧ k = 18)) → Ja p k = I p k := (fun p k hp => by rw [fJa p k (by omega), f30 p k (by omega), ← w26, yi_u_ne _ _ (fun z => by omega), f22 p k (by omega), f19 p k (by omega), f15 p k (by omega), ← w13, yi_u_ne _ _ (fun z => by omega), ← w11, yi_u_ne _ _ (fun z => by omega), ← w9, yi_u_ne _ _ (fun z => by omega), f5 p k (by omega), ← w2, yi_u_ne _ _ (fun z => by omega)])
        have FL : ∀ p k, (p < 82 ∨ 108 < p ∨ p = 83 ∨ p = 87 ∨ p = 91) → Ka p k = L p k := (fun p k hp => by rw [fKa p k (by omega), f7 p k (by omega)])
        exact yi_G_reti rfl rfl (⟨_, _, _, rfl, by omega, ym_IV_t hIV plo plw (fun k => by rw [fJa 98 k (by omega), f30 98 k (by omega), ← w26, yi_u_ne _ _ (by omega), f22 98 k (by omega), f19 98 k (by omega), f15 98 k (by omega), ← w13, yi_u_ne _ _ (by omega), ← w11, yi_u_ne _ _ (by omega), ← w9, yi_u_ne _ _ (by omega), f5 98 k (by omega), ← w2, yi_u_ne _ _ (by omega)]) ((ym_ST_t (fun k => fJa 100 k (by omega)) (fJa 82 30 (by omega)) (fun k => fJa 101 k (by omega)) (fun k => fJa 102 k (by omega)) (ym_ST_t (fun k => f30 100 k (by omega)) (f30 82 30 (by omega)) (fun k => f30 101 k (by omega)) (fun k => f30 102 k (by omega)) (ym_ST_t (fun k => by rw [← w26, yi_u_ne _ _ (by omega)]) (by rw [← w26, yi_u_ne _ _ (by omega)]) (fun k => by rw [← w26, yi_u_ne _ _ (by omega)]) (fun k => by rw [← w26, yi_u_ne _ _ (by omega)]) (ym_ST_t (fun k => f22 100 k (by omega)) (f22 82 30 (by omega)) (fun k => f22 101 k (by omega)) (fun k => f22 102 k (by omega)) (ym_ST_t (fun k => f19 100 k (by omega)) (f19 82 30 (by omega)) (fun k => f19 101 k (by omega)) (fun k => f19 102 k (by omega)) (ym_ST_t (fun k => f15 100 k (by omega)) (f15 82 30 (by omega)) (fun k => f15 101 k (by omega)) (fun k => f15 102 k (by omega)) (ym_ST_t (fun k => by rw [← w13, yi_u_ne _ _ (by omega)]) (by rw [← w13, yi_u_ne _ _ (by omega)]) (fun k => by rw [← w13, yi_u_ne _ _ (by omega)]) (fun k => by rw [← w13, yi_u_ne _ _ (by omega)]) (ym_ST_t (fun k => by rw [← w11, yi_u_ne _ _ (by omega)]) (by rw [← w11, yi_u_ne _ _ (by omega)]) (fun k => by rw [← w11, yi_u_ne _ _ (by omega)]) (fun k => by rw [← w11, yi_u_ne _ _ (by omega)]) (ym_ST_t (fun k => by rw [← w9, yi_u_ne _ _ (by omega)]) (by rw [← w9, yi_u_ne _ _ (by omega)]) (fun k => by rw [← w9, yi_u_ne _ _ (by omega)]) (fun k => by rw [← w9, yi_u_ne _ _ (by omega)]) (ym_ST_t (fun k => f5 100 k (by omega)) (f5 82 30 (by omega)) (fun k => f5 101 k (by omega)) (fun k => f5 102 k (by omega)) (ym_ST_t (fun k => by rw [← w2, yi_u_ne _ _ (by omega)]) (by rw [← w2, yi_u_ne _ _ (by omega)]) (fun k => by rw [← w2, yi_u_ne _ _ (by omega)]) (fun k => by rw [← w2, yi_u_ne _ _ (by omega)]) hST)))))))))))) r122 r123 r124 pn (by omega), (fun p k hp => FI p k (by omega)), (fun p k hp => FL p k (by omega)), Or.inr ⟨plo, fun k => FI 93 k (by omega), fun k => FL 91 k (by omega), FI 82 18 (by omega)⟩⟩)
  have r125 : I29 82 13 = 0 := by rw [f30 82 (13) (by omega), ← w26, yi_u_ne _ _ (by omega), f22 82 (13) (by omega), f19 82 (13) (by omega), f15 82 (13) (by omega), ← w13, yi_u_ne _ _ (by omega), ← w11, yi_u_ne _ _ (by omega), ← w9, yi_u_eq]
  have r126 : I29 82 19 = 0 := by rw [f30 82 (19) (by omega), ← w26, yi_u_ne _ _ (by omega), f22 82 (19) (by omega), f19 82 (19) (by omega), f15 82 (19) (by omega), ← w13, yi_u_ne _ _ (by omega), ← w11, yi_u_eq]
  have r127 : I29 82 13 = 0 := by rw [f30 82 (13) (by omega), ← w26, yi_u_ne _ _ (by omega), f22 82 (13) (by omega), f19 82 (13) (by omega), f15 82 (13) (by omega), ← w13, yi_u_ne _ _ (by omega), ← w11, yi_u_ne _ _ (by omega), ← w9, yi_u_eq]
  have r128 : I29 82 19 = 0 := by rw [f30 82 (19) (by omega), ← w26, yi_u_ne _ _ (by omega), f22 82 (19) (by omega), f19 82 (19) (by omega), f15 82 (19) (by omega), ← w13, yi_u_ne _ _ (by omega), ← w11, yi_u_eq]
  have r129 : I29 82 13 = 0 := by rw [f30 82 (13) (by omega), ← w26, yi_u_ne _ _ (by omega), f22 82 (13) (by omega), f19 82 (13) (by omega), f15 82 (13) (by omega), ← w13, yi_u_ne _ _ (by omega), ← w11, yi_u_ne _ _ (by omega), ← w9, yi_u_eq]
  have r130 : I29 82 19 = 0 := by rw [f30 82 (19) (by omega), ← w26, yi_u_ne _ _ (by omega), f22 82 (19) (by omega), f19 82 (19) (by omega), f15 82 (19) (by omega), ← w13, yi_u_ne _ _ (by omega), ← w11, yi_u_eq]
  have r131 : I29 82 13 = 0 := by rw [f30 82 (13) (by omega), ← w26, yi_u_ne _ _ (by omega), f22 82 (13) (by omega), f19 82 (13) (by omega), f15 82 (13) (by omega), ← w13, yi_u_ne _ _ (by omega), ← w11, yi_u_ne _ _ (by omega), ← w9, yi_u_eq]
  have r132 : I29 82 19 = 0 := by rw [f30 82 (19) (by omega), ← w26, yi_u_ne _ _ (by omega), f22 82 (19) (by omega), f19 82 (19) (by omega), f15 82 (19) (by omega), ← w13, yi_u_ne _ _ (by omega), ← w11, yi_u_eq]
  have r133 : I29 82 13 = 0 := by rw [f30 82 (13) (by omega), ← w26, yi_u_ne _ _ (by omega), f22 82 (13) (by omega), f19 82 (13) (by omega), f15 82 (13) (by omega), ← w13, yi_u_ne _ _ (by omega), ← w11, yi_u_ne _ _ (by omega), ← w9, yi_u_eq]
  have r134 : I29 82 19 = 0 := by rw [f30 82 (19) (by omega), ← w26, yi_u_ne _ _ (by omega), f22 82 (19) (by omega), f19 82 (19) (by omega), f15 82 (19) (by omega), ← w13, yi_u_ne _ _ (by omega), ← w11, yi_u_eq]
  have r135 : I29 88 50 = z23 := by rw [f30 88 (50) (by omega), ← w26, yi_u_eq]
  have r136 : I29 88 51 = I14 88 51 := by rw [f30 88 (51) (by omega), ← w26, yi_u_ne _ _ (by omega), f22 88 (51) (by omega), f19 88 (51) (by omega)]
  have r137 : I29 88 52 = I14 88 52 := by rw [f30 88 (52) (by omega), ← w26, yi_u_ne _ _ (by omega), f22 88 (52) (by omega), f19 88 (52) (by omega)]
  have r138 : I29 88 53 = I14 88 53 := by rw [f30 88 (53) (by omega), ← w26, yi_u_ne _ _ (by omega), f22 88 (53) (by omega), f19 88 (53) (by omega)]
  have r139 : I29 88 54 = I14 88 54 := by rw [f30 88 (54) (by omega), ← w26, yi_u_ne _ _ (by omega), f22 88 (54) (by omega), f19 88 (54) (by omega)]
  have r140 : I29 88 55 = I14 88 55 := by rw [f30 88 (55) (by omega), ← w26, yi_u_ne _ _ (by omega), f22 88 (55) (by omega), f19 88 (55) (by omega)]
  have r141 : I29 88 56 = I14 88 56 := by rw [f30 88 (56) (by omega), ← w26, yi_u_ne _ _ (by omega), f22 88 (56) (by omega), f19 88 (56) (by omega)]
  have r142 : I29 82 19 = 0 := by rw [f30 82 (19) (by omega), ← w26, yi_u_ne _ _ (by omega), f22 82 (19) (by omega), f19 82 (19) (by omega), f15 82 (19) (by omega), ← w13, yi_u_ne _ _ (by omega), ← w11, yi_u_eq]
  exact pt56 _ I29 L6 (fun _ _ _ => rfl) (fun _ _ _ => rfl) (by omega) (by omega) (by omega) (by omega) (by omega) (ym_LW_f (ym_LW_r _ _) (fun k => by rw [f30 89 k (by omega), ← w26, yi_u_ne _ _ (fun z => absurd z.1 (by decide)), f22 89 k (by omega), f19 89 k (by omega), f15 89 k (by omega), ← w13, yi_u_ne _ _ (fun z => absurd z.1 (by decide)), ← w11, yi_u_ne _ _ (fun z => absurd z.1 (by decide)), ← w9, yi_u_ne _ _ (fun z => absurd z.1 (by decide)), f5 89 k (by omega), ← w2, yi_u_ne _ _ (fun z => absurd z.1 (by decide))]) (fun k => by rw [f30 90 k (by omega), ← w26, yi_u_ne _ _ (fun z => absurd z.1 (by decide)), f22 90 k (by omega), f19 90 k (by omega), f15 90 k (by omega), ← w13, yi_u_ne _ _ (fun z => absurd z.1 (by decide)), ← w11, yi_u_ne _ _ (fun z => absurd z.1 (by decide)), ← w9, yi_u_ne _ _ (fun z => absurd z.1 (by decide)), f5 90 k (by omega), ← w2, yi_u_ne _ _ (fun z => absurd z.1 (by decide))])) (fun k hk => by rw [f30 88 k (by omega), ← w26, yi_u_ne _ _ (by omega), f22 88 k (by omega), f19 88 k (by omega), slo k hk, ← w13, yi_u_ne _ _ (by omega), ← w11, yi_u_ne _ _ (by omega), ← w9, yi_u_ne _ _ (by omega), f5 88 k (by omega), ← w2, yi_u_ne _ _ (by omega)]) (fun zz => ⟨⟨⟨by omega, by omega⟩, ⟨by omega, by omega⟩, ⟨by omega, by omega⟩, ⟨by omega, by omega⟩, ⟨by omega, by omega⟩, ⟨by omega, by omega⟩, by omega, by rw [r135, r136, r137, sh51, sh52]; exact fo0 _⟩, ⟨fun k a b => absurd b (by omega), fun w a b => absurd b (by omega), Or.inl (by omega)⟩⟩) rfl
def lm_R (ld : Nat → Int) (nm : Int → Int) (I L : Nat → Nat → Int) : Prop := (∀ j, j < 6 → I 88 j = ld j) ∧ (I 88 6 < 0 → ld 6 < 0) ∧ (∀ j, 7 ≤ j → j < 21 → I 88 j = ld j) ∧ ((0 ≤ ld 0 ∧ ld 0 ≤ 6) ∧ (0 ≤ ld 1 ∧ ld 1 ≤ 4) ∧ (0 ≤ ld 2 ∧ ld 2 ≤ 4) ∧ (0 ≤ ld 3 ∧ ld 3 ≤ 5) ∧ (0 ≤ ld 4 ∧ ld 4 ≤ 4) ∧ (0 ≤ ld 5 ∧ ld 5 ≤ 6)) ∧ mt_N I L 91 93 (I 82 18) nm
theorem lm_R_t {ld : Nat → Int} {nm : Int → Int} {I L I' L' : Nat → Nat → Int} (h : lm_R ld nm I L) (a : ∀ k : Nat, k < 50 → I' 88 k = I 88 k) (b : ∀ k, I' 93 k = I 93 k) (c : ∀ k, L' 91 k = L 91 k) (e : I' 82 18 = I 82 18) : lm_R ld nm I' L' := by
  obtain ⟨h1, h2, h3, h4, h5⟩ := h
  refine ⟨fun j hj => (a j (by omega)).trans (h1 j hj), by rw [a 6 (by omega)]; exact h2, fun j x y => (a j (by omega)).trans (h3 j x y), h4, ?_⟩
  have eb : I' 93 = I 93 := funext b
  have ec : L' 91 = L 91 := funext c
  unfold mt_N at h5 ⊢
  rw [e, eb, ec]
  exact h5
theorem lm_R_h {ld : Nat → Int} {nm : Int → Int} {I L I' L' : Nat → Nat → Int} {R' : Nat → Nat → Option Nat} {Y' : (Nat → Nat) × (Nat → Nat) × Nat} (h : lm_R ld nm I L) (hc : cm_H I L I' L' R' Y') : lm_R ld nm I' L' := lm_R_t h (fun k _ => (hc.2.1 88 k rfl).1) (fun k => (hc.2.1 93 k rfl).1) (fun k => (hc.2.1 91 k rfl).2) hc.2.2
theorem q_land2 {d : Nat} {I L : Nat → Nat → Int} {R : Nat → Nat → Option Nat} {Y : (Nat → Nat) × (Nat → Nat) × Nat} (hS : ym_S (R, Y)) (hm : cm_I R Y) (hN : 109 ≤ Y.2.2) {s : Nat → Int} {n : Nat} (hn : n ≤ 1000) (h2 : I 82 2 = (n : Int)) (ht : ∀ i, i < n → I 83 i = s i) (hW : ∀ w : Nat, w < 32 → L 87 w = sp_W37.getD w 0) : yi_P zi_Ms d 72 [.inr (.inr (some 82))] (I, L, R, Y) (fun r => ∃ f I' L' R' Y' n' m', r = (some (.inl f), (I', L', R', Y'), n', m') ∧ sp_R (tk_Ks s n) (tk_Ps s n) (tk_Vs s n) (0, 0, 0, [], sp_ld0, sp_nm0, []) (.inr f) ∧ (f = 0 → ∃ a ld nm cs, sp_R (tk_Ks s n) (tk_Ps s n) (tk_Vs s n) (0, 0, 0, [], sp_ld0, sp_nm0, []) (.inl (2, a, 0, [], ld, nm, cs)) ∧ (tk_Ks s n) a = 0 ∧ lm_R ld nm I' L')) := by
  refine yi_P_of (M := zi_m72) rfl (fun d k => ?_)
  show yi_D zi_Ms d zi_m72 k (0, [(0, .inr (.inr (some 82)))], [], (I, L, R, Y), 0, 0) _
  refine yi_D_run 2 (2, [(0, .inr (.inr (some 82)))], [.inl 0, .inr (.inr (some 82))], (I, L, R, Y), 0, 0) (fun _ => rfl) ?_
  refine yi_D_pi rfl (fun _ => ?_)
  generalize w2 : yi_u I 82 0 0 = I1
  refine yi_D_run 1 (6, [(0, .inr (.inr (some 82)))], [.inr (.inr (some 82))], (I1, L, R, Y), 0, 0) (fun _ => rfl) ?_
  refine yi_D_callv rfl (q_cutAll (s := s) hS hn (by rw [← w2, yi_u_ne _ _ (by omega)]; exact h2) (fun i hi => by rw [← w2, yi_u_ne _ _ (by omega)]; exact ht i hi) hW) ?_
  rintro _ ⟨I3, L4, rfl, hT5, h6, h7, h8, fI9, fL10⟩
  generalize tk_Ks s n = K at hT5 ⊢
  generalize tk_Ps s n = P at hT5 ⊢
  generalize tk_Vs s n = V at hT5 ⊢
  generalize tk_te s n = te at hT5
  show yi_D zi_Ms d zi_m72 k (9, [(0, .inr (.inr (some 82)))], [], (I3, L4, R, Y), 0, 0) _
  refine yi_D_run 2 (11, [(0, .inr (.inr (some 82)))], [.inl 0, .inr (.inr (some 82))], (I3, L4, R, Y), 0, 0) (fun _ => rfl) ?_
  refine yi_D_pi rfl (fun _ => ?_)
  generalize w12 : yi_u I3 82 13 0 = I11
  refine yi_D_run 2 (16, [(0, .inr (.inr (some 82)))], [.inl 0, .inr (.inr (some 82))], (I11, L4, R, Y), 0, 0) (fun _ => rfl) ?_
  refine yi_D_pi rfl (fun _ => ?_)
  generalize w14 : yi_u I11 82 19 0 = I13
  refine yi_D_run 2 (22, [(0, .inr (.inr (some 82)))], [.inl 50, .inr (.inr (some 82))], (I13, L4, R, Y), 0, 0) (fun _ => rfl) ?_
  refine yi_D_pi rfl (fun _ => ?_)
  generalize w16 : yi_u I13 82 20 50 = I15
  refine yi_D_run 2 (28, [(0, .inr (.inr (some 82)))], [.inl 50, .inr (.inr (some 82))], (I15, L4, R, Y), 0, 0) (fun _ => rfl) ?_
  refine yi_D_callv rfl (q_stands hS) ?_
  rintro _ ⟨I17, rfl, fs18, hz19⟩
  have hW20 := mt_W_0 (I := I17) hS hT5 (fun k => by rw [fs18 84 k (by omega), ← w16, yi_u_ne _ _ (by omega), ← w14, yi_u_ne _ _ (by omega), ← w12, yi_u_ne _ _ (by omega)]) (fun k => by rw [fs18 85 k (by omega), ← w16, yi_u_ne _ _ (by omega), ← w14, yi_u_ne _ _ (by omega), ← w12, yi_u_ne _ _ (by omega)]) (by rw [fs18 82 13 (by omega), ← w16, yi_u_ne _ _ (by omega), ← w14, yi_u_ne _ _ (by omega), ← w12, yi_u_eq]) (by rw [fs18 82 19 (by omega), ← w16, yi_u_ne _ _ (by omega), ← w14, yi_u_eq]) (by rw [fs18 82 20 (by omega), ← w16, yi_u_eq]) hz19
  have hf21 : I17 82 8 = 0 := by rw [fs18 82 8 (by omega), ← w16, yi_u_ne _ _ (by omega), ← w14, yi_u_ne _ _ (by omega), ← w12, yi_u_ne _ _ (by omega), h7]
  have hA22 : mt_A I17 te 0 := ⟨by rw [fs18 82 7 (by omega), ← w16, yi_u_ne _ _ (by omega), ← w14, yi_u_ne _ _ (by omega), ← w12, yi_u_ne _ _ (by omega), h6]; rfl, Nat.zero_le _⟩
  have hte := hW20.2.1.1
  show yi_D zi_Ms d zi_m72 k (31, [(0, .inr (.inr (some 82)))], [], (I17, L4, R, Y), 0, 0) _
  refine yi_D_run 2 (33, [(0, .inr (.inr (some 82)))], [.inl 0, .inr (.inr (some 82))], (I17, L4, R, Y), 0, 0) (fun _ => rfl) ?_
  refine yi_D_callv rfl (q_takeWord_z (by omega) (by omega) hW20 hf21 hA22) ?_
  rintro _ (⟨c23, I24, rfl, hGa25, hf26, hA27⟩ | ⟨c28, I29, rfl, hGa30, he31⟩)
  · have hA27 : mt_A I24 te (0 + 1) := hA27
    have hW32 := mt_W_t hW20 (mt_G_F hGa25)
    show yi_D zi_Ms d zi_m72 k (36, [(0, .inr (.inr (some 82)))], [], (I24, L4, R, Y), 0, 0) _
    refine yi_D_run 1 (37, [(0, .inr (.inr (some 82)))], [.inr (.inr (some 82))], (I24, L4, R, Y), 0, 0) (fun _ => rfl) ?_
    refine yi_D_gr (v := some 88) rfl rfl rfl (ym_S_at hS (j := 5) rfl).1 (fun _ => ?_)
    refine yi_D_run 4 (46, [(0, .inr (.inr (some 82)))], [.inl 6, .inl 1, .inr (.inr (some 82)), .inl 50, .inr (.inr (some 88))], (I24, L4, R, Y), 0, 0) (fun _ => rfl) ?_
    refine yi_D_callv rfl (q_takeNumber_z (lo := 1) (hi := 6) hW32 hf26 hA27) ?_
    rintro _ (⟨c33, c34, I35, rfl, hGa36, hf37, hA38⟩ | ⟨c39, z43, I40, rfl, hGa41, he42⟩ | ⟨c44, z48, I45, rfl, hGa46, he47⟩)
    · have hA38 : mt_A I35 te (0 + 2) := hA38
      have hW49 := mt_W_t hW32 (mt_G_F hGa36)
      show yi_D zi_Ms d zi_m72 k (49, [(0, .inr (.inr (some 82)))], [.inl (V (0 + 1)), .inl 50, .inr (.inr (some 88))], (I35, L4, R, Y), 0, 0) _
      refine yi_D_is rfl (fun _ _ => ?_)
      show yi_D zi_Ms d zi_m72 k (50, [(0, .inr (.inr (some 82)))], [], ((yi_u I35 88 50 (V (0 + 1))), L4, R, Y), 0, 0) _
      generalize w51 : yi_u I35 88 50 (V (0 + 1)) = I50
      have hW53 := mt_W_w (i := 0) (I' := I50) (V (0 + 1)) hW49 (fun _ => by rw [← w51]; exact yi_u_eq ..) (fun p k hp => by rw [← w51, yi_u_ne _ _ (by omega)]) (by rw [sp_up_e]; (repeat rw [sp_up_n _ _ (by omega)]); have hb := hW49.2.2.2.2.2.2.1; omega)
      rw [sp_ldz_u] at hW53
      have hf52 : I50 82 8 = 0 := by rw [← w51, yi_u_ne _ _ (by omega)]; exact hf37
      have hA54 : mt_A I50 te (0 + 2) := ⟨by rw [← w51, yi_u_ne _ _ (by omega)]; exact hA38.1, hA38.2⟩
      refine yi_D_run 2 (53, [(0, .inr (.inr (some 82)))], [.inl 59, .inr (.inr (some 82))], (I50, L4, R, Y), 0, 0) (fun _ => rfl) ?_
      refine yi_D_callv rfl (q_takeSign_z (by omega) hW53 hf52 hA54) ?_
      rintro _ (⟨c55, I56, rfl, hGa57, hf58, hA59⟩ | ⟨c60, I61, rfl, hGa62, he63⟩)
      · have hA59 : mt_A I56 te (0 + 3) := hA59
        have hW64 := mt_W_t hW53 (mt_G_F hGa57)
        have hR65 : sp_R K P V (0, 0, 0, [], sp_ld0, sp_nm0, []) (.inl (2, 0 + 2 + 1, 0, [], sp_up sp_ld0 0 (V (0 + 1)), sp_nm0, [])) := sp_R_s (sp_R_1 (by
          show sp_s0 K P V 0 sp_ld0 sp_nm0 [] = .inl (1, 0 + 2, 0, [], sp_up sp_ld0 0 (V (0 + 1)), sp_nm0, [])
          unfold sp_s0
          (repeat (first | rw [if_pos (by omega)] | rw [if_neg (by omega)])))) (by
          show (if K (0 + 2) = 59 then _ else _) = _
          rw [if_pos (by omega)])
        show yi_D zi_Ms d zi_m72 k (56, [(0, .inr (.inr (some 82)))], [], (I56, L4, R, Y), 0, 0) _
        have pt56 : ∀ j56, j56 ≤ k → ∀ (J1 : Nat → Nat → Int) (G1 : Nat → Nat → Int) (a1 : Nat) (ld1 : Nat → Int) (nm1 : Int → Int) (cs1 : List (Int × Int)), (mt_W J1 G1 R Y K P V te 50 ld1 nm1) → (J1 82 8 = 0) → (mt_A J1 te a1) → (sp_R K P V (0, 0, 0, [], sp_ld0, sp_nm0, []) (.inl (2, a1, 0, [], ld1, nm1, cs1))) → (1 ≤ ld1 0) → (ld1 6 < 0 → J1 88 56 < 0) → yi_D zi_Ms d zi_m72 j56 (56, [(0, .inr (.inr (some 82)))], [], (J1, G1, R, Y), 0, 0) (fun r => ∃ f I' L' R' Y' n' m', r = (some (.inl f), (I', L', R', Y'), n', m') ∧ sp_R K P V (0, 0, 0, [], sp_ld0, sp_nm0, []) (.inr f) ∧ (f = 0 → ∃ a ld nm cs, sp_R K P V (0, 0, 0, [], sp_ld0, sp_nm0, []) (.inl (2, a, 0, [], ld, nm, cs)) ∧ K a = 0 ∧ lm_R ld nm I' L')) := by
          intro j56
          induction j56 with
          | zero => intros; exact yi_D_0
          | succ j56 ih56 =>
          intro hk56 J1 G1 a1 ld1 nm1 cs1 hW9 hf9 hA9 hR9 hd9 h69
          have hle9 := hA9.2
          have hte9 := hW9.2.1.1
          have hend9 : J1 84 ((a1 : Int).toNat) = 0 ↔ K a1 = 0 := mt_end hW9.2.1 hA9.2
          refine yi_D_run1 0 (57, [(0, .inr (.inr (some 82)))], [.inr (.inr (some 82))], (J1, G1, R, Y), 0, 0) (fun _ => rfl) ?_
          refine yi_D_gi (v := 0) rfl rfl rfl hf9 (fun _ => ?_)
          refine yi_D_if1 false rfl (by decide) ?_
          refine yi_D_run 1 (64, [(0, .inr (.inr (some 82)))], [.inr (.inr (some 82))], (J1, G1, R, Y), 0, 0) (fun _ => rfl) ?_
          refine yi_D_gr (v := some 84) rfl rfl rfl (ym_S_at hS (j := 1) rfl).1 (fun _ => ?_)
          refine yi_D_run 1 (68, [(0, .inr (.inr (some 82)))], [.inr (.inr (some 82)), .inr (.inr (some 84))], (J1, G1, R, Y), 0, 0) (fun _ => rfl) ?_
          refine yi_D_gi (v := (a1 : Int)) rfl rfl rfl hA9.1 (fun _ => ?_)
          refine yi_D_il (v := J1 84 ((a1 : Int).toNat)) rfl rfl rfl (fun _ _ => ?_)
          by_cases h66 : (J1 84 ((a1 : Int).toNat)) = 0
          · refine yi_D_if1 true rfl (yi_eq_t h66) ?_
            refine yi_D_run 1 (89, [(0, .inr (.inr (some 82)))], [.inr (.inr (some 82))], (J1, G1, R, Y), 0, 0) (fun _ => rfl) ?_
            refine yi_D_gi (v := 0) rfl rfl rfl hf9 (fun _ => ?_)
            refine yi_D_if1 true rfl (by decide) ?_
            have hc9 : J1 82 13 ≤ 1100 := hW9.2.2.2.2.2.2.2.2
            have hm9 : J1 82 19 ≤ 13 := by rcases hW9.2.2.1.2 with z | z; exact z.2.1.2; exact absurd z.1 (by decide)
            refine yi_D_run 2 (102, [(1, .inl 0), (0, .inr (.inr (some 82)))], [], (J1, G1, R, Y), 0, 0) (fun _ => rfl) ?_
            have pt102 : ∀ j102, j102 ≤ j56 → ∀ (z1 : Int) (J2 : Nat → Nat → Int), (0 ≤ z1 ∧ z1 ≤ 50) → (J2 82 13 ≤ 1100) → (J2 82 19 ≤ 13) → (∀ j : Nat, (j : Int) < z1 → J2 88 j = J1 88 (50 + j)) → (∀ j : Nat, 50 ≤ j → J2 88 j = J1 88 j) → (∀ p k, p ≠ 88 → J2 p k = J1 p k) → yi_D zi_Ms d zi_m72 j102 (102, [(1, .inl z1), (0, .inr (.inr (some 82)))], [], (J2, G1, R, Y), 0, 0) (fun r => ∃ f I' L' R' Y' n' m', r = (some (.inl f), (I', L', R', Y'), n', m') ∧ sp_R K P V (0, 0, 0, [], sp_ld0, sp_nm0, []) (.inr f) ∧ (f = 0 → ∃ a ld nm cs, sp_R K P V (0, 0, 0, [], sp_ld0, sp_nm0, []) (.inl (2, a, 0, [], ld, nm, cs)) ∧ K a = 0 ∧ lm_R ld nm I' L')) := by
              intro j102
              induction j102 with
              | zero => intros; exact yi_D_0
              | succ j102 ih102 =>
              intro hk102 z1 J2 hz hc2 hm2 hA2 hB2 hC2
              refine yi_D_run1 1 (105, [(1, .inl z1), (0, .inr (.inr (some 82)))], [.inl 50, .inl z1], (J2, G1, R, Y), 0, 0) (fun _ => rfl) ?_
              by_cases h67 : 50 ≤ z1
              · refine yi_D_if2 true rfl (yi_ge_t h67) ?_
                refine yi_D_run 2 (131, [(1, .inl 0), (0, .inr (.inr (some 82)))], [], (J2, G1, R, Y), 0, 0) (fun _ => rfl) ?_
                have pt131 : ∀ j131, j131 ≤ j102 → ∀ (u1 : Int) (J3 : Nat → Nat → Int), (0 ≤ u1 ∧ u1 ≤ 1100) → (J3 82 13 ≤ 1100) → (J3 82 19 ≤ 13) → (∀ p k, p ≠ 89 → p ≠ 90 → J3 p k = J2 p k) → yi_D zi_Ms d zi_m72 j131 (131, [(1, .inl u1), (0, .inr (.inr (some 82)))], [], (J3, G1, R, Y), 0, 0) (fun r => ∃ f I' L' R' Y' n' m', r = (some (.inl f), (I', L', R', Y'), n', m') ∧ sp_R K P V (0, 0, 0, [], sp_ld0, sp_nm0, []) (.inr f) ∧ (f = 0 → ∃ a ld nm cs, sp_R K P V (0, 0, 0, [], sp_ld0, sp_nm0, []) (.inl (2, a, 0, [], ld, nm, cs)) ∧ K a = 0 ∧ lm_R ld nm I' L')) := by
                  intro j131
                  induction j131 with
                  | zero => intros; exact yi_D_0
                  | succ j131 ih131 =>
                  intro hk131 u1 J3 hu hc3 hm3 hD3
                  refine yi_D_run1 1 (133, [(1, .inl u1), (0, .inr (.inr (some 82)))], [.inr (.inr (some 82)), .inl u1], (J3, G1, R, Y), 0, 0) (fun _ => rfl) ?_
                  refine yi_D_gi (v := J3 82 13) rfl rfl rfl rfl (fun _ => ?_)
                  by_cases h68 : (J3 82 13) ≤ u1
                  · refine yi_D_if2 true rfl (yi_ge_t h68) ?_
                    refine yi_D_run 2 (179, [(1, .inl 0), (0, .inr (.inr (some 82)))], [], (J3, G1, R, Y), 0, 0) (fun _ => rfl) ?_
                    have pt179 : ∀ j179, j179 ≤ j131 → ∀ (v1 : Int) (J4 : Nat → Nat → Int) (G4 : Nat → Nat → Int), (0 ≤ v1 ∧ v1 ≤ 13) → (J4 82 19 ≤ 13) → (∀ p k, p ≠ 93 → J4 p k = J3 p k) → (∀ j : Nat, (j : Int) < v1 → J4 93 j = J3 94 j ∧ G4 91 j = G1 92 j) → (∀ p k, p ≠ 91 → G4 p k = G1 p k) → yi_D zi_Ms d zi_m72 j179 (179, [(1, .inl v1), (0, .inr (.inr (some 82)))], [], (J4, G4, R, Y), 0, 0) (fun r => ∃ f I' L' R' Y' n' m', r = (some (.inl f), (I', L', R', Y'), n', m') ∧ sp_R K P V (0, 0, 0, [], sp_ld0, sp_nm0, []) (.inr f) ∧ (f = 0 → ∃ a ld nm cs, sp_R K P V (0, 0, 0, [], sp_ld0, sp_nm0, []) (.inl (2, a, 0, [], ld, nm, cs)) ∧ K a = 0 ∧ lm_R ld nm I' L')) := by
                      intro j179
                      induction j179 with
                      | zero => intros; exact yi_D_0
                      | succ j179 ih179 =>
                      intro hk179 v1 J4 G4 hv hm4 hE4 hF4 hG4
                      refine yi_D_run1 1 (181, [(1, .inl v1), (0, .inr (.inr (some 82)))], [.inr (.inr (some 82)), .inl v1], (J4, G4, R, Y), 0, 0) (fun _ => rfl) ?_
                      refine yi_D_gi (v := J4 82 19) rfl rfl rfl rfl (fun _ => ?_)
                      by_cases h69 : (J4 82 19) ≤ v1
                      · refine yi_D_if2 true rfl (yi_ge_t h69) ?_
                        refine yi_D_run 2 (219, [(1, .inl v1), (0, .inr (.inr (some 82)))], [.inr (.inr (some 82)), .inr (.inr (some 82))], (J4, G4, R, Y), 0, 0) (fun _ => rfl) ?_
                        refine yi_D_gi (v := J4 82 19) rfl rfl rfl rfl (fun _ => ?_)
                        refine yi_D_pi rfl (fun _ => ?_)
                        generalize w71 : yi_u J4 82 18 (J4 82 19) = I70
                        refine yi_D_run 1 (226, [(1, .inl v1), (0, .inr (.inr (some 82)))], [.inr (.inr (some 82))], (I70, G4, R, Y), 0, 0) (fun _ => rfl) ?_
                        refine yi_D_callv rfl (yi_P_a (yi_P_void (M := zi_m4) rfl rfl) (cm_P hm (by decide +kernel) (cm_vn (cm_vp (by omega) (by omega)) cm_v0))) ?_
                        rintro _ ⟨⟨I72, L73, R74, Y75, n76, m77, rfl⟩, hv72⟩
                        show yi_D zi_Ms d zi_m72 j179 (229, [(1, .inl v1), (0, .inr (.inr (some 82)))], [], (I72, L73, R74, Y75), (0 + n76), (0 + m77)) _
                        refine yi_D_run 1 (230, [(1, .inl v1), (0, .inr (.inr (some 82)))], [.inl 0], (I72, L73, R74, Y75), (0 + n76), (0 + m77)) (fun _ => rfl) ?_
                        refine yi_D_reti rfl ?_
                        have hv72 : cm_H I70 G4 I72 L73 R74 Y75 := hv72
                        obtain ⟨e0, e1, e2, e3, e4, e5⟩ := hW9.2.2
                        have eN : mt_N J1 G1 92 94 (J1 82 19) nm1 := by
                          rcases e0.2 with z | z
                          · exact z.2
                          · exact absurd z.1 (by decide)
                        have g88 : ∀ k : Nat, k < 50 → I72 88 k = J1 88 (50 + k) := fun k hk => by
                          rw [(hv72.2.1 88 k rfl).1, ← w71, yi_u_ne _ _ (by omega), hE4 88 k (by omega), hD3 88 k (by omega) (by omega)]
                          exact hA2 k (by omega)
                        have em : J4 82 19 = J1 82 19 := by rw [hE4 82 19 (by omega), hD3 82 19 (by omega) (by omega), hC2 82 19 (by omega)]
                        have g18 : I72 82 18 = J1 82 19 := by rw [hv72.2.2, ← w71, yi_u_eq]; exact em
                        have g93 : ∀ k : Nat, (k : Int) < J1 82 19 → I72 93 k = J1 94 k := fun k hk => by
                          rw [(hv72.2.1 93 k rfl).1, ← w71, yi_u_ne _ _ (by omega), (hF4 k (by omega)).1, hD3 94 k (by omega) (by omega), hC2 94 k (by omega)]
                        have g91 : ∀ k : Nat, (k : Int) < J1 82 19 → L73 91 k = G1 92 k := fun k hk => by
                          rw [(hv72.2.1 91 k rfl).2]
                          exact (hF4 k (by omega)).2
                        refine ⟨_, _, _, _, _, _, _, rfl, sp_R_s hR9 (by
                          show sp_line K P V _ _ _ _ = _
                          unfold sp_line
                          rw [if_pos (by omega)]), fun _ => ⟨_, _, _, _, hR9, by omega, fun j hj => (g88 j (by omega)).trans (e1 j hj), fun x => e2 (by rw [g88 6 (by omega)] at x; exact x), fun j a b => (g88 j (by omega)).trans (e3 j a b), e4, ?_⟩⟩
                        rw [g18]
                        refine ⟨eN.1, fun k hk => ?_, fun v hv => eN.2.2 v (fun k hk => ?_)⟩
                        · rw [g93 k hk, g91 k hk]
                          exact eN.2.1 k hk
                        · rw [← g91 k hk]
                          exact hv k hk
                      · refine yi_D_if2 false rfl (yi_ge_f h69) ?_
                        refine yi_D_run 1 (188, [(1, .inl v1), (0, .inr (.inr (some 82)))], [.inr (.inr (some 82))], (J4, G4, R, Y), 0, 0) (fun _ => rfl) ?_
                        refine yi_D_gr (v := some 91) rfl rfl rfl (ym_S_at hS (j := 8) rfl).1 (fun _ => ?_)
                        refine yi_D_run 2 (193, [(1, .inl v1), (0, .inr (.inr (some 82)))], [.inr (.inr (some 82)), .inl v1, .inr (.inr (some 91))], (J4, G4, R, Y), 0, 0) (fun _ => rfl) ?_
                        refine yi_D_gr (v := some 92) rfl rfl rfl (ym_S_at hS (j := 9) rfl).1 (fun _ => ?_)
                        refine yi_D_run 1 (197, [(1, .inl v1), (0, .inr (.inr (some 82)))], [.inl v1, .inr (.inr (some 92)), .inl v1, .inr (.inr (some 91))], (J4, G4, R, Y), 0, 0) (fun _ => rfl) ?_
                        refine yi_D_ll (v := G4 92 (v1.toNat)) rfl rfl rfl (fun _ _ => ?_)
                        refine yi_D_ls rfl (fun _ _ => ?_)
                        generalize w79 : yi_u G4 91 (v1.toNat) (G4 92 (v1.toNat)) = L78
                        refine yi_D_run 1 (200, [(1, .inl v1), (0, .inr (.inr (some 82)))], [.inr (.inr (some 82))], (J4, L78, R, Y), 0, 0) (fun _ => rfl) ?_
                        refine yi_D_gr (v := some 93) rfl rfl rfl (ym_S_at hS (j := 10) rfl).1 (fun _ => ?_)
                        refine yi_D_run 2 (205, [(1, .inl v1), (0, .inr (.inr (some 82)))], [.inr (.inr (some 82)), .inl v1, .inr (.inr (some 93))], (J4, L78, R, Y), 0, 0) (fun _ => rfl) ?_
                        refine yi_D_gr (v := some 94) rfl rfl rfl (ym_S_at hS (j := 11) rfl).1 (fun _ => ?_)
                        refine yi_D_run 1 (209, [(1, .inl v1), (0, .inr (.inr (some 82)))], [.inl v1, .inr (.inr (some 94)), .inl v1, .inr (.inr (some 93))], (J4, L78, R, Y), 0, 0) (fun _ => rfl) ?_
                        refine yi_D_il (v := J4 94 (v1.toNat)) rfl rfl rfl (fun _ _ => ?_)
                        refine yi_D_is rfl (fun _ _ => ?_)
                        generalize w81 : yi_u J4 93 (v1.toNat) (J4 94 (v1.toNat)) = I80
                        refine yi_D_iinc [(1, .inl (v1 + 1)), (0, .inr (.inr (some 82)))] rfl rfl rfl (by rw [show yi_w (v1 + 1) = v1 + 1 from (yi_wn (by omega) (by omega)).trans (by omega)]; rfl) ?_
                        refine yi_D_run 1 (179, [(1, .inl (v1 + 1)), (0, .inr (.inr (some 82)))], [], (I80, L78, R, Y), 0, 0) (fun _ => rfl) ?_
                        exact yi_D_mono (ih179 (by omega) (v1 + 1) I80 L78 (by omega) (by rw [← w81, yi_u_ne _ _ (by omega)]; exact hm4) (fun p k hp => by rw [← w81, yi_u_ne _ _ (by omega)]; exact hE4 p k hp) (fun j hj => by by_cases e : (j : Int) = v1; rw [← w81, ← w79, show j = v1.toNat by omega, yi_u_eq, yi_u_eq]; exact ⟨hE4 94 _ (by omega), hG4 92 _ (by omega)⟩; rw [← w81, ← w79, yi_u_ne _ _ (by omega), yi_u_ne _ _ (by omega)]; exact hF4 j (by omega)) (fun p k hp => by rw [← w79, yi_u_ne _ _ (by omega)]; exact hG4 p k hp)) (by omega)
                    exact pt179 j131 (Nat.le_refl _) 0 J3 G1 (by omega) hm3 (fun _ _ _ => rfl) (fun j hj => absurd hj (by omega)) (fun _ _ _ => rfl)
                  · refine yi_D_if2 false rfl (yi_ge_f h68) ?_
                    refine yi_D_run 1 (140, [(1, .inl u1), (0, .inr (.inr (some 82)))], [.inr (.inr (some 82))], (J3, G1, R, Y), 0, 0) (fun _ => rfl) ?_
                    refine yi_D_gr (v := some 89) rfl rfl rfl (ym_S_at hS (j := 6) rfl).1 (fun _ => ?_)
                    refine yi_D_run 2 (145, [(1, .inl u1), (0, .inr (.inr (some 82)))], [.inr (.inr (some 82)), .inl u1, .inr (.inr (some 89))], (J3, G1, R, Y), 0, 0) (fun _ => rfl) ?_
                    refine yi_D_gr (v := some 89) rfl rfl rfl (ym_S_at hS (j := 6) rfl).1 (fun _ => ?_)
                    refine yi_D_run 2 (152, [(1, .inl u1), (0, .inr (.inr (some 82)))], [.inl u1, .inl 1100, .inr (.inr (some 89)), .inl u1, .inr (.inr (some 89))], (J3, G1, R, Y), 0, 0) (fun _ => rfl) ?_
                    refine yi_D_iadd rfl (1100 + u1) (yi_wn (by omega) (by omega)) ?_
                    refine yi_D_il (v := J3 89 ((1100 + u1).toNat)) rfl rfl rfl (fun _ _ => ?_)
                    refine yi_D_is rfl (fun _ _ => ?_)
                    generalize w83 : yi_u J3 89 (u1.toNat) (J3 89 ((1100 + u1).toNat)) = I82
                    refine yi_D_run 1 (156, [(1, .inl u1), (0, .inr (.inr (some 82)))], [.inr (.inr (some 82))], (I82, G1, R, Y), 0, 0) (fun _ => rfl) ?_
                    refine yi_D_gr (v := some 90) rfl rfl rfl (ym_S_at hS (j := 7) rfl).1 (fun _ => ?_)
                    refine yi_D_run 2 (161, [(1, .inl u1), (0, .inr (.inr (some 82)))], [.inr (.inr (some 82)), .inl u1, .inr (.inr (some 90))], (I82, G1, R, Y), 0, 0) (fun _ => rfl) ?_
                    refine yi_D_gr (v := some 90) rfl rfl rfl (ym_S_at hS (j := 7) rfl).1 (fun _ => ?_)
                    refine yi_D_run 2 (168, [(1, .inl u1), (0, .inr (.inr (some 82)))], [.inl u1, .inl 1100, .inr (.inr (some 90)), .inl u1, .inr (.inr (some 90))], (I82, G1, R, Y), 0, 0) (fun _ => rfl) ?_
                    refine yi_D_iadd rfl (1100 + u1) (yi_wn (by omega) (by omega)) ?_
                    have r84 : I82 90 ((1100 + u1).toNat) = J3 90 ((1100 + u1).toNat) := by rw [← w83, yi_u_ne _ _ (by omega)]
                    refine yi_D_il (v := J3 90 ((1100 + u1).toNat)) rfl rfl r84 (fun _ _ => ?_)
                    refine yi_D_is rfl (fun _ _ => ?_)
                    generalize w86 : yi_u I82 90 (u1.toNat) (J3 90 ((1100 + u1).toNat)) = I85
                    refine yi_D_iinc [(1, .inl (u1 + 1)), (0, .inr (.inr (some 82)))] rfl rfl rfl (by rw [show yi_w (u1 + 1) = u1 + 1 from (yi_wn (by omega) (by omega)).trans (by omega)]; rfl) ?_
                    refine yi_D_run 1 (131, [(1, .inl (u1 + 1)), (0, .inr (.inr (some 82)))], [], (I85, G1, R, Y), 0, 0) (fun _ => rfl) ?_
                    exact yi_D_mono (ih131 (by omega) (u1 + 1) I85 (by omega) (by rw [← w86, yi_u_ne _ _ (by omega), ← w83, yi_u_ne _ _ (by omega)]; exact hc3) (by rw [← w86, yi_u_ne _ _ (by omega), ← w83, yi_u_ne _ _ (by omega)]; exact hm3) (fun p k a b => by rw [← w86, yi_u_ne _ _ (by omega), ← w83, yi_u_ne _ _ (by omega)]; exact hD3 p k a b)) (by omega)
                exact pt131 j102 (Nat.le_refl _) 0 J2 (by omega) hc2 hm2 (fun _ _ _ _ => rfl)
              · refine yi_D_if2 false rfl (yi_ge_f h67) ?_
                refine yi_D_run 1 (109, [(1, .inl z1), (0, .inr (.inr (some 82)))], [.inr (.inr (some 82))], (J2, G1, R, Y), 0, 0) (fun _ => rfl) ?_
                refine yi_D_gr (v := some 88) rfl rfl rfl (ym_S_at hS (j := 5) rfl).1 (fun _ => ?_)
                refine yi_D_run 2 (114, [(1, .inl z1), (0, .inr (.inr (some 82)))], [.inr (.inr (some 82)), .inl z1, .inr (.inr (some 88))], (J2, G1, R, Y), 0, 0) (fun _ => rfl) ?_
                refine yi_D_gr (v := some 88) rfl rfl rfl (ym_S_at hS (j := 5) rfl).1 (fun _ => ?_)
                refine yi_D_run 2 (120, [(1, .inl z1), (0, .inr (.inr (some 82)))], [.inl z1, .inl 50, .inr (.inr (some 88)), .inl z1, .inr (.inr (some 88))], (J2, G1, R, Y), 0, 0) (fun _ => rfl) ?_
                refine yi_D_iadd rfl (50 + z1) (yi_wn (by omega) (by omega)) ?_
                refine yi_D_il (v := J2 88 ((50 + z1).toNat)) rfl rfl rfl (fun _ _ => ?_)
                refine yi_D_is rfl (fun _ _ => ?_)
                generalize w88 : yi_u J2 88 (z1.toNat) (J2 88 ((50 + z1).toNat)) = I87
                refine yi_D_iinc [(1, .inl (z1 + 1)), (0, .inr (.inr (some 82)))] rfl rfl rfl (by rw [show yi_w (z1 + 1) = z1 + 1 from (yi_wn (by omega) (by omega)).trans (by omega)]; rfl) ?_
                refine yi_D_run 1 (102, [(1, .inl (z1 + 1)), (0, .inr (.inr (some 82)))], [], (I87, G1, R, Y), 0, 0) (fun _ => rfl) ?_
                exact yi_D_mono (ih102 (by omega) (z1 + 1) I87 (by omega) (by rw [← w88, yi_u_ne _ _ (by omega)]; exact hc2) (by rw [← w88, yi_u_ne _ _ (by omega)]; exact hm2) (fun j hj => by by_cases e : (j : Int) = z1; rw [← w88, show j = z1.toNat by omega, yi_u_eq, show (50 + z1).toNat = 50 + z1.toNat by omega]; exact hB2 _ (by omega); rw [← w88, yi_u_ne _ _ (by omega)]; exact hA2 j (by omega)) (fun j hj => by rw [← w88, yi_u_ne _ _ (by omega)]; exact hB2 j hj) (fun p k hp => by rw [← w88, yi_u_ne _ _ (by omega)]; exact hC2 p k hp)) (by omega)
            exact pt102 j56 (Nat.le_refl _) 0 J1 (by omega) hc9 hm9 (fun j hj => absurd hj (by omega)) (fun _ _ => rfl) (fun _ _ _ => rfl)
          · refine yi_D_if1 false rfl (yi_eq_f h66) ?_
            refine yi_D_run 1 (76, [(0, .inr (.inr (some 82)))], [.inr (.inr (some 82))], (J1, G1, R, Y), 0, 0) (fun _ => rfl) ?_
            refine yi_D_callv rfl (q_readLine hW9 hf9 hA9 cs1 hd9 h69 (by omega)) ?_
            rintro _ ⟨I89, L90, rfl, (⟨a91, ld92, nm93, cs94, hR95, lt96, hf97, hA98, hW99, hd100, hl101⟩ | ⟨f102, hR103, hz104, he105⟩)⟩
            · have hR106 := sp_R_t hR9 hR95
              show yi_D zi_Ms d zi_m72 j56 (79, [(0, .inr (.inr (some 82)))], [], (I89, L90, R, Y), 0, 0) _
              refine yi_D_run 2 (82, [(0, .inr (.inr (some 82)))], [.inl 59, .inr (.inr (some 82))], (I89, L90, R, Y), 0, 0) (fun _ => rfl) ?_
              refine yi_D_callv rfl (q_takeSign_z (by omega) hW99 hf97 hA98) ?_
              rintro _ (⟨c107, I108, rfl, hGa109, hf110, hA111⟩ | ⟨c112, I113, rfl, hGa114, he115⟩)
              · have hA111 : mt_A I108 te (a91 + 1) := hA111
                have hW116 := mt_W_t hW99 (mt_G_F hGa109)
                have hR117 := sp_R_s hR106 (show sp_step K P V (1, a91, 0, [], ld92, nm93, cs94) = .inl (2, a91 + 1, 0, [], ld92, nm93, cs94) by
                  show (if K a91 = 59 then _ else _) = _
                  rw [if_pos (by omega)])
                show yi_D zi_Ms d zi_m72 j56 (85, [(0, .inr (.inr (some 82)))], [], (I108, L90, R, Y), 0, 0) _
                refine yi_D_run 1 (56, [(0, .inr (.inr (some 82)))], [], (I108, L90, R, Y), 0, 0) (fun _ => rfl) ?_
                exact yi_D_mono (ih56 (by omega) I108 L90 (a91 + 1) ld92 nm93 cs94 hW116 hf110 hA111 hR117 hd100 (fun x => by rw [hGa109 88 56 (by omega)]; exact hl101 x)) (by omega)
              · have hW118 := mt_W_t hW99 (mt_G_F hGa114)
                have hz119 : 0 < sp_f P a91 1 := mt_f_ne hW99 hA98.2 (by omega)
                have hn120 : 0 < I113 82 8 := by rw [he115]; exact hz119
                have hx121 : sp_R K P V (0, 0, 0, [], sp_ld0, sp_nm0, []) (.inr (sp_f P a91 1)) := sp_R_s hR106 (by
                  show (if K a91 = 59 then _ else _) = _
                  rw [if_neg (by omega)])
                show yi_D zi_Ms d zi_m72 j56 (85, [(0, .inr (.inr (some 82)))], [], (I113, L90, R, Y), 0, 0) _
                refine yi_D_run 1 (56, [(0, .inr (.inr (some 82)))], [], (I113, L90, R, Y), 0, 0) (fun _ => rfl) ?_
                refine yi_D_run 1 (57, [(0, .inr (.inr (some 82)))], [.inr (.inr (some 82))], (I113, L90, R, Y), 0, 0) (fun _ => rfl) ?_
                refine yi_D_gi (v := I113 82 8) rfl rfl rfl rfl (fun _ => ?_)
                have h122 : ¬ ((I113 82 8) = 0) := by omega
                refine yi_D_if1 true rfl (yi_ne_t h122) ?_
                refine yi_D_run 1 (89, [(0, .inr (.inr (some 82)))], [.inr (.inr (some 82))], (I113, L90, R, Y), 0, 0) (fun _ => rfl) ?_
                refine yi_D_gi (v := I113 82 8) rfl rfl rfl rfl (fun _ => ?_)
                have h123 : ¬ ((I113 82 8) ≤ 0) := by omega
                refine yi_D_if1 false rfl (yi_le_f h123) ?_
                refine yi_D_run 1 (96, [(0, .inr (.inr (some 82)))], [.inr (.inr (some 82))], (I113, L90, R, Y), 0, 0) (fun _ => rfl) ?_
                refine yi_D_gi (v := I113 82 8) rfl rfl rfl rfl (fun _ => ?_)
                refine yi_D_reti rfl ?_
                exact ⟨_, _, _, _, _, _, _, rfl, by first | (rw [he115]; exact hx121) | (rw [he115]; exact hx121), fun h => by omega⟩
            · have hx124 := sp_R_t hR9 hR103
              have hn125 : 0 < I89 82 8 := by rw [he105]; exact hz104
              show yi_D zi_Ms d zi_m72 j56 (79, [(0, .inr (.inr (some 82)))], [], (I89, L90, R, Y), 0, 0) _
              refine yi_D_run 2 (82, [(0, .inr (.inr (some 82)))], [.inl 59, .inr (.inr (some 82))], (I89, L90, R, Y), 0, 0) (fun _ => rfl) ?_
              refine yi_D_callv rfl (q_takeSign_s hS hn125) ?_
              rintro _ rfl
              show yi_D zi_Ms d zi_m72 j56 (85, [(0, .inr (.inr (some 82)))], [], (I89, L90, R, Y), 0, 0) _
              refine yi_D_run 1 (56, [(0, .inr (.inr (some 82)))], [], (I89, L90, R, Y), 0, 0) (fun _ => rfl) ?_
              refine yi_D_run 1 (57, [(0, .inr (.inr (some 82)))], [.inr (.inr (some 82))], (I89, L90, R, Y), 0, 0) (fun _ => rfl) ?_
              refine yi_D_gi (v := I89 82 8) rfl rfl rfl rfl (fun _ => ?_)
              have h126 : ¬ ((I89 82 8) = 0) := by omega
              refine yi_D_if1 true rfl (yi_ne_t h126) ?_
              refine yi_D_run 1 (89, [(0, .inr (.inr (some 82)))], [.inr (.inr (some 82))], (I89, L90, R, Y), 0, 0) (fun _ => rfl) ?_
              refine yi_D_gi (v := I89 82 8) rfl rfl rfl rfl (fun _ => ?_)
              have h127 : ¬ ((I89 82 8) ≤ 0) := by omega
              refine yi_D_if1 false rfl (yi_le_f h127) ?_
              refine yi_D_run 1 (96, [(0, .inr (.inr (some 82)))], [.inr (.inr (some 82))], (I89, L90, R, Y), 0, 0) (fun _ => rfl) ?_
              refine yi_D_gi (v := I89 82 8) rfl rfl rfl rfl (fun _ => ?_)
              refine yi_D_reti rfl ?_
              exact ⟨_, _, _, _, _, _, _, rfl, by first | (rw [he105]; exact hx124) | (rw [he105]; exact hx124), fun h => by omega⟩
        exact pt56 k (Nat.le_refl _) I56 L4 (0 + 3) (sp_up sp_ld0 0 (V (0 + 1))) sp_nm0 ([]) hW64 hf58 hA59 hR65 (by rw [sp_up_e]; omega) (fun _ => by rw [hGa57 88 56 (by omega), ← w51, yi_u_ne _ _ (by omega), hGa36 88 56 (by omega), hGa25 88 56 (by omega), hz19 56 (by omega) (by omega), if_pos rfl]; decide)
      · have hW128 := mt_W_t hW53 (mt_G_F hGa62)
        have hz129 : 0 < sp_f P (0 + 2) 1 := mt_f_ne hW53 hA54.2 (by omega)
        have hn130 : 0 < I61 82 8 := by rw [he63]; exact hz129
        have hx131 : sp_R K P V (0, 0, 0, [], sp_ld0, sp_nm0, []) (.inr (sp_f P (0 + 2) 1)) := sp_R_s (sp_R_1 (by
          show sp_s0 K P V 0 sp_ld0 sp_nm0 [] = .inl (1, 0 + 2, 0, [], sp_up sp_ld0 0 (V (0 + 1)), sp_nm0, [])
          unfold sp_s0
          (repeat (first | rw [if_pos (by omega)] | rw [if_neg (by omega)])))) (by
          show (if K (0 + 2) = 59 then _ else _) = _
          rw [if_neg (by omega)])
        show yi_D zi_Ms d zi_m72 k (56, [(0, .inr (.inr (some 82)))], [], (I61, L4, R, Y), 0, 0) _
        refine yi_D_run 1 (57, [(0, .inr (.inr (some 82)))], [.inr (.inr (some 82))], (I61, L4, R, Y), 0, 0) (fun _ => rfl) ?_
        refine yi_D_gi (v := I61 82 8) rfl rfl rfl rfl (fun _ => ?_)
        have h132 : ¬ ((I61 82 8) = 0) := by omega
        refine yi_D_if1 true rfl (yi_ne_t h132) ?_
        refine yi_D_run 1 (89, [(0, .inr (.inr (some 82)))], [.inr (.inr (some 82))], (I61, L4, R, Y), 0, 0) (fun _ => rfl) ?_
        refine yi_D_gi (v := I61 82 8) rfl rfl rfl rfl (fun _ => ?_)
        have h133 : ¬ ((I61 82 8) ≤ 0) := by omega
        refine yi_D_if1 false rfl (yi_le_f h133) ?_
        refine yi_D_run 1 (96, [(0, .inr (.inr (some 82)))], [.inr (.inr (some 82))], (I61, L4, R, Y), 0, 0) (fun _ => rfl) ?_
        refine yi_D_gi (v := I61 82 8) rfl rfl rfl rfl (fun _ => ?_)
        refine yi_D_reti rfl ?_
        exact ⟨_, _, _, _, _, _, _, rfl, by first | (rw [he63]; exact hx131) | (rw [he63]; exact hx131), fun h => by omega⟩
    · have hW134 := mt_W_t hW32 (mt_G_F hGa41)
      have hz135 : 0 < sp_f P (0 + 1) 1 := mt_f_ne hW32 hA27.2 (by omega)
      have hn136 : 0 < I40 82 8 := by rw [he42]; exact hz135
      have hx137 : sp_R K P V (0, 0, 0, [], sp_ld0, sp_nm0, []) (.inr (sp_f P (0 + 1) 1)) := sp_R_1 (by
        show sp_s0 K P V 0 sp_ld0 sp_nm0 [] = _
        unfold sp_s0
        (repeat (first | rw [if_pos (by omega)] | rw [if_neg (by omega)])))
      show yi_D zi_Ms d zi_m72 k (49, [(0, .inr (.inr (some 82)))], [.inl z43, .inl 50, .inr (.inr (some 88))], (I40, L4, R, Y), 0, 0) _
      refine yi_D_is rfl (fun _ _ => ?_)
      show yi_D zi_Ms d zi_m72 k (50, [(0, .inr (.inr (some 82)))], [], ((yi_u I40 88 50 z43), L4, R, Y), 0, 0) _
      generalize w139 : yi_u I40 88 50 z43 = I138
      have hf140 : 0 < I138 82 8 := by rw [← w139, yi_u_ne _ _ (by omega)]; exact hn136
      have he141 : I138 82 8 = _ := (show I138 82 8 = I40 82 8 by rw [← w139, yi_u_ne _ _ (by omega)]).trans he42
      refine yi_D_run 2 (53, [(0, .inr (.inr (some 82)))], [.inl 59, .inr (.inr (some 82))], (I138, L4, R, Y), 0, 0) (fun _ => rfl) ?_
      refine yi_D_callv rfl (q_takeSign_s hS hf140) ?_
      rintro _ rfl
      show yi_D zi_Ms d zi_m72 k (56, [(0, .inr (.inr (some 82)))], [], (I138, L4, R, Y), 0, 0) _
      refine yi_D_run 1 (57, [(0, .inr (.inr (some 82)))], [.inr (.inr (some 82))], (I138, L4, R, Y), 0, 0) (fun _ => rfl) ?_
      have r142 : I138 82 8 = I40 82 8 := by rw [← w139, yi_u_ne _ _ (by omega)]
      refine yi_D_gi (v := I40 82 8) rfl rfl rfl r142 (fun _ => ?_)
      have h143 : ¬ ((I40 82 8) = 0) := by omega
      refine yi_D_if1 true rfl (yi_ne_t h143) ?_
      refine yi_D_run 1 (89, [(0, .inr (.inr (some 82)))], [.inr (.inr (some 82))], (I138, L4, R, Y), 0, 0) (fun _ => rfl) ?_
      have r144 : I138 82 8 = I40 82 8 := by rw [← w139, yi_u_ne _ _ (by omega)]
      refine yi_D_gi (v := I40 82 8) rfl rfl rfl r144 (fun _ => ?_)
      have h145 : ¬ ((I40 82 8) ≤ 0) := by omega
      refine yi_D_if1 false rfl (yi_le_f h145) ?_
      refine yi_D_run 1 (96, [(0, .inr (.inr (some 82)))], [.inr (.inr (some 82))], (I138, L4, R, Y), 0, 0) (fun _ => rfl) ?_
      have r146 : I138 82 8 = I40 82 8 := by rw [← w139, yi_u_ne _ _ (by omega)]
      refine yi_D_gi (v := I40 82 8) rfl rfl rfl r146 (fun _ => ?_)
      refine yi_D_reti rfl ?_
      exact ⟨_, _, _, _, _, _, _, rfl, by first | (rw [he141]; exact hx137) | (rw [he42]; exact hx137), fun h => by omega⟩
    · have hW147 := mt_W_t hW32 (mt_G_F hGa46)
      have hz148 : 0 < sp_f P (0 + 1) 4 := mt_f_ne hW32 hA27.2 (by omega)
      have hn149 : 0 < I45 82 8 := by rw [he47]; exact hz148
      have hx150 : sp_R K P V (0, 0, 0, [], sp_ld0, sp_nm0, []) (.inr (sp_f P (0 + 1) 4)) := sp_R_1 (by
        show sp_s0 K P V 0 sp_ld0 sp_nm0 [] = _
        unfold sp_s0
        (repeat (first | rw [if_pos (by omega)] | rw [if_neg (by omega)])))
      show yi_D zi_Ms d zi_m72 k (49, [(0, .inr (.inr (some 82)))], [.inl z48, .inl 50, .inr (.inr (some 88))], (I45, L4, R, Y), 0, 0) _
      refine yi_D_is rfl (fun _ _ => ?_)
      show yi_D zi_Ms d zi_m72 k (50, [(0, .inr (.inr (some 82)))], [], ((yi_u I45 88 50 z48), L4, R, Y), 0, 0) _
      generalize w152 : yi_u I45 88 50 z48 = I151
      have hf153 : 0 < I151 82 8 := by rw [← w152, yi_u_ne _ _ (by omega)]; exact hn149
      have he154 : I151 82 8 = _ := (show I151 82 8 = I45 82 8 by rw [← w152, yi_u_ne _ _ (by omega)]).trans he47
      refine yi_D_run 2 (53, [(0, .inr (.inr (some 82)))], [.inl 59, .inr (.inr (some 82))], (I151, L4, R, Y), 0, 0) (fun _ => rfl) ?_
      refine yi_D_callv rfl (q_takeSign_s hS hf153) ?_
      rintro _ rfl
      show yi_D zi_Ms d zi_m72 k (56, [(0, .inr (.inr (some 82)))], [], (I151, L4, R, Y), 0, 0) _
      refine yi_D_run 1 (57, [(0, .inr (.inr (some 82)))], [.inr (.inr (some 82))], (I151, L4, R, Y), 0, 0) (fun _ => rfl) ?_
      have r155 : I151 82 8 = I45 82 8 := by rw [← w152, yi_u_ne _ _ (by omega)]
      refine yi_D_gi (v := I45 82 8) rfl rfl rfl r155 (fun _ => ?_)
      have h156 : ¬ ((I45 82 8) = 0) := by omega
      refine yi_D_if1 true rfl (yi_ne_t h156) ?_
      refine yi_D_run 1 (89, [(0, .inr (.inr (some 82)))], [.inr (.inr (some 82))], (I151, L4, R, Y), 0, 0) (fun _ => rfl) ?_
      have r157 : I151 82 8 = I45 82 8 := by rw [← w152, yi_u_ne _ _ (by omega)]
      refine yi_D_gi (v := I45 82 8) rfl rfl rfl r157 (fun _ => ?_)
      have h158 : ¬ ((I45 82 8) ≤ 0) := by omega
      refine yi_D_if1 false rfl (yi_le_f h158) ?_
      refine yi_D_run 1 (96, [(0, .inr (.inr (some 82)))], [.inr (.inr (some 82))], (I151, L4, R, Y), 0, 0) (fun _ => rfl) ?_
      have r159 : I151 82 8 = I45 82 8 := by rw [← w152, yi_u_ne _ _ (by omega)]
      refine yi_D_gi (v := I45 82 8) rfl rfl rfl r159 (fun _ => ?_)
      refine yi_D_reti rfl ?_
      exact ⟨_, _, _, _, _, _, _, rfl, by first | (rw [he154]; exact hx150) | (rw [he47]; exact hx150), fun h => by omega⟩
  · have hW160 := mt_W_t hW20 (mt_G_F hGa30)
    have hz161 : 0 < sp_f P 0 1 := mt_f_ne hW20 hA22.2 (by omega)
    have hn162 : 0 < I29 82 8 := by rw [he31]; exact hz161
    have hx163 : sp_R K P V (0, 0, 0, [], sp_ld0, sp_nm0, []) (.inr (sp_f P 0 1)) := sp_R_1 (by
      show sp_s0 K P V 0 sp_ld0 sp_nm0 [] = _
      unfold sp_s0
      (repeat (first | rw [if_pos (by omega)] | rw [if_neg (by omega)])))
    show yi_D zi_Ms d zi_m72 k (36, [(0, .inr (.inr (some 82)))], [], (I29, L4, R, Y), 0, 0) _
    refine yi_D_run 1 (37, [(0, .inr (.inr (some 82)))], [.inr (.inr (some 82))], (I29, L4, R, Y), 0, 0) (fun _ => rfl) ?_
    refine yi_D_gr (v := some 88) rfl rfl rfl (ym_S_at hS (j := 5) rfl).1 (fun _ => ?_)
    refine yi_D_run 4 (46, [(0, .inr (.inr (some 82)))], [.inl 6, .inl 1, .inr (.inr (some 82)), .inl 50, .inr (.inr (some 88))], (I29, L4, R, Y), 0, 0) (fun _ => rfl) ?_
    refine yi_D_callv rfl (q_takeNumber_f hW160 hn162) ?_
    rintro _ ⟨z164, rfl⟩
    show yi_D zi_Ms d zi_m72 k (49, [(0, .inr (.inr (some 82)))], [.inl z164, .inl 50, .inr (.inr (some 88))], (I29, L4, R, Y), 0, 0) _
    refine yi_D_is rfl (fun _ _ => ?_)
    show yi_D zi_Ms d zi_m72 k (50, [(0, .inr (.inr (some 82)))], [], ((yi_u I29 88 50 z164), L4, R, Y), 0, 0) _
    generalize w166 : yi_u I29 88 50 z164 = I165
    have hf167 : 0 < I165 82 8 := by rw [← w166, yi_u_ne _ _ (by omega)]; exact hn162
    have he168 : I165 82 8 = _ := (show I165 82 8 = I29 82 8 by rw [← w166, yi_u_ne _ _ (by omega)]).trans he31
    refine yi_D_run 2 (53, [(0, .inr (.inr (some 82)))], [.inl 59, .inr (.inr (some 82))], (I165, L4, R, Y), 0, 0) (fun _ => rfl) ?_
    refine yi_D_callv rfl (q_takeSign_s hS hf167) ?_
    rintro _ rfl
    show yi_D zi_Ms d zi_m72 k (56, [(0, .inr (.inr (some 82)))], [], (I165, L4, R, Y), 0, 0) _
    refine yi_D_run 1 (57, [(0, .inr (.inr (some 82)))], [.inr (.inr (some 82))], (I165, L4, R, Y), 0, 0) (fun _ => rfl) ?_
    have r169 : I165 82 8 = I29 82 8 := by rw [← w166, yi_u_ne _ _ (by omega)]
    refine yi_D_gi (v := I29 82 8) rfl rfl rfl r169 (fun _ => ?_)
    have h170 : ¬ ((I29 82 8) = 0) := by omega
    refine yi_D_if1 true rfl (yi_ne_t h170) ?_
    refine yi_D_run 1 (89, [(0, .inr (.inr (some 82)))], [.inr (.inr (some 82))], (I165, L4, R, Y), 0, 0) (fun _ => rfl) ?_
    have r171 : I165 82 8 = I29 82 8 := by rw [← w166, yi_u_ne _ _ (by omega)]
    refine yi_D_gi (v := I29 82 8) rfl rfl rfl r171 (fun _ => ?_)
    have h172 : ¬ ((I29 82 8) ≤ 0) := by omega
    refine yi_D_if1 false rfl (yi_le_f h172) ?_
    refine yi_D_run 1 (96, [(0, .inr (.inr (some 82)))], [.inr (.inr (some 82))], (I165, L4, R, Y), 0, 0) (fun _ => rfl) ?_
    have r173 : I165 82 8 = I29 82 8 := by rw [← w166, yi_u_ne _ _ (by omega)]
    refine yi_D_gi (v := I29 82 8) rfl rfl rfl r173 (fun _ => ?_)
    refine yi_D_reti rfl ?_
    exact ⟨_, _, _, _, _, _, _, rfl, by first | (rw [he168]; exact hx163) | (rw [he31]; exact hx163), fun h => by omega⟩
