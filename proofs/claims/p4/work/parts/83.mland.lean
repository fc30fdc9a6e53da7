/-! A land. -/
theorem c_land (D : Nat) (hD : 40 ≤ D) {I L : Nat → Nat → Int} {X : ym_X} (hS : ym_S X) (hIV : ym_IV I) : yi_E zi_Ms D 72 [.inr (.inr (some 82))] (I, L, X) (fun r => ∃ z I' L', r = (some (.inl z), (I', L', X), 0, 0) ∧ I' 82 2 = 0 ∧ ym_IV I') := by
  obtain ⟨d, rfl⟩ : ∃ d, D = d + 1 := ⟨D - 1, by omega⟩
  refine yi_E_of (M := zi_m72) rfl rfl ?_
  obtain ⟨hLR, hPK, hPW, hST, hF, hl, n0, n1, t9, hFo⟩ := id hIV
  obtain ⟨l0, l1, l2, l3, l4, l5⟩ := id hLR
  have fo0 : ∀ da : Int, 1 ≤ ym_fo da 0 0 := fun da => by unfold ym_fo; rw [if_neg (by omega)]; decide
  show yi_G zi_Ms d zi_m72 (0, [(0, .inr (.inr (some 82)))], [], (I, L, X), 0, 0) _
  refine yi_G_run 2 (2, [(0, .inr (.inr (some 82)))], [.inl 0, .inr (.inr (some 82))], (I, L, X), 0, 0) (fun _ => rfl) ?_
  refine yi_G_put (5, [(0, .inr (.inr (some 82)))], [], ((yi_u I 82 0 0), L, X), 0, 0) rfl (ym_pi hS rfl rfl) ?_
  generalize w2 : yi_u I 82 0 0 = I1
  refine yi_G_run 1 (6, [(0, .inr (.inr (some 82)))], [.inr (.inr (some 82))], (I1, L, X), 0, 0) (fun _ => rfl) ?_
  have r3 : I1 82 2 = I 82 2 := by rw [← w2, yi_u_ne _ _ (by omega)]
  refine yi_G_callv rfl rfl (ym_rcv hS) rfl (c_cutAll d (by omega) hS ⟨by omega, by omega⟩) ?_
  rintro _ ⟨I4, L6, te, rfl, f5, f7, hTI4, c2I4, c7I4, c8I4⟩
  obtain ⟨te0, te1, te2⟩ := id hTI4
  show yi_G zi_Ms d zi_m72 (9, [(0, .inr (.inr (some 82)))], [], (I4, L6, X), 0, 0) _
  refine yi_G_run 2 (11, [(0, .inr (.inr (some 82)))], [.inl 0, .inr (.inr (some 82))], (I4, L6, X), 0, 0) (fun _ => rfl) ?_
  refine yi_G_put (14, [(0, .inr (.inr (some 82)))], [], ((yi_u I4 82 13 0), L6, X), 0, 0) rfl (ym_pi hS rfl rfl) ?_
  generalize w9 : yi_u I4 82 13 0 = I8
  refine yi_G_run 2 (16, [(0, .inr (.inr (some 82)))], [.inl 0, .inr (.inr (some 82))], (I8, L6, X), 0, 0) (fun _ => rfl) ?_
  refine yi_G_put (19, [(0, .inr (.inr (some 82)))], [], ((yi_u I8 82 19 0), L6, X), 0, 0) rfl (ym_pi hS rfl rfl) ?_
  generalize w11 : yi_u I8 82 19 0 = I10
  refine yi_G_run 2 (22, [(0, .inr (.inr (some 82)))], [.inl 50, .inr (.inr (some 82))], (I10, L6, X), 0, 0) (fun _ => rfl) ?_
  refine yi_G_put (25, [(0, .inr (.inr (some 82)))], [], ((yi_u I10 82 20 50), L6, X), 0, 0) rfl (ym_pi hS rfl rfl) ?_
  generalize w13 : yi_u I10 82 20 50 = I12
  refine yi_G_run 2 (28, [(0, .inr (.inr (some 82)))], [.inl 50, .inr (.inr (some 82))], (I12, L6, X), 0, 0) (fun _ => rfl) ?_
  refine yi_G_callv rfl rfl (ym_rcv hS) rfl (c_stands d (by omega) hS) ?_
  rintro _ ⟨I14, rfl, f15, slo, shi⟩
  have sh50 := shi 50 (by omega) (by omega)
  have sh51 := shi 51 (by omega) (by omega)
  have sh52 := shi 52 (by omega) (by omega)
  have sh53 := shi 53 (by omega) (by omega)
  have sh54 := shi 54 (by omega) (by omega)
  have sh55 := shi 55 (by omega) (by omega)
  have sh56 := shi 56 (by omega) (by omega)
  rw [if_neg (by omega)] at sh50 sh51 sh52 sh53 sh54 sh55
  rw [if_pos rfl] at sh56
  show yi_G zi_Ms d zi_m72 (31, [(0, .inr (.inr (some 82)))], [], (I14, L6, X), 0, 0) _
  refine yi_G_run 2 (33, [(0, .inr (.inr (some 82)))], [.inl 0, .inr (.inr (some 82))], (I14, L6, X), 0, 0) (fun _ => rfl) ?_
  have r16 : I14 82 7 = 0 := by rw [f15 82 (7) (by omega), ← w13, yi_u_ne _ _ (by omega), ← w11, yi_u_ne _ _ (by omega), ← w9, yi_u_ne _ _ (by omega), c7I4]
  have r17 : I14 82 8 = 0 := by rw [f15 82 (8) (by omega), ← w13, yi_u_ne _ _ (by omega), ← w11, yi_u_ne _ _ (by omega), ← w9, yi_u_ne _ _ (by omega), c8I4]
  refine yi_G_callv rfl rfl (ym_rcv hS) rfl (c_takeWord d (by omega) hS ⟨by omega, by omega⟩ (ym_TK_t (fun k => by rw [f15 84 k (by omega), ← w13, yi_u_ne _ _ (fun z => absurd z.1 (by decide)), ← w11, yi_u_ne _ _ (fun z => absurd z.1 (by decide)), ← w9, yi_u_ne _ _ (fun z => absurd z.1 (by decide))]) (fun k => by rw [f15 85 k (by omega), ← w13, yi_u_ne _ _ (fun z => absurd z.1 (by decide)), ← w11, yi_u_ne _ _ (fun z => absurd z.1 (by decide)), ← w9, yi_u_ne _ _ (fun z => absurd z.1 (by decide))]) hTI4) ⟨by omega, by omega⟩ (by omega)) ?_
  rintro _ ⟨I18, rfl, f19, h20a, h20b, h20c⟩
  show yi_G zi_Ms d zi_m72 (36, [(0, .inr (.inr (some 82)))], [], (I18, L6, X), 0, 0) _
  refine yi_G_run 1 (37, [(0, .inr (.inr (some 82)))], [.inr (.inr (some 82))], (I18, L6, X), 0, 0) (fun _ => rfl) ?_
  refine yi_G_get (40, [(0, .inr (.inr (some 82)))], [.inr (.inr (some 88))], (I18, L6, X), 0, 0) rfl (ym_gr hS 5 rfl rfl rfl) ?_
  refine yi_G_run 4 (46, [(0, .inr (.inr (some 82)))], [.inl 6, .inl 1, .inr (.inr (some 82)), .inl 50, .inr (.inr (some 88))], (I18, L6, X), 0, 0) (fun _ => rfl) ?_
  refine yi_G_callv rfl rfl (ym_rcv hS) rfl (c_takeNumber d (by omega) hS (by omega) (by omega) (ym_TK_t (fun k => by rw [f19 84 k (by omega), f15 84 k (by omega), ← w13, yi_u_ne _ _ (fun z => absurd z.1 (by decide)), ← w11, yi_u_ne _ _ (fun z => absurd z.1 (by decide)), ← w9, yi_u_ne _ _ (fun z => absurd z.1 (by decide))]) (fun k => by rw [f19 85 k (by omega), f15 85 k (by omega), ← w13, yi_u_ne _ _ (fun z => absurd z.1 (by decide)), ← w11, yi_u_ne _ _ (fun z => absurd z.1 (by decide)), ← w9, yi_u_ne _ _ (fun z => absurd z.1 (by decide))]) hTI4) ⟨by omega, by omega⟩ (by omega)) ?_
  rintro _ ⟨z23, I21, rfl, f22, h24a, h24b, h24c⟩
  show yi_G zi_Ms d zi_m72 (49, [(0, .inr (.inr (some 82)))], [.inl z23, .inl 50, .inr (.inr (some 88))], (I21, L6, X), 0, 0) _
  refine yi_G_iast (50, [(0, .inr (.inr (some 82)))], [], ((yi_u I21 88 50 z23), L6, X), 0, 0) rfl (ym_si hS 5 rfl (by omega) (by omega)) ?_
  generalize w26 : yi_u I21 88 50 z23 = I25
  refine yi_G_run 2 (53, [(0, .inr (.inr (some 82)))], [.inl 59, .inr (.inr (some 82))], (I25, L6, X), 0, 0) (fun _ => rfl) ?_
  have r27 : I25 82 7 = I21 82 7 := by rw [← w26, yi_u_ne _ _ (by omega)]
  have r28 : I25 82 8 = I21 82 8 := by rw [← w26, yi_u_ne _ _ (by omega)]
  refine yi_G_callv rfl rfl (ym_rcv hS) rfl (c_takeSign d (by omega) hS (ym_TK_t (fun k => by rw [← w26, yi_u_ne _ _ (fun z => absurd z.1 (by decide)), f22 84 k (by omega), f19 84 k (by omega), f15 84 k (by omega), ← w13, yi_u_ne _ _ (fun z => absurd z.1 (by decide)), ← w11, yi_u_ne _ _ (fun z => absurd z.1 (by decide)), ← w9, yi_u_ne _ _ (fun z => absurd z.1 (by decide))]) (fun k => by rw [← w26, yi_u_ne _ _ (fun z => absurd z.1 (by decide)), f22 85 k (by omega), f19 85 k (by omega), f15 85 k (by omega), ← w13, yi_u_ne _ _ (fun z => absurd z.1 (by decide)), ← w11, yi_u_ne _ _ (fun z => absurd z.1 (by decide)), ← w9, yi_u_ne _ _ (fun z => absurd z.1 (by decide))]) hTI4) ⟨by omega, by omega⟩ (by omega)) ?_
  rintro _ ⟨I29, rfl, f30, h31a, h31b, h31c⟩
  show yi_G zi_Ms d zi_m72 (56, [(0, .inr (.inr (some 82)))], [], (I29, L6, X), 0, 0) _
  have pt56 : ∀ (m : Nat) (Ja : Nat → Nat → Int) (Ka : Nat → Nat → Int), (∀ p k, ¬ (p = 82 ∧ k = 7) ∧ ¬ (p = 82 ∧ k = 8) ∧ ¬ (p = 82 ∧ k = 13) ∧ ¬ (p = 82 ∧ k = 19) ∧ p ≠ 94 ∧ p ≠ 88 ∧ p ≠ 89 ∧ p ≠ 90 → Ja p k = I29 p k) → (∀ p k, p ≠ 92 → Ka p k = L6 p k) → (0 ≤ Ja 82 7 ∧ Ja 82 7 ≤ te) → (0 ≤ Ja 82 8) → (0 ≤ Ja 82 19 ∧ Ja 82 19 ≤ 13) → (0 ≤ Ja 82 13 ∧ Ja 82 13 ≤ Ja 82 7 + 2) → (Ja 82 8 = 0 → Ja 82 13 ≤ Ja 82 7) → (ym_LW I Ja 0) → (∀ k : Nat, k < 50 → Ja 88 k = I 88 k) → (Ja 82 8 = 0 → ym_LD Ja ∧ ym_LP Ja) → (2 * (te - Ja 82 7) + 1 - min (Ja 82 8) 1).toNat = m → yi_G zi_Ms d zi_m72 (56, [(0, .inr (.inr (some 82)))], [], (Ja, Ka, X), 0, 0) (fun r => ∃ z I' L', r = (some (.inl z), (I', L', X), 0, 0) ∧ I' 82 2 = 0 ∧ ym_IV I') := by
    intro m56
    induction m56 using Nat.strongRecOn with
    | _ m56 ih56 =>
    intro Ja Ka fJa fKa pa pf pn pk pz plw plo pld hm56
    refine yi_G_run 1 (57, [(0, .inr (.inr (some 82)))], [.inr (.inr (some 82))], (Ja, Ka, X), 0, 0) (fun _ => rfl) ?_
    refine yi_G_get (60, [(0, .inr (.inr (some 82)))], [.inl (Ja 82 8)], (Ja, Ka, X), 0, 0) rfl (ym_gi hS rfl rfl rfl) ?_
    by_cases h32 : (Ja 82 8) = 0
    · refine yi_G_if1 false rfl (yi_ne_f h32) ?_
      refine yi_G_run 1 (64, [(0, .inr (.inr (some 82)))], [.inr (.inr (some 82))], (Ja, Ka, X), 0, 0) (fun _ => rfl) ?_
      refine yi_G_get (67, [(0, .inr (.inr (some 82)))], [.inr (.inr (some 84))], (Ja, Ka, X), 0, 0) rfl (ym_gr hS 1 rfl rfl rfl) ?_
      refine yi_G_run 1 (68, [(0, .inr (.inr (some 82)))], [.inr (.inr (some 82)), .inr (.inr (some 84))], (Ja, Ka, X), 0, 0) (fun _ => rfl) ?_
      refine yi_G_get (71, [(0, .inr (.inr (some 82)))], [.inl (Ja 82 7), .inr (.inr (some 84))], (Ja, Ka, X), 0, 0) rfl (ym_gi hS rfl rfl rfl) ?_
      have r33 : Ja 84 ((Ja 82 7).toNat) = I4 84 ((Ja 82 7).toNat) := by rw [fJa 84 ((Ja 82 7).toNat) (by omega), f30 84 ((Ja 82 7).toNat) (by omega), ← w26, yi_u_ne _ _ (by omega), f22 84 ((Ja 82 7).toNat) (by omega), f19 84 ((Ja 82 7).toNat) (by omega), f15 84 ((Ja 82 7).toNat) (by omega), ← w13, yi_u_ne _ _ (by omega), ← w11, yi_u_ne _ _ (by omega), ← w9, yi_u_ne _ _ (by omega)]
      refine yi_G_iald (72, [(0, .inr (.inr (some 82)))], [.inl (I4 84 ((Ja 82 7).toNat))], (Ja, Ka, X), 0, 0) rfl (ym_li hS 1 rfl (by omega) (by omega) r33) ?_
      by_cases h34 : (I4 84 ((Ja 82 7).toNat)) = 0
      · refine yi_G_if1 true rfl (yi_eq_t h34) ?_
        refine yi_G_run 1 (89, [(0, .inr (.inr (some 82)))], [.inr (.inr (some 82))], (Ja, Ka, X), 0, 0) (fun _ => rfl) ?_
        refine yi_G_get (92, [(0, .inr (.inr (some 82)))], [.inl (Ja 82 8)], (Ja, Ka, X), 0, 0) rfl (ym_gi hS rfl rfl rfl) ?_
        by_cases h35 : (Ja 82 8) ≤ 0
        · refine yi_G_if1 true rfl (yi_le_t h35) ?_
          refine yi_G_run 2 (102, [(1, .inl 0), (0, .inr (.inr (some 82)))], [], (Ja, Ka, X), 0, 0) (fun _ => rfl) ?_
          have pt102 : ∀ (m : Nat) (k : Int) (Jb : Nat → Nat → Int), (∀ p k, p ≠ 88 → Jb p k = Ja p k) → (0 ≤ k ∧ k ≤ 50) → (∀ j : Nat, (j : Int) < k → Jb 88 j = Ja 88 (50 + j)) → (∀ j : Nat, 50 ≤ j → Jb 88 j = Ja 88 j) → (50 - k).toNat = m → yi_G zi_Ms d zi_m72 (102, [(1, .inl k), (0, .inr (.inr (some 82)))], [], (Jb, Ka, X), 0, 0) (fun r => ∃ z I' L', r = (some (.inl z), (I', L', X), 0, 0) ∧ I' 82 2 = 0 ∧ ym_IV I') := by
            intro m102
            induction m102 using Nat.strongRecOn with
            | _ m102 ih102 =>
            intro k Jb fJb k0 hb1 hb2 hm102
            refine yi_G_run 2 (105, [(1, .inl k), (0, .inr (.inr (some 82)))], [.inl 50, .inl k], (Jb, Ka, X), 0, 0) (fun _ => rfl) ?_
            by_cases h36 : 50 ≤ k
            · refine yi_G_if2 true rfl (yi_ge_t h36) ?_
              refine yi_G_run 2 (131, [(1, .inl 0), (0, .inr (.inr (some 82)))], [], (Jb, Ka, X), 0, 0) (fun _ => rfl) ?_
              have pt131 : ∀ (m : Nat) (q : Int) (Jc : Nat → Nat → Int), (∀ p k, p ≠ 89 ∧ p ≠ 90 → Jc p k = Jb p k) → (0 ≤ q ∧ q ≤ Ja 82 13) → (∀ j : Nat, (j : Int) < q → Jc 89 j = Jb 89 (1100 + j) ∧ Jc 90 j = Jb 90 (1100 + j)) → (∀ j : Nat, 1100 ≤ j → Jc 89 j = Jb 89 j ∧ Jc 90 j = Jb 90 j) → (Ja 82 13 - q).toNat = m → yi_G zi_Ms d zi_m72 (131, [(1, .inl q), (0, .inr (.inr (some 82)))], [], (Jc, Ka, X), 0, 0) (fun r => ∃ z I' L', r = (some (.inl z), (I', L', X), 0, 0) ∧ I' 82 2 = 0 ∧ ym_IV I') := by
                intro m131
                induction m131 using Nat.strongRecOn with
                | _ m131 ih131 =>
                intro q Jc fJc q0 hc1 hc2 hm131
                refine yi_G_run 2 (133, [(1, .inl q), (0, .inr (.inr (some 82)))], [.inr (.inr (some 82)), .inl q], (Jc, Ka, X), 0, 0) (fun _ => rfl) ?_
                have r37 : Jc 82 13 = Ja 82 13 := by rw [fJc 82 (13) (by omega), fJb 82 (13) (by omega)]
                refine yi_G_get (136, [(1, .inl q), (0, .inr (.inr (some 82)))], [.inl (Ja 82 13), .inl q], (Jc, Ka, X), 0, 0) rfl (ym_gi hS rfl rfl r37) ?_
                by_cases h38 : (Ja 82 13) ≤ q
                · refine yi_G_if2 true rfl (yi_ge_t h38) ?_
                  refine yi_G_run 2 (179, [(1, .inl 0), (0, .inr (.inr (some 82)))], [], (Jc, Ka, X), 0, 0) (fun _ => rfl) ?_
                  have pt179 : ∀ (m : Nat) (u : Int) (Jd : Nat → Nat → Int) (Kd : Nat → Nat → Int), (∀ p k, p ≠ 93 → Jd p k = Jc p k) → (∀ p k, p ≠ 91 → Kd p k = Ka p k) → (0 ≤ u ∧ u ≤ Ja 82 19) → (Ja 82 19 - u).toNat = m → yi_G zi_Ms d zi_m72 (179, [(1, .inl u), (0, .inr (.inr (some 82)))], [], (Jd, Kd, X), 0, 0) (fun r => ∃ z I' L', r = (some (.inl z), (I', L', X), 0, 0) ∧ I' 82 2 = 0 ∧ ym_IV I') := by
                    intro m179
                    induction m179 using Nat.strongRecOn with
                    | _ m179 ih179 =>
                    intro u Jd Kd fJd fKd u0 hm179
                    refine yi_G_run 2 (181, [(1, .inl u), (0, .inr (.inr (some 82)))], [.inr (.inr (some 82)), .inl u], (Jd, Kd, X), 0, 0) (fun _ => rfl) ?_
                    have r39 : Jd 82 19 = Ja 82 19 := by rw [fJd 82 (19) (by omega), fJc 82 (19) (by omega), fJb 82 (19) (by omega)]
                    refine yi_G_get (184, [(1, .inl u), (0, .inr (.inr (some 82)))], [.inl (Ja 82 19), .inl u], (Jd, Kd, X), 0, 0) rfl (ym_gi hS rfl rfl r39) ?_
                    by_cases h40 : (Ja 82 19) ≤ u
                    · refine yi_G_if2 true rfl (yi_ge_t h40) ?_
                      refine yi_G_run 2 (219, [(1, .inl u), (0, .inr (.inr (some 82)))], [.inr (.inr (some 82)), .inr (.inr (some 82))], (Jd, Kd, X), 0, 0) (fun _ => rfl) ?_
                      have r41 : Jd 82 19 = Ja 82 19 := by rw [fJd 82 (19) (by omega), fJc 82 (19) (by omega), fJb 82 (19) (by omega)]
                      refine yi_G_get (222, [(1, .inl u), (0, .inr (.inr (some 82)))], [.inl (Ja 82 19), .inr (.inr (some 82))], (Jd, Kd, X), 0, 0) rfl (ym_gi hS rfl rfl r41) ?_
                      refine yi_G_put (225, [(1, .inl u), (0, .inr (.inr (some 82)))], [], ((yi_u Jd 82 18 (Ja 82 19)), Kd, X), 0, 0) rfl (ym_pi hS rfl rfl) ?_
                      generalize w43 : yi_u Jd 82 18 (Ja 82 19) = I42
                      refine yi_G_run 1 (226, [(1, .inl u), (0, .inr (.inr (some 82)))], [.inr (.inr (some 82))], (I42, Kd, X), 0, 0) (fun _ => rfl) ?_
                      have r44 : I42 82 13 = Ja 82 13 := by rw [← w43, yi_u_ne _ _ (by omega), fJd 82 (13) (by omega), fJc 82 (13) (by omega), fJb 82 (13) (by omega)]
                      have r45 : I42 82 19 = Ja 82 19 := by rw [← w43, yi_u_ne _ _ (by omega), fJd 82 (19) (by omega), fJc 82 (19) (by omega), fJb 82 (19) (by omega)]
                      have ll := pld (by omega)
                      have e50 : ∀ k : Nat, k < 50 → I42 88 k = Ja 88 (50 + k) := fun k hk => by rw [← w43, yi_u_ne _ _ (by omega), fJd 88 k (by omega), fJc 88 k (by omega)]; exact hb1 k (by omega)
                      have e89 : ∀ k : Nat, (k : Int) < Ja 82 13 → I42 89 k = Ja 89 (1100 + k) ∧ I42 90 k = Ja 90 (1100 + k) := fun k hk => ⟨by rw [← w43, yi_u_ne _ _ (by omega), fJd 89 k (by omega)]; rw [(hc1 k (by omega)).1]; exact fJb 89 _ (by omega), by rw [← w43, yi_u_ne _ _ (by omega), fJd 90 k (by omega)]; rw [(hc1 k (by omega)).2]; exact fJb 90 _ (by omega)⟩
                      obtain ⟨lrb, fob⟩ := ym_LR_of ll.1 e50
                      have pkb : ym_PK I42 := ym_PK_of ll.1 ll.2 rfl (by omega) e50 e89
                      have fbb := ym_fo_b (da := I42 88 0) (pe := I42 88 1) (ev := I42 88 2) (by have := lrb.2.2.1; omega)
                      refine yi_G_callv rfl rfl (ym_rcv hS) rfl (c_begins d (by omega) hS lrb (ym_PK_PL pkb) fob) ?_
                      rintro _ ⟨I46, L48, rfl, f47, f49, v24, v25, v20, pwb, s0b, v30, mkb⟩
                      show yi_G zi_Ms d zi_m72 (229, [(1, .inl u), (0, .inr (.inr (some 82)))], [], (I46, L48, X), 0, 0) _
                      refine yi_G_run 1 (230, [(1, .inl u), (0, .inr (.inr (some 82)))], [.inl 0], (I46, L48, X), 0, 0) (fun _ => rfl) ?_
                      have r50 : I46 82 2 = 0 := by rw [f47 82 (2) (by omega), ← w43, yi_u_ne _ _ (by omega), fJd 82 (2) (by omega), fJc 82 (2) (by omega), fJb 82 (2) (by omega), fJa 82 (2) (by omega), f30 82 (2) (by omega), ← w26, yi_u_ne _ _ (by omega), f22 82 (2) (by omega), f19 82 (2) (by omega), f15 82 (2) (by omega), ← w13, yi_u_ne _ _ (by omega), ← w11, yi_u_ne _ _ (by omega), ← w9, yi_u_ne _ _ (by omega), c2I4]
                      have r51 : I46 82 18 = Ja 82 19 := by rw [f47 82 (18) (by omega), ← w43, yi_u_eq]
                      have r52 : I46 82 19 = Ja 82 19 := by rw [f47 82 (19) (by omega), ← w43, yi_u_ne _ _ (by omega), fJd 82 (19) (by omega), fJc 82 (19) (by omega), fJb 82 (19) (by omega)]
                      exact yi_G_reti rfl rfl (⟨_, _, _, rfl, by omega, ⟨ym_LR_t (fun k => f47 88 k (by omega)) lrb, ym_PK_t ⟨lrb.2.2.2.2.1.2, lrb.2.2.2.2.2.2⟩ (fun k _ => f47 88 k (by omega)) (fun k _ => ⟨f47 89 k (by omega), f47 90 k (by omega)⟩) pkb, pwb, ym_ST_0 s0b v30 mkb, by omega, by omega, by omega, by omega, by omega, by rw [f47 88 0 (by omega), f47 88 1 (by omega), f47 88 2 (by omega)]; exact fob⟩⟩)
                    · refine yi_G_if2 false rfl (yi_ge_f h40) ?_
                      refine yi_G_run 1 (188, [(1, .inl u), (0, .inr (.inr (some 82)))], [.inr (.inr (some 82))], (Jd, Kd, X), 0, 0) (fun _ => rfl) ?_
                      refine yi_G_get (191, [(1, .inl u), (0, .inr (.inr (some 82)))], [.inr (.inr (some 91))], (Jd, Kd, X), 0, 0) rfl (ym_gr hS 8 rfl rfl rfl) ?_
                      refine yi_G_run 2 (193, [(1, .inl u), (0, .inr (.inr (some 82)))], [.inr (.inr (some 82)), .inl u, .inr (.inr (some 91))], (Jd, Kd, X), 0, 0) (fun _ => rfl) ?_
                      refine yi_G_get (196, [(1, .inl u), (0, .inr (.inr (some 82)))], [.inr (.inr (some 92)), .inl u, .inr (.inr (some 91))], (Jd, Kd, X), 0, 0) rfl (ym_gr hS 9 rfl rfl rfl) ?_
                      refine yi_G_run 1 (197, [(1, .inl u), (0, .inr (.inr (some 82)))], [.inl u, .inr (.inr (some 92)), .inl u, .inr (.inr (some 91))], (Jd, Kd, X), 0, 0) (fun _ => rfl) ?_
                      have r53 : Kd 92 (u.toNat) = Ka 92 (u.toNat) := by rw [fKd 92 (u.toNat) (by omega)]
                      refine yi_G_lald (198, [(1, .inl u), (0, .inr (.inr (some 82)))], [.inr (.inl (Ka 92 (u.toNat))), .inl u, .inr (.inr (some 91))], (Jd, Kd, X), 0, 0) rfl (ym_ll hS 9 rfl (by omega) (by omega) r53) ?_
                      refine yi_G_last (199, [(1, .inl u), (0, .inr (.inr (some 82)))], [], (Jd, (yi_u Kd 91 (u.toNat) (Ka 92 (u.toNat))), X), 0, 0) rfl (ym_sl hS 8 rfl (by omega) (by omega)) ?_
                      generalize w55 : yi_u Kd 91 (u.toNat) (Ka 92 (u.toNat)) = L54
                      refine yi_G_run 1 (200, [(1, .inl u), (0, .inr (.inr (some 82)))], [.inr (.inr (some 82))], (Jd, L54, X), 0, 0) (fun _ => rfl) ?_
                      refine yi_G_get (203, [(1, .inl u), (0, .inr (.inr (some 82)))], [.inr (.inr (some 93))], (Jd, L54, X), 0, 0) rfl (ym_gr hS 10 rfl rfl rfl) ?_
                      refine yi_G_run 2 (205, [(1, .inl u), (0, .inr (.inr (some 82)))], [.inr (.inr (some 82)), .inl u, .inr (.inr (some 93))], (Jd, L54, X), 0, 0) (fun _ => rfl) ?_
                      refine yi_G_get (208, [(1, .inl u), (0, .inr (.inr (some 82)))], [.inr (.inr (some 94)), .inl u, .inr (.inr (some 93))], (Jd, L54, X), 0, 0) rfl (ym_gr hS 11 rfl rfl rfl) ?_
                      refine yi_G_run 1 (209, [(1, .inl u), (0, .inr (.inr (some 82)))], [.inl u, .inr (.inr (some 94)), .inl u, .inr (.inr (some 93))], (Jd, L54, X), 0, 0) (fun _ => rfl) ?_
                      have r56 : Jd 94 (u.toNat) = Ja 94 (u.toNat) := by rw [fJd 94 (u.toNat) (by omega), fJc 94 (u.toNat) (by omega), fJb 94 (u.toNat) (by omega)]
                      refine yi_G_iald (210, [(1, .inl u), (0, .inr (.inr (some 82)))], [.inl (Ja 94 (u.toNat)), .inl u, .inr (.inr (some 93))], (Jd, L54, X), 0, 0) rfl (ym_li hS 11 rfl (by omega) (by omega) r56) ?_
                      refine yi_G_iast (211, [(1, .inl u), (0, .inr (.inr (some 82)))], [], ((yi_u Jd 93 (u.toNat) (Ja 94 (u.toNat))), L54, X), 0, 0) rfl (ym_si hS 10 rfl (by omega) (by omega)) ?_
                      generalize w58 : yi_u Jd 93 (u.toNat) (Ja 94 (u.toNat)) = I57
                      refine yi_G_iinc [(1, .inl (u + 1)), (0, .inr (.inr (some 82)))] rfl rfl rfl (by rw [show yi_w (u + 1) = u + 1 from (yi_wn (by omega) (by omega)).trans (by omega)]; rfl) ?_
                      refine yi_G_run 1 (179, [(1, .inl (u + 1)), (0, .inr (.inr (some 82)))], [], (I57, L54, X), 0, 0) (fun _ => rfl) ?_
                      exact ih179 _ (by omega) (u + 1) I57 L54 (fun p k hp => by rw [← w58, yi_u_ne _ _ (fun z => by omega), fJd p k (by omega)]) (fun p k hp => by rw [← w55, yi_u_ne _ _ (fun z => by omega), fKd p k (by omega)]) (by omega) rfl
                  exact pt179 _ 0 Jc Ka (fun _ _ _ => rfl) (fun _ _ _ => rfl) (by omega) rfl
                · refine yi_G_if2 false rfl (yi_ge_f h38) ?_
                  refine yi_G_run 1 (140, [(1, .inl q), (0, .inr (.inr (some 82)))], [.inr (.inr (some 82))], (Jc, Ka, X), 0, 0) (fun _ => rfl) ?_
                  refine yi_G_get (143, [(1, .inl q), (0, .inr (.inr (some 82)))], [.inr (.inr (some 89))], (Jc, Ka, X), 0, 0) rfl (ym_gr hS 6 rfl rfl rfl) ?_
                  refine yi_G_run 2 (145, [(1, .inl q), (0, .inr (.inr (some 82)))], [.inr (.inr (some 82)), .inl q, .inr (.inr (some 89))], (Jc, Ka, X), 0, 0) (fun _ => rfl) ?_
                  refine yi_G_get (148, [(1, .inl q), (0, .inr (.inr (some 82)))], [.inr (.inr (some 89)), .inl q, .inr (.inr (some 89))], (Jc, Ka, X), 0, 0) rfl (ym_gr hS 6 rfl rfl rfl) ?_
                  refine yi_G_run 2 (152, [(1, .inl q), (0, .inr (.inr (some 82)))], [.inl q, .inl 1100, .inr (.inr (some 89)), .inl q, .inr (.inr (some 89))], (Jc, Ka, X), 0, 0) (fun _ => rfl) ?_
                  refine yi_G_iadd rfl (1100 + q) (yi_wn (by omega) (by omega)) ?_
                  refine yi_G_iald (154, [(1, .inl q), (0, .inr (.inr (some 82)))], [.inl (Jc 89 ((1100 + q).toNat)), .inl q, .inr (.inr (some 89))], (Jc, Ka, X), 0, 0) rfl (ym_li hS 6 rfl (by omega) (by omega) rfl) ?_
                  refine yi_G_iast (155, [(1, .inl q), (0, .inr (.inr (some 82)))], [], ((yi_u Jc 89 (q.toNat) (Jc 89 ((1100 + q).toNat))), Ka, X), 0, 0) rfl (ym_si hS 6 rfl (by omega) (by omega)) ?_
                  generalize w60 : yi_u Jc 89 (q.toNat) (Jc 89 ((1100 + q).toNat)) = I59
                  refine yi_G_run 1 (156, [(1, .inl q), (0, .inr (.inr (some 82)))], [.inr (.inr (some 82))], (I59, Ka, X), 0, 0) (fun _ => rfl) ?_
                  refine yi_G_get (159, [(1, .inl q), (0, .inr (.inr (some 82)))], [.inr (.inr (some 90))], (I59, Ka, X), 0, 0) rfl (ym_gr hS 7 rfl rfl rfl) ?_
                  refine yi_G_run 2 (161, [(1, .inl q), (0, .inr (.inr (some 82)))], [.inr (.inr (some 82)), .inl q, .inr (.inr (some 90))], (I59, Ka, X), 0, 0) (fun _ => rfl) ?_
                  refine yi_G_get (164, [(1, .inl q), (0, .inr (.inr (some 82)))], [.inr (.inr (some 90)), .inl q, .inr (.inr (some 90))], (I59, Ka, X), 0, 0) rfl (ym_gr hS 7 rfl rfl rfl) ?_
                  refine yi_G_run 2 (168, [(1, .inl q), (0, .inr (.inr (some 82)))], [.inl q, .inl 1100, .inr (.inr (some 90)), .inl q, .inr (.inr (some 90))], (I59, Ka, X), 0, 0) (fun _ => rfl) ?_
                  refine yi_G_iadd rfl (1100 + q) (yi_wn (by omega) (by omega)) ?_
                  have r61 : I59 90 ((1100 + q).toNat) = Jc 90 ((1100 + q).toNat) := by rw [← w60, yi_u_ne _ _ (by omega)]
                  refine yi_G_iald (170, [(1, .inl q), (0, .inr (.inr (some 82)))], [.inl (Jc 90 ((1100 + q).toNat)), .inl q, .inr (.inr (some 90))], (I59, Ka, X), 0, 0) rfl (ym_li hS 7 rfl (by omega) (by omega) r61) ?_
                  refine yi_G_iast (171, [(1, .inl q), (0, .inr (.inr (some 82)))], [], ((yi_u I59 90 (q.toNat) (Jc 90 ((1100 + q).toNat))), Ka, X), 0, 0) rfl (ym_si hS 7 rfl (by omega) (by omega)) ?_
                  generalize w63 : yi_u I59 90 (q.toNat) (Jc 90 ((1100 + q).toNat)) = I62
                  refine yi_G_iinc [(1, .inl (q + 1)), (0, .inr (.inr (some 82)))] rfl rfl rfl (by rw [show yi_w (q + 1) = q + 1 from (yi_wn (by omega) (by omega)).trans (by omega)]; rfl) ?_
                  refine yi_G_run 1 (131, [(1, .inl (q + 1)), (0, .inr (.inr (some 82)))], [], (I62, Ka, X), 0, 0) (fun _ => rfl) ?_
                  exact ih131 _ (by omega) (q + 1) I62 (fun p k hp => by rw [← w63, yi_u_ne _ _ (fun z => by omega), ← w60, yi_u_ne _ _ (fun z => by omega), fJc p k (by omega)]) (by omega) (fun j hj => by rw [← w63, ← w60]; exact (by by_cases e : j = q.toNat; (subst e; rw [yi_u_ne _ _ (by omega), yi_u_eq, yi_u_eq]; constructor; (first | rfl | (rw [(hc2 _ (by omega)).1]; congr 1; omega)); (first | rfl | (rw [(hc2 _ (by omega)).2]; congr 1; omega))); (rw [yi_u_ne _ _ (by omega), yi_u_ne _ _ (by omega), yi_u_ne _ _ (by omega), yi_u_ne _ _ (by omega)]; exact hc1 j (by omega)))) (fun j hj => ⟨by rw [← w63, yi_u_ne _ _ (by omega), ← w60, yi_u_ne _ _ (by omega)]; exact (hc2 j hj).1, by rw [← w63, yi_u_ne _ _ (by omega), ← w60, yi_u_ne _ _ (by omega)]; exact (hc2 j hj).2⟩) rfl
              exact pt131 _ 0 Jb (fun _ _ _ => rfl) (by omega) (fun j hj => absurd hj (by omega)) (fun j hj => ⟨rfl, rfl⟩) rfl
            · refine yi_G_if2 false rfl (yi_ge_f h36) ?_
              refine yi_G_run 1 (109, [(1, .inl k), (0, .inr (.inr (some 82)))], [.inr (.inr (some 82))], (Jb, Ka, X), 0, 0) (fun _ => rfl) ?_
              refine yi_G_get (112, [(1, .inl k), (0, .inr (.inr (some 82)))], [.inr (.inr (some 88))], (Jb, Ka, X), 0, 0) rfl (ym_gr hS 5 rfl rfl rfl) ?_
              refine yi_G_run 2 (114, [(1, .inl k), (0, .inr (.inr (some 82)))], [.inr (.inr (some 82)), .inl k, .inr (.inr (some 88))], (Jb, Ka, X), 0, 0) (fun _ => rfl) ?_
              refine yi_G_get (117, [(1, .inl k), (0, .inr (.inr (some 82)))], [.inr (.inr (some 88)), .inl k, .inr (.inr (some 88))], (Jb, Ka, X), 0, 0) rfl (ym_gr hS 5 rfl rfl rfl) ?_
              refine yi_G_run 2 (120, [(1, .inl k), (0, .inr (.inr (some 82)))], [.inl k, .inl 50, .inr (.inr (some 88)), .inl k, .inr (.inr (some 88))], (Jb, Ka, X), 0, 0) (fun _ => rfl) ?_
              refine yi_G_iadd rfl (50 + k) (yi_wn (by omega) (by omega)) ?_
              refine yi_G_iald (122, [(1, .inl k), (0, .inr (.inr (some 82)))], [.inl (Jb 88 ((50 + k).toNat)), .inl k, .inr (.inr (some 88))], (Jb, Ka, X), 0, 0) rfl (ym_li hS 5 rfl (by omega) (by omega) rfl) ?_
              refine yi_G_iast (123, [(1, .inl k), (0, .inr (.inr (some 82)))], [], ((yi_u Jb 88 (k.toNat) (Jb 88 ((50 + k).toNat))), Ka, X), 0, 0) rfl (ym_si hS 5 rfl (by omega) (by omega)) ?_
              generalize w65 : yi_u Jb 88 (k.toNat) (Jb 88 ((50 + k).toNat)) = I64
              refine yi_G_iinc [(1, .inl (k + 1)), (0, .inr (.inr (some 82)))] rfl rfl rfl (by rw [show yi_w (k + 1) = k + 1 from (yi_wn (by omega) (by omega)).trans (by omega)]; rfl) ?_
              refine yi_G_run 1 (102, [(1, .inl (k + 1)), (0, .inr (.inr (some 82)))], [], (I64, Ka, X), 0, 0) (fun _ => rfl) ?_
              exact ih102 _ (by omega) (k + 1) I64 (fun p k hp => by rw [← w65, yi_u_ne _ _ (fun z => by omega), fJb p k (by omega)]) (by omega) (fun j hj => by rw [← w65]; exact (by by_cases e : j = k.toNat; (subst e; rw [yi_u_eq]; first | rfl | (rw [hb2 _ (by omega)]; congr 1; omega)); (rw [yi_u_ne _ _ (by omega)]; exact hb1 j (by omega)))) (fun j hj => by rw [← w65, yi_u_ne _ _ (by omega)]; exact hb2 j hj) rfl
          exact pt102 _ 0 Ja (fun _ _ _ => rfl) (by omega) (fun j hj => absurd hj (by omega)) (fun j hj => rfl) rfl
        · refine yi_G_if1 false rfl (yi_le_f h35) ?_
          refine yi_G_run 1 (96, [(0, .inr (.inr (some 82)))], [.inr (.inr (some 82))], (Ja, Ka, X), 0, 0) (fun _ => rfl) ?_
          refine yi_G_get (99, [(0, .inr (.inr (some 82)))], [.inl (Ja 82 8)], (Ja, Ka, X), 0, 0) rfl (ym_gi hS rfl rfl rfl) ?_
          have r66 : Ja 82 2 = 0 := by rw [fJa 82 (2) (by omega), f30 82 (2) (by omega), ← w26, yi_u_ne _ _ (by omega), f22 82 (2) (by omega), f19 82 (2) (by omega), f15 82 (2) (by omega), ← w13, yi_u_ne _ _ (by omega), ← w11, yi_u_ne _ _ (by omega), ← w9, yi_u_ne _ _ (by omega), c2I4]
          have r67 : Ja 82 24 = I 82 24 := by rw [fJa 82 (24) (by omega), f30 82 (24) (by omega), ← w26, yi_u_ne _ _ (by omega), f22 82 (24) (by omega), f19 82 (24) (by omega), f15 82 (24) (by omega), ← w13, yi_u_ne _ _ (by omega), ← w11, yi_u_ne _ _ (by omega), ← w9, yi_u_ne _ _ (by omega), f5 82 (24) (by omega), ← w2, yi_u_ne _ _ (by omega)]
          have r68 : Ja 82 25 = I 82 25 := by rw [fJa 82 (25) (by omega), f30 82 (25) (by omega), ← w26, yi_u_ne _ _ (by omega), f22 82 (25) (by omega), f19 82 (25) (by omega), f15 82 (25) (by omega), ← w13, yi_u_ne _ _ (by omega), ← w11, yi_u_ne _ _ (by omega), ← w9, yi_u_ne _ _ (by omega), f5 82 (25) (by omega), ← w2, yi_u_ne _ _ (by omega)]
          have r69 : Ja 82 18 = I 82 18 := by rw [fJa 82 (18) (by omega), f30 82 (18) (by omega), ← w26, yi_u_ne _ _ (by omega), f22 82 (18) (by omega), f19 82 (18) (by omega), f15 82 (18) (by omega), ← w13, yi_u_ne _ _ (by omega), ← w11, yi_u_ne _ _ (by omega), ← w9, yi_u_ne _ _ (by omega), f5 82 (18) (by omega), ← w2, yi_u_ne _ _ (by omega)]
          exact yi_G_reti rfl rfl (⟨_, _, _, rfl, by omega, ym_IV_t hIV plo plw (fun k => by rw [fJa 98 k (by omega), f30 98 k (by omega), ← w26, yi_u_ne _ _ (by omega), f22 98 k (by omega), f19 98 k (by omega), f15 98 k (by omega), ← w13, yi_u_ne _ _ (by omega), ← w11, yi_u_ne _ _ (by omega), ← w9, yi_u_ne _ _ (by omega), f5 98 k (by omega), ← w2, yi_u_ne _ _ (by omega)]) ((ym_ST_t (fun k => fJa 100 k (by omega)) (fJa 82 30 (by omega)) (fun k => fJa 101 k (by omega)) (fun k => fJa 102 k (by omega)) (ym_ST_t (fun k => f30 100 k (by omega)) (f30 82 30 (by omega)) (fun k => f30 101 k (by omega)) (fun k => f30 102 k (by omega)) (ym_ST_t (fun k => by rw [← w26, yi_u_ne _ _ (by omega)]) (by rw [← w26, yi_u_ne _ _ (by omega)]) (fun k => by rw [← w26, yi_u_ne _ _ (by omega)]) (fun k => by rw [← w26, yi_u_ne _ _ (by omega)]) (ym_ST_t (fun k => f22 100 k (by omega)) (f22 82 30 (by omega)) (fun k => f22 101 k (by omega)) (fun k => f22 102 k (by omega)) (ym_ST_t (fun k => f19 100 k (by omega)) (f19 82 30 (by omega)) (fun k => f19 101 k (by omega)) (fun k => f19 102 k (by omega)) (ym_ST_t (fun k => f15 100 k (by omega)) (f15 82 30 (by omega)) (fun k => f15 101 k (by omega)) (fun k => f15 102 k (by omega)) (ym_ST_t (fun k => by rw [← w13, yi_u_ne _ _ (by omega)]) (by rw [← w13, yi_u_ne _ _ (by omega)]) (fun k => by rw [← w13, yi_u_ne _ _ (by omega)]) (fun k => by rw [← w13, yi_u_ne _ _ (by omega)]) (ym_ST_t (fun k => by rw [← w11, yi_u_ne _ _ (by omega)]) (by rw [← w11, yi_u_ne _ _ (by omega)]) (fun k => by rw [← w11, yi_u_ne _ _ (by omega)]) (fun k => by rw [← w11, yi_u_ne _ _ (by omega)]) (ym_ST_t (fun k => by rw [← w9, yi_u_ne _ _ (by omega)]) (by rw [← w9, yi_u_ne _ _ (by omega)]) (fun k => by rw [← w9, yi_u_ne _ _ (by omega)]) (fun k => by rw [← w9, yi_u_ne _ _ (by omega)]) (ym_ST_t (fun k => f5 100 k (by omega)) (f5 82 30 (by omega)) (fun k => f5 101 k (by omega)) (fun k => f5 102 k (by omega)) (ym_ST_t (fun k => by rw [← w2, yi_u_ne _ _ (by omega)]) (by rw [← w2, yi_u_ne _ _ (by omega)]) (fun k => by rw [← w2, yi_u_ne _ _ (by omega)]) (fun k => by rw [← w2, yi_u_ne _ _ (by omega)]) hST)))))))))))) r67 r68 r69 pn (by omega)⟩)
      · refine yi_G_if1 false rfl (yi_eq_f h34) ?_
        refine yi_G_run 1 (76, [(0, .inr (.inr (some 82)))], [.inr (.inr (some 82))], (Ja, Ka, X), 0, 0) (fun _ => rfl) ?_
        have r70 : Ja 82 18 = I 82 18 := by rw [fJa 82 (18) (by omega), f30 82 (18) (by omega), ← w26, yi_u_ne _ _ (by omega), f22 82 (18) (by omega), f19 82 (18) (by omega), f15 82 (18) (by omega), ← w13, yi_u_ne _ _ (by omega), ← w11, yi_u_ne _ _ (by omega), ← w9, yi_u_ne _ _ (by omega), f5 82 (18) (by omega), ← w2, yi_u_ne _ _ (by omega)]
        have r71 : Ja 82 20 = 50 := by rw [fJa 82 (20) (by omega), f30 82 (20) (by omega), ← w26, yi_u_ne _ _ (by omega), f22 82 (20) (by omega), f19 82 (20) (by omega), f15 82 (20) (by omega), ← w13, yi_u_eq]
        refine yi_G_callv rfl rfl (ym_rcv hS) rfl (c_readLine d (by omega) hS (ym_TK_t (fun k => by rw [fJa 84 k (by omega), f30 84 k (by omega), ← w26, yi_u_ne _ _ (fun z => absurd z.1 (by decide)), f22 84 k (by omega), f19 84 k (by omega), f15 84 k (by omega), ← w13, yi_u_ne _ _ (fun z => absurd z.1 (by decide)), ← w11, yi_u_ne _ _ (fun z => absurd z.1 (by decide)), ← w9, yi_u_ne _ _ (fun z => absurd z.1 (by decide))]) (fun k => by rw [fJa 85 k (by omega), f30 85 k (by omega), ← w26, yi_u_ne _ _ (fun z => absurd z.1 (by decide)), f22 85 k (by omega), f19 85 k (by omega), f15 85 k (by omega), ← w13, yi_u_ne _ _ (fun z => absurd z.1 (by decide)), ← w11, yi_u_ne _ _ (fun z => absurd z.1 (by decide)), ← w9, yi_u_ne _ _ (fun z => absurd z.1 (by decide))]) hTI4) ⟨by omega, by omega⟩ (ym_TK_lt hTI4 (by omega) (by omega)) (by omega) ⟨by omega, by omega⟩ (pld (by omega)).1 (pld (by omega)).2 ⟨by omega, by omega⟩ (by omega)) ?_
        rintro _ ⟨I72, L74, rfl, f73, f75, h76a, h76b, h76c, h76d, h76e, h76f, lwI72, loI72, ldI72⟩
        show yi_G zi_Ms d zi_m72 (79, [(0, .inr (.inr (some 82)))], [], (I72, L74, X), 0, 0) _
        refine yi_G_run 2 (82, [(0, .inr (.inr (some 82)))], [.inl 59, .inr (.inr (some 82))], (I72, L74, X), 0, 0) (fun _ => rfl) ?_
        refine yi_G_callv rfl rfl (ym_rcv hS) rfl (c_takeSign d (by omega) hS (ym_TK_t (fun k => by rw [f73 84 k (by omega), fJa 84 k (by omega), f30 84 k (by omega), ← w26, yi_u_ne _ _ (fun z => absurd z.1 (by decide)), f22 84 k (by omega), f19 84 k (by omega), f15 84 k (by omega), ← w13, yi_u_ne _ _ (fun z => absurd z.1 (by decide)), ← w11, yi_u_ne _ _ (fun z => absurd z.1 (by decide)), ← w9, yi_u_ne _ _ (fun z => absurd z.1 (by decide))]) (fun k => by rw [f73 85 k (by omega), fJa 85 k (by omega), f30 85 k (by omega), ← w26, yi_u_ne _ _ (fun z => absurd z.1 (by decide)), f22 85 k (by omega), f19 85 k (by omega), f15 85 k (by omega), ← w13, yi_u_ne _ _ (fun z => absurd z.1 (by decide)), ← w11, yi_u_ne _ _ (fun z => absurd z.1 (by decide)), ← w9, yi_u_ne _ _ (fun z => absurd z.1 (by decide))]) hTI4) ⟨by omega, by omega⟩ (by omega)) ?_
        rintro _ ⟨I77, rfl, f78, h79a, h79b, h79c⟩
        show yi_G zi_Ms d zi_m72 (85, [(0, .inr (.inr (some 82)))], [], (I77, L74, X), 0, 0) _
        refine yi_G_run 1 (56, [(0, .inr (.inr (some 82)))], [], (I77, L74, X), 0, 0) (fun _ => rfl) ?_
        have r80 : I77 82 13 = I72 82 13 := by rw [f78 82 (13) (by omega)]
        have r81 : I77 82 19 = I72 82 19 := by rw [f78 82 (19) (by omega)]
        have r82 : I77 82 13 = I72 82 13 := by rw [f78 82 (13) (by omega)]
        have r83 : I77 82 19 = I72 82 19 := by rw [f78 82 (19) (by omega)]
        have r84 : I77 82 13 = I72 82 13 := by rw [f78 82 (13) (by omega)]
        have r85 : I77 82 19 = I72 82 19 := by rw [f78 82 (19) (by omega)]
        have r86 : I77 82 13 = I72 82 13 := by rw [f78 82 (13) (by omega)]
        have r87 : I77 82 19 = I72 82 19 := by rw [f78 82 (19) (by omega)]
        have r88 : I77 82 13 = I72 82 13 := by rw [f78 82 (13) (by omega)]
        have r89 : I77 82 19 = I72 82 19 := by rw [f78 82 (19) (by omega)]
        exact ih56 _ (by omega) I77 L74 (fun p k hp => by rw [f78 p k (by omega), f73 p k (by omega), fJa p k (by omega)]) (fun p k hp => by rw [f75 p k (by omega), fKa p k (by omega)]) (by omega) (by omega) (by omega) (by omega) (by omega) (ym_LW_f (ym_LW_t plw lwI72 (by omega)) (fun k => by rw [f78 89 k (by omega)]) (fun k => by rw [f78 90 k (by omega)])) (fun k hk => by rw [f78 88 k (by omega), loI72 k hk]; exact plo k hk) (fun zz => ym_LL_t (fun k => f78 88 k (by omega)) (fun k => f78 89 k (by omega)) (fun k => f78 90 k (by omega)) (f78 82 19 (by omega)) (f78 82 13 (by omega)) (ldI72 (by omega))) rfl
    · refine yi_G_if1 true rfl (yi_ne_t h32) ?_
      refine yi_G_run 1 (89, [(0, .inr (.inr (some 82)))], [.inr (.inr (some 82))], (Ja, Ka, X), 0, 0) (fun _ => rfl) ?_
      refine yi_G_get (92, [(0, .inr (.inr (some 82)))], [.inl (Ja 82 8)], (Ja, Ka, X), 0, 0) rfl (ym_gi hS rfl rfl rfl) ?_
      by_cases h90 : (Ja 82 8) ≤ 0
      · refine yi_G_if1 true rfl (yi_le_t h90) ?_
        refine yi_G_run 2 (102, [(1, .inl 0), (0, .inr (.inr (some 82)))], [], (Ja, Ka, X), 0, 0) (fun _ => rfl) ?_
        have pt102 : ∀ (m : Nat) (k : Int) (Jb : Nat → Nat → Int), (∀ p k, p ≠ 88 → Jb p k = Ja p k) → (0 ≤ k ∧ k ≤ 50) → (∀ j : Nat, (j : Int) < k → Jb 88 j = Ja 88 (50 + j)) → (∀ j : Nat, 50 ≤ j → Jb 88 j = Ja 88 j) → (50 - k).toNat = m → yi_G zi_Ms d zi_m72 (102, [(1, .inl k), (0, .inr (.inr (some 82)))], [], (Jb, Ka, X), 0, 0) (fun r => ∃ z I' L', r = (some (.inl z), (I', L', X), 0, 0) ∧ I' 82 2 = 0 ∧ ym_IV I') := by
          intro m102
          induction m102 using Nat.strongRecOn with
          | _ m102 ih102 =>
          intro k Jb fJb k0 hb1 hb2 hm102
          refine yi_G_run 2 (105, [(1, .inl k), (0, .inr (.inr (some 82)))], [.inl 50, .inl k], (Jb, Ka, X), 0, 0) (fun _ => rfl) ?_
          by_cases h91 : 50 ≤ k
          · refine yi_G_if2 true rfl (yi_ge_t h91) ?_
            refine yi_G_run 2 (131, [(1, .inl 0), (0, .inr (.inr (some 82)))], [], (Jb, Ka, X), 0, 0) (fun _ => rfl) ?_
            have pt131 : ∀ (m : Nat) (q : Int) (Jc : Nat → Nat → Int), (∀ p k, p ≠ 89 ∧ p ≠ 90 → Jc p k = Jb p k) → (0 ≤ q ∧ q ≤ Ja 82 13) → (∀ j : Nat, (j : Int) < q → Jc 89 j = Jb 89 (1100 + j) ∧ Jc 90 j = Jb 90 (1100 + j)) → (∀ j : Nat, 1100 ≤ j → Jc 89 j = Jb 89 j ∧ Jc 90 j = Jb 90 j) → (Ja 82 13 - q).toNat = m → yi_G zi_Ms d zi_m72 (131, [(1, .inl q), (0, .inr (.inr (some 82)))], [], (Jc, Ka, X), 0, 0) (fun r => ∃ z I' L', r = (some (.inl z), (I', L', X), 0, 0) ∧ I' 82 2 = 0 ∧ ym_IV I') := by
              intro m131
              induction m131 using Nat.strongRecOn with
              | _ m131 ih131 =>
              intro q Jc fJc q0 hc1 hc2 hm131
              refine yi_G_run 2 (133, [(1, .inl q), (0, .inr (.inr (some 82)))], [.inr (.inr (some 82)), .inl q], (Jc, Ka, X), 0, 0) (fun _ => rfl) ?_
              have r92 : Jc 82 13 = Ja 82 13 := by rw [fJc 82 (13) (by omega), fJb 82 (13) (by omega)]
              refine yi_G_get (136, [(1, .inl q), (0, .inr (.inr (some 82)))], [.inl (Ja 82 13), .inl q], (Jc, Ka, X), 0, 0) rfl (ym_gi hS rfl rfl r92) ?_
              by_cases h93 : (Ja 82 13) ≤ q
              · refine yi_G_if2 true rfl (yi_ge_t h93) ?_
                refine yi_G_run 2 (179, [(1, .inl 0), (0, .inr (.inr (some 82)))], [], (Jc, Ka, X), 0, 0) (fun _ => rfl) ?_
                have pt179 : ∀ (m : Nat) (u : Int) (Jd : Nat → Nat → Int) (Kd : Nat → Nat → Int), (∀ p k, p ≠ 93 → Jd p k = Jc p k) → (∀ p k, p ≠ 91 → Kd p k = Ka p k) → (0 ≤ u ∧ u ≤ Ja 82 19) → (Ja 82 19 - u).toNat = m → yi_G zi_Ms d zi_m72 (179, [(1, .inl u), (0, .inr (.inr (some 82)))], [], (Jd, Kd, X), 0, 0) (fun r => ∃ z I' L', r = (some (.inl z), (I', L', X), 0, 0) ∧ I' 82 2 = 0 ∧ ym_IV I') := by
                  intro m179
                  induction m179 using Nat.strongRecOn with
                  | _ m179 ih179 =>
                  intro u Jd Kd fJd fKd u0 hm179
                  refine yi_G_run 2 (181, [(1, .inl u), (0, .inr (.inr (some 82)))], [.inr (.inr (some 82)), .inl u], (Jd, Kd, X), 0, 0) (fun _ => rfl) ?_
                  have r94 : Jd 82 19 = Ja 82 19 := by rw [fJd 82 (19) (by omega), fJc 82 (19) (by omega), fJb 82 (19) (by omega)]
                  refine yi_G_get (184, [(1, .inl u), (0, .inr (.inr (some 82)))], [.inl (Ja 82 19), .inl u], (Jd, Kd, X), 0, 0) rfl (ym_gi hS rfl rfl r94) ?_
                  by_cases h95 : (Ja 82 19) ≤ u
                  · refine yi_G_if2 true rfl (yi_ge_t h95) ?_
                    refine yi_G_run 2 (219, [(1, .inl u), (0, .inr (.inr (some 82)))], [.inr (.inr (some 82)), .inr (.inr (some 82))], (Jd, Kd, X), 0, 0) (fun _ => rfl) ?_
                    have r96 : Jd 82 19 = Ja 82 19 := by rw [fJd 82 (19) (by omega), fJc 82 (19) (by omega), fJb 82 (19) (by omega)]
                    refine yi_G_get (222, [(1, .inl u), (0, .inr (.inr (some 82)))], [.inl (Ja 82 19), .inr (.inr (some 82))], (Jd, Kd, X), 0, 0) rfl (ym_gi hS rfl rfl r96) ?_
                    refine yi_G_put (225, [(1, .inl u), (0, .inr (.inr (some 82)))], [], ((yi_u Jd 82 18 (Ja 82 19)), Kd, X), 0, 0) rfl (ym_pi hS rfl rfl) ?_
                    generalize w98 : yi_u Jd 82 18 (Ja 82 19) = I97
                    refine yi_G_run 1 (226, [(1, .inl u), (0, .inr (.inr (some 82)))], [.inr (.inr (some 82))], (I97, Kd, X), 0, 0) (fun _ => rfl) ?_
                    have r99 : I97 82 13 = Ja 82 13 := by rw [← w98, yi_u_ne _ _ (by omega), fJd 82 (13) (by omega), fJc 82 (13) (by omega), fJb 82 (13) (by omega)]
                    have r100 : I97 82 19 = Ja 82 19 := by rw [← w98, yi_u_ne _ _ (by omega), fJd 82 (19) (by omega), fJc 82 (19) (by omega), fJb 82 (19) (by omega)]
                    have ll := pld (by omega)
                    have e50 : ∀ k : Nat, k < 50 → I97 88 k = Ja 88 (50 + k) := fun k hk => by rw [← w98, yi_u_ne _ _ (by omega), fJd 88 k (by omega), fJc 88 k (by omega)]; exact hb1 k (by omega)
                    have e89 : ∀ k : Nat, (k : Int) < Ja 82 13 → I97 89 k = Ja 89 (1100 + k) ∧ I97 90 k = Ja 90 (1100 + k) := fun k hk => ⟨by rw [← w98, yi_u_ne _ _ (by omega), fJd 89 k (by omega)]; rw [(hc1 k (by omega)).1]; exact fJb 89 _ (by omega), by rw [← w98, yi_u_ne _ _ (by omega), fJd 90 k (by omega)]; rw [(hc1 k (by omega)).2]; exact fJb 90 _ (by omega)⟩
                    obtain ⟨lrb, fob⟩ := ym_LR_of ll.1 e50
                    have pkb : ym_PK I97 := ym_PK_of ll.1 ll.2 rfl (by omega) e50 e89
                    have fbb := ym_fo_b (da := I97 88 0) (pe := I97 88 1) (ev := I97 88 2) (by have := lrb.2.2.1; omega)
                    refine yi_G_callv rfl rfl (ym_rcv hS) rfl (c_begins d (by omega) hS lrb (ym_PK_PL pkb) fob) ?_
                    rintro _ ⟨I101, L103, rfl, f102, f104, v24, v25, v20, pwb, s0b, v30, mkb⟩
                    show yi_G zi_Ms d zi_m72 (229, [(1, .inl u), (0, .inr (.inr (some 82)))], [], (I101, L103, X), 0, 0) _
                    refine yi_G_run 1 (230, [(1, .inl u), (0, .inr (.inr (some 82)))], [.inl 0], (I101, L103, X), 0, 0) (fun _ => rfl) ?_
                    have r105 : I101 82 2 = 0 := by rw [f102 82 (2) (by omega), ← w98, yi_u_ne _ _ (by omega), fJd 82 (2) (by omega), fJc 82 (2) (by omega), fJb 82 (2) (by omega), fJa 82 (2) (by omega), f30 82 (2) (by omega), ← w26, yi_u_ne _ _ (by omega), f22 82 (2) (by omega), f19 82 (2) (by omega), f15 82 (2) (by omega), ← w13, yi_u_ne _ _ (by omega), ← w11, yi_u_ne _ _ (by omega), ← w9, yi_u_ne _ _ (by omega), c2I4]
                    have r106 : I101 82 18 = Ja 82 19 := by rw [f102 82 (18) (by omega), ← w98, yi_u_eq]
                    have r107 : I101 82 19 = Ja 82 19 := by rw [f102 82 (19) (by omega), ← w98, yi_u_ne _ _ (by omega), fJd 82 (19) (by omega), fJc 82 (19) (by omega), fJb 82 (19) (by omega)]
                    exact yi_G_reti rfl rfl (⟨_, _, _, rfl, by omega, ⟨ym_LR_t (fun k => f102 88 k (by omega)) lrb, ym_PK_t ⟨lrb.2.2.2.2.1.2, lrb.2.2.2.2.2.2⟩ (fun k _ => f102 88 k (by omega)) (fun k _ => ⟨f102 89 k (by omega), f102 90 k (by omega)⟩) pkb, pwb, ym_ST_0 s0b v30 mkb, by omega, by omega, by omega, by omega, by omega, by rw [f102 88 0 (by omega), f102 88 1 (by omega), f102 88 2 (by omega)]; exact fob⟩⟩)
                  · refine yi_G_if2 false rfl (yi_ge_f h95) ?_
                    refine yi_G_run 1 (188, [(1, .inl u), (0, .inr (.inr (some 82)))], [.inr (.inr (some 82))], (Jd, Kd, X), 0, 0) (fun _ => rfl) ?_
                    refine yi_G_get (191, [(1, .inl u), (0, .inr (.inr (some 82)))], [.inr (.inr (some 91))], (Jd, Kd, X), 0, 0) rfl (ym_gr hS 8 rfl rfl rfl) ?_
                    refine yi_G_run 2 (193, [(1, .inl u), (0, .inr (.inr (some 82)))], [.inr (.inr (some 82)), .inl u, .inr (.inr (some 91))], (Jd, Kd, X), 0, 0) (fun _ => rfl) ?_
                    refine yi_G_get (196, [(1, .inl u), (0, .inr (.inr (some 82)))], [.inr (.inr (some 92)), .inl u, .inr (.inr (some 91))], (Jd, Kd, X), 0, 0) rfl (ym_gr hS 9 rfl rfl rfl) ?_
                    refine yi_G_run 1 (197, [(1, .inl u), (0, .inr (.inr (some 82)))], [.inl u, .inr (.inr (some 92)), .inl u, .inr (.inr (some 91))], (Jd, Kd, X), 0, 0) (fun _ => rfl) ?_
                    have r108 : Kd 92 (u.toNat) = Ka 92 (u.toNat) := by rw [fKd 92 (u.toNat) (by omega)]
                    refine yi_G_lald (198, [(1, .inl u), (0, .inr (.inr (some 82)))], [.inr (.inl (Ka 92 (u.toNat))), .inl u, .inr (.inr (some 91))], (Jd, Kd, X), 0, 0) rfl (ym_ll hS 9 rfl (by omega) (by omega) r108) ?_
                    refine yi_G_last (199, [(1, .inl u), (0, .inr (.inr (some 82)))], [], (Jd, (yi_u Kd 91 (u.toNat) (Ka 92 (u.toNat))), X), 0, 0) rfl (ym_sl hS 8 rfl (by omega) (by omega)) ?_
                    generalize w110 : yi_u Kd 91 (u.toNat) (Ka 92 (u.toNat)) = L109
                    refine yi_G_run 1 (200, [(1, .inl u), (0, .inr (.inr (some 82)))], [.inr (.inr (some 82))], (Jd, L109, X), 0, 0) (fun _ => rfl) ?_
                    refine yi_G_get (203, [(1, .inl u), (0, .inr (.inr (some 82)))], [.inr (.inr (some 93))], (Jd, L109, X), 0, 0) rfl (ym_gr hS 10 rfl rfl rfl) ?_
                    refine yi_G_run 2 (205, [(1, .inl u), (0, .inr (.inr (some 82)))], [.inr (.inr (some 82)), .inl u, .inr (.inr (some 93))], (Jd, L109, X), 0, 0) (fun _ => rfl) ?_
                    refine yi_G_get (208, [(1, .inl u), (0, .inr (.inr (some 82)))], [.inr (.inr (some 94)), .inl u, .inr (.inr (some 93))], (Jd, L109, X), 0, 0) rfl (ym_gr hS 11 rfl rfl rfl) ?_
                    refine yi_G_run 1 (209, [(1, .inl u), (0, .inr (.inr (some 82)))], [.inl u, .inr (.inr (some 94)), .inl u, .inr (.inr (some 93))], (Jd, L109, X), 0, 0) (fun _ => rfl) ?_
                    have r111 : Jd 94 (u.toNat) = Ja 94 (u.toNat) := by rw [fJd 94 (u.toNat) (by omega), fJc 94 (u.toNat) (by omega), fJb 94 (u.toNat) (by omega)]
                    refine yi_G_iald (210, [(1, .inl u), (0, .inr (.inr (some 82)))], [.inl (Ja 94 (u.toNat)), .inl u, .inr (.inr (some 93))], (Jd, L109, X), 0, 0) rfl (ym_li hS 11 rfl (by omega) (by omega) r111) ?_
                    refine yi_G_iast (211, [(1, .inl u), (0, .inr (.inr (some 82)))], [], ((yi_u Jd 93 (u.toNat) (Ja 94 (u.toNat))), L109, X), 0, 0) rfl (ym_si hS 10 rfl (by omega) (by omega)) ?_
                    generalize w113 : yi_u Jd 93 (u.toNat) (Ja 94 (u.toNat)) = I112
                    refine yi_G_iinc [(1, .inl (u + 1)), (0, .inr (.inr (some 82)))] rfl rfl rfl (by rw [show yi_w (u + 1) = u + 1 from (yi_wn (by omega) (by omega)).trans (by omega)]; rfl) ?_
                    refine yi_G_run 1 (179, [(1, .inl (u + 1)), (0, .inr (.inr (some 82)))], [], (I112, L109, X), 0, 0) (fun _ => rfl) ?_
                    exact ih179 _ (by omega) (u + 1) I112 L109 (fun p k hp => by rw [← w113, yi_u_ne _ _ (fun z => by omega), fJd p k (by omega)]) (fun p k hp => by rw [← w110, yi_u_ne _ _ (fun z => by omega), fKd p k (by omega)]) (by omega) rfl
                exact pt179 _ 0 Jc Ka (fun _ _ _ => rfl) (fun _ _ _ => rfl) (by omega) rfl
              · refine yi_G_if2 false rfl (yi_ge_f h93) ?_
                refine yi_G_run 1 (140, [(1, .inl q), (0, .inr (.inr (some 82)))], [.inr (.inr (some 82))], (Jc, Ka, X), 0, 0) (fun _ => rfl) ?_
                refine yi_G_get (143, [(1, .inl q), (0, .inr (.inr (some 82)))], [.inr (.inr (some 89))], (Jc, Ka, X), 0, 0) rfl (ym_gr hS 6 rfl rfl rfl) ?_
                refine yi_G_run 2 (145, [(1, .inl q), (0, .inr (.inr (some 82)))], [.inr (.inr (some 82)), .inl q, .inr (.inr (some 89))], (Jc, Ka, X), 0, 0) (fun _ => rfl) ?_
                refine yi_G_get (148, [(1, .inl q), (0, .inr (.inr (some 82)))], [.inr (.inr (some 89)), .inl q, .inr (.inr (some 89))], (Jc, Ka, X), 0, 0) rfl (ym_gr hS 6 rfl rfl rfl) ?_
                refine yi_G_run 2 (152, [(1, .inl q), (0, .inr (.inr (some 82)))], [.inl q, .inl 1100, .inr (.inr (some 89)), .inl q, .inr (.inr (some 89))], (Jc, Ka, X), 0, 0) (fun _ => rfl) ?_
                refine yi_G_iadd rfl (1100 + q) (yi_wn (by omega) (by omega)) ?_
                refine yi_G_iald (154, [(1, .inl q), (0, .inr (.inr (some 82)))], [.inl (Jc 89 ((1100 + q).toNat)), .inl q, .inr (.inr (some 89))], (Jc, Ka, X), 0, 0) rfl (ym_li hS 6 rfl (by omega) (by omega) rfl) ?_
                refine yi_G_iast (155, [(1, .inl q), (0, .inr (.inr (some 82)))], [], ((yi_u Jc 89 (q.toNat) (Jc 89 ((1100 + q).toNat))), Ka, X), 0, 0) rfl (ym_si hS 6 rfl (by omega) (by omega)) ?_
                generalize w115 : yi_u Jc 89 (q.toNat) (Jc 89 ((1100 + q).toNat)) = I114
                refine yi_G_run 1 (156, [(1, .inl q), (0, .inr (.inr (some 82)))], [.inr (.inr (some 82))], (I114, Ka, X), 0, 0) (fun _ => rfl) ?_
                refine yi_G_get (159, [(1, .inl q), (0, .inr (.inr (some 82)))], [.inr (.inr (some 90))], (I114, Ka, X), 0, 0) rfl (ym_gr hS 7 rfl rfl rfl) ?_
                refine yi_G_run 2 (161, [(1, .inl q), (0, .inr (.inr (some 82)))], [.inr (.inr (some 82)), .inl q, .inr (.inr (some 90))], (I114, Ka, X), 0, 0) (fun _ => rfl) ?_
                refine yi_G_get (164, [(1, .inl q), (0, .inr (.inr (some 82)))], [.inr (.inr (some 90)), .inl q, .inr (.inr (some 90))], (I114, Ka, X), 0, 0) rfl (ym_gr hS 7 rfl rfl rfl) ?_
                refine yi_G_run 2 (168, [(1, .inl q), (0, .inr (.inr (some 82)))], [.inl q, .inl 1100, .inr (.inr (some 90)), .inl q, .inr (.inr (some 90))], (I114, Ka, X), 0, 0) (fun _ => rfl) ?_
                refine yi_G_iadd rfl (1100 + q) (yi_wn (by omega) (by omega)) ?_
                have r116 : I114 90 ((1100 + q).toNat) = Jc 90 ((1100 + q).toNat) := by rw [← w115, yi_u_ne _ _ (by omega)]
                refine yi_G_iald (170, [(1, .inl q), (0, .inr (.inr (some 82)))], [.inl (Jc 90 ((1100 + q).toNat)), .inl q, .inr (.inr (some 90))], (I114, Ka, X), 0, 0) rfl (ym_li hS 7 rfl (by omega) (by omega) r116) ?_
                refine yi_G_iast (171, [(1, .inl q), (0, .inr (.inr (some 82)))], [], ((yi_u I114 90 (q.toNat) (Jc 90 ((1100 + q).toNat))), Ka, X), 0, 0) rfl (ym_si hS 7 rfl (by omega) (by omega)) ?_
                generalize w118 : yi_u I114 90 (q.toNat) (Jc 90 ((1100 + q).toNat)) = I117
                refine yi_G_iinc [(1, .inl (q + 1)), (0, .inr (.inr (some 82)))] rfl rfl rfl (by rw [show yi_w (q + 1) = q + 1 from (yi_wn (by omega) (by omega)).trans (by omega)]; rfl) ?_
                refine yi_G_run 1 (131, [(1, .inl (q + 1)), (0, .inr (.inr (some 82)))], [], (I117, Ka, X), 0, 0) (fun _ => rfl) ?_
                exact ih131 _ (by omega) (q + 1) I117 (fun p k hp => by rw [← w118, yi_u_ne _ _ (fun z => by omega), ← w115, yi_u_ne _ _ (fun z => by omega), fJc p k (by omega)]) (by omega) (fun j hj => by rw [← w118, ← w115]; exact (by by_cases e : j = q.toNat; (subst e; rw [yi_u_ne _ _ (by omega), yi_u_eq, yi_u_eq]; constructor; (first | rfl | (rw [(hc2 _ (by omega)).1]; congr 1; omega)); (first | rfl | (rw [(hc2 _ (by omega)).2]; congr 1; omega))); (rw [yi_u_ne _ _ (by omega), yi_u_ne _ _ (by omega), yi_u_ne _ _ (by omega), yi_u_ne _ _ (by omega)]; exact hc1 j (by omega)))) (fun j hj => ⟨by rw [← w118, yi_u_ne _ _ (by omega), ← w115, yi_u_ne _ _ (by omega)]; exact (hc2 j hj).1, by rw [← w118, yi_u_ne _ _ (by omega), ← w115, yi_u_ne _ _ (by omega)]; exact (hc2 j hj).2⟩) rfl
            exact pt131 _ 0 Jb (fun _ _ _ => rfl) (by omega) (fun j hj => absurd hj (by omega)) (fun j hj => ⟨rfl, rfl⟩) rfl
          · refine yi_G_if2 false rfl (yi_ge_f h91) ?_
            refine yi_G_run 1 (109, [(1, .inl k), (0, .inr (.inr (some 82)))], [.inr (.inr (some 82))], (Jb, Ka, X), 0, 0) (fun _ => rfl) ?_
            refine yi_G_get (112, [(1, .inl k), (0, .inr (.inr (some 82)))], [.inr (.inr (some 88))], (Jb, Ka, X), 0, 0) rfl (ym_gr hS 5 rfl rfl rfl) ?_
            refine yi_G_run 2 (114, [(1, .inl k), (0, .inr (.inr (some 82)))], [.inr (.inr (some 82)), .inl k, .inr (.inr (some 88))], (Jb, Ka, X), 0, 0) (fun _ => rfl) ?_
            refine yi_G_get (117, [(1, .inl k), (0, .inr (.inr (some 82)))], [.inr (.inr (some 88)), .inl k, .inr (.inr (some 88))], (Jb, Ka, X), 0, 0) rfl (ym_gr hS 5 rfl rfl rfl) ?_
            refine yi_G_run 2 (120, [(1, .inl k), (0, .inr (.inr (some 82)))], [.inl k, .inl 50, .inr (.inr (some 88)), .inl k, .inr (.inr (some 88))], (Jb, Ka, X), 0, 0) (fun _ => rfl) ?_
            refine yi_G_iadd rfl (50 + k) (yi_wn (by omega) (by omega)) ?_
            refine yi_G_iald (122, [(1, .inl k), (0, .inr (.inr (some 82)))], [.inl (Jb 88 ((50 + k).toNat)), .inl k, .inr (.inr (some 88))], (Jb, Ka, X), 0, 0) rfl (ym_li hS 5 rfl (by omega) (by omega) rfl) ?_
            refine yi_G_iast (123, [(1, .inl k), (0, .inr (.inr (some 82)))], [], ((yi_u Jb 88 (k.toNat) (Jb 88 ((50 + k).toNat))), Ka, X), 0, 0) rfl (ym_si hS 5 rfl (by omega) (by omega)) ?_
            generalize w120 : yi_u Jb 88 (k.toNat) (Jb 88 ((50 + k).toNat)) = I119
            refine yi_G_iinc [(1, .inl (k + 1)), (0, .inr (.inr (some 82)))] rfl rfl rfl (by rw [show yi_w (k + 1) = k + 1 from (yi_wn (by omega) (by omega)).trans (by omega)]; rfl) ?_
            refine yi_G_run 1 (102, [(1, .inl (k + 1)), (0, .inr (.inr (some 82)))], [], (I119, Ka, X), 0, 0) (fun _ => rfl) ?_
            exact ih102 _ (by omega) (k + 1) I119 (fun p k hp => by rw [← w120, yi_u_ne _ _ (fun z => by omega), fJb p k (by omega)]) (by omega) (fun j hj => by rw [← w120]; exact (by by_cases e : j = k.toNat; (subst e; rw [yi_u_eq]; first | rfl | (rw [hb2 _ (by omega)]; congr 1; omega)); (rw [yi_u_ne _ _ (by omega)]; exact hb1 j (by omega)))) (fun j hj => by rw [← w120, yi_u_ne _ _ (by omega)]; exact hb2 j hj) rfl
        exact pt102 _ 0 Ja (fun _ _ _ => rfl) (by omega) (fun j hj => absurd hj (by omega)) (fun j hj => rfl) rfl
      · refine yi_G_if1 false rfl (yi_le_f h90) ?_
        refine yi_G_run 1 (96, [(0, .inr (.inr (some 82)))], [.inr (.inr (some 82))], (Ja, Ka, X), 0, 0) (fun _ => rfl) ?_
        refine yi_G_get (99, [(0, .inr (.inr (some 82)))], [.inl (Ja 82 8)], (Ja, Ka, X), 0, 0) rfl (ym_gi hS rfl rfl rfl) ?_
        have r121 : Ja 82 2 = 0 := by rw [fJa 82 (2) (by omega), f30 82 (2) (by omega), ← w26, yi_u_ne _ _ (by omega), f22 82 (2) (by omega), f19 82 (2) (by omega), f15 82 (2) (by omega), ← w13, yi_u_ne _ _ (by omega), ← w11, yi_u_ne _ _ (by omega), ← w9, yi_u_ne _ _ (by omega), c2I4]
        have r122 : Ja 82 24 = I 82 24 := by rw [fJa 82 (24) (by omega), f30 82 (24) (by omega), ← w26, yi_u_ne _ _ (by omega), f22 82 (24) (by omega), f19 82 (24) (by omega), f15 82 (24) (by omega), ← w13, yi_u_ne _ _ (by omega), ← w11, yi_u_ne _ _ (by omega), ← w9, yi_u_ne _ _ (by omega), f5 82 (24) (by omega), ← w2, yi_u_ne _ _ (by omega)]
        have r123 : Ja 82 25 = I 82 25 := by rw [fJa 82 (25) (by omega), f30 82 (25) (by omega), ← w26, yi_u_ne _ _ (by omega), f22 82 (25) (by omega), f19 82 (25) (by omega), f15 82 (25) (by omega), ← w13, yi_u_ne _ _ (by omega), ← w11, yi_u_ne _ _ (by omega), ← w9, yi_u_ne _ _ (by omega), f5 82 (25) (by omega), ← w2, yi_u_ne _ _ (by omega)]
        have r124 : Ja 82 18 = I 82 18 := by rw [fJa 82 (18) (by omega), f30 82 (18) (by omega), ← w26, yi_u_ne _ _ (by omega), f22 82 (18) (by omega), f19 82 (18) (by omega), f15 82 (18) (by omega), ← w13, yi_u_ne _ _ (by omega), ← w11, yi_u_ne _ _ (by omega), ← w9, yi_u_ne _ _ (by omega), f5 82 (18) (by omega), ← w2, yi_u_ne _ _ (by omega)]
        exact yi_G_reti rfl rfl (⟨_, _, _, rfl, by omega, ym_IV_t hIV plo plw (fun k => by rw [fJa 98 k (by omega), f30 98 k (by omega), ← w26, yi_u_ne _ _ (by omega), f22 98 k (by omega), f19 98 k (by omega), f15 98 k (by omega), ← w13, yi_u_ne _ _ (by omega), ← w11, yi_u_ne _ _ (by omega), ← w9, yi_u_ne _ _ (by omega), f5 98 k (by omega), ← w2, yi_u_ne _ _ (by omega)]) ((ym_ST_t (fun k => fJa 100 k (by omega)) (fJa 82 30 (by omega)) (fun k => fJa 101 k (by omega)) (fun k => fJa 102 k (by omega)) (ym_ST_t (fun k => f30 100 k (by omega)) (f30 82 30 (by omega)) (fun k => f30 101 k (by omega)) (fun k => f30 102 k (by omega)) (ym_ST_t (fun k => by rw [← w26, yi_u_ne _ _ (by omega)]) (by rw [← w26, yi_u_ne _ _ (by omega)]) (fun k => by rw [← w26, yi_u_ne _ _ (by omega)]) (fun k => by rw [← w26, yi_u_ne _ _ (by omega)]) (ym_ST_t (fun k => f22 100 k (by omega)) (f22 82 30 (by omega)) (fun k => f22 101 k (by omega)) (fun k => f22 102 k (by omega)) (ym_ST_t (fun k => f19 100 k (by omega)) (f19 82 30 (by omega)) (fun k => f19 101 k (by omega)) (fun k => f19 102 k (by omega)) (ym_ST_t (fun k => f15 100 k (by omega)) (f15 82 30 (by omega)) (fun k => f15 101 k (by omega)) (fun k => f15 102 k (by omega)) (ym_ST_t (fun k => by rw [← w13, yi_u_ne _ _ (by omega)]) (by rw [← w13, yi_u_ne _ _ (by omega)]) (fun k => by rw [← w13, yi_u_ne _ _ (by omega)]) (fun k => by rw [← w13, yi_u_ne _ _ (by omega)]) (ym_ST_t (fun k => by rw [← w11, yi_u_ne _ _ (by omega)]) (by rw [← w11, yi_u_ne _ _ (by omega)]) (fun k => by rw [← w11, yi_u_ne _ _ (by omega)]) (fun k => by rw [← w11, yi_u_ne _ _ (by omega)]) (ym_ST_t (fun k => by rw [← w9, yi_u_ne _ _ (by omega)]) (by rw [← w9, yi_u_ne _ _ (by omega)]) (fun k => by rw [← w9, yi_u_ne _ _ (by omega)]) (fun k => by rw [← w9, yi_u_ne _ _ (by omega)]) (ym_ST_t (fun k => f5 100 k (by omega)) (f5 82 30 (by omega)) (fun k => f5 101 k (by omega)) (fun k => f5 102 k (by omega)) (ym_ST_t (fun k => by rw [← w2, yi_u_ne _ _ (by omega)]) (by rw [← w2, yi_u_ne _ _ (by omega)]) (fun k => by rw [← w2, yi_u_ne _ _ (by omega)]) (fun k => by rw [← w2, yi_u_ne _ _ (by omega)]) hST)))))))))))) r122 r123 r124 pn (by omega)⟩)
  have r125 : I29 82 13 = 0 := by rw [f30 82 (13) (by omega), ← w26, yi_u_ne _ _ (by omega), f22 82 (13) (by omega), f19 82 (13) (by omega), f15 82 (13) (by omega), ← w13, yi_u_ne _ _ (by omega), ← w11, yi_u_ne _ _ (by omega), ← w9, yi_u_eq]
  have r126 : I29 82 19 = 0 := by rw [f30 82 (19) (by omega), ← w26, yi_u_ne _ _ (by omega), f22 82 (19) (by omega), f19 82 (19) (by omega), f15 82 (19) (by omega), ← w13, yi_u_ne _ _ (by omega), ← w11, yi_u_eq]
  have r127 : I29 82 13 = 0 := by rw [f30 82 (13) (by omega), ← w26, yi_u_ne _ _ (by omega), f22 82 (13) (by omega), f19 82 (13) (by omega), f15 82 (13) (by omega), ← w13, yi_u_ne _ _ (by omega), ← w11, yi_u_ne _ _ (by omega), ← w9, yi_u_eq]
  have r128 : I29 82 19 = 0 := by rw [f30 82 (19) (by omega), ← w26, yi_u_ne _ _ (by omega), f22 82 (19) (by omega), f19 82 (19) (by omega), f15 82 (19) (by omega), ← w13, yi_u_ne _ _ (by omega), ← w11, yi_u_eq]
  have r129 : I29 82 13 = 0 := by rw [f30 82 (13) (by omega), ← w26, yi_u_ne _ _ (by omega), f22 82 (13) (by omega), f19 82 (13) (by omega), f15 82 (13) (by omega), ← w13, yi_u_ne _ _ (by omega), ← w11, yi_u_ne _ _ (by omega), ← w9, yi_u_eq]
  have r130 : I29 82 19 = 0 := by rw [f30 82 (19) (by omega), ← w26, yi_u_ne _ _ (by omega), f22 82 (19) (by omega), f19 82 (19) (by omega), f15 82 (19) (by omega), ← w13, yi_u_ne _ _ (by omega), ← w11, yi_u_eq]
  have r131 : I29 82 13 = 0 := by rw [f30 82 (13) (by omega), ← w26, yi_u_ne _ _ (by omega), f22 82 (13) (by omega), f19 82 (13) (by omega), f15 82 (13) (by omega), ← w13, yi_u_ne _ _ (by omega), ← w11, yi_u_ne _ _ (by omega), ← w9, yi_u_eq]
  have r132 : I29 82 19 = 0 := by rw [f30 82 (19) (by omega), ← w26, yi_u_ne _ _ (by omega), f22 82 (19) (by omega), f19 82 (19) (by omega), f15 82 (19) (by omega), ← w13, yi_u_ne _ _ (by omega), ← w11, yi_u_eq]
  have r133 : I29 82 13 = 0 := by rw [f30 82 (13) (by omega), ← w26, yi_u_ne _ _ (by omega), f22 82 (13) (by omega), f19 82 (13) (by omega), f15 82 (13) (by omega), ← w13, yi_u_ne _ _ (by omega), ← w11, yi_u_ne _ _ (by omega), ← w9, yi_u_eq]
  have r134 : I29 82 19 = 0 := by rw [f30 82 (19) (by omega), ← w26, yi_u_ne _ _ (by omega), f22 82 (19) (by omega), f19 82 (19) (by omega), f15 82 (19) (by omega), ← w13, yi_u_ne _ _ (by omega), ← w11, yi_u_eq]
  have r135 : I29 88 50 = z23 := by rw [f30 88 (50) (by omega), ← w26, yi_u_eq]
  have r136 : I29 88 51 = I14 88 51 := by rw [f30 88 (51) (by omega), ← w26, yi_u_ne _ _ (by omega), f22 88 (51) (by omega), f19 88 (51) (by omega)]
  have r137 : I29 88 52 = I14 88 52 := by rw [f30 88 (52) (by omega), ← w26, yi_u_ne _ _ (by omega), f22 88 (52) (by omega), f19 88 (52) (by omega)]
  have r138 : I29 88 53 = I14 88 53 := by rw [f30 88 (53) (by omega), ← w26, yi_u_ne _ _ (by omega), f22 88 (53) (by omega), f19 88 (53) (by omega)]
  have r139 : I29 88 54 = I14 88 54 := by rw [f30 88 (54) (by omega), ← w26, yi_u_ne _ _ (by omega), f22 88 (54) (by omega), f19 88 (54) (by omega)]
  have r140 : I29 88 55 = I14 88 55 := by rw [f30 88 (55) (by omega), ← w26, yi_u_ne _ _ (by omega), f22 88 (55) (by omega), f19 88 (55) (by omega)]
  have r141 : I29 88 56 = I14 88 56 := by rw [f30 88 (56) (by omega), ← w26, yi_u_ne _ _ (by omega), f22 88 (56) (by omega), f19 88 (56) (by omega)]
  have r142 : I29 82 19 = 0 := by rw [f30 82 (19) (by omega), ← w26, yi_u_ne _ _ (by omega), f22 82 (19) (by omega), f19 82 (19) (by omega), f15 82 (19) (by omega), ← w13, yi_u_ne _ _ (by omega), ← w11, yi_u_eq]
  exact pt56 _ I29 L6 (fun _ _ _ => rfl) (fun _ _ _ => rfl) (by omega) (by omega) (by omega) (by omega) (by omega) (ym_LW_f (ym_LW_r _ _) (fun k => by rw [f30 89 k (by omega), ← w26, yi_u_ne _ _ (fun z => absurd z.1 (by decide)), f22 89 k (by omega), f19 89 k (by omega), f15 89 k (by omega), ← w13, yi_u_ne _ _ (fun z => absurd z.1 (by decide)), ← w11, yi_u_ne _ _ (fun z => absurd z.1 (by decide)), ← w9, yi_u_ne _ _ (fun z => absurd z.1 (by decide)), f5 89 k (by omega), ← w2, yi_u_ne _ _ (fun z => absurd z.1 (by decide))]) (fun k => by rw [f30 90 k (by omega), ← w26, yi_u_ne _ _ (fun z => absurd z.1 (by decide)), f22 90 k (by omega), f19 90 k (by omega), f15 90 k (by omega), ← w13, yi_u_ne _ _ (fun z => absurd z.1 (by decide)), ← w11, yi_u_ne _ _ (fun z => absurd z.1 (by decide)), ← w9, yi_u_ne _ _ (fun z => absurd z.1 (by decide)), f5 90 k (by omega), ← w2, yi_u_ne _ _ (fun z => absurd z.1 (by decide))])) (fun k hk => by rw [f30 88 k (by omega), ← w26, yi_u_ne _ _ (by omega), f22 88 k (by omega), f19 88 k (by omega), slo k hk, ← w13, yi_u_ne _ _ (by omega), ← w11, yi_u_ne _ _ (by omega), ← w9, yi_u_ne _ _ (by omega), f5 88 k (by omega), ← w2, yi_u_ne _ _ (by omega)]) (fun zz => ⟨⟨⟨by omega, by omega⟩, ⟨by omega, by omega⟩, ⟨by omega, by omega⟩, ⟨by omega, by omega⟩, ⟨by omega, by omega⟩, ⟨by omega, by omega⟩, by omega, by rw [r135, r136, r137, sh51, sh52]; exact fo0 _⟩, ⟨fun k a b => absurd b (by omega), fun w a b => absurd b (by omega), Or.inl (by omega)⟩⟩) rfl
