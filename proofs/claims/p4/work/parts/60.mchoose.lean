/-! Sets of sayings, chosen one by one. -/
theorem c_isBetter (D : Nat) (hD : 2 ≤ D) {I L : Nat → Nat → Int} {X : ym_X} (hS : ym_S X) {st : Int} : yi_E zi_Ms D 48 [.inr (.inr (some 82)), .inl st] (I, L, X) (fun r => r = (some (.inl 1), (I, L, X), 0, 0) ∨ r = (some (.inl 0), (I, L, X), 0, 0)) := by
  obtain ⟨d, rfl⟩ : ∃ d, D = d + 1 := ⟨D - 1, by omega⟩
  refine yi_E_of (M := zi_m48) rfl rfl ?_
  show yi_G zi_Ms d zi_m48 (0, [(0, .inr (.inr (some 82))), (1, .inl st)], [], (I, L, X), 0, 0) _
  refine yi_G_run 1 (1, [(0, .inr (.inr (some 82))), (1, .inl st)], [.inr (.inr (some 82))], (I, L, X), 0, 0) (fun _ => rfl) ?_
  refine yi_G_get (4, [(0, .inr (.inr (some 82))), (1, .inl st)], [.inl (I 82 34)], (I, L, X), 0, 0) rfl (ym_gi hS rfl rfl rfl) ?_
  by_cases h1 : (I 82 34) < 0
  · refine yi_G_if1 true rfl (yi_lt_t h1) ?_
    refine yi_G_run 2 (42, [(0, .inr (.inr (some 82))), (1, .inl st)], [.inl 1], (I, L, X), 0, 0) (fun _ => rfl) ?_
    exact yi_G_retb rfl rfl (by decide) (Or.inl rfl)
  · refine yi_G_if1 false rfl (yi_lt_f h1) ?_
    refine yi_G_run 1 (8, [(0, .inr (.inr (some 82))), (1, .inl st)], [.inl st], (I, L, X), 0, 0) (fun _ => rfl) ?_
    refine yi_G_calls rfl rfl (c_bitsOf d (by omega) hS) ?_
    rintro _ ⟨z2, rfl, h3a, h3b⟩
    show yi_G zi_Ms d zi_m48 (11, [(0, .inr (.inr (some 82))), (1, .inl st)], [.inl z2], (I, L, X), 0, 0) _
    refine yi_G_run 1 (12, [(0, .inr (.inr (some 82))), (1, .inl st)], [.inr (.inr (some 82)), .inl z2], (I, L, X), 0, 0) (fun _ => rfl) ?_
    refine yi_G_get (15, [(0, .inr (.inr (some 82))), (1, .inl st)], [.inl (I 82 35), .inl z2], (I, L, X), 0, 0) rfl (ym_gi hS rfl rfl rfl) ?_
    by_cases h4 : z2 < (I 82 35)
    · refine yi_G_if2 true rfl (yi_lt_t h4) ?_
      refine yi_G_run 2 (42, [(0, .inr (.inr (some 82))), (1, .inl st)], [.inl 1], (I, L, X), 0, 0) (fun _ => rfl) ?_
      exact yi_G_retb rfl rfl (by decide) (Or.inl rfl)
    · refine yi_G_if2 false rfl (yi_lt_f h4) ?_
      refine yi_G_run 1 (19, [(0, .inr (.inr (some 82))), (1, .inl st)], [.inl st], (I, L, X), 0, 0) (fun _ => rfl) ?_
      refine yi_G_calls rfl rfl (c_bitsOf d (by omega) hS) ?_
      rintro _ ⟨z5, rfl, h6a, h6b⟩
      show yi_G zi_Ms d zi_m48 (22, [(0, .inr (.inr (some 82))), (1, .inl st)], [.inl z5], (I, L, X), 0, 0) _
      refine yi_G_run 1 (23, [(0, .inr (.inr (some 82))), (1, .inl st)], [.inr (.inr (some 82)), .inl z5], (I, L, X), 0, 0) (fun _ => rfl) ?_
      refine yi_G_get (26, [(0, .inr (.inr (some 82))), (1, .inl st)], [.inl (I 82 35), .inl z5], (I, L, X), 0, 0) rfl (ym_gi hS rfl rfl rfl) ?_
      by_cases h7 : z5 = (I 82 35)
      · refine yi_G_if2 false rfl (yi_ne_f h7) ?_
        refine yi_G_run 2 (31, [(0, .inr (.inr (some 82))), (1, .inl st)], [.inr (.inr (some 82)), .inl st], (I, L, X), 0, 0) (fun _ => rfl) ?_
        refine yi_G_get (34, [(0, .inr (.inr (some 82))), (1, .inl st)], [.inl (I 82 34), .inl st], (I, L, X), 0, 0) rfl (ym_gi hS rfl rfl rfl) ?_
        by_cases h8 : (I 82 34) ≤ st
        · refine yi_G_if2 true rfl (yi_ge_t h8) ?_
          refine yi_G_run 1 (42, [(0, .inr (.inr (some 82))), (1, .inl st)], [.inl 0], (I, L, X), 0, 0) (fun _ => rfl) ?_
          exact yi_G_retb rfl rfl (by decide) (Or.inr rfl)
        · refine yi_G_if2 false rfl (yi_ge_f h8) ?_
          refine yi_G_run 2 (42, [(0, .inr (.inr (some 82))), (1, .inl st)], [.inl 1], (I, L, X), 0, 0) (fun _ => rfl) ?_
          exact yi_G_retb rfl rfl (by decide) (Or.inl rfl)
      · refine yi_G_if2 true rfl (yi_ne_t h7) ?_
        refine yi_G_run 1 (42, [(0, .inr (.inr (some 82))), (1, .inl st)], [.inl 0], (I, L, X), 0, 0) (fun _ => rfl) ?_
        exact yi_G_retb rfl rfl (by decide) (Or.inr rfl)
theorem c_chooses {X : ym_X} (hS : ym_S X) : ∀ (n D : Nat), n + 3 ≤ D → ∀ (I L : Nat → Nat → Int) (s st wy : Int), ym_LR I → ym_S0 I → (0 ≤ I 82 25 ∧ I 82 25 ≤ 512) → 0 ≤ s → s ≤ I 100 0 → (I 100 0 - s).toNat = n → yi_E zi_Ms D 9 [.inr (.inr (some 82)), .inl s, .inl st, .inl wy] (I, L, X) (fun r => ∃ I' L', r = (none, (I', L', X), 0, 0) ∧ (∀ p k, ¬ (p = 82 ∧ k = 34) ∧ ¬ (p = 82 ∧ k = 35) → I' p k = I p k) ∧ (∀ p k, p ≠ 97 → L' p k = L p k)) := by
  intro n
  induction n using Nat.strongRecOn with
  | _ n ihc =>
  intro D hD I L s st wy hLR hS0 hl hs0 hs1 hn
  obtain ⟨d, rfl⟩ : ∃ d, D = d + 1 := ⟨D - 1, by omega⟩
  refine yi_E_of (M := zi_m9) rfl rfl ?_
  obtain ⟨l0, l1, l2, l3, l4, l5⟩ := id hLR
  obtain ⟨t0, t1, t2, t3, t4⟩ := id hS0
  show yi_G zi_Ms d zi_m9 (0, [(0, .inr (.inr (some 82))), (1, .inl s), (2, .inl st), (3, .inl wy)], [], (I, L, X), 0, 0) _
  refine yi_G_run 1 (1, [(0, .inr (.inr (some 82))), (1, .inl s), (2, .inl st), (3, .inl wy)], [.inr (.inr (some 82))], (I, L, X), 0, 0) (fun _ => rfl) ?_
  refine yi_G_get (4, [(0, .inr (.inr (some 82))), (1, .inl s), (2, .inl st), (3, .inl wy)], [.inl (I 82 34)], (I, L, X), 0, 0) rfl (ym_gi hS rfl rfl rfl) ?_
  by_cases h1 : (I 82 34) < 0
  · refine yi_G_if1 true rfl (yi_lt_t h1) ?_
    refine yi_G_run 2 (21, [(0, .inr (.inr (some 82))), (1, .inl s), (2, .inl st), (3, .inl wy)], [.inr (.inr (some 82)), .inl s], (I, L, X), 0, 0) (fun _ => rfl) ?_
    refine yi_G_get (24, [(0, .inr (.inr (some 82))), (1, .inl s), (2, .inl st), (3, .inl wy)], [.inr (.inr (some 100)), .inl s], (I, L, X), 0, 0) rfl (ym_gr hS 17 rfl rfl rfl) ?_
    refine yi_G_run 1 (25, [(0, .inr (.inr (some 82))), (1, .inl s), (2, .inl st), (3, .inl wy)], [.inl 0, .inr (.inr (some 100)), .inl s], (I, L, X), 0, 0) (fun _ => rfl) ?_
    refine yi_G_iald (26, [(0, .inr (.inr (some 82))), (1, .inl s), (2, .inl st), (3, .inl wy)], [.inl (I 100 0), .inl s], (I, L, X), 0, 0) rfl (ym_li hS 17 rfl (by omega) (by omega) rfl) ?_
    by_cases h2 : s = (I 100 0)
    · refine yi_G_if2 false rfl (yi_ne_f h2) ?_
      refine yi_G_run 3 (33, [(0, .inr (.inr (some 82))), (1, .inl s), (2, .inl st), (3, .inl wy)], [.inl s, .inl 46, .inr (.inr (some 82))], (I, L, X), 0, 0) (fun _ => rfl) ?_
      refine yi_G_iadd rfl (46 + s) (yi_wn (by omega) (by omega)) ?_
      refine yi_G_run 1 (36, [(0, .inr (.inr (some 82))), (1, .inl s), (2, .inl st), (3, .inl wy)], [.inl 33, .inl (46 + s), .inr (.inr (some 82))], (I, L, X), 0, 0) (fun _ => rfl) ?_
      refine yi_G_callv rfl rfl (ym_rcv hS) rfl (w_isAny (by omega) hS (by omega) (by omega) (by omega) (by omega) (by omega) (by omega)) ?_
      rintro _ (rfl | rfl)
      · show yi_G zi_Ms d zi_m9 (39, [(0, .inr (.inr (some 82))), (1, .inl s), (2, .inl st), (3, .inl wy)], [.inl 1], (I, L, X), 0, 0) _
        refine yi_G_run 1 (40, [(0, .inr (.inr (some 82))), (1, .inl s), (2, .inl st), (3, .inl wy)], [.inl wy, .inl 1], (I, L, X), 0, 0) (fun _ => rfl) ?_
        by_cases h3 : 1 = wy
        · refine yi_G_if2 true rfl (yi_eq_t h3) ?_
          exact yi_G_retv rfl rfl (⟨_, _, rfl, (fun _ _ _ => rfl), (fun _ _ _ => rfl)⟩)
        · refine yi_G_if2 false rfl (yi_eq_f h3) ?_
          refine yi_G_run 2 (45, [(0, .inr (.inr (some 82))), (1, .inl s), (2, .inl st), (3, .inl wy)], [.inl st, .inr (.inr (some 82))], (I, L, X), 0, 0) (fun _ => rfl) ?_
          refine yi_G_callv rfl rfl (ym_rcv hS) rfl (c_isBetter d (by omega) hS) ?_
          rintro _ (rfl | rfl)
          · show yi_G zi_Ms d zi_m9 (48, [(0, .inr (.inr (some 82))), (1, .inl s), (2, .inl st), (3, .inl wy)], [.inl 1], (I, L, X), 0, 0) _
            refine yi_G_if1 false rfl (by decide) ?_
            refine yi_G_run 2 (53, [(0, .inr (.inr (some 82))), (1, .inl s), (2, .inl st), (3, .inl wy)], [.inl st, .inr (.inr (some 82))], (I, L, X), 0, 0) (fun _ => rfl) ?_
            refine yi_G_put (56, [(0, .inr (.inr (some 82))), (1, .inl s), (2, .inl st), (3, .inl wy)], [], ((yi_u I 82 34 st), L, X), 0, 0) rfl (ym_pi hS rfl rfl) ?_
            generalize w5 : yi_u I 82 34 st = I4
            refine yi_G_run 2 (58, [(0, .inr (.inr (some 82))), (1, .inl s), (2, .inl st), (3, .inl wy)], [.inl st, .inr (.inr (some 82))], (I4, L, X), 0, 0) (fun _ => rfl) ?_
            refine yi_G_calls rfl rfl (c_bitsOf d (by omega) hS) ?_
            rintro _ ⟨z6, rfl, h7a, h7b⟩
            show yi_G zi_Ms d zi_m9 (61, [(0, .inr (.inr (some 82))), (1, .inl s), (2, .inl st), (3, .inl wy)], [.inl z6, .inr (.inr (some 82))], (I4, L, X), 0, 0) _
            refine yi_G_put (64, [(0, .inr (.inr (some 82))), (1, .inl s), (2, .inl st), (3, .inl wy)], [], ((yi_u I4 82 35 z6), L, X), 0, 0) rfl (ym_pi hS rfl rfl) ?_
            generalize w9 : yi_u I4 82 35 z6 = I8
            exact yi_G_retv rfl rfl (⟨_, _, rfl, (fun p k hp => by rw [← w9, yi_u_ne _ _ (fun z => by omega), ← w5, yi_u_ne _ _ (fun z => by omega)]), (fun _ _ _ => rfl)⟩)
          · show yi_G zi_Ms d zi_m9 (48, [(0, .inr (.inr (some 82))), (1, .inl s), (2, .inl st), (3, .inl wy)], [.inl 0], (I, L, X), 0, 0) _
            refine yi_G_if1 true rfl (by decide) ?_
            exact yi_G_retv rfl rfl (⟨_, _, rfl, (fun _ _ _ => rfl), (fun _ _ _ => rfl)⟩)
      · show yi_G zi_Ms d zi_m9 (39, [(0, .inr (.inr (some 82))), (1, .inl s), (2, .inl st), (3, .inl wy)], [.inl 0], (I, L, X), 0, 0) _
        refine yi_G_run 1 (40, [(0, .inr (.inr (some 82))), (1, .inl s), (2, .inl st), (3, .inl wy)], [.inl wy, .inl 0], (I, L, X), 0, 0) (fun _ => rfl) ?_
        by_cases h10 : 0 = wy
        · refine yi_G_if2 true rfl (yi_eq_t h10) ?_
          exact yi_G_retv rfl rfl (⟨_, _, rfl, (fun _ _ _ => rfl), (fun _ _ _ => rfl)⟩)
        · refine yi_G_if2 false rfl (yi_eq_f h10) ?_
          refine yi_G_run 2 (45, [(0, .inr (.inr (some 82))), (1, .inl s), (2, .inl st), (3, .inl wy)], [.inl st, .inr (.inr (some 82))], (I, L, X), 0, 0) (fun _ => rfl) ?_
          refine yi_G_callv rfl rfl (ym_rcv hS) rfl (c_isBetter d (by omega) hS) ?_
          rintro _ (rfl | rfl)
          · show yi_G zi_Ms d zi_m9 (48, [(0, .inr (.inr (some 82))), (1, .inl s), (2, .inl st), (3, .inl wy)], [.inl 1], (I, L, X), 0, 0) _
            refine yi_G_if1 false rfl (by decide) ?_
            refine yi_G_run 2 (53, [(0, .inr (.inr (some 82))), (1, .inl s), (2, .inl st), (3, .inl wy)], [.inl st, .inr (.inr (some 82))], (I, L, X), 0, 0) (fun _ => rfl) ?_
            refine yi_G_put (56, [(0, .inr (.inr (some 82))), (1, .inl s), (2, .inl st), (3, .inl wy)], [], ((yi_u I 82 34 st), L, X), 0, 0) rfl (ym_pi hS rfl rfl) ?_
            generalize w12 : yi_u I 82 34 st = I11
            refine yi_G_run 2 (58, [(0, .inr (.inr (some 82))), (1, .inl s), (2, .inl st), (3, .inl wy)], [.inl st, .inr (.inr (some 82))], (I11, L, X), 0, 0) (fun _ => rfl) ?_
            refine yi_G_calls rfl rfl (c_bitsOf d (by omega) hS) ?_
            rintro _ ⟨z13, rfl, h14a, h14b⟩
            show yi_G zi_Ms d zi_m9 (61, [(0, .inr (.inr (some 82))), (1, .inl s), (2, .inl st), (3, .inl wy)], [.inl z13, .inr (.inr (some 82))], (I11, L, X), 0, 0) _
            refine yi_G_put (64, [(0, .inr (.inr (some 82))), (1, .inl s), (2, .inl st), (3, .inl wy)], [], ((yi_u I11 82 35 z13), L, X), 0, 0) rfl (ym_pi hS rfl rfl) ?_
            generalize w16 : yi_u I11 82 35 z13 = I15
            exact yi_G_retv rfl rfl (⟨_, _, rfl, (fun p k hp => by rw [← w16, yi_u_ne _ _ (fun z => by omega), ← w12, yi_u_ne _ _ (fun z => by omega)]), (fun _ _ _ => rfl)⟩)
          · show yi_G zi_Ms d zi_m9 (48, [(0, .inr (.inr (some 82))), (1, .inl s), (2, .inl st), (3, .inl wy)], [.inl 0], (I, L, X), 0, 0) _
            refine yi_G_if1 true rfl (by decide) ?_
            exact yi_G_retv rfl rfl (⟨_, _, rfl, (fun _ _ _ => rfl), (fun _ _ _ => rfl)⟩)
    · refine yi_G_if2 true rfl (yi_ne_t h2) ?_
      refine yi_G_run 2 (68, [(4, .inl 0), (0, .inr (.inr (some 82))), (1, .inl s), (2, .inl st), (3, .inl wy)], [], (I, L, X), 0, 0) (fun _ => rfl) ?_
      have pt68 : ∀ (m : Nat) (ch : Int) (Jb : Nat → Nat → Int) (Kb : Nat → Nat → Int), (∀ p k, ¬ (p = 82 ∧ k = 34) ∧ ¬ (p = 82 ∧ k = 35) → Jb p k = I p k) → (∀ p k, p ≠ 97 → Kb p k = L p k) → (0 ≤ ch ∧ ch ≤ 2) → (2 - ch).toNat = m → yi_G zi_Ms d zi_m9 (68, [(4, .inl ch), (0, .inr (.inr (some 82))), (1, .inl s), (2, .inl st), (3, .inl wy)], [], (Jb, Kb, X), 0, 0) (fun r => ∃ I' L', r = (none, (I', L', X), 0, 0) ∧ (∀ p k, ¬ (p = 82 ∧ k = 34) ∧ ¬ (p = 82 ∧ k = 35) → I' p k = I p k) ∧ (∀ p k, p ≠ 97 → L' p k = L p k)) := by
        intro m68
        induction m68 using Nat.strongRecOn with
        | _ m68 ih68 =>
        intro ch Jb Kb fJb fKb c0 hm68
        refine yi_G_run 2 (71, [(4, .inl ch), (0, .inr (.inr (some 82))), (1, .inl s), (2, .inl st), (3, .inl wy)], [.inl 2, .inl ch], (Jb, Kb, X), 0, 0) (fun _ => rfl) ?_
        by_cases h17 : 2 ≤ ch
        · refine yi_G_if2 true rfl (yi_ge_t h17) ?_
          exact yi_G_retv rfl rfl (⟨_, _, rfl, (fun p k hp => by rw [fJb p k (by omega)]), (fun p k hp => by rw [fKb p k (by omega)])⟩)
        · refine yi_G_if2 false rfl (yi_ge_f h17) ?_
          refine yi_G_run 1 (75, [(4, .inl ch), (0, .inr (.inr (some 82))), (1, .inl s), (2, .inl st), (3, .inl wy)], [.inl wy], (Jb, Kb, X), 0, 0) (fun _ => rfl) ?_
          by_cases h18 : wy = 0
          · refine yi_G_if1 false rfl (yi_ne_f h18) ?_
            refine yi_G_run 1 (80, [(4, .inl ch), (0, .inr (.inr (some 82))), (1, .inl s), (2, .inl st), (3, .inl wy)], [.inl ch], (Jb, Kb, X), 0, 0) (fun _ => rfl) ?_
            by_cases h19 : ch = 0
            · refine yi_G_if1 true rfl (yi_eq_t h19) ?_
              refine yi_G_run 3 (95, [(4, .inl ch), (0, .inr (.inr (some 82))), (1, .inl s), (2, .inl st), (3, .inl wy)], [.inl s, .inl 46, .inr (.inr (some 82))], (Jb, Kb, X), 0, 0) (fun _ => rfl) ?_
              refine yi_G_iadd rfl (46 + s) (yi_wn (by omega) (by omega)) ?_
              refine yi_G_run 2 (99, [(4, .inl ch), (0, .inr (.inr (some 82))), (1, .inl s), (2, .inl st), (3, .inl wy)], [.inl s, .inl 46, .inl (46 + s), .inr (.inr (some 82))], (Jb, Kb, X), 0, 0) (fun _ => rfl) ?_
              refine yi_G_iadd rfl (46 + s) (yi_wn (by omega) (by omega)) ?_
              refine yi_G_run 1 (101, [(4, .inl ch), (0, .inr (.inr (some 82))), (1, .inl s), (2, .inl st), (3, .inl wy)], [.inl 1, .inl (46 + s), .inl (46 + s), .inr (.inr (some 82))], (Jb, Kb, X), 0, 0) (fun _ => rfl) ?_
              refine yi_G_iadd rfl ((46 + s) + 1) (yi_wn (by omega) (by omega)) ?_
              have r20 : Jb 82 25 = I 82 25 := by rw [fJb 82 (25) (by omega)]
              refine yi_G_callv rfl rfl (ym_rcv hS) rfl (w_copiesRow (by omega) hS (by omega) (by omega) (by omega) (by omega) (by rw [r20]; omega) (by rw [r20]; omega)) ?_
              rintro _ ⟨L21, rfl, f22⟩
              show yi_G zi_Ms d zi_m9 (105, [(4, .inl ch), (0, .inr (.inr (some 82))), (1, .inl s), (2, .inl st), (3, .inl wy)], [], (Jb, L21, X), 0, 0) _
              refine yi_G_run 2 (108, [(4, .inl ch), (0, .inr (.inr (some 82))), (1, .inl s), (2, .inl st), (3, .inl wy)], [.inl 1, .inl ch], (Jb, L21, X), 0, 0) (fun _ => rfl) ?_
              by_cases h23 : ch = 1
              · refine yi_G_if2 false rfl (yi_ne_f h23) ?_
                refine yi_G_run 3 (117, [(4, .inl ch), (0, .inr (.inr (some 82))), (1, .inl s), (2, .inl st), (3, .inl wy)], [.inl wy, .inl 1], (Jb, L21, X), 0, 0) (fun _ => rfl) ?_
                by_cases h24 : 1 = wy
                · refine yi_G_if2 false rfl (yi_ne_f h24) ?_
                  refine yi_G_run 3 (124, [(4, .inl ch), (0, .inr (.inr (some 82))), (1, .inl s), (2, .inl st), (3, .inl wy)], [.inl s, .inl 46, .inr (.inr (some 82))], (Jb, L21, X), 0, 0) (fun _ => rfl) ?_
                  refine yi_G_iadd rfl (46 + s) (yi_wn (by omega) (by omega)) ?_
                  refine yi_G_run 1 (126, [(4, .inl ch), (0, .inr (.inr (some 82))), (1, .inl s), (2, .inl st), (3, .inl wy)], [.inl 1, .inl (46 + s), .inr (.inr (some 82))], (Jb, L21, X), 0, 0) (fun _ => rfl) ?_
                  refine yi_G_iadd rfl ((46 + s) + 1) (yi_wn (by omega) (by omega)) ?_
                  refine yi_G_run 2 (130, [(4, .inl ch), (0, .inr (.inr (some 82))), (1, .inl s), (2, .inl st), (3, .inl wy)], [.inl s, .inl 60, .inl ((46 + s) + 1), .inr (.inr (some 82))], (Jb, L21, X), 0, 0) (fun _ => rfl) ?_
                  refine yi_G_iadd rfl (60 + s) (yi_wn (by omega) (by omega)) ?_
                  have r25 : Jb 82 25 = I 82 25 := by rw [fJb 82 (25) (by omega)]
                  refine yi_G_callv rfl rfl (ym_rcv hS) rfl (w_meets (by omega) hS (by omega) (by omega) (by omega) (by omega) (by rw [r25]; omega) (by rw [r25]; omega)) ?_
                  rintro _ ⟨L26, rfl, f27⟩
                  show yi_G zi_Ms d zi_m9 (134, [(4, .inl ch), (0, .inr (.inr (some 82))), (1, .inl s), (2, .inl st), (3, .inl wy)], [], (Jb, L26, X), 0, 0) _
                  refine yi_G_run 3 (137, [(4, .inl ch), (0, .inr (.inr (some 82))), (1, .inl s), (2, .inl st), (3, .inl wy)], [.inl 1, .inl s, .inr (.inr (some 82))], (Jb, L26, X), 0, 0) (fun _ => rfl) ?_
                  refine yi_G_iadd rfl (s + 1) (yi_wn (by omega) (by omega)) ?_
                  refine yi_G_run 6 (145, [(4, .inl ch), (0, .inr (.inr (some 82))), (1, .inl s), (2, .inl st), (3, .inl wy)], [.inl wy, .inl (yi_ior st (yi_shl ch s)), .inl (s + 1), .inr (.inr (some 82))], (Jb, L26, X), 0, 0) (fun _ => rfl) ?_
                  have r32 : Jb 100 0 = I 100 0 := by rw [fJb 100 (0) (by omega)]
                  have r33 : Jb 82 25 = I 82 25 := by rw [fJb 82 (25) (by omega)]
                  refine yi_G_callv rfl rfl (ym_rcv hS) rfl (ihc _ (by omega) d (by omega) Jb L26 (s + 1) (yi_ior st (yi_shl ch s)) wy (ym_LR_t (fun k => by rw [fJb 88 k (by omega)]) hLR) (ym_S0_t (fun k => by rw [fJb 100 k (by omega)]) hS0) ⟨(by rw [r33]; omega), (by rw [r33]; omega)⟩ (by omega) (by omega) rfl) ?_
                  rintro _ ⟨I28, L30, rfl, f29, f31⟩
                  show yi_G zi_Ms d zi_m9 (148, [(4, .inl ch), (0, .inr (.inr (some 82))), (1, .inl s), (2, .inl st), (3, .inl wy)], [], (I28, L30, X), 0, 0) _
                  refine yi_G_iinc [(4, .inl (ch + 1)), (0, .inr (.inr (some 82))), (1, .inl s), (2, .inl st), (3, .inl wy)] rfl rfl rfl (by rw [show yi_w (ch + 1) = ch + 1 from (yi_wn (by omega) (by omega)).trans (by omega)]; rfl) ?_
                  refine yi_G_run 1 (68, [(4, .inl (ch + 1)), (0, .inr (.inr (some 82))), (1, .inl s), (2, .inl st), (3, .inl wy)], [], (I28, L30, X), 0, 0) (fun _ => rfl) ?_
                  exact ih68 _ (by omega) (ch + 1) I28 L30 (fun p k hp => by rw [f29 p k (by omega), fJb p k (by omega)]) (fun p k hp => by rw [f31 p k (by omega), f27 p k (by omega), f22 p k (by omega), fKb p k (by omega)]) (by omega) rfl
                · refine yi_G_if2 true rfl (yi_ne_t h24) ?_
                  refine yi_G_run 3 (137, [(4, .inl ch), (0, .inr (.inr (some 82))), (1, .inl s), (2, .inl st), (3, .inl wy)], [.inl 1, .inl s, .inr (.inr (some 82))], (Jb, L21, X), 0, 0) (fun _ => rfl) ?_
                  refine yi_G_iadd rfl (s + 1) (yi_wn (by omega) (by omega)) ?_
                  refine yi_G_run 6 (145, [(4, .inl ch), (0, .inr (.inr (some 82))), (1, .inl s), (2, .inl st), (3, .inl wy)], [.inl wy, .inl (yi_ior st (yi_shl ch s)), .inl (s + 1), .inr (.inr (some 82))], (Jb, L21, X), 0, 0) (fun _ => rfl) ?_
                  have r38 : Jb 100 0 = I 100 0 := by rw [fJb 100 (0) (by omega)]
                  have r39 : Jb 82 25 = I 82 25 := by rw [fJb 82 (25) (by omega)]
                  refine yi_G_callv rfl rfl (ym_rcv hS) rfl (ihc _ (by omega) d (by omega) Jb L21 (s + 1) (yi_ior st (yi_shl ch s)) wy (ym_LR_t (fun k => by rw [fJb 88 k (by omega)]) hLR) (ym_S0_t (fun k => by rw [fJb 100 k (by omega)]) hS0) ⟨(by rw [r39]; omega), (by rw [r39]; omega)⟩ (by omega) (by omega) rfl) ?_
                  rintro _ ⟨I34, L36, rfl, f35, f37⟩
                  show yi_G zi_Ms d zi_m9 (148, [(4, .inl ch), (0, .inr (.inr (some 82))), (1, .inl s), (2, .inl st), (3, .inl wy)], [], (I34, L36, X), 0, 0) _
                  refine yi_G_iinc [(4, .inl (ch + 1)), (0, .inr (.inr (some 82))), (1, .inl s), (2, .inl st), (3, .inl wy)] rfl rfl rfl (by rw [show yi_w (ch + 1) = ch + 1 from (yi_wn (by omega) (by omega)).trans (by omega)]; rfl) ?_
                  refine yi_G_run 1 (68, [(4, .inl (ch + 1)), (0, .inr (.inr (some 82))), (1, .inl s), (2, .inl st), (3, .inl wy)], [], (I34, L36, X), 0, 0) (fun _ => rfl) ?_
                  exact ih68 _ (by omega) (ch + 1) I34 L36 (fun p k hp => by rw [f35 p k (by omega), fJb p k (by omega)]) (fun p k hp => by rw [f37 p k (by omega), f22 p k (by omega), fKb p k (by omega)]) (by omega) rfl
              · refine yi_G_if2 true rfl (yi_ne_t h23) ?_
                refine yi_G_run 2 (117, [(4, .inl ch), (0, .inr (.inr (some 82))), (1, .inl s), (2, .inl st), (3, .inl wy)], [.inl wy, .inl 0], (Jb, L21, X), 0, 0) (fun _ => rfl) ?_
                by_cases h40 : 0 = wy
                · refine yi_G_if2 false rfl (yi_ne_f h40) ?_
                  refine yi_G_run 3 (124, [(4, .inl ch), (0, .inr (.inr (some 82))), (1, .inl s), (2, .inl st), (3, .inl wy)], [.inl s, .inl 46, .inr (.inr (some 82))], (Jb, L21, X), 0, 0) (fun _ => rfl) ?_
                  refine yi_G_iadd rfl (46 + s) (yi_wn (by omega) (by omega)) ?_
                  refine yi_G_run 1 (126, [(4, .inl ch), (0, .inr (.inr (some 82))), (1, .inl s), (2, .inl st), (3, .inl wy)], [.inl 1, .inl (46 + s), .inr (.inr (some 82))], (Jb, L21, X), 0, 0) (fun _ => rfl) ?_
                  refine yi_G_iadd rfl ((46 + s) + 1) (yi_wn (by omega) (by omega)) ?_
                  refine yi_G_run 2 (130, [(4, .inl ch), (0, .inr (.inr (some 82))), (1, .inl s), (2, .inl st), (3, .inl wy)], [.inl s, .inl 60, .inl ((46 + s) + 1), .inr (.inr (some 82))], (Jb, L21, X), 0, 0) (fun _ => rfl) ?_
                  refine yi_G_iadd rfl (60 + s) (yi_wn (by omega) (by omega)) ?_
                  have r41 : Jb 82 25 = I 82 25 := by rw [fJb 82 (25) (by omega)]
                  refine yi_G_callv rfl rfl (ym_rcv hS) rfl (w_meets (by omega) hS (by omega) (by omega) (by omega) (by omega) (by rw [r41]; omega) (by rw [r41]; omega)) ?_
                  rintro _ ⟨L42, rfl, f43⟩
                  show yi_G zi_Ms d zi_m9 (134, [(4, .inl ch), (0, .inr (.inr (some 82))), (1, .inl s), (2, .inl st), (3, .inl wy)], [], (Jb, L42, X), 0, 0) _
                  refine yi_G_run 3 (137, [(4, .inl ch), (0, .inr (.inr (some 82))), (1, .inl s), (2, .inl st), (3, .inl wy)], [.inl 1, .inl s, .inr (.inr (some 82))], (Jb, L42, X), 0, 0) (fun _ => rfl) ?_
                  refine yi_G_iadd rfl (s + 1) (yi_wn (by omega) (by omega)) ?_
                  refine yi_G_run 6 (145, [(4, .inl ch), (0, .inr (.inr (some 82))), (1, .inl s), (2, .inl st), (3, .inl wy)], [.inl wy, .inl (yi_ior st (yi_shl ch s)), .inl (s + 1), .inr (.inr (some 82))], (Jb, L42, X), 0, 0) (fun _ => rfl) ?_
                  have r48 : Jb 100 0 = I 100 0 := by rw [fJb 100 (0) (by omega)]
                  have r49 : Jb 82 25 = I 82 25 := by rw [fJb 82 (25) (by omega)]
                  refine yi_G_callv rfl rfl (ym_rcv hS) rfl (ihc _ (by omega) d (by omega) Jb L42 (s + 1) (yi_ior st (yi_shl ch s)) wy (ym_LR_t (fun k => by rw [fJb 88 k (by omega)]) hLR) (ym_S0_t (fun k => by rw [fJb 100 k (by omega)]) hS0) ⟨(by rw [r49]; omega), (by rw [r49]; omega)⟩ (by omega) (by omega) rfl) ?_
                  rintro _ ⟨I44, L46, rfl, f45, f47⟩
                  show yi_G zi_Ms d zi_m9 (148, [(4, .inl ch), (0, .inr (.inr (some 82))), (1, .inl s), (2, .inl st), (3, .inl wy)], [], (I44, L46, X), 0, 0) _
                  refine yi_G_iinc [(4, .inl (ch + 1)), (0, .inr (.inr (some 82))), (1, .inl s), (2, .inl st), (3, .inl wy)] rfl rfl rfl (by rw [show yi_w (ch + 1) = ch + 1 from (yi_wn (by omega) (by omega)).trans (by omega)]; rfl) ?_
                  refine yi_G_run 1 (68, [(4, .inl (ch + 1)), (0, .inr (.inr (some 82))), (1, .inl s), (2, .inl st), (3, .inl wy)], [], (I44, L46, X), 0, 0) (fun _ => rfl) ?_
                  exact ih68 _ (by omega) (ch + 1) I44 L46 (fun p k hp => by rw [f45 p k (by omega), fJb p k (by omega)]) (fun p k hp => by rw [f47 p k (by omega), f43 p k (by omega), f22 p k (by omega), fKb p k (by omega)]) (by omega) rfl
                · refine yi_G_if2 true rfl (yi_ne_t h40) ?_
                  refine yi_G_run 3 (137, [(4, .inl ch), (0, .inr (.inr (some 82))), (1, .inl s), (2, .inl st), (3, .inl wy)], [.inl 1, .inl s, .inr (.inr (some 82))], (Jb, L21, X), 0, 0) (fun _ => rfl) ?_
                  refine yi_G_iadd rfl (s + 1) (yi_wn (by omega) (by omega)) ?_
                  refine yi_G_run 6 (145, [(4, .inl ch), (0, .inr (.inr (some 82))), (1, .inl s), (2, .inl st), (3, .inl wy)], [.inl wy, .inl (yi_ior st (yi_shl ch s)), .inl (s + 1), .inr (.inr (some 82))], (Jb, L21, X), 0, 0) (fun _ => rfl) ?_
                  have r54 : Jb 100 0 = I 100 0 := by rw [fJb 100 (0) (by omega)]
                  have r55 : Jb 82 25 = I 82 25 := by rw [fJb 82 (25) (by omega)]
                  refine yi_G_callv rfl rfl (ym_rcv hS) rfl (ihc _ (by omega) d (by omega) Jb L21 (s + 1) (yi_ior st (yi_shl ch s)) wy (ym_LR_t (fun k => by rw [fJb 88 k (by omega)]) hLR) (ym_S0_t (fun k => by rw [fJb 100 k (by omega)]) hS0) ⟨(by rw [r55]; omega), (by rw [r55]; omega)⟩ (by omega) (by omega) rfl) ?_
                  rintro _ ⟨I50, L52, rfl, f51, f53⟩
                  show yi_G zi_Ms d zi_m9 (148, [(4, .inl ch), (0, .inr (.inr (some 82))), (1, .inl s), (2, .inl st), (3, .inl wy)], [], (I50, L52, X), 0, 0) _
                  refine yi_G_iinc [(4, .inl (ch + 1)), (0, .inr (.inr (some 82))), (1, .inl s), (2, .inl st), (3, .inl wy)] rfl rfl rfl (by rw [show yi_w (ch + 1) = ch + 1 from (yi_wn (by omega) (by omega)).trans (by omega)]; rfl) ?_
                  refine yi_G_run 1 (68, [(4, .inl (ch + 1)), (0, .inr (.inr (some 82))), (1, .inl s), (2, .inl st), (3, .inl wy)], [], (I50, L52, X), 0, 0) (fun _ => rfl) ?_
                  exact ih68 _ (by omega) (ch + 1) I50 L52 (fun p k hp => by rw [f51 p k (by omega), fJb p k (by omega)]) (fun p k hp => by rw [f53 p k (by omega), f22 p k (by omega), fKb p k (by omega)]) (by omega) rfl
            · refine yi_G_if1 false rfl (yi_eq_f h19) ?_
              refine yi_G_run 2 (85, [(4, .inl ch), (0, .inr (.inr (some 82))), (1, .inl s), (2, .inl st), (3, .inl wy)], [.inl s, .inr (.inr (some 82))], (Jb, Kb, X), 0, 0) (fun _ => rfl) ?_
              have r57 : Jb 100 ((8 + 3 * s).toNat) = I 100 ((8 + 3 * s).toNat) := by rw [fJb 100 ((8 + 3 * s).toNat) (by omega)]
              refine yi_G_callv rfl rfl (ym_rcv hS) rfl (c_isGrand d (by omega) hS (by omega) (by omega) (by rw [r57]; exact t3 s (by omega) (by omega))) ?_
              rintro _ (⟨c56, rfl⟩ | ⟨c56, rfl⟩)
              · show yi_G zi_Ms d zi_m9 (88, [(4, .inl ch), (0, .inr (.inr (some 82))), (1, .inl s), (2, .inl st), (3, .inl wy)], [.inl 1], (Jb, Kb, X), 0, 0) _
                refine yi_G_if1 true rfl (by decide) ?_
                refine yi_G_iinc [(4, .inl (ch + 1)), (0, .inr (.inr (some 82))), (1, .inl s), (2, .inl st), (3, .inl wy)] rfl rfl rfl (by rw [show yi_w (ch + 1) = ch + 1 from (yi_wn (by omega) (by omega)).trans (by omega)]; rfl) ?_
                refine yi_G_run 1 (68, [(4, .inl (ch + 1)), (0, .inr (.inr (some 82))), (1, .inl s), (2, .inl st), (3, .inl wy)], [], (Jb, Kb, X), 0, 0) (fun _ => rfl) ?_
                exact ih68 _ (by omega) (ch + 1) Jb Kb (fun p k hp => by rw [fJb p k (by omega)]) (fun p k hp => by rw [fKb p k (by omega)]) (by omega) rfl
              · show yi_G zi_Ms d zi_m9 (88, [(4, .inl ch), (0, .inr (.inr (some 82))), (1, .inl s), (2, .inl st), (3, .inl wy)], [.inl 0], (Jb, Kb, X), 0, 0) _
                refine yi_G_if1 false rfl (by decide) ?_
                refine yi_G_run 3 (95, [(4, .inl ch), (0, .inr (.inr (some 82))), (1, .inl s), (2, .inl st), (3, .inl wy)], [.inl s, .inl 46, .inr (.inr (some 82))], (Jb, Kb, X), 0, 0) (fun _ => rfl) ?_
                refine yi_G_iadd rfl (46 + s) (yi_wn (by omega) (by omega)) ?_
                refine yi_G_run 2 (99, [(4, .inl ch), (0, .inr (.inr (some 82))), (1, .inl s), (2, .inl st), (3, .inl wy)], [.inl s, .inl 46, .inl (46 + s), .inr (.inr (some 82))], (Jb, Kb, X), 0, 0) (fun _ => rfl) ?_
                refine yi_G_iadd rfl (46 + s) (yi_wn (by omega) (by omega)) ?_
                refine yi_G_run 1 (101, [(4, .inl ch), (0, .inr (.inr (some 82))), (1, .inl s), (2, .inl st), (3, .inl wy)], [.inl 1, .inl (46 + s), .inl (46 + s), .inr (.inr (some 82))], (Jb, Kb, X), 0, 0) (fun _ => rfl) ?_
                refine yi_G_iadd rfl ((46 + s) + 1) (yi_wn (by omega) (by omega)) ?_
                have r58 : Jb 82 25 = I 82 25 := by rw [fJb 82 (25) (by omega)]
                refine yi_G_callv rfl rfl (ym_rcv hS) rfl (w_copiesRow (by omega) hS (by omega) (by omega) (by omega) (by omega) (by rw [r58]; omega) (by rw [r58]; omega)) ?_
                rintro _ ⟨L59, rfl, f60⟩
                show yi_G zi_Ms d zi_m9 (105, [(4, .inl ch), (0, .inr (.inr (some 82))), (1, .inl s), (2, .inl st), (3, .inl wy)], [], (Jb, L59, X), 0, 0) _
                refine yi_G_run 2 (108, [(4, .inl ch), (0, .inr (.inr (some 82))), (1, .inl s), (2, .inl st), (3, .inl wy)], [.inl 1, .inl ch], (Jb, L59, X), 0, 0) (fun _ => rfl) ?_
                by_cases h61 : ch = 1
                · refine yi_G_if2 false rfl (yi_ne_f h61) ?_
                  refine yi_G_run 3 (117, [(4, .inl ch), (0, .inr (.inr (some 82))), (1, .inl s), (2, .inl st), (3, .inl wy)], [.inl wy, .inl 1], (Jb, L59, X), 0, 0) (fun _ => rfl) ?_
                  by_cases h62 : 1 = wy
                  · refine yi_G_if2 false rfl (yi_ne_f h62) ?_
                    refine yi_G_run 3 (124, [(4, .inl ch), (0, .inr (.inr (some 82))), (1, .inl s), (2, .inl st), (3, .inl wy)], [.inl s, .inl 46, .inr (.inr (some 82))], (Jb, L59, X), 0, 0) (fun _ => rfl) ?_
                    refine yi_G_iadd rfl (46 + s) (yi_wn (by omega) (by omega)) ?_
                    refine yi_G_run 1 (126, [(4, .inl ch), (0, .inr (.inr (some 82))), (1, .inl s), (2, .inl st), (3, .inl wy)], [.inl 1, .inl (46 + s), .inr (.inr (some 82))], (Jb, L59, X), 0, 0) (fun _ => rfl) ?_
                    refine yi_G_iadd rfl ((46 + s) + 1) (yi_wn (by omega) (by omega)) ?_
                    refine yi_G_run 2 (130, [(4, .inl ch), (0, .inr (.inr (some 82))), (1, .inl s), (2, .inl st), (3, .inl wy)], [.inl s, .inl 60, .inl ((46 + s) + 1), .inr (.inr (some 82))], (Jb, L59, X), 0, 0) (fun _ => rfl) ?_
                    refine yi_G_iadd rfl (60 + s) (yi_wn (by omega) (by omega)) ?_
                    have r63 : Jb 82 25 = I 82 25 := by rw [fJb 82 (25) (by omega)]
                    refine yi_G_callv rfl rfl (ym_rcv hS) rfl (w_meets (by omega) hS (by omega) (by omega) (by omega) (by omega) (by rw [r63]; omega) (by rw [r63]; omega)) ?_
                    rintro _ ⟨L64, rfl, f65⟩
                    show yi_G zi_Ms d zi_m9 (134, [(4, .inl ch), (0, .inr (.inr (some 82))), (1, .inl s), (2, .inl st), (3, .inl wy)], [], (Jb, L64, X), 0, 0) _
                    refine yi_G_run 3 (137, [(4, .inl ch), (0, .inr (.inr (some 82))), (1, .inl s), (2, .inl st), (3, .inl wy)], [.inl 1, .inl s, .inr (.inr (some 82))], (Jb, L64, X), 0, 0) (fun _ => rfl) ?_
                    refine yi_G_iadd rfl (s + 1) (yi_wn (by omega) (by omega)) ?_
                    refine yi_G_run 6 (145, [(4, .inl ch), (0, .inr (.inr (some 82))), (1, .inl s), (2, .inl st), (3, .inl wy)], [.inl wy, .inl (yi_ior st (yi_shl ch s)), .inl (s + 1), .inr (.inr (some 82))], (Jb, L64, X), 0, 0) (fun _ => rfl) ?_
                    have r70 : Jb 100 0 = I 100 0 := by rw [fJb 100 (0) (by omega)]
                    have r71 : Jb 82 25 = I 82 25 := by rw [fJb 82 (25) (by omega)]
                    refine yi_G_callv rfl rfl (ym_rcv hS) rfl (ihc _ (by omega) d (by omega) Jb L64 (s + 1) (yi_ior st (yi_shl ch s)) wy (ym_LR_t (fun k => by rw [fJb 88 k (by omega)]) hLR) (ym_S0_t (fun k => by rw [fJb 100 k (by omega)]) hS0) ⟨(by rw [r71]; omega), (by rw [r71]; omega)⟩ (by omega) (by omega) rfl) ?_
                    rintro _ ⟨I66, L68, rfl, f67, f69⟩
                    show yi_G zi_Ms d zi_m9 (148, [(4, .inl ch), (0, .inr (.inr (some 82))), (1, .inl s), (2, .inl st), (3, .inl wy)], [], (I66, L68, X), 0, 0) _
                    refine yi_G_iinc [(4, .inl (ch + 1)), (0, .inr (.inr (some 82))), (1, .inl s), (2, .inl st), (3, .inl wy)] rfl rfl rfl (by rw [show yi_w (ch + 1) = ch + 1 from (yi_wn (by omega) (by omega)).trans (by omega)]; rfl) ?_
                    refine yi_G_run 1 (68, [(4, .inl (ch + 1)), (0, .inr (.inr (some 82))), (1, .inl s), (2, .inl st), (3, .inl wy)], [], (I66, L68, X), 0, 0) (fun _ => rfl) ?_
                    exact ih68 _ (by omega) (ch + 1) I66 L68 (fun p k hp => by rw [f67 p k (by omega), fJb p k (by omega)]) (fun p k hp => by rw [f69 p k (by omega), f65 p k (by omega), f60 p k (by omega), fKb p k (by omega)]) (by omega) rfl
                  · refine yi_G_if2 true rfl (yi_ne_t h62) ?_
                    refine yi_G_run 3 (137, [(4, .inl ch), (0, .inr (.inr (some 82))), (1, .inl s), (2, .inl st), (3, .inl wy)], [.inl 1, .inl s, .inr (.inr (some 82))], (Jb, L59, X), 0, 0) (fun _ => rfl) ?_
                    refine yi_G_iadd rfl (s + 1) (yi_wn (by omega) (by omega)) ?_
                    refine yi_G_run 6 (145, [(4, .inl ch), (0, .inr (.inr (some 82))), (1, .inl s), (2, .inl st), (3, .inl wy)], [.inl wy, .inl (yi_ior st (yi_shl ch s)), .inl (s + 1), .inr (.inr (some 82))], (Jb, L59, X), 0, 0) (fun _ => rfl) ?_
                    have r76 : Jb 100 0 = I 100 0 := by rw [fJb 100 (0) (by omega)]
                    have r77 : Jb 82 25 = I 82 25 := by rw [fJb 82 (25) (by omega)]
                    refine yi_G_callv rfl rfl (ym_rcv hS) rfl (ihc _ (by omega) d (by omega) Jb L59 (s + 1) (yi_ior st (yi_shl ch s)) wy (ym_LR_t (fun k => by rw [fJb 88 k (by omega)]) hLR) (ym_S0_t (fun k => by rw [fJb 100 k (by omega)]) hS0) ⟨(by rw [r77]; omega), (by rw [r77]; omega)⟩ (by omega) (by omega) rfl) ?_
                    rintro _ ⟨I72, L74, rfl, f73, f75⟩
                    show yi_G zi_Ms d zi_m9 (148, [(4, .inl ch), (0, .inr (.inr (some 82))), (1, .inl s), (2, .inl st), (3, .inl wy)], [], (I72, L74, X), 0, 0) _
                    refine yi_G_iinc [(4, .inl (ch + 1)), (0, .inr (.inr (some 82))), (1, .inl s), (2, .inl st), (3, .inl wy)] rfl rfl rfl (by rw [show yi_w (ch + 1) = ch + 1 from (yi_wn (by omega) (by omega)).trans (by omega)]; rfl) ?_
                    refine yi_G_run 1 (68, [(4, .inl (ch + 1)), (0, .inr (.inr (some 82))), (1, .inl s), (2, .inl st), (3, .inl wy)], [], (I72, L74, X), 0, 0) (fun _ => rfl) ?_
                    exact ih68 _ (by omega) (ch + 1) I72 L74 (fun p k hp => by rw [f73 p k (by omega), fJb p k (by omega)]) (fun p k hp => by rw [f75 p k (by omega), f60 p k (by omega), fKb p k (by omega)]) (by omega) rfl
                · refine yi_G_if2 true rfl (yi_ne_t h61) ?_
                  refine yi_G_run 2 (117, [(4, .inl ch), (0, .inr (.inr (some 82))), (1, .inl s), (2, .inl st), (3, .inl wy)], [.inl wy, .inl 0], (Jb, L59, X), 0, 0) (fun _ => rfl) ?_
                  by_cases h78 : 0 = wy
                  · refine yi_G_if2 false rfl (yi_ne_f h78) ?_
                    refine yi_G_run 3 (124, [(4, .inl ch), (0, .inr (.inr (some 82))), (1, .inl s), (2, .inl st), (3, .inl wy)], [.inl s, .inl 46, .inr (.inr (some 82))], (Jb, L59, X), 0, 0) (fun _ => rfl) ?_
                    refine yi_G_iadd rfl (46 + s) (yi_wn (by omega) (by omega)) ?_
                    refine yi_G_run 1 (126, [(4, .inl ch), (0, .inr (.inr (some 82))), (1, .inl s), (2, .inl st), (3, .inl wy)], [.inl 1, .inl (46 + s), .inr (.inr (some 82))], (Jb, L59, X), 0, 0) (fun _ => rfl) ?_
                    refine yi_G_iadd rfl ((46 + s) + 1) (yi_wn (by omega) (by omega)) ?_
                    refine yi_G_run 2 (130, [(4, .inl ch), (0, .inr (.inr (some 82))), (1, .inl s), (2, .inl st), (3, .inl wy)], [.inl s, .inl 60, .inl ((46 + s) + 1), .inr (.inr (some 82))], (Jb, L59, X), 0, 0) (fun _ => rfl) ?_
                    refine yi_G_iadd rfl (60 + s) (yi_wn (by omega) (by omega)) ?_
                    have r79 : Jb 82 25 = I 82 25 := by rw [fJb 82 (25) (by omega)]
                    refine yi_G_callv rfl rfl (ym_rcv hS) rfl (w_meets (by omega) hS (by omega) (by omega) (by omega) (by omega) (by rw [r79]; omega) (by rw [r79]; omega)) ?_
                    rintro _ ⟨L80, rfl, f81⟩
                    show yi_G zi_Ms d zi_m9 (134, [(4, .inl ch), (0, .inr (.inr (some 82))), (1, .inl s), (2, .inl st), (3, .inl wy)], [], (Jb, L80, X), 0, 0) _
                    refine yi_G_run 3 (137, [(4, .inl ch), (0, .inr (.inr (some 82))), (1, .inl s), (2, .inl st), (3, .inl wy)], [.inl 1, .inl s, .inr (.inr (some 82))], (Jb, L80, X), 0, 0) (fun _ => rfl) ?_
                    refine yi_G_iadd rfl (s + 1) (yi_wn (by omega) (by omega)) ?_
                    refine yi_G_run 6 (145, [(4, .inl ch), (0, .inr (.inr (some 82))), (1, .inl s), (2, .inl st), (3, .inl wy)], [.inl wy, .inl (yi_ior st (yi_shl ch s)), .inl (s + 1), .inr (.inr (some 82))], (Jb, L80, X), 0, 0) (fun _ => rfl) ?_
                    have r86 : Jb 100 0 = I 100 0 := by rw [fJb 100 (0) (by omega)]
                    have r87 : Jb 82 25 = I 82 25 := by rw [fJb 82 (25) (by omega)]
                    refine yi_G_callv rfl rfl (ym_rcv hS) rfl (ihc _ (by omega) d (by omega) Jb L80 (s + 1) (yi_ior st (yi_shl ch s)) wy (ym_LR_t (fun k => by rw [fJb 88 k (by omega)]) hLR) (ym_S0_t (fun k => by rw [fJb 100 k (by omega)]) hS0) ⟨(by rw [r87]; omega), (by rw [r87]; omega)⟩ (by omega) (by omega) rfl) ?_
                    rintro _ ⟨I82, L84, rfl, f83, f85⟩
                    show yi_G zi_Ms d zi_m9 (148, [(4, .inl ch), (0, .inr (.inr (some 82))), (1, .inl s), (2, .inl st), (3, .inl wy)], [], (I82, L84, X), 0, 0) _
                    refine yi_G_iinc [(4, .inl (ch + 1)), (0, .inr (.inr (some 82))), (1, .inl s), (2, .inl st), (3, .inl wy)] rfl rfl rfl (by rw [show yi_w (ch + 1) = ch + 1 from (yi_wn (by omega) (by omega)).trans (by omega)]; rfl) ?_
                    refine yi_G_run 1 (68, [(4, .inl (ch + 1)), (0, .inr (.inr (some 82))), (1, .inl s), (2, .inl st), (3, .inl wy)], [], (I82, L84, X), 0, 0) (fun _ => rfl) ?_
                    exact ih68 _ (by omega) (ch + 1) I82 L84 (fun p k hp => by rw [f83 p k (by omega), fJb p k (by omega)]) (fun p k hp => by rw [f85 p k (by omega), f81 p k (by omega), f60 p k (by omega), fKb p k (by omega)]) (by omega) rfl
                  · refine yi_G_if2 true rfl (yi_ne_t h78) ?_
                    refine yi_G_run 3 (137, [(4, .inl ch), (0, .inr (.inr (some 82))), (1, .inl s), (2, .inl st), (3, .inl wy)], [.inl 1, .inl s, .inr (.inr (some 82))], (Jb, L59, X), 0, 0) (fun _ => rfl) ?_
                    refine yi_G_iadd rfl (s + 1) (yi_wn (by omega) (by omega)) ?_
                    refine yi_G_run 6 (145, [(4, .inl ch), (0, .inr (.inr (some 82))), (1, .inl s), (2, .inl st), (3, .inl wy)], [.inl wy, .inl (yi_ior st (yi_shl ch s)), .inl (s + 1), .inr (.inr (some 82))], (Jb, L59, X), 0, 0) (fun _ => rfl) ?_
                    have r92 : Jb 100 0 = I 100 0 := by rw [fJb 100 (0) (by omega)]
                    have r93 : Jb 82 25 = I 82 25 := by rw [fJb 82 (25) (by omega)]
                    refine yi_G_callv rfl rfl (ym_rcv hS) rfl (ihc _ (by omega) d (by omega) Jb L59 (s + 1) (yi_ior st (yi_shl ch s)) wy (ym_LR_t (fun k => by rw [fJb 88 k (by omega)]) hLR) (ym_S0_t (fun k => by rw [fJb 100 k (by omega)]) hS0) ⟨(by rw [r93]; omega), (by rw [r93]; omega)⟩ (by omega) (by omega) rfl) ?_
                    rintro _ ⟨I88, L90, rfl, f89, f91⟩
                    show yi_G zi_Ms d zi_m9 (148, [(4, .inl ch), (0, .inr (.inr (some 82))), (1, .inl s), (2, .inl st), (3, .inl wy)], [], (I88, L90, X), 0, 0) _
                    refine yi_G_iinc [(4, .inl (ch + 1)), (0, .inr (.inr (some 82))), (1, .inl s), (2, .inl st), (3, .inl wy)] rfl rfl rfl (by rw [show yi_w (ch + 1) = ch + 1 from (yi_wn (by omega) (by omega)).trans (by omega)]; rfl) ?_
                    refine yi_G_run 1 (68, [(4, .inl (ch + 1)), (0, .inr (.inr (some 82))), (1, .inl s), (2, .inl st), (3, .inl wy)], [], (I88, L90, X), 0, 0) (fun _ => rfl) ?_
                    exact ih68 _ (by omega) (ch + 1) I88 L90 (fun p k hp => by rw [f89 p k (by omega), fJb p k (by omega)]) (fun p k hp => by rw [f91 p k (by omega), f60 p k (by omega), fKb p k (by omega)]) (by omega) rfl
          · refine yi_G_if1 true rfl (yi_ne_t h18) ?_
            refine yi_G_run 3 (95, [(4, .inl ch), (0, .inr (.inr (some 82))), (1, .inl s), (2, .inl st), (3, .inl wy)], [.inl s, .inl 46, .inr (.inr (some 82))], (Jb, Kb, X), 0, 0) (fun _ => rfl) ?_
            refine yi_G_iadd rfl (46 + s) (yi_wn (by omega) (by omega)) ?_
            refine yi_G_run 2 (99, [(4, .inl ch), (0, .inr (.inr (some 82))), (1, .inl s), (2, .inl st), (3, .inl wy)], [.inl s, .inl 46, .inl (46 + s), .inr (.inr (some 82))], (Jb, Kb, X), 0, 0) (fun _ => rfl) ?_
            refine yi_G_iadd rfl (46 + s) (yi_wn (by omega) (by omega)) ?_
            refine yi_G_run 1 (101, [(4, .inl ch), (0, .inr (.inr (some 82))), (1, .inl s), (2, .inl st), (3, .inl wy)], [.inl 1, .inl (46 + s), .inl (46 + s), .inr (.inr (some 82))], (Jb, Kb, X), 0, 0) (fun _ => rfl) ?_
            refine yi_G_iadd rfl ((46 + s) + 1) (yi_wn (by omega) (by omega)) ?_
            have r94 : Jb 82 25 = I 82 25 := by rw [fJb 82 (25) (by omega)]
            refine yi_G_callv rfl rfl (ym_rcv hS) rfl (w_copiesRow (by omega) hS (by omega) (by omega) (by omega) (by omega) (by rw [r94]; omega) (by rw [r94]; omega)) ?_
            rintro _ ⟨L95, rfl, f96⟩
            show yi_G zi_Ms d zi_m9 (105, [(4, .inl ch), (0, .inr (.inr (some 82))), (1, .inl s), (2, .inl st), (3, .inl wy)], [], (Jb, L95, X), 0, 0) _
            refine yi_G_run 2 (108, [(4, .inl ch), (0, .inr (.inr (some 82))), (1, .inl s), (2, .inl st), (3, .inl wy)], [.inl 1, .inl ch], (Jb, L95, X), 0, 0) (fun _ => rfl) ?_
            by_cases h97 : ch = 1
            · refine yi_G_if2 false rfl (yi_ne_f h97) ?_
              refine yi_G_run 3 (117, [(4, .inl ch), (0, .inr (.inr (some 82))), (1, .inl s), (2, .inl st), (3, .inl wy)], [.inl wy, .inl 1], (Jb, L95, X), 0, 0) (fun _ => rfl) ?_
              by_cases h98 : 1 = wy
              · refine yi_G_if2 false rfl (yi_ne_f h98) ?_
                refine yi_G_run 3 (124, [(4, .inl ch), (0, .inr (.inr (some 82))), (1, .inl s), (2, .inl st), (3, .inl wy)], [.inl s, .inl 46, .inr (.inr (some 82))], (Jb, L95, X), 0, 0) (fun _ => rfl) ?_
                refine yi_G_iadd rfl (46 + s) (yi_wn (by omega) (by omega)) ?_
                refine yi_G_run 1 (126, [(4, .inl ch), (0, .inr (.inr (some 82))), (1, .inl s), (2, .inl st), (3, .inl wy)], [.inl 1, .inl (46 + s), .inr (.inr (some 82))], (Jb, L95, X), 0, 0) (fun _ => rfl) ?_
                refine yi_G_iadd rfl ((46 + s) + 1) (yi_wn (by omega) (by omega)) ?_
                refine yi_G_run 2 (130, [(4, .inl ch), (0, .inr (.inr (some 82))), (1, .inl s), (2, .inl st), (3, .inl wy)], [.inl s, .inl 60, .inl ((46 + s) + 1), .inr (.inr (some 82))], (Jb, L95, X), 0, 0) (fun _ => rfl) ?_
                refine yi_G_iadd rfl (60 + s) (yi_wn (by omega) (by omega)) ?_
                have r99 : Jb 82 25 = I 82 25 := by rw [fJb 82 (25) (by omega)]
                refine yi_G_callv rfl rfl (ym_rcv hS) rfl (w_meets (by omega) hS (by omega) (by omega) (by omega) (by omega) (by rw [r99]; omega) (by rw [r99]; omega)) ?_
                rintro _ ⟨L100, rfl, f101⟩
                show yi_G zi_Ms d zi_m9 (134, [(4, .inl ch), (0, .inr (.inr (some 82))), (1, .inl s), (2, .inl st), (3, .inl wy)], [], (Jb, L100, X), 0, 0) _
                refine yi_G_run 3 (137, [(4, .inl ch), (0, .inr (.inr (some 82))), (1, .inl s), (2, .inl st), (3, .inl wy)], [.inl 1, .inl s, .inr (.inr (some 82))], (Jb, L100, X), 0, 0) (fun _ => rfl) ?_
                refine yi_G_iadd rfl (s + 1) (yi_wn (by omega) (by omega)) ?_
                refine yi_G_run 6 (145, [(4, .inl ch), (0, .inr (.inr (some 82))), (1, .inl s), (2, .inl st), (3, .inl wy)], [.inl wy, .inl (yi_ior st (yi_shl ch s)), .inl (s + 1), .inr (.inr (some 82))], (Jb, L100, X), 0, 0) (fun _ => rfl) ?_
                have r106 : Jb 100 0 = I 100 0 := by rw [fJb 100 (0) (by omega)]
                have r107 : Jb 82 25 = I 82 25 := by rw [fJb 82 (25) (by omega)]
                refine yi_G_callv rfl rfl (ym_rcv hS) rfl (ihc _ (by omega) d (by omega) Jb L100 (s + 1) (yi_ior st (yi_shl ch s)) wy (ym_LR_t (fun k => by rw [fJb 88 k (by omega)]) hLR) (ym_S0_t (fun k => by rw [fJb 100 k (by omega)]) hS0) ⟨(by rw [r107]; omega), (by rw [r107]; omega)⟩ (by omega) (by omega) rfl) ?_
                rintro _ ⟨I102, L104, rfl, f103, f105⟩
                show yi_G zi_Ms d zi_m9 (148, [(4, .inl ch), (0, .inr (.inr (some 82))), (1, .inl s), (2, .inl st), (3, .inl wy)], [], (I102, L104, X), 0, 0) _
                refine yi_G_iinc [(4, .inl (ch + 1)), (0, .inr (.inr (some 82))), (1, .inl s), (2, .inl st), (3, .inl wy)] rfl rfl rfl (by rw [show yi_w (ch + 1) = ch + 1 from (yi_wn (by omega) (by omega)).trans (by omega)]; rfl) ?_
                refine yi_G_run 1 (68, [(4, .inl (ch + 1)), (0, .inr (.inr (some 82))), (1, .inl s), (2, .inl st), (3, .inl wy)], [], (I102, L104, X), 0, 0) (fun _ => rfl) ?_
                exact ih68 _ (by omega) (ch + 1) I102 L104 (fun p k hp => by rw [f103 p k (by omega), fJb p k (by omega)]) (fun p k hp => by rw [f105 p k (by omega), f101 p k (by omega), f96 p k (by omega), fKb p k (by omega)]) (by omega) rfl
              · refine yi_G_if2 true rfl (yi_ne_t h98) ?_
                refine yi_G_run 3 (137, [(4, .inl ch), (0, .inr (.inr (some 82))), (1, .inl s), (2, .inl st), (3, .inl wy)], [.inl 1, .inl s, .inr (.inr (some 82))], (Jb, L95, X), 0, 0) (fun _ => rfl) ?_
                refine yi_G_iadd rfl (s + 1) (yi_wn (by omega) (by omega)) ?_
                refine yi_G_run 6 (145, [(4, .inl ch), (0, .inr (.inr (some 82))), (1, .inl s), (2, .inl st), (3, .inl wy)], [.inl wy, .inl (yi_ior st (yi_shl ch s)), .inl (s + 1), .inr (.inr (some 82))], (Jb, L95, X), 0, 0) (fun _ => rfl) ?_
                have r112 : Jb 100 0 = I 100 0 := by rw [fJb 100 (0) (by omega)]
                have r113 : Jb 82 25 = I 82 25 := by rw [fJb 82 (25) (by omega)]
                refine yi_G_callv rfl rfl (ym_rcv hS) rfl (ihc _ (by omega) d (by omega) Jb L95 (s + 1) (yi_ior st (yi_shl ch s)) wy (ym_LR_t (fun k => by rw [fJb 88 k (by omega)]) hLR) (ym_S0_t (fun k => by rw [fJb 100 k (by omega)]) hS0) ⟨(by rw [r113]; omega), (by rw [r113]; omega)⟩ (by omega) (by omega) rfl) ?_
                rintro _ ⟨I108, L110, rfl, f109, f111⟩
                show yi_G zi_Ms d zi_m9 (148, [(4, .inl ch), (0, .inr (.inr (some 82))), (1, .inl s), (2, .inl st), (3, .inl wy)], [], (I108, L110, X), 0, 0) _
                refine yi_G_iinc [(4, .inl (ch + 1)), (0, .inr (.inr (some 82))), (1, .inl s), (2, .inl st), (3, .inl wy)] rfl rfl rfl (by rw [show yi_w (ch + 1) = ch + 1 from (yi_wn (by omega) (by omega)).trans (by omega)]; rfl) ?_
                refine yi_G_run 1 (68, [(4, .inl (ch + 1)), (0, .inr (.inr (some 82))), (1, .inl s), (2, .inl st), (3, .inl wy)], [], (I108, L110, X), 0, 0) (fun _ => rfl) ?_
                exact ih68 _ (by omega) (ch + 1) I108 L110 (fun p k hp => by rw [f109 p k (by omega), fJb p k (by omega)]) (fun p k hp => by rw [f111 p k (by omega), f96 p k (by omega), fKb p k (by omega)]) (by omega) rfl
            · refine yi_G_if2 true rfl (yi_ne_t h97) ?_
              refine yi_G_run 2 (117, [(4, .inl ch), (0, .inr (.inr (some 82))), (1, .inl s), (2, .inl st), (3, .inl wy)], [.inl wy, .inl 0], (Jb, L95, X), 0, 0) (fun _ => rfl) ?_
              by_cases h114 : 0 = wy
              · refine yi_G_if2 false rfl (yi_ne_f h114) ?_
                refine yi_G_run 3 (124, [(4, .inl ch), (0, .inr (.inr (some 82))), (1, .inl s), (2, .inl st), (3, .inl wy)], [.inl s, .inl 46, .inr (.inr (some 82))], (Jb, L95, X), 0, 0) (fun _ => rfl) ?_
                refine yi_G_iadd rfl (46 + s) (yi_wn (by omega) (by omega)) ?_
                refine yi_G_run 1 (126, [(4, .inl ch), (0, .inr (.inr (some 82))), (1, .inl s), (2, .inl st), (3, .inl wy)], [.inl 1, .inl (46 + s), .inr (.inr (some 82))], (Jb, L95, X), 0, 0) (fun _ => rfl) ?_
                refine yi_G_iadd rfl ((46 + s) + 1) (yi_wn (by omega) (by omega)) ?_
                refine yi_G_run 2 (130, [(4, .inl ch), (0, .inr (.inr (some 82))), (1, .inl s), (2, .inl st), (3, .inl wy)], [.inl s, .inl 60, .inl ((46 + s) + 1), .inr (.inr (some 82))], (Jb, L95, X), 0, 0) (fun _ => rfl) ?_
                refine yi_G_iadd rfl (60 + s) (yi_wn (by omega) (by omega)) ?_
                have r115 : Jb 82 25 = I 82 25 := by rw [fJb 82 (25) (by omega)]
                refine yi_G_callv rfl rfl (ym_rcv hS) rfl (w_meets (by omega) hS (by omega) (by omega) (by omega) (by omega) (by rw [r115]; omega) (by rw [r115]; omega)) ?_
                rintro _ ⟨L116, rfl, f117⟩
                show yi_G zi_Ms d zi_m9 (134, [(4, .inl ch), (0, .inr (.inr (some 82))), (1, .inl s), (2, .inl st), (3, .inl wy)], [], (Jb, L116, X), 0, 0) _
                refine yi_G_run 3 (137, [(4, .inl ch), (0, .inr (.inr (some 82))), (1, .inl s), (2, .inl st), (3, .inl wy)], [.inl 1, .inl s, .inr (.inr (some 82))], (Jb, L116, X), 0, 0) (fun _ => rfl) ?_
                refine yi_G_iadd rfl (s + 1) (yi_wn (by omega) (by omega)) ?_
                refine yi_G_run 6 (145, [(4, .inl ch), (0, .inr (.inr (some 82))), (1, .inl s), (2, .inl st), (3, .inl wy)], [.inl wy, .inl (yi_ior st (yi_shl ch s)), .inl (s + 1), .inr (.inr (some 82))], (Jb, L116, X), 0, 0) (fun _ => rfl) ?_
                have r122 : Jb 100 0 = I 100 0 := by rw [fJb 100 (0) (by omega)]
                have r123 : Jb 82 25 = I 82 25 := by rw [fJb 82 (25) (by omega)]
                refine yi_G_callv rfl rfl (ym_rcv hS) rfl (ihc _ (by omega) d (by omega) Jb L116 (s + 1) (yi_ior st (yi_shl ch s)) wy (ym_LR_t (fun k => by rw [fJb 88 k (by omega)]) hLR) (ym_S0_t (fun k => by rw [fJb 100 k (by omega)]) hS0) ⟨(by rw [r123]; omega), (by rw [r123]; omega)⟩ (by omega) (by omega) rfl) ?_
                rintro _ ⟨I118, L120, rfl, f119, f121⟩
                show yi_G zi_Ms d zi_m9 (148, [(4, .inl ch), (0, .inr (.inr (some 82))), (1, .inl s), (2, .inl st), (3, .inl wy)], [], (I118, L120, X), 0, 0) _
                refine yi_G_iinc [(4, .inl (ch + 1)), (0, .inr (.inr (some 82))), (1, .inl s), (2, .inl st), (3, .inl wy)] rfl rfl rfl (by rw [show yi_w (ch + 1) = ch + 1 from (yi_wn (by omega) (by omega)).trans (by omega)]; rfl) ?_
                refine yi_G_run 1 (68, [(4, .inl (ch + 1)), (0, .inr (.inr (some 82))), (1, .inl s), (2, .inl st), (3, .inl wy)], [], (I118, L120, X), 0, 0) (fun _ => rfl) ?_
                exact ih68 _ (by omega) (ch + 1) I118 L120 (fun p k hp => by rw [f119 p k (by omega), fJb p k (by omega)]) (fun p k hp => by rw [f121 p k (by omega), f117 p k (by omega), f96 p k (by omega), fKb p k (by omega)]) (by omega) rfl
              · refine yi_G_if2 true rfl (yi_ne_t h114) ?_
                refine yi_G_run 3 (137, [(4, .inl ch), (0, .inr (.inr (some 82))), (1, .inl s), (2, .inl st), (3, .inl wy)], [.inl 1, .inl s, .inr (.inr (some 82))], (Jb, L95, X), 0, 0) (fun _ => rfl) ?_
                refine yi_G_iadd rfl (s + 1) (yi_wn (by omega) (by omega)) ?_
                refine yi_G_run 6 (145, [(4, .inl ch), (0, .inr (.inr (some 82))), (1, .inl s), (2, .inl st), (3, .inl wy)], [.inl wy, .inl (yi_ior st (yi_shl ch s)), .inl (s + 1), .inr (.inr (some 82))], (Jb, L95, X), 0, 0) (fun _ => rfl) ?_
                have r128 : Jb 100 0 = I 100 0 := by rw [fJb 100 (0) (by omega)]
                have r129 : Jb 82 25 = I 82 25 := by rw [fJb 82 (25) (by omega)]
                refine yi_G_callv rfl rfl (ym_rcv hS) rfl (ihc _ (by omega) d (by omega) Jb L95 (s + 1) (yi_ior st (yi_shl ch s)) wy (ym_LR_t (fun k => by rw [fJb 88 k (by omega)]) hLR) (ym_S0_t (fun k => by rw [fJb 100 k (by omega)]) hS0) ⟨(by rw [r129]; omega), (by rw [r129]; omega)⟩ (by omega) (by omega) rfl) ?_
                rintro _ ⟨I124, L126, rfl, f125, f127⟩
                show yi_G zi_Ms d zi_m9 (148, [(4, .inl ch), (0, .inr (.inr (some 82))), (1, .inl s), (2, .inl st), (3, .inl wy)], [], (I124, L126, X), 0, 0) _
                refine yi_G_iinc [(4, .inl (ch + 1)), (0, .inr (.inr (some 82))), (1, .inl s), (2, .inl st), (3, .inl wy)] rfl rfl rfl (by rw [show yi_w (ch + 1) = ch + 1 from (yi_wn (by omega) (by omega)).trans (by omega)]; rfl) ?_
                refine yi_G_run 1 (68, [(4, .inl (ch + 1)), (0, .inr (.inr (some 82))), (1, .inl s), (2, .inl st), (3, .inl wy)], [], (I124, L126, X), 0, 0) (fun _ => rfl) ?_
                exact ih68 _ (by omega) (ch + 1) I124 L126 (fun p k hp => by rw [f125 p k (by omega), fJb p k (by omega)]) (fun p k hp => by rw [f127 p k (by omega), f96 p k (by omega), fKb p k (by omega)]) (by omega) rfl
      exact pt68 _ 0 I L (fun _ _ _ => rfl) (fun _ _ _ => rfl) (by omega) rfl
  · refine yi_G_if1 false rfl (yi_lt_f h1) ?_
    refine yi_G_run 1 (8, [(0, .inr (.inr (some 82))), (1, .inl s), (2, .inl st), (3, .inl wy)], [.inl st], (I, L, X), 0, 0) (fun _ => rfl) ?_
    refine yi_G_calls rfl rfl (c_bitsOf d (by omega) hS) ?_
    rintro _ ⟨z130, rfl, h131a, h131b⟩
    show yi_G zi_Ms d zi_m9 (11, [(0, .inr (.inr (some 82))), (1, .inl s), (2, .inl st), (3, .inl wy)], [.inl z130], (I, L, X), 0, 0) _
    refine yi_G_run 1 (12, [(0, .inr (.inr (some 82))), (1, .inl s), (2, .inl st), (3, .inl wy)], [.inr (.inr (some 82)), .inl z130], (I, L, X), 0, 0) (fun _ => rfl) ?_
    refine yi_G_get (15, [(0, .inr (.inr (some 82))), (1, .inl s), (2, .inl st), (3, .inl wy)], [.inl (I 82 35), .inl z130], (I, L, X), 0, 0) rfl (ym_gi hS rfl rfl rfl) ?_
    by_cases h132 : z130 ≤ (I 82 35)
    · refine yi_G_if2 true rfl (yi_le_t h132) ?_
      refine yi_G_run 2 (21, [(0, .inr (.inr (some 82))), (1, .inl s), (2, .inl st), (3, .inl wy)], [.inr (.inr (some 82)), .inl s], (I, L, X), 0, 0) (fun _ => rfl) ?_
      refine yi_G_get (24, [(0, .inr (.inr (some 82))), (1, .inl s), (2, .inl st), (3, .inl wy)], [.inr (.inr (some 100)), .inl s], (I, L, X), 0, 0) rfl (ym_gr hS 17 rfl rfl rfl) ?_
      refine yi_G_run 1 (25, [(0, .inr (.inr (some 82))), (1, .inl s), (2, .inl st), (3, .inl wy)], [.inl 0, .inr (.inr (some 100)), .inl s], (I, L, X), 0, 0) (fun _ => rfl) ?_
      refine yi_G_iald (26, [(0, .inr (.inr (some 82))), (1, .inl s), (2, .inl st), (3, .inl wy)], [.inl (I 100 0), .inl s], (I, L, X), 0, 0) rfl (ym_li hS 17 rfl (by omega) (by omega) rfl) ?_
      by_cases h133 : s = (I 100 0)
      · refine yi_G_if2 false rfl (yi_ne_f h133) ?_
        refine yi_G_run 3 (33, [(0, .inr (.inr (some 82))), (1, .inl s), (2, .inl st), (3, .inl wy)], [.inl s, .inl 46, .inr (.inr (some 82))], (I, L, X), 0, 0) (fun _ => rfl) ?_
        refine yi_G_iadd rfl (46 + s) (yi_wn (by omega) (by omega)) ?_
        refine yi_G_run 1 (36, [(0, .inr (.inr (some 82))), (1, .inl s), (2, .inl st), (3, .inl wy)], [.inl 33, .inl (46 + s), .inr (.inr (some 82))], (I, L, X), 0, 0) (fun _ => rfl) ?_
        refine yi_G_callv rfl rfl (ym_rcv hS) rfl (w_isAny (by omega) hS (by omega) (by omega) (by omega) (by omega) (by omega) (by omega)) ?_
        rintro _ (rfl | rfl)
        · show yi_G zi_Ms d zi_m9 (39, [(0, .inr (.inr (some 82))), (1, .inl s), (2, .inl st), (3, .inl wy)], [.inl 1], (I, L, X), 0, 0) _
          refine yi_G_run 1 (40, [(0, .inr (.inr (some 82))), (1, .inl s), (2, .inl st), (3, .inl wy)], [.inl wy, .inl 1], (I, L, X), 0, 0) (fun _ => rfl) ?_
          by_cases h134 : 1 = wy
          · refine yi_G_if2 true rfl (yi_eq_t h134) ?_
            exact yi_G_retv rfl rfl (⟨_, _, rfl, (fun _ _ _ => rfl), (fun _ _ _ => rfl)⟩)
          · refine yi_G_if2 false rfl (yi_eq_f h134) ?_
            refine yi_G_run 2 (45, [(0, .inr (.inr (some 82))), (1, .inl s), (2, .inl st), (3, .inl wy)], [.inl st, .inr (.inr (some 82))], (I, L, X), 0, 0) (fun _ => rfl) ?_
            refine yi_G_callv rfl rfl (ym_rcv hS) rfl (c_isBetter d (by omega) hS) ?_
            rintro _ (rfl | rfl)
            · show yi_G zi_Ms d zi_m9 (48, [(0, .inr (.inr (some 82))), (1, .inl s), (2, .inl st), (3, .inl wy)], [.inl 1], (I, L, X), 0, 0) _
              refine yi_G_if1 false rfl (by decide) ?_
              refine yi_G_run 2 (53, [(0, .inr (.inr (some 82))), (1, .inl s), (2, .inl st), (3, .inl wy)], [.inl st, .inr (.inr (some 82))], (I, L, X), 0, 0) (fun _ => rfl) ?_
              refine yi_G_put (56, [(0, .inr (.inr (some 82))), (1, .inl s), (2, .inl st), (3, .inl wy)], [], ((yi_u I 82 34 st), L, X), 0, 0) rfl (ym_pi hS rfl rfl) ?_
              generalize w136 : yi_u I 82 34 st = I135
              refine yi_G_run 2 (58, [(0, .inr (.inr (some 82))), (1, .inl s), (2, .inl st), (3, .inl wy)], [.inl st, .inr (.inr (some 82))], (I135, L, X), 0, 0) (fun _ => rfl) ?_
              refine yi_G_calls rfl rfl (c_bitsOf d (by omega) hS) ?_
              rintro _ ⟨z137, rfl, h138a, h138b⟩
              show yi_G zi_Ms d zi_m9 (61, [(0, .inr (.inr (some 82))), (1, .inl s), (2, .inl st), (3, .inl wy)], [.inl z137, .inr (.inr (some 82))], (I135, L, X), 0, 0) _
              refine yi_G_put (64, [(0, .inr (.inr (some 82))), (1, .inl s), (2, .inl st), (3, .inl wy)], [], ((yi_u I135 82 35 z137), L, X), 0, 0) rfl (ym_pi hS rfl rfl) ?_
              generalize w140 : yi_u I135 82 35 z137 = I139
              exact yi_G_retv rfl rfl (⟨_, _, rfl, (fun p k hp => by rw [← w140, yi_u_ne _ _ (fun z => by omega), ← w136, yi_u_ne _ _ (fun z => by omega)]), (fun _ _ _ => rfl)⟩)
            · show yi_G zi_Ms d zi_m9 (48, [(0, .inr (.inr (some 82))), (1, .inl s), (2, .inl st), (3, .inl wy)], [.inl 0], (I, L, X), 0, 0) _
              refine yi_G_if1 true rfl (by decide) ?_
              exact yi_G_retv rfl rfl (⟨_, _, rfl, (fun _ _ _ => rfl), (fun _ _ _ => rfl)⟩)
        · show yi_G zi_Ms d zi_m9 (39, [(0, .inr (.inr (some 82))), (1, .inl s), (2, .inl st), (3, .inl wy)], [.inl 0], (I, L, X), 0, 0) _
          refine yi_G_run 1 (40, [(0, .inr (.inr (some 82))), (1, .inl s), (2, .inl st), (3, .inl wy)], [.inl wy, .inl 0], (I, L, X), 0, 0) (fun _ => rfl) ?_
          by_cases h141 : 0 = wy
          · refine yi_G_if2 true rfl (yi_eq_t h141) ?_
            exact yi_G_retv rfl rfl (⟨_, _, rfl, (fun _ _ _ => rfl), (fun _ _ _ => rfl)⟩)
          · refine yi_G_if2 false rfl (yi_eq_f h141) ?_
            refine yi_G_run 2 (45, [(0, .inr (.inr (some 82))), (1, .inl s), (2, .inl st), (3, .inl wy)], [.inl st, .inr (.inr (some 82))], (I, L, X), 0, 0) (fun _ => rfl) ?_
            refine yi_G_callv rfl rfl (ym_rcv hS) rfl (c_isBetter d (by omega) hS) ?_
            rintro _ (rfl | rfl)
            · show yi_G zi_Ms d zi_m9 (48, [(0, .inr (.inr (some 82))), (1, .inl s), (2, .inl st), (3, .inl wy)], [.inl 1], (I, L, X), 0, 0) _
              refine yi_G_if1 false rfl (by decide) ?_
              refine yi_G_run 2 (53, [(0, .inr (.inr (some 82))), (1, .inl s), (2, .inl st), (3, .inl wy)], [.inl st, .inr (.inr (some 82))], (I, L, X), 0, 0) (fun _ => rfl) ?_
              refine yi_G_put (56, [(0, .inr (.inr (some 82))), (1, .inl s), (2, .inl st), (3, .inl wy)], [], ((yi_u I 82 34 st), L, X), 0, 0) rfl (ym_pi hS rfl rfl) ?_
              generalize w143 : yi_u I 82 34 st = I142
              refine yi_G_run 2 (58, [(0, .inr (.inr (some 82))), (1, .inl s), (2, .inl st), (3, .inl wy)], [.inl st, .inr (.inr (some 82))], (I142, L, X), 0, 0) (fun _ => rfl) ?_
              refine yi_G_calls rfl rfl (c_bitsOf d (by omega) hS) ?_
              rintro _ ⟨z144, rfl, h145a, h145b⟩
              show yi_G zi_Ms d zi_m9 (61, [(0, .inr (.inr (some 82))), (1, .inl s), (2, .inl st), (3, .inl wy)], [.inl z144, .inr (.inr (some 82))], (I142, L, X), 0, 0) _
              refine yi_G_put (64, [(0, .inr (.inr (some 82))), (1, .inl s), (2, .inl st), (3, .inl wy)], [], ((yi_u I142 82 35 z144), L, X), 0, 0) rfl (ym_pi hS rfl rfl) ?_
              generalize w147 : yi_u I142 82 35 z144 = I146
              exact yi_G_retv rfl rfl (⟨_, _, rfl, (fun p k hp => by rw [← w147, yi_u_ne _ _ (fun z => by omega), ← w143, yi_u_ne _ _ (fun z => by omega)]), (fun _ _ _ => rfl)⟩)
            · show yi_G zi_Ms d zi_m9 (48, [(0, .inr (.inr (some 82))), (1, .inl s), (2, .inl st), (3, .inl wy)], [.inl 0], (I, L, X), 0, 0) _
              refine yi_G_if1 true rfl (by decide) ?_
              exact yi_G_retv rfl rfl (⟨_, _, rfl, (fun _ _ _ => rfl), (fun _ _ _ => rfl)⟩)
      · refine yi_G_if2 true rfl (yi_ne_t h133) ?_
        refine yi_G_run 2 (68, [(4, .inl 0), (0, .inr (.inr (some 82))), (1, .inl s), (2, .inl st), (3, .inl wy)], [], (I, L, X), 0, 0) (fun _ => rfl) ?_
        have pt68 : ∀ (m : Nat) (ch : Int) (Jb : Nat → Nat → Int) (Kb : Nat → Nat → Int), (∀ p k, ¬ (p = 82 ∧ k = 34) ∧ ¬ (p = 82 ∧ k = 35) → Jb p k = I p k) → (∀ p k, p ≠ 97 → Kb p k = L p k) → (0 ≤ ch ∧ ch ≤ 2) → (2 - ch).toNat = m → yi_G zi_Ms d zi_m9 (68, [(4, .inl ch), (0, .inr (.inr (some 82))), (1, .inl s), (2, .inl st), (3, .inl wy)], [], (Jb, Kb, X), 0, 0) (fun r => ∃ I' L', r = (none, (I', L', X), 0, 0) ∧ (∀ p k, ¬ (p = 82 ∧ k = 34) ∧ ¬ (p = 82 ∧ k = 35) → I' p k = I p k) ∧ (∀ p k, p ≠ 97 → L' p k = L p k)) := by
          intro m68
          induction m68 using Nat.strongRecOn with
          | _ m68 ih68 =>
          intro ch Jb Kb fJb fKb c0 hm68
          refine yi_G_run 2 (71, [(4, .inl ch), (0, .inr (.inr (some 82))), (1, .inl s), (2, .inl st), (3, .inl wy)], [.inl 2, .inl ch], (Jb, Kb, X), 0, 0) (fun _ => rfl) ?_
          by_cases h148 : 2 ≤ ch
          · refine yi_G_if2 true rfl (yi_ge_t h148) ?_
            exact yi_G_retv rfl rfl (⟨_, _, rfl, (fun p k hp => by rw [fJb p k (by omega)]), (fun p k hp => by rw [fKb p k (by omega)])⟩)
          · refine yi_G_if2 false rfl (yi_ge_f h148) ?_
            refine yi_G_run 1 (75, [(4, .inl ch), (0, .inr (.inr (some 82))), (1, .inl s), (2, .inl st), (3, .inl wy)], [.inl wy], (Jb, Kb, X), 0, 0) (fun _ => rfl) ?_
            by_cases h149 : wy = 0
            · refine yi_G_if1 false rfl (yi_ne_f h149) ?_
              refine yi_G_run 1 (80, [(4, .inl ch), (0, .inr (.inr (some 82))), (1, .inl s), (2, .inl st), (3, .inl wy)], [.inl ch], (Jb, Kb, X), 0, 0) (fun _ => rfl) ?_
              by_cases h150 : ch = 0
              · refine yi_G_if1 true rfl (yi_eq_t h150) ?_
                refine yi_G_run 3 (95, [(4, .inl ch), (0, .inr (.inr (some 82))), (1, .inl s), (2, .inl st), (3, .inl wy)], [.inl s, .inl 46, .inr (.inr (some 82))], (Jb, Kb, X), 0, 0) (fun _ => rfl) ?_
                refine yi_G_iadd rfl (46 + s) (yi_wn (by omega) (by omega)) ?_
                refine yi_G_run 2 (99, [(4, .inl ch), (0, .inr (.inr (some 82))), (1, .inl s), (2, .inl st), (3, .inl wy)], [.inl s, .inl 46, .inl (46 + s), .inr (.inr (some 82))], (Jb, Kb, X), 0, 0) (fun _ => rfl) ?_
                refine yi_G_iadd rfl (46 + s) (yi_wn (by omega) (by omega)) ?_
                refine yi_G_run 1 (101, [(4, .inl ch), (0, .inr (.inr (some 82))), (1, .inl s), (2, .inl st), (3, .inl wy)], [.inl 1, .inl (46 + s), .inl (46 + s), .inr (.inr (some 82))], (Jb, Kb, X), 0, 0) (fun _ => rfl) ?_
                refine yi_G_iadd rfl ((46 + s) + 1) (yi_wn (by omega) (by omega)) ?_
                have r151 : Jb 82 25 = I 82 25 := by rw [fJb 82 (25) (by omega)]
                refine yi_G_callv rfl rfl (ym_rcv hS) rfl (w_copiesRow (by omega) hS (by omega) (by omega) (by omega) (by omega) (by rw [r151]; omega) (by rw [r151]; omega)) ?_
                rintro _ ⟨L152, rfl, f153⟩
                show yi_G zi_Ms d zi_m9 (105, [(4, .inl ch), (0, .inr (.inr (some 82))), (1, .inl s), (2, .inl st), (3, .inl wy)], [], (Jb, L152, X), 0, 0) _
                refine yi_G_run 2 (108, [(4, .inl ch), (0, .inr (.inr (some 82))), (1, .inl s), (2, .inl st), (3, .inl wy)], [.inl 1, .inl ch], (Jb, L152, X), 0, 0) (fun _ => rfl) ?_
                by_cases h154 : ch = 1
                · refine yi_G_if2 false rfl (yi_ne_f h154) ?_
                  refine yi_G_run 3 (117, [(4, .inl ch), (0, .inr (.inr (some 82))), (1, .inl s), (2, .inl st), (3, .inl wy)], [.inl wy, .inl 1], (Jb, L152, X), 0, 0) (fun _ => rfl) ?_
                  by_cases h155 : 1 = wy
                  · refine yi_G_if2 false rfl (yi_ne_f h155) ?_
                    refine yi_G_run 3 (124, [(4, .inl ch), (0, .inr (.inr (some 82))), (1, .inl s), (2, .inl st), (3, .inl wy)], [.inl s, .inl 46, .inr (.inr (some 82))], (Jb, L152, X), 0, 0) (fun _ => rfl) ?_
                    refine yi_G_iadd rfl (46 + s) (yi_wn (by omega) (by omega)) ?_
                    refine yi_G_run 1 (126, [(4, .inl ch), (0, .inr (.inr (some 82))), (1, .inl s), (2, .inl st), (3, .inl wy)], [.inl 1, .inl (46 + s), .inr (.inr (some 82))], (Jb, L152, X), 0, 0) (fun _ => rfl) ?_
                    refine yi_G_iadd rfl ((46 + s) + 1) (yi_wn (by omega) (by omega)) ?_
                    refine yi_G_run 2 (130, [(4, .inl ch), (0, .inr (.inr (some 82))), (1, .inl s), (2, .inl st), (3, .inl wy)], [.inl s, .inl 60, .inl ((46 + s) + 1), .inr (.inr (some 82))], (Jb, L152, X), 0, 0) (fun _ => rfl) ?_
                    refine yi_G_iadd rfl (60 + s) (yi_wn (by omega) (by omega)) ?_
                    have r156 : Jb 82 25 = I 82 25 := by rw [fJb 82 (25) (by omega)]
                    refine yi_G_callv rfl rfl (ym_rcv hS) rfl (w_meets (by omega) hS (by omega) (by omega) (by omega) (by omega) (by rw [r156]; omega) (by rw [r156]; omega)) ?_
                    rintro _ ⟨L157, rfl, f158⟩
                    show yi_G zi_Ms d zi_m9 (134, [(4, .inl ch), (0, .inr (.inr (some 82))), (1, .inl s), (2, .inl st), (3, .inl wy)], [], (Jb, L157, X), 0, 0) _
                    refine yi_G_run 3 (137, [(4, .inl ch), (0, .inr (.inr (some 82))), (1, .inl s), (2, .inl st), (3, .inl wy)], [.inl 1, .inl s, .inr (.inr (some 82))], (Jb, L157, X), 0, 0) (fun _ => rfl) ?_
                    refine yi_G_iadd rfl (s + 1) (yi_wn (by omega) (by omega)) ?_
                    refine yi_G_run 6 (145, [(4, .inl ch), (0, .inr (.inr (some 82))), (1, .inl s), (2, .inl st), (3, .inl wy)], [.inl wy, .inl (yi_ior st (yi_shl ch s)), .inl (s + 1), .inr (.inr (some 82))], (Jb, L157, X), 0, 0) (fun _ => rfl) ?_
                    have r163 : Jb 100 0 = I 100 0 := by rw [fJb 100 (0) (by omega)]
                    have r164 : Jb 82 25 = I 82 25 := by rw [fJb 82 (25) (by omega)]
                    refine yi_G_callv rfl rfl (ym_rcv hS) rfl (ihc _ (by omega) d (by omega) Jb L157 (s + 1) (yi_ior st (yi_shl ch s)) wy (ym_LR_t (fun k => by rw [fJb 88 k (by omega)]) hLR) (ym_S0_t (fun k => by rw [fJb 100 k (by omega)]) hS0) ⟨(by rw [r164]; omega), (by rw [r164]; omega)⟩ (by omega) (by omega) rfl) ?_
                    rintro _ ⟨I159, L161, rfl, f160, f162⟩
                    show yi_G zi_Ms d zi_m9 (148, [(4, .inl ch), (0, .inr (.inr (some 82))), (1, .inl s), (2, .inl st), (3, .inl wy)], [], (I159, L161, X), 0, 0) _
                    refine yi_G_iinc [(4, .inl (ch + 1)), (0, .inr (.inr (some 82))), (1, .inl s), (2, .inl st), (3, .inl wy)] rfl rfl rfl (by rw [show yi_w (ch + 1) = ch + 1 from (yi_wn (by omega) (by omega)).trans (by omega)]; rfl) ?_
                    refine yi_G_run 1 (68, [(4, .inl (ch + 1)), (0, .inr (.inr (some 82))), (1, .inl s), (2, .inl st), (3, .inl wy)], [], (I159, L161, X), 0, 0) (fun _ => rfl) ?_
                    exact ih68 _ (by omega) (ch + 1) I159 L161 (fun p k hp => by rw [f160 p k (by omega), fJb p k (by omega)]) (fun p k hp => by rw [f162 p k (by omega), f158 p k (by omega), f153 p k (by omega), fKb p k (by omega)]) (by omega) rfl
                  · refine yi_G_if2 true rfl (yi_ne_t h155) ?_
                    refine yi_G_run 3 (137, [(4, .inl ch), (0, .inr (.inr (some 82))), (1, .inl s), (2, .inl st), (3, .inl wy)], [.inl 1, .inl s, .inr (.inr (some 82))], (Jb, L152, X), 0, 0) (fun _ => rfl) ?_
                    refine yi_G_iadd rfl (s + 1) (yi_wn (by omega) (by omega)) ?_
                    refine yi_G_run 6 (145, [(4, .inl ch), (0, .inr (.inr (some 82))), (1, .inl s), (2, .inl st), (3, .inl wy)], [.inl wy, .inl (yi_ior st (yi_shl ch s)), .inl (s + 1), .inr (.inr (some 82))], (Jb, L152, X), 0, 0) (fun _ => rfl) ?_
                    have r169 : Jb 100 0 = I 100 0 := by rw [fJb 100 (0) (by omega)]
                    have r170 : Jb 82 25 = I 82 25 := by rw [fJb 82 (25) (by omega)]
                    refine yi_G_callv rfl rfl (ym_rcv hS) rfl (ihc _ (by omega) d (by omega) Jb L152 (s + 1) (yi_ior st (yi_shl ch s)) wy (ym_LR_t (fun k => by rw [fJb 88 k (by omega)]) hLR) (ym_S0_t (fun k => by rw [fJb 100 k (by omega)]) hS0) ⟨(by rw [r170]; omega), (by rw [r170]; omega)⟩ (by omega) (by omega) rfl) ?_
                    rintro _ ⟨I165, L167, rfl, f166, f168⟩
                    show yi_G zi_Ms d zi_m9 (148, [(4, .inl ch), (0, .inr (.inr (some 82))), (1, .inl s), (2, .inl st), (3, .inl wy)], [], (I165, L167, X), 0, 0) _
                    refine yi_G_iinc [(4, .inl (ch + 1)), (0, .inr (.inr (some 82))), (1, .inl s), (2, .inl st), (3, .inl wy)] rfl rfl rfl (by rw [show yi_w (ch + 1) = ch + 1 from (yi_wn (by omega) (by omega)).trans (by omega)]; rfl) ?_
                    refine yi_G_run 1 (68, [(4, .inl (ch + 1)), (0, .inr (.inr (some 82))), (1, .inl s), (2, .inl st), (3, .inl wy)], [], (I165, L167, X), 0, 0) (fun _ => rfl) ?_
                    exact ih68 _ (by omega) (ch + 1) I165 L167 (fun p k hp => by rw [f166 p k (by omega), fJb p k (by omega)]) (fun p k hp => by rw [f168 p k (by omega), f153 p k (by omega), fKb p k (by omega)]) (by omega) rfl
                · refine yi_G_if2 true rfl (yi_ne_t h154) ?_
                  refine yi_G_run 2 (117, [(4, .inl ch), (0, .inr (.inr (some 82))), (1, .inl s), (2, .inl st), (3, .inl wy)], [.inl wy, .inl 0], (Jb, L152, X), 0, 0) (fun _ => rfl) ?_
                  by_cases h171 : 0 = wy
                  · refine yi_G_if2 false rfl (yi_ne_f h171) ?_
                    refine yi_G_run 3 (124, [(4, .inl ch), (0, .inr (.inr (some 82))), (1, .inl s), (2, .inl st), (3, .inl wy)], [.inl s, .inl 46, .inr (.inr (some 82))], (Jb, L152, X), 0, 0) (fun _ => rfl) ?_
                    refine yi_G_iadd rfl (46 + s) (yi_wn (by omega) (by omega)) ?_
                    refine yi_G_run 1 (126, [(4, .inl ch), (0, .inr (.inr (some 82))), (1, .inl s), (2, .inl st), (3, .inl wy)], [.inl 1, .inl (46 + s), .inr (.inr (some 82))], (Jb, L152, X), 0, 0) (fun _ => rfl) ?_
                    refine yi_G_iadd rfl ((46 + s) + 1) (yi_wn (by omega) (by omega)) ?_
                    refine yi_G_run 2 (130, [(4, .inl ch), (0, .inr (.inr (some 82))), (1, .inl s), (2, .inl st), (3, .inl wy)], [.inl s, .inl 60, .inl ((46 + s) + 1), .inr (.inr (some 82))], (Jb, L152, X), 0, 0) (fun _ => rfl) ?_
                    refine yi_G_iadd rfl (60 + s) (yi_wn (by omega) (by omega)) ?_
                    have r172 : Jb 82 25 = I 82 25 := by rw [fJb 82 (25) (by omega)]
                    refine yi_G_callv rfl rfl (ym_rcv hS) rfl (w_meets (by omega) hS (by omega) (by omega) (by omega) (by omega) (by rw [r172]; omega) (by rw [r172]; omega)) ?_
                    rintro _ ⟨L173, rfl, f174⟩
                    show yi_G zi_Ms d zi_m9 (134, [(4, .inl ch), (0, .inr (.inr (some 82))), (1, .inl s), (2, .inl st), (3, .inl wy)], [], (Jb, L173, X), 0, 0) _
                    refine yi_G_run 3 (137, [(4, .inl ch), (0, .inr (.inr (some 82))), (1, .inl s), (2, .inl st), (3, .inl wy)], [.inl 1, .inl s, .inr (.inr (some 82))], (Jb, L173, X), 0, 0) (fun _ => rfl) ?_
                    refine yi_G_iadd rfl (s + 1) (yi_wn (by omega) (by omega)) ?_
                    refine yi_G_run 6 (145, [(4, .inl ch), (0, .inr (.inr (some 82))), (1, .inl s), (2, .inl st), (3, .inl wy)], [.inl wy, .inl (yi_ior st (yi_shl ch s)), .inl (s + 1), .inr (.inr (some 82))], (Jb, L173, X), 0, 0) (fun _ => rfl) ?_
                    have r179 : Jb 100 0 = I 100 0 := by rw [fJb 100 (0) (by omega)]
                    have r180 : Jb 82 25 = I 82 25 := by rw [fJb 82 (25) (by omega)]
                    refine yi_G_callv rfl rfl (ym_rcv hS) rfl (ihc _ (by omega) d (by omega) Jb L173 (s + 1) (yi_ior st (yi_shl ch s)) wy (ym_LR_t (fun k => by rw [fJb 88 k (by omega)]) hLR) (ym_S0_t (fun k => by rw [fJb 100 k (by omega)]) hS0) ⟨(by rw [r180]; omega), (by rw [r180]; omega)⟩ (by omega) (by omega) rfl) ?_
                    rintro _ ⟨I175, L177, rfl, f176, f178⟩
                    show yi_G zi_Ms d zi_m9 (148, [(4, .inl ch), (0, .inr (.inr (some 82))), (1, .inl s), (2, .inl st), (3, .inl wy)], [], (I175, L177, X), 0, 0) _
                    refine yi_G_iinc [(4, .inl (ch + 1)), (0, .inr (.inr (some 82))), (1, .inl s), (2, .inl st), (3, .inl wy)] rfl rfl rfl (by rw [show yi_w (ch + 1) = ch + 1 from (yi_wn (by omega) (by omega)).trans (by omega)]; rfl) ?_
                    refine yi_G_run 1 (68, [(4, .inl (ch + 1)), (0, .inr (.inr (some 82))), (1, .inl s), (2, .inl st), (3, .inl wy)], [], (I175, L177, X), 0, 0) (fun _ => rfl) ?_
                    exact ih68 _ (by omega) (ch + 1) I175 L177 (fun p k hp => by rw [f176 p k (by omega), fJb p k (by omega)]) (fun p k hp => by rw [f178 p k (by omega), f174 p k (by omega), f153 p k (by omega), fKb p k (by omega)]) (by omega) rfl
                  · refine yi_G_if2 true rfl (yi_ne_t h171) ?_
                    refine yi_G_run 3 (137, [(4, .inl ch), (0, .inr (.inr (some 82))), (1, .inl s), (2, .inl st), (3, .inl wy)], [.inl 1, .inl s, .inr (.inr (some 82))], (Jb, L152, X), 0, 0) (fun _ => rfl) ?_
                    refine yi_G_iadd rfl (s + 1) (yi_wn (by omega) (by omega)) ?_
                    refine yi_G_run 6 (145, [(4, .inl ch), (0, .inr (.inr (some 82))), (1, .inl s), (2, .inl st), (3, .inl wy)], [.inl wy, .inl (yi_ior st (yi_shl ch s)), .inl (s + 1), .inr (.inr (some 82))], (Jb, L152, X), 0, 0) (fun _ => rfl) ?_
                    have r185 : Jb 100 0 = I 100 0 := by rw [fJb 100 (0) (by omega)]
                    have r186 : Jb 82 25 = I 82 25 := by rw [fJb 82 (25) (by omega)]
                    refine yi_G_callv rfl rfl (ym_rcv hS) rfl (ihc _ (by omega) d (by omega) Jb L152 (s + 1) (yi_ior st (yi_shl ch s)) wy (ym_LR_t (fun k => by rw [fJb 88 k (by omega)]) hLR) (ym_S0_t (fun k => by rw [fJb 100 k (by omega)]) hS0) ⟨(by rw [r186]; omega), (by rw [r186]; omega)⟩ (by omega) (by omega) rfl) ?_
                    rintro _ ⟨I181, L183, rfl, f182, f184⟩
                    show yi_G zi_Ms d zi_m9 (148, [(4, .inl ch), (0, .inr (.inr (some 82))), (1, .inl s), (2, .inl st), (3, .inl wy)], [], (I181, L183, X), 0, 0) _
                    refine yi_G_iinc [(4, .inl (ch + 1)), (0, .inr (.inr (some 82))), (1, .inl s), (2, .inl st), (3, .inl wy)] rfl rfl rfl (by rw [show yi_w (ch + 1) = ch + 1 from (yi_wn (by omega) (by omega)).trans (by omega)]; rfl) ?_
                    refine yi_G_run 1 (68, [(4, .inl (ch + 1)), (0, .inr (.inr (some 82))), (1, .inl s), (2, .inl st), (3, .inl wy)], [], (I181, L183, X), 0, 0) (fun _ => rfl) ?_
                    exact ih68 _ (by omega) (ch + 1) I181 L183 (fun p k hp => by rw [f182 p k (by omega), fJb p k (by omega)]) (fun p k hp => by rw [f184 p k (by omega), f153 p k (by omega), fKb p k (by omega)]) (by omega) rfl
              · refine yi_G_if1 false rfl (yi_eq_f h150) ?_
                refine yi_G_run 2 (85, [(4, .inl ch), (0, .inr (.inr (some 82))), (1, .inl s), (2, .inl st), (3, .inl wy)], [.inl s, .inr (.inr (some 82))], (Jb, Kb, X), 0, 0) (fun _ => rfl) ?_
                have r188 : Jb 100 ((8 + 3 * s).toNat) = I 100 ((8 + 3 * s).toNat) := by rw [fJb 100 ((8 + 3 * s).toNat) (by omega)]
                refine yi_G_callv rfl rfl (ym_rcv hS) rfl (c_isGrand d (by omega) hS (by omega) (by omega) (by rw [r188]; exact t3 s (by omega) (by omega))) ?_
                rintro _ (⟨c187, rfl⟩ | ⟨c187, rfl⟩)
                · show yi_G zi_Ms d zi_m9 (88, [(4, .inl ch), (0, .inr (.inr (some 82))), (1, .inl s), (2, .inl st), (3, .inl wy)], [.inl 1], (Jb, Kb, X), 0, 0) _
                  refine yi_G_if1 true rfl (by decide) ?_
                  refine yi_G_iinc [(4, .inl (ch + 1)), (0, .inr (.inr (some 82))), (1, .inl s), (2, .inl st), (3, .inl wy)] rfl rfl rfl (by rw [show yi_w (ch + 1) = ch + 1 from (yi_wn (by omega) (by omega)).trans (by omega)]; rfl) ?_
                  refine yi_G_run 1 (68, [(4, .inl (ch + 1)), (0, .inr (.inr (some 82))), (1, .inl s), (2, .inl st), (3, .inl wy)], [], (Jb, Kb, X), 0, 0) (fun _ => rfl) ?_
                  exact ih68 _ (by omega) (ch + 1) Jb Kb (fun p k hp => by rw [fJb p k (by omega)]) (fun p k hp => by rw [fKb p k (by omega)]) (by omega) rfl
                · show yi_G zi_Ms d zi_m9 (88, [(4, .inl ch), (0, .inr (.inr (some 82))), (1, .inl s), (2, .inl st), (3, .inl wy)], [.inl 0], (Jb, Kb, X), 0, 0) _
                  refine yi_G_if1 false rfl (by decide) ?_
                  refine yi_G_run 3 (95, [(4, .inl ch), (0, .inr (.inr (some 82))), (1, .inl s), (2, .inl st), (3, .inl wy)], [.inl s, .inl 46, .inr (.inr (some 82))], (Jb, Kb, X), 0, 0) (fun _ => rfl) ?_
                  refine yi_G_iadd rfl (46 + s) (yi_wn (by omega) (by omega)) ?_
                  refine yi_G_run 2 (99, [(4, .inl ch), (0, .inr (.inr (some 82))), (1, .inl s), (2, .inl st), (3, .inl wy)], [.inl s, .inl 46, .inl (46 + s), .inr (.inr (some 82))], (Jb, Kb, X), 0, 0) (fun _ => rfl) ?_
                  refine yi_G_iadd rfl (46 + s) (yi_wn (by omega) (by omega)) ?_
                  refine yi_G_run 1 (101, [(4, .inl ch), (0, .inr (.inr (some 82))), (1, .inl s), (2, .inl st), (3, .inl wy)], [.inl 1, .inl (46 + s), .inl (46 + s), .inr (.inr (some 82))], (Jb, Kb, X), 0, 0) (fun _ => rfl) ?_
                  refine yi_G_iadd rfl ((46 + s) + 1) (yi_wn (by omega) (by omega)) ?_
                  have r189 : Jb 82 25 = I 82 25 := by rw [fJb 82 (25) (by omega)]
                  refine yi_G_callv rfl rfl (ym_rcv hS) rfl (w_copiesRow (by omega) hS (by omega) (by omega) (by omega) (by omega) (by rw [r189]; omega) (by rw [r189]; omega)) ?_
                  rintro _ ⟨L190, rfl, f191⟩
                  show yi_G zi_Ms d zi_m9 (105, [(4, .inl ch), (0, .inr (.inr (some 82))), (1, .inl s), (2, .inl st), (3, .inl wy)], [], (Jb, L190, X), 0, 0) _
                  refine yi_G_run 2 (108, [(4, .inl ch), (0, .inr (.inr (some 82))), (1, .inl s), (2, .inl st), (3, .inl wy)], [.inl 1, .inl ch], (Jb, L190, X), 0, 0) (fun _ => rfl) ?_
                  by_cases h192 : ch = 1
                  · refine yi_G_if2 false rfl (yi_ne_f h192) ?_
                    refine yi_G_run 3 (117, [(4, .inl ch), (0, .inr (.inr (some 82))), (1, .inl s), (2, .inl st), (3, .inl wy)], [.inl wy, .inl 1], (Jb, L190, X), 0, 0) (fun _ => rfl) ?_
                    by_cases h193 : 1 = wy
                    · refine yi_G_if2 false rfl (yi_ne_f h193) ?_
                      refine yi_G_run 3 (124, [(4, .inl ch), (0, .inr (.inr (some 82))), (1, .inl s), (2, .inl st), (3, .inl wy)], [.inl s, .inl 46, .inr (.inr (some 82))], (Jb, L190, X), 0, 0) (fun _ => rfl) ?_
                      refine yi_G_iadd rfl (46 + s) (yi_wn (by omega) (by omega)) ?_
                      refine yi_G_run 1 (126, [(4, .inl ch), (0, .inr (.inr (some 82))), (1, .inl s), (2, .inl st), (3, .inl wy)], [.inl 1, .inl (46 + s), .inr (.inr (some 82))], (Jb, L190, X), 0, 0) (fun _ => rfl) ?_
                      refine yi_G_iadd rfl ((46 + s) + 1) (yi_wn (by omega) (by omega)) ?_
                      refine yi_G_run 2 (130, [(4, .inl ch), (0, .inr (.inr (some 82))), (1, .inl s), (2, .inl st), (3, .inl wy)], [.inl s, .inl 60, .inl ((46 + s) + 1), .inr (.inr (some 82))], (Jb, L190, X), 0, 0) (fun _ => rfl) ?_
                      refine yi_G_iadd rfl (60 + s) (yi_wn (by omega) (by omega)) ?_
                      have r194 : Jb 82 25 = I 82 25 := by rw [fJb 82 (25) (by omega)]
                      refine yi_G_callv rfl rfl (ym_rcv hS) rfl (w_meets (by omega) hS (by omega) (by omega) (by omega) (by omega) (by rw [r194]; omega) (by rw [r194]; omega)) ?_
                      rintro _ ⟨L195, rfl, f196⟩
                      show yi_G zi_Ms d zi_m9 (134, [(4, .inl ch), (0, .inr (.inr (some 82))), (1, .inl s), (2, .inl st), (3, .inl wy)], [], (Jb, L195, X), 0, 0) _
                      refine yi_G_run 3 (137, [(4, .inl ch), (0, .inr (.inr (some 82))), (1, .inl s), (2, .inl st), (3, .inl wy)], [.inl 1, .inl s, .inr (.inr (some 82))], (Jb, L195, X), 0, 0) (fun _ => rfl) ?_
                      refine yi_G_iadd rfl (s + 1) (yi_wn (by omega) (by omega)) ?_
                      refine yi_G_run 6 (145, [(4, .inl ch), (0, .inr (.inr (some 82))), (1, .inl s), (2, .inl st), (3, .inl wy)], [.inl wy, .inl (yi_ior st (yi_shl ch s)), .inl (s + 1), .inr (.inr (some 82))], (Jb, L195, X), 0, 0) (fun _ => rfl) ?_
                      have r201 : Jb 100 0 = I 100 0 := by rw [fJb 100 (0) (by omega)]
                      have r202 : Jb 82 25 = I 82 25 := by rw [fJb 82 (25) (by omega)]
                      refine yi_G_callv rfl rfl (ym_rcv hS) rfl (ihc _ (by omega) d (by omega) Jb L195 (s + 1) (yi_ior st (yi_shl ch s)) wy (ym_LR_t (fun k => by rw [fJb 88 k (by omega)]) hLR) (ym_S0_t (fun k => by rw [fJb 100 k (by omega)]) hS0) ⟨(by rw [r202]; omega), (by rw [r202]; omega)⟩ (by omega) (by omega) rfl) ?_
                      rintro _ ⟨I197, L199, rfl, f198, f200⟩
                      show yi_G zi_Ms d zi_m9 (148, [(4, .inl ch), (0, .inr (.inr (some 82))), (1, .inl s), (2, .inl st), (3, .inl wy)], [], (I197, L199, X), 0, 0) _
                      refine yi_G_iinc [(4, .inl (ch + 1)), (0, .inr (.inr (some 82))), (1, .inl s), (2, .inl st), (3, .inl wy)] rfl rfl rfl (by rw [show yi_w (ch + 1) = ch + 1 from (yi_wn (by omega) (by omega)).trans (by omega)]; rfl) ?_
                      refine yi_G_run 1 (68, [(4, .inl (ch + 1)), (0, .inr (.inr (some 82))), (1, .inl s), (2, .inl st), (3, .inl wy)], [], (I197, L199, X), 0, 0) (fun _ => rfl) ?_
                      exact ih68 _ (by omega) (ch + 1) I197 L199 (fun p k hp => by rw [f198 p k (by omega), fJb p k (by omega)]) (fun p k hp => by rw [f200 p k (by omega), f196 p k (by omega), f191 p k (by omega), fKb p k (by omega)]) (by omega) rfl
                    · refine yi_G_if2 true rfl (yi_ne_t h193) ?_
                      refine yi_G_run 3 (137, [(4, .inl ch), (0, .inr (.inr (some 82))), (1, .inl s), (2, .inl st), (3, .inl wy)], [.inl 1, .inl s, .inr (.inr (some 82))], (Jb, L190, X), 0, 0) (fun _ => rfl) ?_
                      refine yi_G_iadd rfl (s + 1) (yi_wn (by omega) (by omega)) ?_
                      refine yi_G_run 6 (145, [(4, .inl ch), (0, .inr (.inr (some 82))), (1, .inl s), (2, .inl st), (3, .inl wy)], [.inl wy, .inl (yi_ior st (yi_shl ch s)), .inl (s + 1), .inr (.inr (some 82))], (Jb, L190, X), 0, 0) (fun _ => rfl) ?_
                      have r207 : Jb 100 0 = I 100 0 := by rw [fJb 100 (0) (by omega)]
                      have r208 : Jb 82 25 = I 82 25 := by rw [fJb 82 (25) (by omega)]
                      refine yi_G_callv rfl rfl (ym_rcv hS) rfl (ihc _ (by omega) d (by omega) Jb L190 (s + 1) (yi_ior st (yi_shl ch s)) wy (ym_LR_t (fun k => by rw [fJb 88 k (by omega)]) hLR) (ym_S0_t (fun k => by rw [fJb 100 k (by omega)]) hS0) ⟨(by rw [r208]; omega), (by rw [r208]; omega)⟩ (by omega) (by omega) rfl) ?_
                      rintro _ ⟨I203, L205, rfl, f204, f206⟩
                      show yi_G zi_Ms d zi_m9 (148, [(4, .inl ch), (0, .inr (.inr (some 82))), (1, .inl s), (2, .inl st), (3, .inl wy)], [], (I203, L205, X), 0, 0) _
                      refine yi_G_iinc [(4, .inl (ch + 1)), (0, .inr (.inr (some 82))), (1, .inl s), (2, .inl st), (3, .inl wy)] rfl rfl rfl (by rw [show yi_w (ch + 1) = ch + 1 from (yi_wn (by omega) (by omega)).trans (by omega)]; rfl) ?_
                      refine yi_G_run 1 (68, [(4, .inl (ch + 1)), (0, .inr (.inr (some 82))), (1, .inl s), (2, .inl st), (3, .inl wy)], [], (I203, L205, X), 0, 0) (fun _ => rfl) ?_
                      exact ih68 _ (by omega) (ch + 1) I203 L205 (fun p k hp => by rw [f204 p k (by omega), fJb p k (by omega)]) (fun p k hp => by rw [f206 p k (by omega), f191 p k (by omega), fKb p k (by omega)]) (by omega) rfl
                  · refine yi_G_if2 true rfl (yi_ne_t h192) ?_
                    refine yi_G_run 2 (117, [(4, .inl ch), (0, .inr (.inr (some 82))), (1, .inl s), (2, .inl st), (3, .inl wy)], [.inl wy, .inl 0], (Jb, L190, X), 0, 0) (fun _ => rfl) ?_
                    by_cases h209 : 0 = wy
                    · refine yi_G_if2 false rfl (yi_ne_f h209) ?_
                      refine yi_G_run 3 (124, [(4, .inl ch), (0, .inr (.inr (some 82))), (1, .inl s), (2, .inl st), (3, .inl wy)], [.inl s, .inl 46, .inr (.inr (some 82))], (Jb, L190, X), 0, 0) (fun _ => rfl) ?_
                      refine yi_G_iadd rfl (46 + s) (yi_wn (by omega) (by omega)) ?_
                      refine yi_G_run 1 (126, [(4, .inl ch), (0, .inr (.inr (some 82))), (1, .inl s), (2, .inl st), (3, .inl wy)], [.inl 1, .inl (46 + s), .inr (.inr (some 82))], (Jb, L190, X), 0, 0) (fun _ => rfl) ?_
                      refine yi_G_iadd rfl ((46 + s) + 1) (yi_wn (by omega) (by omega)) ?_
                      refine yi_G_run 2 (130, [(4, .inl ch), (0, .inr (.inr (some 82))), (1, .inl s), (2, .inl st), (3, .inl wy)], [.inl s, .inl 60, .inl ((46 + s) + 1), .inr (.inr (some 82))], (Jb, L190, X), 0, 0) (fun _ => rfl) ?_
                      refine yi_G_iadd rfl (60 + s) (yi_wn (by omega) (by omega)) ?_
                      have r210 : Jb 82 25 = I 82 25 := by rw [fJb 82 (25) (by omega)]
                      refine yi_G_callv rfl rfl (ym_rcv hS) rfl (w_meets (by omega) hS (by omega) (by omega) (by omega) (by omega) (by rw [r210]; omega) (by rw [r210]; omega)) ?_
                      rintro _ ⟨L211, rfl, f212⟩
                      show yi_G zi_Ms d zi_m9 (134, [(4, .inl ch), (0, .inr (.inr (some 82))), (1, .inl s), (2, .inl st), (3, .inl wy)], [], (Jb, L211, X), 0, 0) _
                      refine yi_G_run 3 (137, [(4, .inl ch), (0, .inr (.inr (some 82))), (1, .inl s), (2, .inl st), (3, .inl wy)], [.inl 1, .inl s, .inr (.inr (some 82))], (Jb, L211, X), 0, 0) (fun _ => rfl) ?_
                      refine yi_G_iadd rfl (s + 1) (yi_wn (by omega) (by omega)) ?_
                      refine yi_G_run 6 (145, [(4, .inl ch), (0, .inr (.inr (some 82))), (1, .inl s), (2, .inl st), (3, .inl wy)], [.inl wy, .inl (yi_ior st (yi_shl ch s)), .inl (s + 1), .inr (.inr (some 82))], (Jb, L211, X), 0, 0) (fun _ => rfl) ?_
                      have r217 : Jb 100 0 = I 100 0 := by rw [fJb 100 (0) (by omega)]
                      have r218 : Jb 82 25 = I 82 25 := by rw [fJb 82 (25) (by omega)]
                      refine yi_G_callv rfl rfl (ym_rcv hS) rfl (ihc _ (by omega) d (by omega) Jb L211 (s + 1) (yi_ior st (yi_shl ch s)) wy (ym_LR_t (fun k => by rw [fJb 88 k (by omega)]) hLR) (ym_S0_t (fun k => by rw [fJb 100 k (by omega)]) hS0) ⟨(by rw [r218]; omega), (by rw [r218]; omega)⟩ (by omega) (by omega) rfl) ?_
                      rintro _ ⟨I213, L215, rfl, f214, f216⟩
                      show yi_G zi_Ms d zi_m9 (148, [(4, .inl ch), (0, .inr (.inr (some 82))), (1, .inl s), (2, .inl st), (3, .inl wy)], [], (I213, L215, X), 0, 0) _
                      refine yi_G_iinc [(4, .inl (ch + 1)), (0, .inr (.inr (some 82))), (1, .inl s), (2, .inl st), (3, .inl wy)] rfl rfl rfl (by rw [show yi_w (ch + 1) = ch + 1 from (yi_wn (by omega) (by omega)).trans (by omega)]; rfl) ?_
                      refine yi_G_run 1 (68, [(4, .inl (ch + 1)), (0, .inr (.inr (some 82))), (1, .inl s), (2, .inl st), (3, .inl wy)], [], (I213, L215, X), 0, 0) (fun _ => rfl) ?_
                      exact ih68 _ (by omega) (ch + 1) I213 L215 (fun p k hp => by rw [f214 p k (by omega), fJb p k (by omega)]) (fun p k hp => by rw [f216 p k (by omega), f212 p k (by omega), f191 p k (by omega), fKb p k (by omega)]) (by omega) rfl
                    · refine yi_G_if2 true rfl (yi_ne_t h209) ?_
                      refine yi_G_run 3 (137, [(4, .inl ch), (0, .inr (.inr (some 82))), (1, .inl s), (2, .inl st), (3, .inl wy)], [.inl 1, .inl s, .inr (.inr (some 82))], (Jb, L190, X), 0, 0) (fun _ => rfl) ?_
                      refine yi_G_iadd rfl (s + 1) (yi_wn (by omega) (by omega)) ?_
                      refine yi_G_run 6 (145, [(4, .inl ch), (0, .inr (.inr (some 82))), (1, .inl s), (2, .inl st), (3, .inl wy)], [.inl wy, .inl (yi_ior st (yi_shl ch s)), .inl (s + 1), .inr (.inr (some 82))], (Jb, L190, X), 0, 0) (fun _ => rfl) ?_
                      have r223 : Jb 100 0 = I 100 0 := by rw [fJb 100 (0) (by omega)]
                      have r224 : Jb 82 25 = I 82 25 := by rw [fJb 82 (25) (by omega)]
                      refine yi_G_callv rfl rfl (ym_rcv hS) rfl (ihc _ (by omega) d (by omega) Jb L190 (s + 1) (yi_ior st (yi_shl ch s)) wy (ym_LR_t (fun k => by rw [fJb 88 k (by omega)]) hLR) (ym_S0_t (fun k => by rw [fJb 100 k (by omega)]) hS0) ⟨(by rw [r224]; omega), (by rw [r224]; omega)⟩ (by omega) (by omega) rfl) ?_
                      rintro _ ⟨I219, L221, rfl, f220, f222⟩
                      show yi_G zi_Ms d zi_m9 (148, [(4, .inl ch), (0, .inr (.inr (some 82))), (1, .inl s), (2, .inl st), (3, .inl wy)], [], (I219, L221, X), 0, 0) _
                      refine yi_G_iinc [(4, .inl (ch + 1)), (0, .inr (.inr (some 82))), (1, .inl s), (2, .inl st), (3, .inl wy)] rfl rfl rfl (by rw [show yi_w (ch + 1) = ch + 1 from (yi_wn (by omega) (by omega)).trans (by omega)]; rfl) ?_
                      refine yi_G_run 1 (68, [(4, .inl (ch + 1)), (0, .inr (.inr (some 82))), (1, .inl s), (2, .inl st), (3, .inl wy)], [], (I219, L221, X), 0, 0) (fun _ => rfl) ?_
                      exact ih68 _ (by omega) (ch + 1) I219 L221 (fun p k hp => by rw [f220 p k (by omega), fJb p k (by omega)]) (fun p k hp => by rw [f222 p k (by omega), f191 p k (by omega), fKb p k (by omega)]) (by omega) rfl
            · refine yi_G_if1 true rfl (yi_ne_t h149) ?_
              refine yi_G_run 3 (95, [(4, .inl ch), (0, .inr (.inr (some 82))), (1, .inl s), (2, .inl st), (3, .inl wy)], [.inl s, .inl 46, .inr (.inr (some 82))], (Jb, Kb, X), 0, 0) (fun _ => rfl) ?_
              refine yi_G_iadd rfl (46 + s) (yi_wn (by omega) (by omega)) ?_
              refine yi_G_run 2 (99, [(4, .inl ch), (0, .inr (.inr (some 82))), (1, .inl s), (2, .inl st), (3, .inl wy)], [.inl s, .inl 46, .inl (46 + s), .inr (.inr (some 82))], (Jb, Kb, X), 0, 0) (fun _ => rfl) ?_
              refine yi_G_iadd rfl (46 + s) (yi_wn (by omega) (by omega)) ?_
              refine yi_G_run 1 (101, [(4, .inl ch), (0, .inr (.inr (some 82))), (1, .inl s), (2, .inl st), (3, .inl wy)], [.inl 1, .inl (46 + s), .inl (46 + s), .inr (.inr (some 82))], (Jb, Kb, X), 0, 0) (fun _ => rfl) ?_
              refine yi_G_iadd rfl ((46 + s) + 1) (yi_wn (by omega) (by omega)) ?_
              have r225 : Jb 82 25 = I 82 25 := by rw [fJb 82 (25) (by omega)]
              refine yi_G_callv rfl rfl (ym_rcv hS) rfl (w_copiesRow (by omega) hS (by omega) (by omega) (by omega) (by omega) (by rw [r225]; omega) (by rw [r225]; omega)) ?_
              rintro _ ⟨L226, rfl, f227⟩
              show yi_G zi_Ms d zi_m9 (105, [(4, .inl ch), (0, .inr (.inr (some 82))), (1, .inl s), (2, .inl st), (3, .inl wy)], [], (Jb, L226, X), 0, 0) _
              refine yi_G_run 2 (108, [(4, .inl ch), (0, .inr (.inr (some 82))), (1, .inl s), (2, .inl st), (3, .inl wy)], [.inl 1, .inl ch], (Jb, L226, X), 0, 0) (fun _ => rfl) ?_
              by_cases h228 : ch = 1
              · refine yi_G_if2 false rfl (yi_ne_f h228) ?_
                refine yi_G_run 3 (117, [(4, .inl ch), (0, .inr (.inr (some 82))), (1, .inl s), (2, .inl st), (3, .inl wy)], [.inl wy, .inl 1], (Jb, L226, X), 0, 0) (fun _ => rfl) ?_
                by_cases h229 : 1 = wy
                · refine yi_G_if2 false rfl (yi_ne_f h229) ?_
                  refine yi_G_run 3 (124, [(4, .inl ch), (0, .inr (.inr (some 82))), (1, .inl s), (2, .inl st), (3, .inl wy)], [.inl s, .inl 46, .inr (.inr (some 82))], (Jb, L226, X), 0, 0) (fun _ => rfl) ?_
                  refine yi_G_iadd rfl (46 + s) (yi_wn (by omega) (by omega)) ?_
                  refine yi_G_run 1 (126, [(4, .inl ch), (0, .inr (.inr (some 82))), (1, .inl s), (2, .inl st), (3, .inl wy)], [.inl 1, .inl (46 + s), .inr (.inr (some 82))], (Jb, L226, X), 0, 0) (fun _ => rfl) ?_
                  refine yi_G_iadd rfl ((46 + s) + 1) (yi_wn (by omega) (by omega)) ?_
                  refine yi_G_run 2 (130, [(4, .inl ch), (0, .inr (.inr (some 82))), (1, .inl s), (2, .inl st), (3, .inl wy)], [.inl s, .inl 60, .inl ((46 + s) + 1), .inr (.inr (some 82))], (Jb, L226, X), 0, 0) (fun _ => rfl) ?_
                  refine yi_G_iadd rfl (60 + s) (yi_wn (by omega) (by omega)) ?_
                  have r230 : Jb 82 25 = I 82 25 := by rw [fJb 82 (25) (by omega)]
                  refine yi_G_callv rfl rfl (ym_rcv hS) rfl (w_meets (by omega) hS (by omega) (by omega) (by omega) (by omega) (by rw [r230]; omega) (by rw [r230]; omega)) ?_
                  rintro _ ⟨L231, rfl, f232⟩
                  show yi_G zi_Ms d zi_m9 (134, [(4, .inl ch), (0, .inr (.inr (some 82))), (1, .inl s), (2, .inl st), (3, .inl wy)], [], (Jb, L231, X), 0, 0) _
                  refine yi_G_run 3 (137, [(4, .inl ch), (0, .inr (.inr (some 82))), (1, .inl s), (2, .inl st), (3, .inl wy)], [.inl 1, .inl s, .inr (.inr (some 82))], (Jb, L231, X), 0, 0) (fun _ => rfl) ?_
                  refine yi_G_iadd rfl (s + 1) (yi_wn (by omega) (by omega)) ?_
                  refine yi_G_run 6 (145, [(4, .inl ch), (0, .inr (.inr (some 82))), (1, .inl s), (2, .inl st), (3, .inl wy)], [.inl wy, .inl (yi_ior st (yi_shl ch s)), .inl (s + 1), .inr (.inr (some 82))], (Jb, L231, X), 0, 0) (fun _ => rfl) ?_
                  have r237 : Jb 100 0 = I 100 0 := by rw [fJb 100 (0) (by omega)]
                  have r238 : Jb 82 25 = I 82 25 := by rw [fJb 82 (25) (by omega)]
                  refine yi_G_callv rfl rfl (ym_rcv hS) rfl (ihc _ (by omega) d (by omega) Jb L231 (s + 1) (yi_ior st (yi_shl ch s)) wy (ym_LR_t (fun k => by rw [fJb 88 k (by omega)]) hLR) (ym_S0_t (fun k => by rw [fJb 100 k (by omega)]) hS0) ⟨(by rw [r238]; omega), (by rw [r238]; omega)⟩ (by omega) (by omega) rfl) ?_
                  rintro _ ⟨I233, L235, rfl, f234, f236⟩
                  show yi_G zi_Ms d zi_m9 (148, [(4, .inl ch), (0, .inr (.inr (some 82))), (1, .inl s), (2, .inl st), (3, .inl wy)], [], (I233, L235, X), 0, 0) _
                  refine yi_G_iinc [(4, .inl (ch + 1)), (0, .inr (.inr (some 82))), (1, .inl s), (2, .inl st), (3, .inl wy)] rfl rfl rfl (by rw [show yi_w (ch + 1) = ch + 1 from (yi_wn (by omega) (by omega)).trans (by omega)]; rfl) ?_
                  refine yi_G_run 1 (68, [(4, .inl (ch + 1)), (0, .inr (.inr (some 82))), (1, .inl s), (2, .inl st), (3, .inl wy)], [], (I233, L235, X), 0, 0) (fun _ => rfl) ?_
                  exact ih68 _ (by omega) (ch + 1) I233 L235 (fun p k hp => by rw [f234 p k (by omega), fJb p k (by omega)]) (fun p k hp => by rw [f236 p k (by omega), f232 p k (by omega), f227 p k (by omega), fKb p k (by omega)]) (by omega) rfl
                · refine yi_G_if2 true rfl (yi_ne_t h229) ?_
                  refine yi_G_run 3 (137, [(4, .inl ch), (0, .inr (.inr (some 82))), (1, .inl s), (2, .inl st), (3, .inl wy)], [.inl 1, .inl s, .inr (.inr (some 82))], (Jb, L226, X), 0, 0) (fun _ => rfl) ?_
                  refine yi_G_iadd rfl (s + 1) (yi_wn (by omega) (by omega)) ?_
                  refine yi_G_run 6 (145, [(4, .inl ch), (0, .inr (.inr (some 82))), (1, .inl s), (2, .inl st), (3, .inl wy)], [.inl wy, .inl (yi_ior st (yi_shl ch s)), .inl (s + 1), .inr (.inr (some 82))], (Jb, L226, X), 0, 0) (fun _ => rfl) ?_
                  have r243 : Jb 100 0 = I 100 0 := by rw [fJb 100 (0) (by omega)]
                  have r244 : Jb 82 25 = I 82 25 := by rw [fJb 82 (25) (by omega)]
                  refine yi_G_callv rfl rfl (ym_rcv hS) rfl (ihc _ (by omega) d (by omega) Jb L226 (s + 1) (yi_ior st (yi_shl ch s)) wy (ym_LR_t (fun k => by rw [fJb 88 k (by omega)]) hLR) (ym_S0_t (fun k => by rw [fJb 100 k (by omega)]) hS0) ⟨(by rw [r244]; omega), (by rw [r244]; omega)⟩ (by omega) (by omega) rfl) ?_
                  rintro _ ⟨I239, L241, rfl, f240, f242⟩
                  show yi_G zi_Ms d zi_m9 (148, [(4, .inl ch), (0, .inr (.inr (some 82))), (1, .inl s), (2, .inl st), (3, .inl wy)], [], (I239, L241, X), 0, 0) _
                  refine yi_G_iinc [(4, .inl (ch + 1)), (0, .inr (.inr (some 82))), (1, .inl s), (2, .inl st), (3, .inl wy)] rfl rfl rfl (by rw [show yi_w (ch + 1) = ch + 1 from (yi_wn (by omega) (by omega)).trans (by omega)]; rfl) ?_
                  refine yi_G_run 1 (68, [(4, .inl (ch + 1)), (0, .inr (.inr (some 82))), (1, .inl s), (2, .inl st), (3, .inl wy)], [], (I239, L241, X), 0, 0) (fun _ => rfl) ?_
                  exact ih68 _ (by omega) (ch + 1) I239 L241 (fun p k hp => by rw [f240 p k (by omega), fJb p k (by omega)]) (fun p k hp => by rw [f242 p k (by omega), f227 p k (by omega), fKb p k (by omega)]) (by omega) rfl
              · refine yi_G_if2 true rfl (yi_ne_t h228) ?_
                refine yi_G_run 2 (117, [(4, .inl ch), (0, .inr (.inr (some 82))), (1, .inl s), (2, .inl st), (3, .inl wy)], [.inl wy, .inl 0], (Jb, L226, X), 0, 0) (fun _ => rfl) ?_
                by_cases h245 : 0 = wy
                · refine yi_G_if2 false rfl (yi_ne_f h245) ?_
                  refine yi_G_run 3 (124, [(4, .inl ch), (0, .inr (.inr (some 82))), (1, .inl s), (2, .inl st), (3, .inl wy)], [.inl s, .inl 46, .inr (.inr (some 82))], (Jb, L226, X), 0, 0) (fun _ => rfl) ?_
                  refine yi_G_iadd rfl (46 + s) (yi_wn (by omega) (by omega)) ?_
                  refine yi_G_run 1 (126, [(4, .inl ch), (0, .inr (.inr (some 82))), (1, .inl s), (2, .inl st), (3, .inl wy)], [.inl 1, .inl (46 + s), .inr (.inr (some 82))], (Jb, L226, X), 0, 0) (fun _ => rfl) ?_
                  refine yi_G_iadd rfl ((46 + s) + 1) (yi_wn (by omega) (by omega)) ?_
                  refine yi_G_run 2 (130, [(4, .inl ch), (0, .inr (.inr (some 82))), (1, .inl s), (2, .inl st), (3, .inl wy)], [.inl s, .inl 60, .inl ((46 + s) + 1), .inr (.inr (some 82))], (Jb, L226, X), 0, 0) (fun _ => rfl) ?_
                  refine yi_G_iadd rfl (60 + s) (yi_wn (by omega) (by omega)) ?_
                  have r246 : Jb 82 25 = I 82 25 := by rw [fJb 82 (25) (by omega)]
                  refine yi_G_callv rfl rfl (ym_rcv hS) rfl (w_meets (by omega) hS (by omega) (by omega) (by omega) (by omega) (by rw [r246]; omega) (by rw [r246]; omega)) ?_
                  rintro _ ⟨L247, rfl, f248⟩
                  show yi_G zi_Ms d zi_m9 (134, [(4, .inl ch), (0, .inr (.inr (some 82))), (1, .inl s), (2, .inl st), (3, .inl wy)], [], (Jb, L247, X), 0, 0) _
                  refine yi_G_run 3 (137, [(4, .inl ch), (0, .inr (.inr (some 82))), (1, .inl s), (2, .inl st), (3, .inl wy)], [.inl 1, .inl s, .inr (.inr (some 82))], (Jb, L247, X), 0, 0) (fun _ => rfl) ?_
                  refine yi_G_iadd rfl (s + 1) (yi_wn (by omega) (by omega)) ?_
                  refine yi_G_run 6 (145, [(4, .inl ch), (0, .inr (.inr (some 82))), (1, .inl s), (2, .inl st), (3, .inl wy)], [.inl wy, .inl (yi_ior st (yi_shl ch s)), .inl (s + 1), .inr (.inr (some 82))], (Jb, L247, X), 0, 0) (fun _ => rfl) ?_
                  have r253 : Jb 100 0 = I 100 0 := by rw [fJb 100 (0) (by omega)]
                  have r254 : Jb 82 25 = I 82 25 := by rw [fJb 82 (25) (by omega)]
                  refine yi_G_callv rfl rfl (ym_rcv hS) rfl (ihc _ (by omega) d (by omega) Jb L247 (s + 1) (yi_ior st (yi_shl ch s)) wy (ym_LR_t (fun k => by rw [fJb 88 k (by omega)]) hLR) (ym_S0_t (fun k => by rw [fJb 100 k (by omega)]) hS0) ⟨(by rw [r254]; omega), (by rw [r254]; omega)⟩ (by omega) (by omega) rfl) ?_
                  rintro _ ⟨I249, L251, rfl, f250, f252⟩
                  show yi_G zi_Ms d zi_m9 (148, [(4, .inl ch), (0, .inr (.inr (some 82))), (1, .inl s), (2, .inl st), (3, .inl wy)], [], (I249, L251, X), 0, 0) _
                  refine yi_G_iinc [(4, .inl (ch + 1)), (0, .inr (.inr (some 82))), (1, .inl s), (2, .inl st), (3, .inl wy)] rfl rfl rfl (by rw [show yi_w (ch + 1) = ch + 1 from (yi_wn (by omega) (by omega)).trans (by omega)]; rfl) ?_
                  refine yi_G_run 1 (68, [(4, .inl (ch + 1)), (0, .inr (.inr (some 82))), (1, .inl s), (2, .inl st), (3, .inl wy)], [], (I249, L251, X), 0, 0) (fun _ => rfl) ?_
                  exact ih68 _ (by omega) (ch + 1) I249 L251 (fun p k hp => by rw [f250 p k (by omega), fJb p k (by omega)]) (fun p k hp => by rw [f252 p k (by omega), f248 p k (by omega), f227 p k (by omega), fKb p k (by omega)]) (by omega) rfl
                · refine yi_G_if2 true rfl (yi_ne_t h245) ?_
                  refine yi_G_run 3 (137, [(4, .inl ch), (0, .inr (.inr (some 82))), (1, .inl s), (2, .inl st), (3, .inl wy)], [.inl 1, .inl s, .inr (.inr (some 82))], (Jb, L226, X), 0, 0) (fun _ => rfl) ?_
                  refine yi_G_iadd rfl (s + 1) (yi_wn (by omega) (by omega)) ?_
                  refine yi_G_run 6 (145, [(4, .inl ch), (0, .inr (.inr (some 82))), (1, .inl s), (2, .inl st), (3, .inl wy)], [.inl wy, .inl (yi_ior st (yi_shl ch s)), .inl (s + 1), .inr (.inr (some 82))], (Jb, L226, X), 0, 0) (fun _ => rfl) ?_
                  have r259 : Jb 100 0 = I 100 0 := by rw [fJb 100 (0) (by omega)]
                  have r260 : Jb 82 25 = I 82 25 := by rw [fJb 82 (25) (by omega)]
                  refine yi_G_callv rfl rfl (ym_rcv hS) rfl (ihc _ (by omega) d (by omega) Jb L226 (s + 1) (yi_ior st (yi_shl ch s)) wy (ym_LR_t (fun k => by rw [fJb 88 k (by omega)]) hLR) (ym_S0_t (fun k => by rw [fJb 100 k (by omega)]) hS0) ⟨(by rw [r260]; omega), (by rw [r260]; omega)⟩ (by omega) (by omega) rfl) ?_
                  rintro _ ⟨I255, L257, rfl, f256, f258⟩
                  show yi_G zi_Ms d zi_m9 (148, [(4, .inl ch), (0, .inr (.inr (some 82))), (1, .inl s), (2, .inl st), (3, .inl wy)], [], (I255, L257, X), 0, 0) _
                  refine yi_G_iinc [(4, .inl (ch + 1)), (0, .inr (.inr (some 82))), (1, .inl s), (2, .inl st), (3, .inl wy)] rfl rfl rfl (by rw [show yi_w (ch + 1) = ch + 1 from (yi_wn (by omega) (by omega)).trans (by omega)]; rfl) ?_
                  refine yi_G_run 1 (68, [(4, .inl (ch + 1)), (0, .inr (.inr (some 82))), (1, .inl s), (2, .inl st), (3, .inl wy)], [], (I255, L257, X), 0, 0) (fun _ => rfl) ?_
                  exact ih68 _ (by omega) (ch + 1) I255 L257 (fun p k hp => by rw [f256 p k (by omega), fJb p k (by omega)]) (fun p k hp => by rw [f258 p k (by omega), f227 p k (by omega), fKb p k (by omega)]) (by omega) rfl
        exact pt68 _ 0 I L (fun _ _ _ => rfl) (fun _ _ _ => rfl) (by omega) rfl
    · refine yi_G_if2 false rfl (yi_le_f h132) ?_
      exact yi_G_retv rfl rfl (⟨_, _, rfl, (fun _ _ _ => rfl), (fun _ _ _ => rfl)⟩)
theorem c_findChosen (D : Nat) (hD : 17 ≤ D) {I L : Nat → Nat → Int} {X : ym_X} (hS : ym_S X) {wy : Int} (hLR : ym_LR I) (hS0 : ym_S0 I) (hl : 0 ≤ I 82 25 ∧ I 82 25 ≤ 512) : yi_E zi_Ms D 27 [.inr (.inr (some 82)), .inl wy] (I, L, X) (fun r => ∃ z I' L', r = (some (.inl z), (I', L', X), 0, 0) ∧ (∀ p k, ¬ (p = 82 ∧ k = 34) ∧ ¬ (p = 82 ∧ k = 35) → I' p k = I p k) ∧ (∀ p k, p ≠ 97 → L' p k = L p k)) := by
  obtain ⟨d, rfl⟩ : ∃ d, D = d + 1 := ⟨D - 1, by omega⟩
  refine yi_E_of (M := zi_m27) rfl rfl ?_
  obtain ⟨l0, l1, l2, l3, l4, l5⟩ := id hLR
  obtain ⟨t0, t1, t2, t3, t4⟩ := id hS0
  show yi_G zi_Ms d zi_m27 (0, [(0, .inr (.inr (some 82))), (1, .inl wy)], [], (I, L, X), 0, 0) _
  refine yi_G_run 4 (5, [(0, .inr (.inr (some 82))), (1, .inl wy)], [.inl 1, .inl 0, .inl 46, .inr (.inr (some 82))], (I, L, X), 0, 0) (fun _ => rfl) ?_
  refine yi_G_callv rfl rfl (ym_rcv hS) rfl (c_lays d (by omega) hS hLR hS0 (by omega) (by omega) ⟨(by omega), (by omega)⟩) ?_
  rintro _ ⟨L1, rfl, f2⟩
  show yi_G zi_Ms d zi_m27 (8, [(0, .inr (.inr (some 82))), (1, .inl wy)], [], (I, L1, X), 0, 0) _
  refine yi_G_run 2 (10, [(0, .inr (.inr (some 82))), (1, .inl wy)], [.inl (-1), .inr (.inr (some 82))], (I, L1, X), 0, 0) (fun _ => rfl) ?_
  refine yi_G_put (13, [(0, .inr (.inr (some 82))), (1, .inl wy)], [], ((yi_u I 82 34 (-1)), L1, X), 0, 0) rfl (ym_pi hS rfl rfl) ?_
  generalize w4 : yi_u I 82 34 (-1) = I3
  refine yi_G_run 4 (17, [(0, .inr (.inr (some 82))), (1, .inl wy)], [.inl wy, .inl 0, .inl 0, .inr (.inr (some 82))], (I3, L1, X), 0, 0) (fun _ => rfl) ?_
  have r9 : I3 100 0 = I 100 0 := by rw [← w4, yi_u_ne _ _ (by omega)]
  have r10 : I3 82 25 = I 82 25 := by rw [← w4, yi_u_ne _ _ (by omega)]
  refine yi_G_callv rfl rfl (ym_rcv hS) rfl (c_chooses hS _ d (by omega) I3 L1 0 0 wy (ym_LR_t (fun k => by rw [← w4, yi_u_ne _ _ (fun z => absurd z.1 (by decide))]) hLR) (ym_S0_t (fun k => by rw [← w4, yi_u_ne _ _ (fun z => absurd z.1 (by decide))]) hS0) ⟨(by rw [r10]; omega), (by rw [r10]; omega)⟩ (by omega) (by omega) rfl) ?_
  rintro _ ⟨I5, L7, rfl, f6, f8⟩
  show yi_G zi_Ms d zi_m27 (20, [(0, .inr (.inr (some 82))), (1, .inl wy)], [], (I5, L7, X), 0, 0) _
  refine yi_G_run 1 (21, [(0, .inr (.inr (some 82))), (1, .inl wy)], [.inr (.inr (some 82))], (I5, L7, X), 0, 0) (fun _ => rfl) ?_
  refine yi_G_get (24, [(0, .inr (.inr (some 82))), (1, .inl wy)], [.inl (I5 82 34)], (I5, L7, X), 0, 0) rfl (ym_gi hS rfl rfl rfl) ?_
  exact yi_G_reti rfl rfl (⟨_, _, _, rfl, (fun p k hp => by rw [f6 p k (by omega), ← w4, yi_u_ne _ _ (fun z => by omega)]), (fun p k hp => by rw [f8 p k (by omega), f2 p k (by omega)])⟩)
theorem q_why (D : Nat) (hD : 18 ≤ D) {I L : Nat → Nat → Int} {X : ym_X} (hS : ym_S X) (hLR : ym_LR I) (hS0 : ym_S0 I) (hl : 0 ≤ I 82 25 ∧ I 82 25 ≤ 512) : yi_E zi_Ms D 127 [.inr (.inr (some 82))] (I, L, X) (fun r => ∃ z I' L', r = (some (.inl z), (I', L', X), 0, 0) ∧ (∀ p k, p ≠ 96 ∧ p ≠ 99 ∧ p ≠ 103 ∧ p ≠ 104 ∧ p ≠ 105 ∧ p ≠ 106 ∧ p ≠ 107 ∧ p ≠ 108 ∧ ¬ (p = 82 ∧ k = 0) ∧ ¬ (p = 82 ∧ k = 34) ∧ ¬ (p = 82 ∧ k = 35) ∧ ¬ (p = 82 ∧ k = 37) ∧ ¬ (p = 82 ∧ k = 40) → I' p k = I p k) ∧ (∀ p k, p ≠ 97 ∧ ¬ (p = 82 ∧ k = 43) → L' p k = L p k)) := by
  obtain ⟨d, rfl⟩ : ∃ d, D = d + 1 := ⟨D - 1, by omega⟩
  refine yi_E_of (M := zi_m127) rfl rfl ?_
  obtain ⟨l0, l1, l2, l3, l4, l5⟩ := id hLR
  obtain ⟨t0, t1, t2, t3, t4⟩ := id hS0
  show yi_G zi_Ms d zi_m127 (0, [(0, .inr (.inr (some 82)))], [], (I, L, X), 0, 0) _
  refine yi_G_run 2 (2, [(0, .inr (.inr (some 82)))], [.inl 0, .inr (.inr (some 82))], (I, L, X), 0, 0) (fun _ => rfl) ?_
  refine yi_G_put (5, [(0, .inr (.inr (some 82)))], [], ((yi_u I 82 0 0), L, X), 0, 0) rfl (ym_pi hS rfl rfl) ?_
  generalize w2 : yi_u I 82 0 0 = I1
  refine yi_G_run 1 (6, [(0, .inr (.inr (some 82)))], [.inr (.inr (some 82))], (I1, L, X), 0, 0) (fun _ => rfl) ?_
  have r6 : I1 82 25 = I 82 25 := by rw [← w2, yi_u_ne _ _ (by omega)]
  refine yi_G_callv rfl rfl (ym_rcv hS) rfl (c_findLeft d (by omega) hS (ym_LR_t (fun k => by rw [← w2, yi_u_ne _ _ (fun z => absurd z.1 (by decide))]) hLR) (ym_S0_t (fun k => by rw [← w2, yi_u_ne _ _ (fun z => absurd z.1 (by decide))]) hS0) ⟨(by rw [r6]; omega), (by rw [r6]; omega)⟩) ?_
  rintro _ ⟨z5, L3, rfl, f4⟩
  show yi_G zi_Ms d zi_m127 (9, [(0, .inr (.inr (some 82)))], [.inl z5], (I1, L3, X), 0, 0) _
  refine yi_G_run 2 (11, [(0, .inr (.inr (some 82)))], [.inr (.inr (some 82))], (I1, L3, X), 0, 0) (fun _ => rfl) ?_
  refine yi_G_get (14, [(0, .inr (.inr (some 82)))], [.inr (.inr (some 102))], (I1, L3, X), 0, 0) rfl (ym_gr hS 19 rfl rfl rfl) ?_
  refine yi_G_run 1 (15, [(0, .inr (.inr (some 82)))], [.inl 0, .inr (.inr (some 102))], (I1, L3, X), 0, 0) (fun _ => rfl) ?_
  have r7 : I1 102 0 = I 102 0 := by rw [← w2, yi_u_ne _ _ (by omega)]
  refine yi_G_bald (16, [(0, .inr (.inr (some 82)))], [.inl (I 102 0)], (I1, L3, X), 0, 0) rfl (ym_lb hS 19 rfl (by omega) (by omega) r7) ?_
  by_cases h8 : (I 102 0) = 0
  · refine yi_G_if1 true rfl (yi_eq_t h8) ?_
    refine yi_G_run 1 (39, [(0, .inr (.inr (some 82)))], [.inl (-1)], (I1, L3, X), 0, 0) (fun _ => rfl) ?_
    exact yi_G_reti rfl rfl (⟨_, _, _, rfl, (fun p k hp => by rw [← w2, yi_u_ne _ _ (fun z => by omega)]), (fun p k hp => by rw [f4 p k (by omega)])⟩)
  · refine yi_G_if1 false rfl (yi_eq_f h8) ?_
    refine yi_G_run 3 (24, [(0, .inr (.inr (some 82)))], [.inl 33, .inl 39, .inr (.inr (some 82))], (I1, L3, X), 0, 0) (fun _ => rfl) ?_
    have r9 : I1 82 25 = I 82 25 := by rw [← w2, yi_u_ne _ _ (by omega)]
    refine yi_G_callv rfl rfl (ym_rcv hS) rfl (w_isAny (by omega) hS (by omega) (by omega) (by omega) (by omega) (by rw [r9]; omega) (by rw [r9]; omega)) ?_
    rintro _ (rfl | rfl)
    · show yi_G zi_Ms d zi_m127 (27, [(0, .inr (.inr (some 82)))], [.inl 1], (I1, L3, X), 0, 0) _
      refine yi_G_if1 true rfl (by decide) ?_
      refine yi_G_run 1 (39, [(0, .inr (.inr (some 82)))], [.inl (-1)], (I1, L3, X), 0, 0) (fun _ => rfl) ?_
      exact yi_G_reti rfl rfl (⟨_, _, _, rfl, (fun p k hp => by rw [← w2, yi_u_ne _ _ (fun z => by omega)]), (fun p k hp => by rw [f4 p k (by omega)])⟩)
    · show yi_G zi_Ms d zi_m127 (27, [(0, .inr (.inr (some 82)))], [.inl 0], (I1, L3, X), 0, 0) _
      refine yi_G_if1 false rfl (by decide) ?_
      refine yi_G_run 2 (32, [(0, .inr (.inr (some 82)))], [.inl 1, .inr (.inr (some 82))], (I1, L3, X), 0, 0) (fun _ => rfl) ?_
      have r15 : I1 82 25 = I 82 25 := by rw [← w2, yi_u_ne _ _ (by omega)]
      refine yi_G_callv rfl rfl (ym_rcv hS) rfl (c_findChosen d (by omega) hS (ym_LR_t (fun k => by rw [← w2, yi_u_ne _ _ (fun z => absurd z.1 (by decide))]) hLR) (ym_S0_t (fun k => by rw [← w2, yi_u_ne _ _ (fun z => absurd z.1 (by decide))]) hS0) ⟨(by rw [r15]; omega), (by rw [r15]; omega)⟩) ?_
      rintro _ ⟨z14, I10, L12, rfl, f11, f13⟩
      show yi_G zi_Ms d zi_m127 (35, [(0, .inr (.inr (some 82)))], [.inl z14], (I10, L12, X), 0, 0) _
      refine yi_G_run 1 (39, [(0, .inr (.inr (some 82)))], [.inl z14], (I10, L12, X), 0, 0) (fun _ => rfl) ?_
      exact yi_G_reti rfl rfl (⟨_, _, _, rfl, (fun p k hp => by rw [f11 p k (by omega), ← w2, yi_u_ne _ _ (fun z => by omega)]), (fun p k hp => by rw [f13 p k (by omega), f4 p k (by omega)])⟩)
theorem q_struck (D : Nat) (hD : 18 ≤ D) {I L : Nat → Nat → Int} {X : ym_X} (hS : ym_S X) (hLR : ym_LR I) (hS0 : ym_S0 I) (hl : 0 ≤ I 82 25 ∧ I 82 25 ≤ 512) : yi_E zi_Ms D 113 [.inr (.inr (some 82))] (I, L, X) (fun r => ∃ z I' L', r = (some (.inl z), (I', L', X), 0, 0) ∧ (∀ p k, p ≠ 96 ∧ p ≠ 99 ∧ p ≠ 103 ∧ p ≠ 104 ∧ p ≠ 105 ∧ p ≠ 106 ∧ p ≠ 107 ∧ p ≠ 108 ∧ ¬ (p = 82 ∧ k = 0) ∧ ¬ (p = 82 ∧ k = 34) ∧ ¬ (p = 82 ∧ k = 35) ∧ ¬ (p = 82 ∧ k = 37) ∧ ¬ (p = 82 ∧ k = 40) → I' p k = I p k) ∧ (∀ p k, p ≠ 97 ∧ ¬ (p = 82 ∧ k = 43) → L' p k = L p k)) := by
  obtain ⟨d, rfl⟩ : ∃ d, D = d + 1 := ⟨D - 1, by omega⟩
  refine yi_E_of (M := zi_m113) rfl rfl ?_
  obtain ⟨l0, l1, l2, l3, l4, l5⟩ := id hLR
  obtain ⟨t0, t1, t2, t3, t4⟩ := id hS0
  show yi_G zi_Ms d zi_m113 (0, [(0, .inr (.inr (some 82)))], [], (I, L, X), 0, 0) _
  refine yi_G_run 2 (2, [(0, .inr (.inr (some 82)))], [.inl 0, .inr (.inr (some 82))], (I, L, X), 0, 0) (fun _ => rfl) ?_
  refine yi_G_put (5, [(0, .inr (.inr (some 82)))], [], ((yi_u I 82 0 0), L, X), 0, 0) rfl (ym_pi hS rfl rfl) ?_
  generalize w2 : yi_u I 82 0 0 = I1
  refine yi_G_run 1 (6, [(0, .inr (.inr (some 82)))], [.inr (.inr (some 82))], (I1, L, X), 0, 0) (fun _ => rfl) ?_
  refine yi_G_get (9, [(0, .inr (.inr (some 82)))], [.inr (.inr (some 102))], (I1, L, X), 0, 0) rfl (ym_gr hS 19 rfl rfl rfl) ?_
  refine yi_G_run 1 (10, [(0, .inr (.inr (some 82)))], [.inl 0, .inr (.inr (some 102))], (I1, L, X), 0, 0) (fun _ => rfl) ?_
  have r3 : I1 102 0 = I 102 0 := by rw [← w2, yi_u_ne _ _ (by omega)]
  refine yi_G_bald (11, [(0, .inr (.inr (some 82)))], [.inl (I 102 0)], (I1, L, X), 0, 0) rfl (ym_lb hS 19 rfl (by omega) (by omega) r3) ?_
  by_cases h4 : (I 102 0) = 0
  · refine yi_G_if1 true rfl (yi_eq_t h4) ?_
    refine yi_G_run 1 (23, [(0, .inr (.inr (some 82)))], [.inl (-1)], (I1, L, X), 0, 0) (fun _ => rfl) ?_
    exact yi_G_reti rfl rfl (⟨_, _, _, rfl, (fun p k hp => by rw [← w2, yi_u_ne _ _ (fun z => by omega)]), (fun _ _ _ => rfl)⟩)
  · refine yi_G_if1 false rfl (yi_eq_f h4) ?_
    refine yi_G_run 2 (16, [(0, .inr (.inr (some 82)))], [.inl 0, .inr (.inr (some 82))], (I1, L, X), 0, 0) (fun _ => rfl) ?_
    have r10 : I1 82 25 = I 82 25 := by rw [← w2, yi_u_ne _ _ (by omega)]
    refine yi_G_callv rfl rfl (ym_rcv hS) rfl (c_findChosen d (by omega) hS (ym_LR_t (fun k => by rw [← w2, yi_u_ne _ _ (fun z => absurd z.1 (by decide))]) hLR) (ym_S0_t (fun k => by rw [← w2, yi_u_ne _ _ (fun z => absurd z.1 (by decide))]) hS0) ⟨(by rw [r10]; omega), (by rw [r10]; omega)⟩) ?_
    rintro _ ⟨z9, I5, L7, rfl, f6, f8⟩
    show yi_G zi_Ms d zi_m113 (19, [(0, .inr (.inr (some 82)))], [.inl z9], (I5, L7, X), 0, 0) _
    refine yi_G_run 1 (23, [(0, .inr (.inr (some 82)))], [.inl z9], (I5, L7, X), 0, 0) (fun _ => rfl) ?_
    exact yi_G_reti rfl rfl (⟨_, _, _, rfl, (fun p k hp => by rw [f6 p k (by omega), ← w2, yi_u_ne _ _ (fun z => by omega)]), (fun p k hp => by rw [f8 p k (by omega)])⟩)
