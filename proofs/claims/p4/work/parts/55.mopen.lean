/-! Open words, wishes. -/
theorem c_findOpen (D : Nat) (hD : 4 ≤ D) {I L : Nat → Nat → Int} {X : ym_X} (hS : ym_S X) (hLR : ym_LR I) (hS0 : ym_S0 I) (hl : 0 ≤ I 82 25 ∧ I 82 25 ≤ 512) : yi_E zi_Ms D 30 [.inr (.inr (some 82))] (I, L, X) (fun r => ∃ I' L', r = (none, (I', L', X), 0, 0) ∧ (∀ p k, p ≠ 103 ∧ ¬ (p = 82 ∧ k = 37) → I' p k = I p k) ∧ (∀ p k, p ≠ 97 → L' p k = L p k) ∧ (0 ≤ I' 82 37 ∧ I' 82 37 ≤ 96) ∧ ∀ j : Int, 0 ≤ j → j < I' 82 37 → 0 ≤ I' 103 j.toNat ∧ I' 103 j.toNat ≤ 95) := by
  obtain ⟨d, rfl⟩ : ∃ d, D = d + 1 := ⟨D - 1, by omega⟩
  refine yi_E_of (M := zi_m30) rfl rfl ?_
  obtain ⟨l0, l1, l2, l3, l4, l5⟩ := id hLR
  obtain ⟨t0, t1, t2, t3, t4⟩ := id hS0
  show yi_G zi_Ms d zi_m30 (0, [(0, .inr (.inr (some 82)))], [], (I, L, X), 0, 0) _
  refine yi_G_run 1 (1, [(0, .inr (.inr (some 82)))], [.inr (.inr (some 82))], (I, L, X), 0, 0) (fun _ => rfl) ?_
  refine yi_G_callv rfl rfl (ym_rcv hS) rfl (c_findLeft d (by omega) hS hLR hS0 ⟨(by omega), (by omega)⟩) ?_
  rintro _ ⟨z3, L1, rfl, f2⟩
  show yi_G zi_Ms d zi_m30 (4, [(0, .inr (.inr (some 82)))], [.inl z3], (I, L1, X), 0, 0) _
  refine yi_G_run 3 (7, [(1, .inl z3), (0, .inr (.inr (some 82)))], [.inl 0, .inr (.inr (some 82))], (I, L1, X), 0, 0) (fun _ => rfl) ?_
  refine yi_G_put (10, [(1, .inl z3), (0, .inr (.inr (some 82)))], [], ((yi_u I 82 37 0), L1, X), 0, 0) rfl (ym_pi hS rfl rfl) ?_
  generalize w5 : yi_u I 82 37 0 = I4
  refine yi_G_run 2 (12, [(2, .inl 0), (1, .inl z3), (0, .inr (.inr (some 82)))], [], (I4, L1, X), 0, 0) (fun _ => rfl) ?_
  have pt12 : ∀ (m : Nat) (k : Int) (Ja : Nat → Nat → Int), (∀ p k, p ≠ 103 ∧ ¬ (p = 82 ∧ k = 37) → Ja p k = I4 p k) → (0 ≤ k) → (k ≤ 16 * I 88 0) → (0 ≤ Ja 82 37) → (Ja 82 37 ≤ k) → (∀ j : Int, 0 ≤ j → j < Ja 82 37 → 0 ≤ Ja 103 j.toNat ∧ Ja 103 j.toNat ≤ 95) → (16 * I 88 0 - k).toNat = m → yi_G zi_Ms d zi_m30 (12, [(2, .inl k), (1, .inl z3), (0, .inr (.inr (some 82)))], [], (Ja, L1, X), 0, 0) (fun r => ∃ I' L', r = (none, (I', L', X), 0, 0) ∧ (∀ p k, p ≠ 103 ∧ ¬ (p = 82 ∧ k = 37) → I' p k = I p k) ∧ (∀ p k, p ≠ 97 → L' p k = L p k) ∧ (0 ≤ I' 82 37 ∧ I' 82 37 ≤ 96) ∧ ∀ j : Int, 0 ≤ j → j < I' 82 37 → 0 ≤ I' 103 j.toNat ∧ I' 103 j.toNat ≤ 95) := by
    intro m12
    induction m12 using Nat.strongRecOn with
    | _ m12 ih12 =>
    intro k Ja fJa k0 k1 o0 o1 ho hm12
    refine yi_G_run 3 (16, [(2, .inl k), (1, .inl z3), (0, .inr (.inr (some 82)))], [.inr (.inr (some 82)), .inl 16, .inl k], (Ja, L1, X), 0, 0) (fun _ => rfl) ?_
    have r6 : Ja 88 0 = I 88 0 := by rw [fJa 88 (0) (by omega), ← w5, yi_u_ne _ _ (by omega)]
    refine yi_G_callv rfl rfl (ym_rcv hS) rfl (c_days d (by omega) hS r6) ?_
    rintro _ rfl
    show yi_G zi_Ms d zi_m30 (19, [(2, .inl k), (1, .inl z3), (0, .inr (.inr (some 82)))], [.inl (I 88 0), .inl 16, .inl k], (Ja, L1, X), 0, 0) _
    refine yi_G_imul rfl (16 * (I 88 0)) (yi_wn (by omega) (by omega)) ?_
    by_cases h7 : (16 * (I 88 0)) ≤ k
    · refine yi_G_if2 true rfl (yi_ge_t h7) ?_
      exact yi_G_retv rfl rfl (⟨_, _, rfl, (fun p k hp => by rw [fJa p k (by omega), ← w5, yi_u_ne _ _ (fun z => by omega)]), (fun p k hp => by rw [f2 p k (by omega)]), by omega, ho⟩)
    · refine yi_G_if2 false rfl (yi_ge_f h7) ?_
      refine yi_G_run 2 (25, [(2, .inl k), (1, .inl z3), (0, .inr (.inr (some 82)))], [.inl k, .inr (.inr (some 82))], (Ja, L1, X), 0, 0) (fun _ => rfl) ?_
      refine yi_G_callv rfl rfl (ym_rcv hS) rfl (c_isNumber d (by omega) hS (by omega) (by omega)) ?_
      rintro _ (⟨c8, rfl⟩ | ⟨c8, rfl⟩)
      · show yi_G zi_Ms d zi_m30 (28, [(2, .inl k), (1, .inl z3), (0, .inr (.inr (some 82)))], [.inl 1], (Ja, L1, X), 0, 0) _
        refine yi_G_if1 false rfl (by decide) ?_
        refine yi_G_run 5 (37, [(2, .inl k), (1, .inl z3), (0, .inr (.inr (some 82)))], [.inl k, .inr (.inr (some 82)), .inl 39, .inr (.inr (some 82)), .inl z3], (Ja, L1, X), 0, 0) (fun _ => rfl) ?_
        refine yi_G_callv rfl rfl (ym_rcv hS) rfl (c_rowOf d (by omega) hS (ym_LR_t (fun k => by rw [fJa 88 k (by omega), ← w5, yi_u_ne _ _ (fun z => absurd z.1 (by decide))]) hLR) (by omega) (by omega)) ?_
        rintro _ ⟨z9, rfl, h10a, h10b⟩
        show yi_G zi_Ms d zi_m30 (40, [(2, .inl k), (1, .inl z3), (0, .inr (.inr (some 82)))], [.inl z9, .inl 39, .inr (.inr (some 82)), .inl z3], (Ja, L1, X), 0, 0) _
        have r11 : Ja 82 25 = I 82 25 := by rw [fJa 82 (25) (by omega), ← w5, yi_u_ne _ _ (by omega)]
        refine yi_G_callv rfl rfl (ym_rcv hS) rfl (w_manyBoth (by omega) hS (by omega) (by omega) (by omega) (by omega) (by rw [r11]; omega) (by rw [r11]; omega)) ?_
        rintro _ ⟨z12, rfl⟩
        show yi_G zi_Ms d zi_m30 (43, [(2, .inl k), (1, .inl z3), (0, .inr (.inr (some 82)))], [.inl z12, .inl z3], (Ja, L1, X), 0, 0) _
        refine yi_G_calls rfl rfl (c_how d (by omega) hS) ?_
        rintro _ ⟨z13, rfl, h14a, h14b⟩
        show yi_G zi_Ms d zi_m30 (46, [(2, .inl k), (1, .inl z3), (0, .inr (.inr (some 82)))], [.inl z13], (Ja, L1, X), 0, 0) _
        refine yi_G_run 1 (47, [(2, .inl k), (1, .inl z3), (0, .inr (.inr (some 82)))], [.inl 2, .inl z13], (Ja, L1, X), 0, 0) (fun _ => rfl) ?_
        by_cases h15 : z13 = 2
        · refine yi_G_if2 false rfl (yi_ne_f h15) ?_
          refine yi_G_run 1 (51, [(2, .inl k), (1, .inl z3), (0, .inr (.inr (some 82)))], [.inr (.inr (some 82))], (Ja, L1, X), 0, 0) (fun _ => rfl) ?_
          refine yi_G_get (54, [(2, .inl k), (1, .inl z3), (0, .inr (.inr (some 82)))], [.inr (.inr (some 103))], (Ja, L1, X), 0, 0) rfl (ym_gr hS 20 rfl rfl rfl) ?_
          refine yi_G_run 1 (55, [(2, .inl k), (1, .inl z3), (0, .inr (.inr (some 82)))], [.inr (.inr (some 82)), .inr (.inr (some 103))], (Ja, L1, X), 0, 0) (fun _ => rfl) ?_
          refine yi_G_get (58, [(2, .inl k), (1, .inl z3), (0, .inr (.inr (some 82)))], [.inl (Ja 82 37), .inr (.inr (some 103))], (Ja, L1, X), 0, 0) rfl (ym_gi hS rfl rfl rfl) ?_
          refine yi_G_run 1 (59, [(2, .inl k), (1, .inl z3), (0, .inr (.inr (some 82)))], [.inl k, .inl (Ja 82 37), .inr (.inr (some 103))], (Ja, L1, X), 0, 0) (fun _ => rfl) ?_
          refine yi_G_iast (60, [(2, .inl k), (1, .inl z3), (0, .inr (.inr (some 82)))], [], ((yi_u Ja 103 ((Ja 82 37).toNat) k), L1, X), 0, 0) rfl (ym_si hS 20 rfl (by omega) (by omega)) ?_
          generalize w17 : yi_u Ja 103 ((Ja 82 37).toNat) k = I16
          refine yi_G_run 2 (62, [(2, .inl k), (1, .inl z3), (0, .inr (.inr (some 82)))], [.inr (.inr (some 82)), .inr (.inr (some 82))], (I16, L1, X), 0, 0) (fun _ => rfl) ?_
          have r18 : I16 82 37 = Ja 82 37 := by rw [← w17, yi_u_ne _ _ (by omega)]
          refine yi_G_get (65, [(2, .inl k), (1, .inl z3), (0, .inr (.inr (some 82)))], [.inl (Ja 82 37), .inr (.inr (some 82))], (I16, L1, X), 0, 0) rfl (ym_gi hS rfl rfl r18) ?_
          refine yi_G_run 1 (66, [(2, .inl k), (1, .inl z3), (0, .inr (.inr (some 82)))], [.inl 1, .inl (Ja 82 37), .inr (.inr (some 82))], (I16, L1, X), 0, 0) (fun _ => rfl) ?_
          refine yi_G_iadd rfl ((Ja 82 37) + 1) (yi_wn (by omega) (by omega)) ?_
          refine yi_G_put (70, [(2, .inl k), (1, .inl z3), (0, .inr (.inr (some 82)))], [], ((yi_u I16 82 37 ((Ja 82 37) + 1)), L1, X), 0, 0) rfl (ym_pi hS rfl rfl) ?_
          generalize w20 : yi_u I16 82 37 ((Ja 82 37) + 1) = I19
          refine yi_G_iinc [(2, .inl (k + 1)), (1, .inl z3), (0, .inr (.inr (some 82)))] rfl rfl rfl (by rw [show yi_w (k + 1) = k + 1 from (yi_wn (by omega) (by omega)).trans (by omega)]; rfl) ?_
          refine yi_G_run 1 (12, [(2, .inl (k + 1)), (1, .inl z3), (0, .inr (.inr (some 82)))], [], (I19, L1, X), 0, 0) (fun _ => rfl) ?_
          exact ih12 _ (by omega) (k + 1) I19 (fun p k hp => by rw [← w20, yi_u_ne _ _ (fun z => by omega), ← w17, yi_u_ne _ _ (fun z => by omega), fJa p k (by omega)]) (by omega) (by omega) (by have q : I19 82 37 = (Ja 82 37) + 1 := (by rw [← w20, yi_u_eq]); omega) (by have q : I19 82 37 = (Ja 82 37) + 1 := (by rw [← w20, yi_u_eq]); omega) (fun j a b => by
          have q : I19 82 37 = (Ja 82 37) + 1 := (by rw [← w20, yi_u_eq])
          rw [← w20, yi_u_ne _ _ (by omega), ← w17]
          by_cases e : j = Ja 82 37
          · rw [e, yi_u_eq]; omega
          · rw [yi_u_ne _ _ (by omega)]; exact ho j a (by omega)) rfl
        · refine yi_G_if2 true rfl (yi_ne_t h15) ?_
          refine yi_G_iinc [(2, .inl (k + 1)), (1, .inl z3), (0, .inr (.inr (some 82)))] rfl rfl rfl (by rw [show yi_w (k + 1) = k + 1 from (yi_wn (by omega) (by omega)).trans (by omega)]; rfl) ?_
          refine yi_G_run 1 (12, [(2, .inl (k + 1)), (1, .inl z3), (0, .inr (.inr (some 82)))], [], (Ja, L1, X), 0, 0) (fun _ => rfl) ?_
          exact ih12 _ (by omega) (k + 1) Ja (fun p k hp => by rw [fJa p k (by omega)]) (by omega) (by omega) (by have q : Ja 82 37 = Ja 82 37 := rfl; omega) (by have q : Ja 82 37 = Ja 82 37 := rfl; omega) ho rfl
      · show yi_G zi_Ms d zi_m30 (28, [(2, .inl k), (1, .inl z3), (0, .inr (.inr (some 82)))], [.inl 0], (Ja, L1, X), 0, 0) _
        refine yi_G_if1 true rfl (by decide) ?_
        refine yi_G_iinc [(2, .inl (k + 1)), (1, .inl z3), (0, .inr (.inr (some 82)))] rfl rfl rfl (by rw [show yi_w (k + 1) = k + 1 from (yi_wn (by omega) (by omega)).trans (by omega)]; rfl) ?_
        refine yi_G_run 1 (12, [(2, .inl (k + 1)), (1, .inl z3), (0, .inr (.inr (some 82)))], [], (Ja, L1, X), 0, 0) (fun _ => rfl) ?_
        exact ih12 _ (by omega) (k + 1) Ja (fun p k hp => by rw [fJa p k (by omega)]) (by omega) (by omega) (by have q : Ja 82 37 = Ja 82 37 := rfl; omega) (by have q : Ja 82 37 = Ja 82 37 := rfl; omega) ho rfl
  exact pt12 _ 0 I4 (fun _ _ _ => rfl) (by omega) (by omega) (by have q : I4 82 37 = 0 := (by rw [← w5, yi_u_eq]); omega) (by have q : I4 82 37 = 0 := (by rw [← w5, yi_u_eq]); omega) (fun j a b => by have q : I4 82 37 = 0 := (by rw [← w5, yi_u_eq]); omega) rfl
theorem q_widest (D : Nat) (hD : 5 ≤ D) {I L : Nat → Nat → Int} {X : ym_X} (hS : ym_S X) {na : Int} (hLR : ym_LR I) (hS0 : ym_S0 I) (hl : 0 ≤ I 82 25 ∧ I 82 25 ≤ 512) : yi_E zi_Ms D 128 [.inr (.inr (some 82)), .inl na] (I, L, X) (fun r => ∃ z I' L', r = (some (.inl z), (I', L', X), 0, 0) ∧ (∀ p k, p ≠ 96 ∧ p ≠ 99 ∧ p ≠ 103 ∧ p ≠ 104 ∧ p ≠ 105 ∧ p ≠ 106 ∧ p ≠ 107 ∧ p ≠ 108 ∧ ¬ (p = 82 ∧ k = 0) ∧ ¬ (p = 82 ∧ k = 34) ∧ ¬ (p = 82 ∧ k = 35) ∧ ¬ (p = 82 ∧ k = 37) ∧ ¬ (p = 82 ∧ k = 40) → I' p k = I p k) ∧ (∀ p k, p ≠ 97 ∧ ¬ (p = 82 ∧ k = 43) → L' p k = L p k)) := by
  obtain ⟨d, rfl⟩ : ∃ d, D = d + 1 := ⟨D - 1, by omega⟩
  refine yi_E_of (M := zi_m128) rfl rfl ?_
  obtain ⟨l0, l1, l2, l3, l4, l5⟩ := id hLR
  obtain ⟨t0, t1, t2, t3, t4⟩ := id hS0
  show yi_G zi_Ms d zi_m128 (0, [(0, .inr (.inr (some 82))), (1, .inl na)], [], (I, L, X), 0, 0) _
  refine yi_G_run 2 (2, [(0, .inr (.inr (some 82))), (1, .inl na)], [.inl 0, .inr (.inr (some 82))], (I, L, X), 0, 0) (fun _ => rfl) ?_
  refine yi_G_put (5, [(0, .inr (.inr (some 82))), (1, .inl na)], [], ((yi_u I 82 0 0), L, X), 0, 0) rfl (ym_pi hS rfl rfl) ?_
  generalize w2 : yi_u I 82 0 0 = I1
  refine yi_G_run 1 (6, [(0, .inr (.inr (some 82))), (1, .inl na)], [.inr (.inr (some 82))], (I1, L, X), 0, 0) (fun _ => rfl) ?_
  have r7 : I1 82 25 = I 82 25 := by rw [← w2, yi_u_ne _ _ (by omega)]
  refine yi_G_callv rfl rfl (ym_rcv hS) rfl (c_findOpen d (by omega) hS (ym_LR_t (fun k => by rw [← w2, yi_u_ne _ _ (fun z => absurd z.1 (by decide))]) hLR) (ym_S0_t (fun k => by rw [← w2, yi_u_ne _ _ (fun z => absurd z.1 (by decide))]) hS0) ⟨(by rw [r7]; omega), (by rw [r7]; omega)⟩) ?_
  rintro _ ⟨I3, L5, rfl, f4, f6, ob, oh⟩
  show yi_G zi_Ms d zi_m128 (9, [(0, .inr (.inr (some 82))), (1, .inl na)], [], (I3, L5, X), 0, 0) _
  refine yi_G_run 6 (16, [(4, .inl 0), (3, .inl 0), (2, .inl (-1)), (0, .inr (.inr (some 82))), (1, .inl na)], [], (I3, L5, X), 0, 0) (fun _ => rfl) ?_
  have pt16 : ∀ (m : Nat) (k : Int) (be : Int) (bl : Int), (0 ≤ k) → (k ≤ I3 82 37) → (I3 82 37 - k).toNat = m → yi_G zi_Ms d zi_m128 (16, [(4, .inl k), (3, .inl bl), (2, .inl be), (0, .inr (.inr (some 82))), (1, .inl na)], [], (I3, L5, X), 0, 0) (fun r => ∃ z I' L', r = (some (.inl z), (I', L', X), 0, 0) ∧ (∀ p k, p ≠ 96 ∧ p ≠ 99 ∧ p ≠ 103 ∧ p ≠ 104 ∧ p ≠ 105 ∧ p ≠ 106 ∧ p ≠ 107 ∧ p ≠ 108 ∧ ¬ (p = 82 ∧ k = 0) ∧ ¬ (p = 82 ∧ k = 34) ∧ ¬ (p = 82 ∧ k = 35) ∧ ¬ (p = 82 ∧ k = 37) ∧ ¬ (p = 82 ∧ k = 40) → I' p k = I p k) ∧ (∀ p k, p ≠ 97 ∧ ¬ (p = 82 ∧ k = 43) → L' p k = L p k)) := by
    intro m16
    induction m16 using Nat.strongRecOn with
    | _ m16 ih16 =>
    intro k be bl k0 k1 hm16
    refine yi_G_run 2 (19, [(4, .inl k), (3, .inl bl), (2, .inl be), (0, .inr (.inr (some 82))), (1, .inl na)], [.inr (.inr (some 82)), .inl k], (I3, L5, X), 0, 0) (fun _ => rfl) ?_
    refine yi_G_get (22, [(4, .inl k), (3, .inl bl), (2, .inl be), (0, .inr (.inr (some 82))), (1, .inl na)], [.inl (I3 82 37), .inl k], (I3, L5, X), 0, 0) rfl (ym_gi hS rfl rfl rfl) ?_
    by_cases h8 : (I3 82 37) ≤ k
    · refine yi_G_if2 true rfl (yi_ge_t h8) ?_
      refine yi_G_run 1 (110, [(4, .inl k), (3, .inl bl), (2, .inl be), (0, .inr (.inr (some 82))), (1, .inl na)], [.inl be], (I3, L5, X), 0, 0) (fun _ => rfl) ?_
      exact yi_G_reti rfl rfl (⟨_, _, _, rfl, (fun p k hp => by rw [f4 p k (by omega), ← w2, yi_u_ne _ _ (fun z => by omega)]), (fun p k hp => by rw [f6 p k (by omega)])⟩)
    · refine yi_G_if2 false rfl (yi_ge_f h8) ?_
      refine yi_G_run 4 (30, [(4, .inl k), (3, .inl bl), (2, .inl be), (0, .inr (.inr (some 82))), (1, .inl na)], [.inr (.inr (some 82)), .inr (.inr (some 82)), .inl 39, .inr (.inr (some 82))], (I3, L5, X), 0, 0) (fun _ => rfl) ?_
      refine yi_G_get (33, [(4, .inl k), (3, .inl bl), (2, .inl be), (0, .inr (.inr (some 82))), (1, .inl na)], [.inr (.inr (some 103)), .inr (.inr (some 82)), .inl 39, .inr (.inr (some 82))], (I3, L5, X), 0, 0) rfl (ym_gr hS 20 rfl rfl rfl) ?_
      refine yi_G_run 1 (35, [(4, .inl k), (3, .inl bl), (2, .inl be), (0, .inr (.inr (some 82))), (1, .inl na)], [.inl k, .inr (.inr (some 103)), .inr (.inr (some 82)), .inl 39, .inr (.inr (some 82))], (I3, L5, X), 0, 0) (fun _ => rfl) ?_
      have ok := oh k (by omega) (by omega)
      refine yi_G_iald (36, [(4, .inl k), (3, .inl bl), (2, .inl be), (0, .inr (.inr (some 82))), (1, .inl na)], [.inl (I3 103 (k.toNat)), .inr (.inr (some 82)), .inl 39, .inr (.inr (some 82))], (I3, L5, X), 0, 0) rfl (ym_li hS 20 rfl (by omega) (by omega) rfl) ?_
      refine yi_G_callv rfl rfl (ym_rcv hS) rfl (c_rowOf d (by omega) hS (ym_LR_t (fun k => by rw [f4 88 k (by omega), ← w2, yi_u_ne _ _ (fun z => absurd z.1 (by decide))]) hLR) (by omega) (by omega)) ?_
      rintro _ ⟨z9, rfl, h10a, h10b⟩
      show yi_G zi_Ms d zi_m128 (39, [(4, .inl k), (3, .inl bl), (2, .inl be), (0, .inr (.inr (some 82))), (1, .inl na)], [.inl z9, .inl 39, .inr (.inr (some 82))], (I3, L5, X), 0, 0) _
      have r11 : I3 82 25 = I 82 25 := by rw [f4 82 (25) (by omega), ← w2, yi_u_ne _ _ (by omega)]
      refine yi_G_callv rfl rfl (ym_rcv hS) rfl (w_manyBoth (by omega) hS (by omega) (by omega) (by omega) (by omega) (by rw [r11]; omega) (by rw [r11]; omega)) ?_
      rintro _ ⟨z12, rfl⟩
      show yi_G zi_Ms d zi_m128 (42, [(4, .inl k), (3, .inl bl), (2, .inl be), (0, .inr (.inr (some 82))), (1, .inl na)], [.inl z12], (I3, L5, X), 0, 0) _
      refine yi_G_run 2 (45, [(5, .inl z12), (4, .inl k), (3, .inl bl), (2, .inl be), (0, .inr (.inr (some 82))), (1, .inl na)], [.inl be], (I3, L5, X), 0, 0) (fun _ => rfl) ?_
      by_cases h13 : be < 0
      · refine yi_G_if1 true rfl (yi_lt_t h13) ?_
        refine yi_G_run 4 (76, [(6, .inl 1), (5, .inl z12), (4, .inl k), (3, .inl bl), (2, .inl be), (0, .inr (.inr (some 82))), (1, .inl na)], [.inl 1], (I3, L5, X), 0, 0) (fun _ => rfl) ?_
        refine yi_G_if1 false rfl (by decide) ?_
        refine yi_G_run 1 (80, [(6, .inl 1), (5, .inl z12), (4, .inl k), (3, .inl bl), (2, .inl be), (0, .inr (.inr (some 82))), (1, .inl na)], [.inr (.inr (some 82))], (I3, L5, X), 0, 0) (fun _ => rfl) ?_
        refine yi_G_get (83, [(6, .inl 1), (5, .inl z12), (4, .inl k), (3, .inl bl), (2, .inl be), (0, .inr (.inr (some 82))), (1, .inl na)], [.inr (.inr (some 103))], (I3, L5, X), 0, 0) rfl (ym_gr hS 20 rfl rfl rfl) ?_
        refine yi_G_run 1 (85, [(6, .inl 1), (5, .inl z12), (4, .inl k), (3, .inl bl), (2, .inl be), (0, .inr (.inr (some 82))), (1, .inl na)], [.inl k, .inr (.inr (some 103))], (I3, L5, X), 0, 0) (fun _ => rfl) ?_
        refine yi_G_iald (86, [(6, .inl 1), (5, .inl z12), (4, .inl k), (3, .inl bl), (2, .inl be), (0, .inr (.inr (some 82))), (1, .inl na)], [.inl (I3 103 (k.toNat))], (I3, L5, X), 0, 0) rfl (ym_li hS 20 rfl (by omega) (by omega) rfl) ?_
        refine yi_G_run 3 (93, [(2, .inl (I3 103 (k.toNat))), (6, .inl 1), (5, .inl z12), (4, .inl k), (3, .inl bl), (0, .inr (.inr (some 82))), (1, .inl na)], [.inl 1], (I3, L5, X), 0, 0) (fun _ => rfl) ?_
        refine yi_G_if1 false rfl (by decide) ?_
        refine yi_G_run 3 (103, [(3, .inl z12), (2, .inl (I3 103 (k.toNat))), (6, .inl 1), (5, .inl z12), (4, .inl k), (0, .inr (.inr (some 82))), (1, .inl na)], [], (I3, L5, X), 0, 0) (fun _ => rfl) ?_
        refine yi_G_iinc [(4, .inl (k + 1)), (3, .inl z12), (2, .inl (I3 103 (k.toNat))), (6, .inl 1), (5, .inl z12), (0, .inr (.inr (some 82))), (1, .inl na)] rfl rfl rfl (by rw [show yi_w (k + 1) = k + 1 from (yi_wn (by omega) (by omega)).trans (by omega)]; rfl) ?_
        refine yi_G_run 1 (16, [(4, .inl (k + 1)), (3, .inl z12), (2, .inl (I3 103 (k.toNat))), (6, .inl 1), (5, .inl z12), (0, .inr (.inr (some 82))), (1, .inl na)], [], (I3, L5, X), 0, 0) (fun _ => rfl) ?_
        refine yi_G_al (al := [(4, .inl (k + 1)), (3, .inl z12), (2, .inl (I3 103 (k.toNat))), (0, .inr (.inr (some 82))), (1, .inl na)]) (show ([4, 3, 2, 0, 1] : List Nat).Nodup by decide) (show ([4, 3, 2, 6, 5, 0, 1] : List Nat).Nodup by decide) (yi_mc (List.mem_of_getElem? (i := 0) rfl) (yi_mc (List.mem_of_getElem? (i := 1) rfl) (yi_mc (List.mem_of_getElem? (i := 2) rfl) (yi_mc (List.mem_of_getElem? (i := 5) rfl) (yi_mc (List.mem_of_getElem? (i := 6) rfl) yi_mn))))) ?_
        exact ih16 _ (by omega) (k + 1) (I3 103 (k.toNat)) z12 (by omega) (by omega) rfl
      · refine yi_G_if1 false rfl (yi_lt_f h13) ?_
        refine yi_G_run 1 (49, [(5, .inl z12), (4, .inl k), (3, .inl bl), (2, .inl be), (0, .inr (.inr (some 82))), (1, .inl na)], [.inl na], (I3, L5, X), 0, 0) (fun _ => rfl) ?_
        by_cases h14 : na = 0
        · refine yi_G_if1 true rfl (yi_eq_t h14) ?_
          refine yi_G_run 2 (64, [(5, .inl z12), (4, .inl k), (3, .inl bl), (2, .inl be), (0, .inr (.inr (some 82))), (1, .inl na)], [.inl bl, .inl z12], (I3, L5, X), 0, 0) (fun _ => rfl) ?_
          by_cases h15 : z12 ≤ bl
          · refine yi_G_if2 true rfl (yi_le_t h15) ?_
            refine yi_G_run 3 (76, [(6, .inl 0), (5, .inl z12), (4, .inl k), (3, .inl bl), (2, .inl be), (0, .inr (.inr (some 82))), (1, .inl na)], [.inl 0], (I3, L5, X), 0, 0) (fun _ => rfl) ?_
            refine yi_G_if1 true rfl (by decide) ?_
            refine yi_G_run 3 (93, [(2, .inl be), (6, .inl 0), (5, .inl z12), (4, .inl k), (3, .inl bl), (0, .inr (.inr (some 82))), (1, .inl na)], [.inl 0], (I3, L5, X), 0, 0) (fun _ => rfl) ?_
            refine yi_G_if1 true rfl (by decide) ?_
            refine yi_G_run 2 (103, [(3, .inl bl), (2, .inl be), (6, .inl 0), (5, .inl z12), (4, .inl k), (0, .inr (.inr (some 82))), (1, .inl na)], [], (I3, L5, X), 0, 0) (fun _ => rfl) ?_
            refine yi_G_iinc [(4, .inl (k + 1)), (3, .inl bl), (2, .inl be), (6, .inl 0), (5, .inl z12), (0, .inr (.inr (some 82))), (1, .inl na)] rfl rfl rfl (by rw [show yi_w (k + 1) = k + 1 from (yi_wn (by omega) (by omega)).trans (by omega)]; rfl) ?_
            refine yi_G_run 1 (16, [(4, .inl (k + 1)), (3, .inl bl), (2, .inl be), (6, .inl 0), (5, .inl z12), (0, .inr (.inr (some 82))), (1, .inl na)], [], (I3, L5, X), 0, 0) (fun _ => rfl) ?_
            refine yi_G_al (al := [(4, .inl (k + 1)), (3, .inl bl), (2, .inl be), (0, .inr (.inr (some 82))), (1, .inl na)]) (show ([4, 3, 2, 0, 1] : List Nat).Nodup by decide) (show ([4, 3, 2, 6, 5, 0, 1] : List Nat).Nodup by decide) (yi_mc (List.mem_of_getElem? (i := 0) rfl) (yi_mc (List.mem_of_getElem? (i := 1) rfl) (yi_mc (List.mem_of_getElem? (i := 2) rfl) (yi_mc (List.mem_of_getElem? (i := 5) rfl) (yi_mc (List.mem_of_getElem? (i := 6) rfl) yi_mn))))) ?_
            exact ih16 _ (by omega) (k + 1) be bl (by omega) (by omega) rfl
          · refine yi_G_if2 false rfl (yi_le_f h15) ?_
            refine yi_G_run 4 (76, [(6, .inl 1), (5, .inl z12), (4, .inl k), (3, .inl bl), (2, .inl be), (0, .inr (.inr (some 82))), (1, .inl na)], [.inl 1], (I3, L5, X), 0, 0) (fun _ => rfl) ?_
            refine yi_G_if1 false rfl (by decide) ?_
            refine yi_G_run 1 (80, [(6, .inl 1), (5, .inl z12), (4, .inl k), (3, .inl bl), (2, .inl be), (0, .inr (.inr (some 82))), (1, .inl na)], [.inr (.inr (some 82))], (I3, L5, X), 0, 0) (fun _ => rfl) ?_
            refine yi_G_get (83, [(6, .inl 1), (5, .inl z12), (4, .inl k), (3, .inl bl), (2, .inl be), (0, .inr (.inr (some 82))), (1, .inl na)], [.inr (.inr (some 103))], (I3, L5, X), 0, 0) rfl (ym_gr hS 20 rfl rfl rfl) ?_
            refine yi_G_run 1 (85, [(6, .inl 1), (5, .inl z12), (4, .inl k), (3, .inl bl), (2, .inl be), (0, .inr (.inr (some 82))), (1, .inl na)], [.inl k, .inr (.inr (some 103))], (I3, L5, X), 0, 0) (fun _ => rfl) ?_
            refine yi_G_iald (86, [(6, .inl 1), (5, .inl z12), (4, .inl k), (3, .inl bl), (2, .inl be), (0, .inr (.inr (some 82))), (1, .inl na)], [.inl (I3 103 (k.toNat))], (I3, L5, X), 0, 0) rfl (ym_li hS 20 rfl (by omega) (by omega) rfl) ?_
            refine yi_G_run 3 (93, [(2, .inl (I3 103 (k.toNat))), (6, .inl 1), (5, .inl z12), (4, .inl k), (3, .inl bl), (0, .inr (.inr (some 82))), (1, .inl na)], [.inl 1], (I3, L5, X), 0, 0) (fun _ => rfl) ?_
            refine yi_G_if1 false rfl (by decide) ?_
            refine yi_G_run 3 (103, [(3, .inl z12), (2, .inl (I3 103 (k.toNat))), (6, .inl 1), (5, .inl z12), (4, .inl k), (0, .inr (.inr (some 82))), (1, .inl na)], [], (I3, L5, X), 0, 0) (fun _ => rfl) ?_
            refine yi_G_iinc [(4, .inl (k + 1)), (3, .inl z12), (2, .inl (I3 103 (k.toNat))), (6, .inl 1), (5, .inl z12), (0, .inr (.inr (some 82))), (1, .inl na)] rfl rfl rfl (by rw [show yi_w (k + 1) = k + 1 from (yi_wn (by omega) (by omega)).trans (by omega)]; rfl) ?_
            refine yi_G_run 1 (16, [(4, .inl (k + 1)), (3, .inl z12), (2, .inl (I3 103 (k.toNat))), (6, .inl 1), (5, .inl z12), (0, .inr (.inr (some 82))), (1, .inl na)], [], (I3, L5, X), 0, 0) (fun _ => rfl) ?_
            refine yi_G_al (al := [(4, .inl (k + 1)), (3, .inl z12), (2, .inl (I3 103 (k.toNat))), (0, .inr (.inr (some 82))), (1, .inl na)]) (show ([4, 3, 2, 0, 1] : List Nat).Nodup by decide) (show ([4, 3, 2, 6, 5, 0, 1] : List Nat).Nodup by decide) (yi_mc (List.mem_of_getElem? (i := 0) rfl) (yi_mc (List.mem_of_getElem? (i := 1) rfl) (yi_mc (List.mem_of_getElem? (i := 2) rfl) (yi_mc (List.mem_of_getElem? (i := 5) rfl) (yi_mc (List.mem_of_getElem? (i := 6) rfl) yi_mn))))) ?_
            exact ih16 _ (by omega) (k + 1) (I3 103 (k.toNat)) z12 (by omega) (by omega) rfl
        · refine yi_G_if1 false rfl (yi_eq_f h14) ?_
          refine yi_G_run 2 (55, [(5, .inl z12), (4, .inl k), (3, .inl bl), (2, .inl be), (0, .inr (.inr (some 82))), (1, .inl na)], [.inl bl, .inl z12], (I3, L5, X), 0, 0) (fun _ => rfl) ?_
          by_cases h16 : bl ≤ z12
          · refine yi_G_if2 true rfl (yi_ge_t h16) ?_
            refine yi_G_run 3 (76, [(6, .inl 0), (5, .inl z12), (4, .inl k), (3, .inl bl), (2, .inl be), (0, .inr (.inr (some 82))), (1, .inl na)], [.inl 0], (I3, L5, X), 0, 0) (fun _ => rfl) ?_
            refine yi_G_if1 true rfl (by decide) ?_
            refine yi_G_run 3 (93, [(2, .inl be), (6, .inl 0), (5, .inl z12), (4, .inl k), (3, .inl bl), (0, .inr (.inr (some 82))), (1, .inl na)], [.inl 0], (I3, L5, X), 0, 0) (fun _ => rfl) ?_
            refine yi_G_if1 true rfl (by decide) ?_
            refine yi_G_run 2 (103, [(3, .inl bl), (2, .inl be), (6, .inl 0), (5, .inl z12), (4, .inl k), (0, .inr (.inr (some 82))), (1, .inl na)], [], (I3, L5, X), 0, 0) (fun _ => rfl) ?_
            refine yi_G_iinc [(4, .inl (k + 1)), (3, .inl bl), (2, .inl be), (6, .inl 0), (5, .inl z12), (0, .inr (.inr (some 82))), (1, .inl na)] rfl rfl rfl (by rw [show yi_w (k + 1) = k + 1 from (yi_wn (by omega) (by omega)).trans (by omega)]; rfl) ?_
            refine yi_G_run 1 (16, [(4, .inl (k + 1)), (3, .inl bl), (2, .inl be), (6, .inl 0), (5, .inl z12), (0, .inr (.inr (some 82))), (1, .inl na)], [], (I3, L5, X), 0, 0) (fun _ => rfl) ?_
            refine yi_G_al (al := [(4, .inl (k + 1)), (3, .inl bl), (2, .inl be), (0, .inr (.inr (some 82))), (1, .inl na)]) (show ([4, 3, 2, 0, 1] : List Nat).Nodup by decide) (show ([4, 3, 2, 6, 5, 0, 1] : List Nat).Nodup by decide) (yi_mc (List.mem_of_getElem? (i := 0) rfl) (yi_mc (List.mem_of_getElem? (i := 1) rfl) (yi_mc (List.mem_of_getElem? (i := 2) rfl) (yi_mc (List.mem_of_getElem? (i := 5) rfl) (yi_mc (List.mem_of_getElem? (i := 6) rfl) yi_mn))))) ?_
            exact ih16 _ (by omega) (k + 1) be bl (by omega) (by omega) rfl
          · refine yi_G_if2 false rfl (yi_ge_f h16) ?_
            refine yi_G_run 5 (76, [(6, .inl 1), (5, .inl z12), (4, .inl k), (3, .inl bl), (2, .inl be), (0, .inr (.inr (some 82))), (1, .inl na)], [.inl 1], (I3, L5, X), 0, 0) (fun _ => rfl) ?_
            refine yi_G_if1 false rfl (by decide) ?_
            refine yi_G_run 1 (80, [(6, .inl 1), (5, .inl z12), (4, .inl k), (3, .inl bl), (2, .inl be), (0, .inr (.inr (some 82))), (1, .inl na)], [.inr (.inr (some 82))], (I3, L5, X), 0, 0) (fun _ => rfl) ?_
            refine yi_G_get (83, [(6, .inl 1), (5, .inl z12), (4, .inl k), (3, .inl bl), (2, .inl be), (0, .inr (.inr (some 82))), (1, .inl na)], [.inr (.inr (some 103))], (I3, L5, X), 0, 0) rfl (ym_gr hS 20 rfl rfl rfl) ?_
            refine yi_G_run 1 (85, [(6, .inl 1), (5, .inl z12), (4, .inl k), (3, .inl bl), (2, .inl be), (0, .inr (.inr (some 82))), (1, .inl na)], [.inl k, .inr (.inr (some 103))], (I3, L5, X), 0, 0) (fun _ => rfl) ?_
            refine yi_G_iald (86, [(6, .inl 1), (5, .inl z12), (4, .inl k), (3, .inl bl), (2, .inl be), (0, .inr (.inr (some 82))), (1, .inl na)], [.inl (I3 103 (k.toNat))], (I3, L5, X), 0, 0) rfl (ym_li hS 20 rfl (by omega) (by omega) rfl) ?_
            refine yi_G_run 3 (93, [(2, .inl (I3 103 (k.toNat))), (6, .inl 1), (5, .inl z12), (4, .inl k), (3, .inl bl), (0, .inr (.inr (some 82))), (1, .inl na)], [.inl 1], (I3, L5, X), 0, 0) (fun _ => rfl) ?_
            refine yi_G_if1 false rfl (by decide) ?_
            refine yi_G_run 3 (103, [(3, .inl z12), (2, .inl (I3 103 (k.toNat))), (6, .inl 1), (5, .inl z12), (4, .inl k), (0, .inr (.inr (some 82))), (1, .inl na)], [], (I3, L5, X), 0, 0) (fun _ => rfl) ?_
            refine yi_G_iinc [(4, .inl (k + 1)), (3, .inl z12), (2, .inl (I3 103 (k.toNat))), (6, .inl 1), (5, .inl z12), (0, .inr (.inr (some 82))), (1, .inl na)] rfl rfl rfl (by rw [show yi_w (k + 1) = k + 1 from (yi_wn (by omega) (by omega)).trans (by omega)]; rfl) ?_
            refine yi_G_run 1 (16, [(4, .inl (k + 1)), (3, .inl z12), (2, .inl (I3 103 (k.toNat))), (6, .inl 1), (5, .inl z12), (0, .inr (.inr (some 82))), (1, .inl na)], [], (I3, L5, X), 0, 0) (fun _ => rfl) ?_
            refine yi_G_al (al := [(4, .inl (k + 1)), (3, .inl z12), (2, .inl (I3 103 (k.toNat))), (0, .inr (.inr (some 82))), (1, .inl na)]) (show ([4, 3, 2, 0, 1] : List Nat).Nodup by decide) (show ([4, 3, 2, 6, 5, 0, 1] : List Nat).Nodup by decide) (yi_mc (List.mem_of_getElem? (i := 0) rfl) (yi_mc (List.mem_of_getElem? (i := 1) rfl) (yi_mc (List.mem_of_getElem? (i := 2) rfl) (yi_mc (List.mem_of_getElem? (i := 5) rfl) (yi_mc (List.mem_of_getElem? (i := 6) rfl) yi_mn))))) ?_
            exact ih16 _ (by omega) (k + 1) (I3 103 (k.toNat)) z12 (by omega) (by omega) rfl
  exact pt16 _ 0 (-1) 0 (by omega) (by omega) rfl
theorem c_makes (D : Nat) (hD : 3 ≤ D) {I L : Nat → Nat → Int} {X : ym_X} (hS : ym_S X) {row wo : Int} (h0 : 0 ≤ row) (h1 : row ≤ 311) (h2 : 0 ≤ wo) (h3 : wo ≤ 311) (hl : 0 ≤ I 82 25 ∧ I 82 25 ≤ 512) : yi_E zi_Ms D 78 [.inr (.inr (some 82)), .inl row, .inl wo] (I, L, X) (fun r => r = (some (.inl 1), (I, L, X), 0, 0) ∨ r = (some (.inl 0), (I, L, X), 0, 0)) := by
  obtain ⟨d, rfl⟩ : ∃ d, D = d + 1 := ⟨D - 1, by omega⟩
  refine yi_E_of (M := zi_m78) rfl rfl ?_
  show yi_G zi_Ms d zi_m78 (0, [(0, .inr (.inr (some 82))), (1, .inl row), (2, .inl wo)], [], (I, L, X), 0, 0) _
  refine yi_G_run 2 (2, [(0, .inr (.inr (some 82))), (1, .inl row), (2, .inl wo)], [.inl row, .inr (.inr (some 82))], (I, L, X), 0, 0) (fun _ => rfl) ?_
  refine yi_G_callv rfl rfl (ym_rcv hS) rfl (w_many (by omega) hS (by omega) (by omega) (by omega) (by omega)) ?_
  rintro _ ⟨z1, rfl⟩
  show yi_G zi_Ms d zi_m78 (5, [(0, .inr (.inr (some 82))), (1, .inl row), (2, .inl wo)], [.inl z1], (I, L, X), 0, 0) _
  by_cases h2 : z1 ≤ 0
  · refine yi_G_if1 true rfl (yi_le_t h2) ?_
    refine yi_G_run 1 (22, [(0, .inr (.inr (some 82))), (1, .inl row), (2, .inl wo)], [.inl 0], (I, L, X), 0, 0) (fun _ => rfl) ?_
    exact yi_G_retb rfl rfl (by decide) (Or.inr rfl)
  · refine yi_G_if1 false rfl (yi_le_f h2) ?_
    refine yi_G_run 3 (11, [(0, .inr (.inr (some 82))), (1, .inl row), (2, .inl wo)], [.inl wo, .inl row, .inr (.inr (some 82))], (I, L, X), 0, 0) (fun _ => rfl) ?_
    refine yi_G_callv rfl rfl (ym_rcv hS) rfl (w_isAll (by omega) hS (by omega) (by omega) (by omega) (by omega) (by omega) (by omega)) ?_
    rintro _ (rfl | rfl)
    · show yi_G zi_Ms d zi_m78 (14, [(0, .inr (.inr (some 82))), (1, .inl row), (2, .inl wo)], [.inl 1], (I, L, X), 0, 0) _
      refine yi_G_if1 false rfl (by decide) ?_
      refine yi_G_run 2 (22, [(0, .inr (.inr (some 82))), (1, .inl row), (2, .inl wo)], [.inl 1], (I, L, X), 0, 0) (fun _ => rfl) ?_
      exact yi_G_retb rfl rfl (by decide) (Or.inl rfl)
    · show yi_G zi_Ms d zi_m78 (14, [(0, .inr (.inr (some 82))), (1, .inl row), (2, .inl wo)], [.inl 0], (I, L, X), 0, 0) _
      refine yi_G_if1 true rfl (by decide) ?_
      refine yi_G_run 1 (22, [(0, .inr (.inr (some 82))), (1, .inl row), (2, .inl wo)], [.inl 0], (I, L, X), 0, 0) (fun _ => rfl) ?_
      exact yi_G_retb rfl rfl (by decide) (Or.inr rfl)
theorem c_canWish (D : Nat) (hD : 3 ≤ D) {I L : Nat → Nat → Int} {X : ym_X} (hS : ym_S X) {st : Int} (hLR : ym_LR I) (hl : 0 ≤ I 82 25 ∧ I 82 25 ≤ 512) : yi_E zi_Ms D 8 [.inr (.inr (some 82)), .inl st] (I, L, X) (fun r => ∃ z L', (r = (some (.inl z), (I, L', X), 0, 0) ∧ (z = 0 ∨ z = 1)) ∧ ∀ p k, p ≠ 97 → L' p k = L p k) := by
  obtain ⟨d, rfl⟩ : ∃ d, D = d + 1 := ⟨D - 1, by omega⟩
  refine yi_E_of (M := zi_m8) rfl rfl ?_
  obtain ⟨l0, l1, l2, l3, l4, l5⟩ := id hLR
  show yi_G zi_Ms d zi_m8 (0, [(0, .inr (.inr (some 82))), (1, .inl st)], [], (I, L, X), 0, 0) _
  refine yi_G_run 3 (5, [(0, .inr (.inr (some 82))), (1, .inl st)], [.inl 59, .inl 39, .inr (.inr (some 82))], (I, L, X), 0, 0) (fun _ => rfl) ?_
  refine yi_G_callv rfl rfl (ym_rcv hS) rfl (w_copiesRow (by omega) hS (by omega) (by omega) (by omega) (by omega) (by omega) (by omega)) ?_
  rintro _ ⟨L1, rfl, f2⟩
  show yi_G zi_Ms d zi_m8 (8, [(0, .inr (.inr (some 82))), (1, .inl st)], [], (I, L1, X), 0, 0) _
  refine yi_G_run 2 (10, [(2, .inl 0), (0, .inr (.inr (some 82))), (1, .inl st)], [], (I, L1, X), 0, 0) (fun _ => rfl) ?_
  have pt10 : ∀ (m : Nat) (k : Int) (Ka : Nat → Nat → Int), (∀ p k, p ≠ 97 → Ka p k = L1 p k) → (0 ≤ k) → (k ≤ I 88 5) → (I 88 5 - k).toNat = m → yi_G zi_Ms d zi_m8 (10, [(2, .inl k), (0, .inr (.inr (some 82))), (1, .inl st)], [], (I, Ka, X), 0, 0) (fun r => ∃ z L', (r = (some (.inl z), (I, L', X), 0, 0) ∧ (z = 0 ∨ z = 1)) ∧ ∀ p k, p ≠ 97 → L' p k = L p k) := by
    intro m10
    induction m10 using Nat.strongRecOn with
    | _ m10 ih10 =>
    intro k Ka fKa k0 k1 hm10
    refine yi_G_run 2 (12, [(2, .inl k), (0, .inr (.inr (some 82))), (1, .inl st)], [.inr (.inr (some 82)), .inl k], (I, Ka, X), 0, 0) (fun _ => rfl) ?_
    refine yi_G_get (15, [(2, .inl k), (0, .inr (.inr (some 82))), (1, .inl st)], [.inr (.inr (some 88)), .inl k], (I, Ka, X), 0, 0) rfl (ym_gr hS 5 rfl rfl rfl) ?_
    refine yi_G_run 1 (16, [(2, .inl k), (0, .inr (.inr (some 82))), (1, .inl st)], [.inl 5, .inr (.inr (some 88)), .inl k], (I, Ka, X), 0, 0) (fun _ => rfl) ?_
    refine yi_G_iald (17, [(2, .inl k), (0, .inr (.inr (some 82))), (1, .inl st)], [.inl (I 88 5), .inl k], (I, Ka, X), 0, 0) rfl (ym_li hS 5 rfl (by omega) (by omega) rfl) ?_
    by_cases h3 : (I 88 5) ≤ k
    · refine yi_G_if2 true rfl (yi_ge_t h3) ?_
      refine yi_G_run 2 (47, [(2, .inl k), (0, .inr (.inr (some 82))), (1, .inl st)], [.inl 59, .inr (.inr (some 82))], (I, Ka, X), 0, 0) (fun _ => rfl) ?_
      refine yi_G_callv rfl rfl (ym_rcv hS) rfl (w_many (by omega) hS (by omega) (by omega) (by omega) (by omega)) ?_
      rintro _ ⟨z4, rfl⟩
      show yi_G zi_Ms d zi_m8 (50, [(2, .inl k), (0, .inr (.inr (some 82))), (1, .inl st)], [.inl z4], (I, Ka, X), 0, 0) _
      by_cases h5 : z4 ≤ 0
      · refine yi_G_if1 true rfl (yi_le_t h5) ?_
        refine yi_G_run 1 (58, [(2, .inl k), (0, .inr (.inr (some 82))), (1, .inl st)], [.inl 0], (I, Ka, X), 0, 0) (fun _ => rfl) ?_
        exact yi_G_retb rfl rfl (by decide) (⟨_, _, ⟨rfl, by omega⟩, (fun p k hp => by rw [fKa p k (by omega), f2 p k (by omega)])⟩)
      · refine yi_G_if1 false rfl (yi_le_f h5) ?_
        refine yi_G_run 2 (58, [(2, .inl k), (0, .inr (.inr (some 82))), (1, .inl st)], [.inl 1], (I, Ka, X), 0, 0) (fun _ => rfl) ?_
        exact yi_G_retb rfl rfl (by decide) (⟨_, _, ⟨rfl, by omega⟩, (fun p k hp => by rw [fKa p k (by omega), f2 p k (by omega)])⟩)
    · refine yi_G_if2 false rfl (yi_ge_f h3) ?_
      refine yi_G_run 2 (22, [(2, .inl k), (0, .inr (.inr (some 82))), (1, .inl st)], [.inl k, .inl st], (I, Ka, X), 0, 0) (fun _ => rfl) ?_
      refine yi_G_calls rfl rfl (c_isIn d (by omega) hS) ?_
      rintro _ (⟨c6, rfl⟩ | ⟨c6, rfl⟩)
      · show yi_G zi_Ms d zi_m8 (25, [(2, .inl k), (0, .inr (.inr (some 82))), (1, .inl st)], [.inl 1], (I, Ka, X), 0, 0) _
        refine yi_G_if1 false rfl (by decide) ?_
        refine yi_G_run 4 (34, [(2, .inl k), (0, .inr (.inr (some 82))), (1, .inl st)], [.inl k, .inl 40, .inl 59, .inr (.inr (some 82))], (I, Ka, X), 0, 0) (fun _ => rfl) ?_
        refine yi_G_iadd rfl (40 + k) (yi_wn (by omega) (by omega)) ?_
        refine yi_G_callv rfl rfl (ym_rcv hS) rfl (w_meets (by omega) hS (by omega) (by omega) (by omega) (by omega) (by omega) (by omega)) ?_
        rintro _ ⟨L7, rfl, f8⟩
        show yi_G zi_Ms d zi_m8 (38, [(2, .inl k), (0, .inr (.inr (some 82))), (1, .inl st)], [], (I, L7, X), 0, 0) _
        refine yi_G_iinc [(2, .inl (k + 1)), (0, .inr (.inr (some 82))), (1, .inl st)] rfl rfl rfl (by rw [show yi_w (k + 1) = k + 1 from (yi_wn (by omega) (by omega)).trans (by omega)]; rfl) ?_
        refine yi_G_run 1 (10, [(2, .inl (k + 1)), (0, .inr (.inr (some 82))), (1, .inl st)], [], (I, L7, X), 0, 0) (fun _ => rfl) ?_
        exact ih10 _ (by omega) (k + 1) L7 (fun p k hp => by rw [f8 p k (by omega), fKa p k (by omega)]) (by omega) (by omega) rfl
      · show yi_G zi_Ms d zi_m8 (25, [(2, .inl k), (0, .inr (.inr (some 82))), (1, .inl st)], [.inl 0], (I, Ka, X), 0, 0) _
        refine yi_G_if1 true rfl (by decide) ?_
        refine yi_G_iinc [(2, .inl (k + 1)), (0, .inr (.inr (some 82))), (1, .inl st)] rfl rfl rfl (by rw [show yi_w (k + 1) = k + 1 from (yi_wn (by omega) (by omega)).trans (by omega)]; rfl) ?_
        refine yi_G_run 1 (10, [(2, .inl (k + 1)), (0, .inr (.inr (some 82))), (1, .inl st)], [], (I, Ka, X), 0, 0) (fun _ => rfl) ?_
        exact ih10 _ (by omega) (k + 1) Ka (fun p k hp => by rw [fKa p k (by omega)]) (by omega) (by omega) rfl
  exact pt10 _ 0 L1 (fun _ _ _ => rfl) (by omega) (by omega) rfl
theorem q_auction (D : Nat) (hD : 5 ≤ D) {I L : Nat → Nat → Int} {X : ym_X} (hS : ym_S X) {w : Int} (hLR : ym_LR I) (hS0 : ym_S0 I) (hl : 0 ≤ I 82 25 ∧ I 82 25 ≤ 512) : yi_E zi_Ms D 3 [.inr (.inr (some 82)), .inl w] (I, L, X) (fun r => ∃ z I' L', r = (some (.inl z), (I', L', X), 0, 0) ∧ (∀ p k, p ≠ 96 ∧ p ≠ 99 ∧ p ≠ 103 ∧ p ≠ 104 ∧ p ≠ 105 ∧ p ≠ 106 ∧ p ≠ 107 ∧ p ≠ 108 ∧ ¬ (p = 82 ∧ k = 0) ∧ ¬ (p = 82 ∧ k = 34) ∧ ¬ (p = 82 ∧ k = 35) ∧ ¬ (p = 82 ∧ k = 37) ∧ ¬ (p = 82 ∧ k = 40) → I' p k = I p k) ∧ (∀ p k, p ≠ 97 ∧ ¬ (p = 82 ∧ k = 43) → L' p k = L p k)) := by
  obtain ⟨d, rfl⟩ : ∃ d, D = d + 1 := ⟨D - 1, by omega⟩
  refine yi_E_of (M := zi_m3) rfl rfl ?_
  obtain ⟨l0, l1, l2, l3, l4, l5⟩ := id hLR
  obtain ⟨t0, t1, t2, t3, t4⟩ := id hS0
  show yi_G zi_Ms d zi_m3 (0, [(0, .inr (.inr (some 82))), (1, .inl w)], [], (I, L, X), 0, 0) _
  refine yi_G_run 2 (2, [(0, .inr (.inr (some 82))), (1, .inl w)], [.inl 0, .inr (.inr (some 82))], (I, L, X), 0, 0) (fun _ => rfl) ?_
  refine yi_G_put (5, [(0, .inr (.inr (some 82))), (1, .inl w)], [], ((yi_u I 82 0 0), L, X), 0, 0) rfl (ym_pi hS rfl rfl) ?_
  generalize w2 : yi_u I 82 0 0 = I1
  refine yi_G_run 3 (8, [(0, .inr (.inr (some 82))), (1, .inl w)], [.inl 1, .inl 0, .inl w], (I1, L, X), 0, 0) (fun _ => rfl) ?_
  refine yi_G_calls rfl rfl (c_within d (by omega) hS) ?_
  rintro _ (⟨c3, rfl⟩ | ⟨c3, rfl⟩)
  · show yi_G zi_Ms d zi_m3 (11, [(0, .inr (.inr (some 82))), (1, .inl w)], [.inl 1], (I1, L, X), 0, 0) _
    refine yi_G_if1 true rfl (by decide) ?_
    refine yi_G_run 1 (17, [(0, .inr (.inr (some 82))), (1, .inl w)], [.inr (.inr (some 82))], (I1, L, X), 0, 0) (fun _ => rfl) ?_
    have r7 : I1 82 25 = I 82 25 := by rw [← w2, yi_u_ne _ _ (by omega)]
    refine yi_G_callv rfl rfl (ym_rcv hS) rfl (c_findLeft d (by omega) hS (ym_LR_t (fun k => by rw [← w2, yi_u_ne _ _ (fun z => absurd z.1 (by decide))]) hLR) (ym_S0_t (fun k => by rw [← w2, yi_u_ne _ _ (fun z => absurd z.1 (by decide))]) hS0) ⟨(by rw [r7]; omega), (by rw [r7]; omega)⟩) ?_
    rintro _ ⟨z6, L4, rfl, f5⟩
    show yi_G zi_Ms d zi_m3 (20, [(0, .inr (.inr (some 82))), (1, .inl w)], [.inl z6], (I1, L4, X), 0, 0) _
    refine yi_G_run 7 (28, [(4, .inl 1), (3, .inl 0), (2, .inl 0), (0, .inr (.inr (some 82))), (1, .inl w)], [], (I1, L4, X), 0, 0) (fun _ => rfl) ?_
    have pt28 : ∀ (m : Nat) (s : Int) (be : Int) (mo : Int) (Ka : Nat → Nat → Int), (∀ p k, p ≠ 97 → Ka p k = L4 p k) → (1 ≤ s) → (s ≤ yi_shl 1 (I 88 5)) → (yi_shl 1 (I 88 5) - s).toNat = m → yi_G zi_Ms d zi_m3 (28, [(4, .inl s), (3, .inl mo), (2, .inl be), (0, .inr (.inr (some 82))), (1, .inl w)], [], (I1, Ka, X), 0, 0) (fun r => ∃ z I' L', r = (some (.inl z), (I', L', X), 0, 0) ∧ (∀ p k, p ≠ 96 ∧ p ≠ 99 ∧ p ≠ 103 ∧ p ≠ 104 ∧ p ≠ 105 ∧ p ≠ 106 ∧ p ≠ 107 ∧ p ≠ 108 ∧ ¬ (p = 82 ∧ k = 0) ∧ ¬ (p = 82 ∧ k = 34) ∧ ¬ (p = 82 ∧ k = 35) ∧ ¬ (p = 82 ∧ k = 37) ∧ ¬ (p = 82 ∧ k = 40) → I' p k = I p k) ∧ (∀ p k, p ≠ 97 ∧ ¬ (p = 82 ∧ k = 43) → L' p k = L p k)) := by
      intro m28
      induction m28 using Nat.strongRecOn with
      | _ m28 ih28 =>
      intro s be mo Ka fKa s0 s1 hm28
      refine yi_G_run 3 (32, [(4, .inl s), (3, .inl mo), (2, .inl be), (0, .inr (.inr (some 82))), (1, .inl w)], [.inr (.inr (some 82)), .inl 1, .inl s], (I1, Ka, X), 0, 0) (fun _ => rfl) ?_
      refine yi_G_get (35, [(4, .inl s), (3, .inl mo), (2, .inl be), (0, .inr (.inr (some 82))), (1, .inl w)], [.inr (.inr (some 88)), .inl 1, .inl s], (I1, Ka, X), 0, 0) rfl (ym_gr hS 5 rfl rfl rfl) ?_
      refine yi_G_run 1 (36, [(4, .inl s), (3, .inl mo), (2, .inl be), (0, .inr (.inr (some 82))), (1, .inl w)], [.inl 5, .inr (.inr (some 88)), .inl 1, .inl s], (I1, Ka, X), 0, 0) (fun _ => rfl) ?_
      have r8 : I1 88 5 = I 88 5 := by rw [← w2, yi_u_ne _ _ (by omega)]
      refine yi_G_iald (37, [(4, .inl s), (3, .inl mo), (2, .inl be), (0, .inr (.inr (some 82))), (1, .inl w)], [.inl (I 88 5), .inl 1, .inl s], (I1, Ka, X), 0, 0) rfl (ym_li hS 5 rfl (by omega) (by omega) r8) ?_
      refine yi_G_run 1 (38, [(4, .inl s), (3, .inl mo), (2, .inl be), (0, .inr (.inr (some 82))), (1, .inl w)], [.inl (yi_shl 1 (I 88 5)), .inl s], (I1, Ka, X), 0, 0) (fun _ => rfl) ?_
      have sh := yi_shl1 (s := I 88 5) (by omega) (by omega)
      by_cases h9 : (yi_shl 1 (I 88 5)) ≤ s
      · refine yi_G_if2 true rfl (yi_ge_t h9) ?_
        refine yi_G_run 1 (143, [(4, .inl s), (3, .inl mo), (2, .inl be), (0, .inr (.inr (some 82))), (1, .inl w)], [.inl w], (I1, Ka, X), 0, 0) (fun _ => rfl) ?_
        by_cases h10 : w = 0
        · refine yi_G_if1 false rfl (yi_ne_f h10) ?_
          refine yi_G_run 2 (151, [(4, .inl s), (3, .inl mo), (2, .inl be), (0, .inr (.inr (some 82))), (1, .inl w)], [.inl mo], (I1, Ka, X), 0, 0) (fun _ => rfl) ?_
          exact yi_G_reti rfl rfl (⟨_, _, _, rfl, (fun p k hp => by rw [← w2, yi_u_ne _ _ (fun z => by omega)]), (fun p k hp => by rw [fKa p k (by omega), f5 p k (by omega)])⟩)
        · refine yi_G_if1 true rfl (yi_ne_t h10) ?_
          refine yi_G_run 1 (151, [(4, .inl s), (3, .inl mo), (2, .inl be), (0, .inr (.inr (some 82))), (1, .inl w)], [.inl be], (I1, Ka, X), 0, 0) (fun _ => rfl) ?_
          exact yi_G_reti rfl rfl (⟨_, _, _, rfl, (fun p k hp => by rw [← w2, yi_u_ne _ _ (fun z => by omega)]), (fun p k hp => by rw [fKa p k (by omega), f5 p k (by omega)])⟩)
      · refine yi_G_if2 false rfl (yi_ge_f h9) ?_
        refine yi_G_run 4 (47, [(6, .inl 0), (5, .inl 0), (4, .inl s), (3, .inl mo), (2, .inl be), (0, .inr (.inr (some 82))), (1, .inl w)], [], (I1, Ka, X), 0, 0) (fun _ => rfl) ?_
        have pt47 : ∀ (m : Nat) (k : Int) (co : Int), (0 ≤ k) → (k ≤ I 88 5) → (I 88 5 - k).toNat = m → yi_G zi_Ms d zi_m3 (47, [(6, .inl k), (5, .inl co), (4, .inl s), (3, .inl mo), (2, .inl be), (0, .inr (.inr (some 82))), (1, .inl w)], [], (I1, Ka, X), 0, 0) (fun r => ∃ z I' L', r = (some (.inl z), (I', L', X), 0, 0) ∧ (∀ p k, p ≠ 96 ∧ p ≠ 99 ∧ p ≠ 103 ∧ p ≠ 104 ∧ p ≠ 105 ∧ p ≠ 106 ∧ p ≠ 107 ∧ p ≠ 108 ∧ ¬ (p = 82 ∧ k = 0) ∧ ¬ (p = 82 ∧ k = 34) ∧ ¬ (p = 82 ∧ k = 35) ∧ ¬ (p = 82 ∧ k = 37) ∧ ¬ (p = 82 ∧ k = 40) → I' p k = I p k) ∧ (∀ p k, p ≠ 97 ∧ ¬ (p = 82 ∧ k = 43) → L' p k = L p k)) := by
          intro m47
          induction m47 using Nat.strongRecOn with
          | _ m47 ih47 =>
          intro k co k0 k1 hm47
          refine yi_G_run 2 (50, [(6, .inl k), (5, .inl co), (4, .inl s), (3, .inl mo), (2, .inl be), (0, .inr (.inr (some 82))), (1, .inl w)], [.inr (.inr (some 82)), .inl k], (I1, Ka, X), 0, 0) (fun _ => rfl) ?_
          refine yi_G_get (53, [(6, .inl k), (5, .inl co), (4, .inl s), (3, .inl mo), (2, .inl be), (0, .inr (.inr (some 82))), (1, .inl w)], [.inr (.inr (some 88)), .inl k], (I1, Ka, X), 0, 0) rfl (ym_gr hS 5 rfl rfl rfl) ?_
          refine yi_G_run 1 (54, [(6, .inl k), (5, .inl co), (4, .inl s), (3, .inl mo), (2, .inl be), (0, .inr (.inr (some 82))), (1, .inl w)], [.inl 5, .inr (.inr (some 88)), .inl k], (I1, Ka, X), 0, 0) (fun _ => rfl) ?_
          have r11 : I1 88 5 = I 88 5 := by rw [← w2, yi_u_ne _ _ (by omega)]
          refine yi_G_iald (55, [(6, .inl k), (5, .inl co), (4, .inl s), (3, .inl mo), (2, .inl be), (0, .inr (.inr (some 82))), (1, .inl w)], [.inl (I 88 5), .inl k], (I1, Ka, X), 0, 0) rfl (ym_li hS 5 rfl (by omega) (by omega) r11) ?_
          by_cases h12 : (I 88 5) ≤ k
          · refine yi_G_if2 true rfl (yi_ge_t h12) ?_
            refine yi_G_run 2 (100, [(6, .inl k), (5, .inl co), (4, .inl s), (3, .inl mo), (2, .inl be), (0, .inr (.inr (some 82))), (1, .inl w)], [.inl mo, .inl co], (I1, Ka, X), 0, 0) (fun _ => rfl) ?_
            by_cases h13 : mo < co
            · refine yi_G_if2 true rfl (yi_gt_t h13) ?_
              refine yi_G_run 2 (124, [(6, .inl k), (5, .inl co), (4, .inl s), (3, .inl mo), (2, .inl be), (0, .inr (.inr (some 82))), (1, .inl w)], [.inl s, .inr (.inr (some 82))], (I1, Ka, X), 0, 0) (fun _ => rfl) ?_
              have r18 : I1 82 25 = I 82 25 := by rw [← w2, yi_u_ne _ _ (by omega)]
              refine yi_G_callv rfl rfl (ym_rcv hS) rfl (c_canWish d (by omega) hS (ym_LR_t (fun k => by rw [← w2, yi_u_ne _ _ (fun z => absurd z.1 (by decide))]) hLR) ⟨(by rw [r18]; omega), (by rw [r18]; omega)⟩) ?_
              rintro _ ⟨z16, L14, ⟨rfl, h17⟩, f15⟩
              show yi_G zi_Ms d zi_m3 (127, [(6, .inl k), (5, .inl co), (4, .inl s), (3, .inl mo), (2, .inl be), (0, .inr (.inr (some 82))), (1, .inl w)], [.inl z16], (I1, L14, X), 0, 0) _
              by_cases h19 : z16 = 0
              · refine yi_G_if1 true rfl (yi_eq_t h19) ?_
                refine yi_G_iinc [(4, .inl (s + 1)), (6, .inl k), (5, .inl co), (3, .inl mo), (2, .inl be), (0, .inr (.inr (some 82))), (1, .inl w)] rfl rfl rfl (by rw [show yi_w (s + 1) = s + 1 from (yi_wn (by omega) (by omega)).trans (by omega)]; rfl) ?_
                refine yi_G_run 1 (28, [(4, .inl (s + 1)), (6, .inl k), (5, .inl co), (3, .inl mo), (2, .inl be), (0, .inr (.inr (some 82))), (1, .inl w)], [], (I1, L14, X), 0, 0) (fun _ => rfl) ?_
                refine yi_G_al (al := [(4, .inl (s + 1)), (3, .inl mo), (2, .inl be), (0, .inr (.inr (some 82))), (1, .inl w)]) (show ([4, 3, 2, 0, 1] : List Nat).Nodup by decide) (show ([4, 6, 5, 3, 2, 0, 1] : List Nat).Nodup by decide) (yi_mc (List.mem_of_getElem? (i := 0) rfl) (yi_mc (List.mem_of_getElem? (i := 3) rfl) (yi_mc (List.mem_of_getElem? (i := 4) rfl) (yi_mc (List.mem_of_getElem? (i := 5) rfl) (yi_mc (List.mem_of_getElem? (i := 6) rfl) yi_mn))))) ?_
                exact ih28 _ (by omega) (s + 1) be mo L14 (fun p k hp => by rw [f15 p k (by omega), fKa p k (by omega)]) (by omega) (by have sh := yi_shl1 (s := I 88 5) (by omega) (by omega); omega) rfl
              · refine yi_G_if1 false rfl (yi_eq_f h19) ?_
                refine yi_G_run 4 (136, [(3, .inl co), (2, .inl s), (6, .inl k), (5, .inl co), (4, .inl s), (0, .inr (.inr (some 82))), (1, .inl w)], [], (I1, L14, X), 0, 0) (fun _ => rfl) ?_
                refine yi_G_iinc [(4, .inl (s + 1)), (3, .inl co), (2, .inl s), (6, .inl k), (5, .inl co), (0, .inr (.inr (some 82))), (1, .inl w)] rfl rfl rfl (by rw [show yi_w (s + 1) = s + 1 from (yi_wn (by omega) (by omega)).trans (by omega)]; rfl) ?_
                refine yi_G_run 1 (28, [(4, .inl (s + 1)), (3, .inl co), (2, .inl s), (6, .inl k), (5, .inl co), (0, .inr (.inr (some 82))), (1, .inl w)], [], (I1, L14, X), 0, 0) (fun _ => rfl) ?_
                refine yi_G_al (al := [(4, .inl (s + 1)), (3, .inl co), (2, .inl s), (0, .inr (.inr (some 82))), (1, .inl w)]) (show ([4, 3, 2, 0, 1] : List Nat).Nodup by decide) (show ([4, 3, 2, 6, 5, 0, 1] : List Nat).Nodup by decide) (yi_mc (List.mem_of_getElem? (i := 0) rfl) (yi_mc (List.mem_of_getElem? (i := 1) rfl) (yi_mc (List.mem_of_getElem? (i := 2) rfl) (yi_mc (List.mem_of_getElem? (i := 5) rfl) (yi_mc (List.mem_of_getElem? (i := 6) rfl) yi_mn))))) ?_
                exact ih28 _ (by omega) (s + 1) s co L14 (fun p k hp => by rw [f15 p k (by omega), fKa p k (by omega)]) (by omega) (by have sh := yi_shl1 (s := I 88 5) (by omega) (by omega); omega) rfl
            · refine yi_G_if2 false rfl (yi_gt_f h13) ?_
              refine yi_G_run 2 (106, [(6, .inl k), (5, .inl co), (4, .inl s), (3, .inl mo), (2, .inl be), (0, .inr (.inr (some 82))), (1, .inl w)], [.inl mo, .inl co], (I1, Ka, X), 0, 0) (fun _ => rfl) ?_
              by_cases h20 : co = mo
              · refine yi_G_if2 false rfl (yi_ne_f h20) ?_
                refine yi_G_run 1 (111, [(6, .inl k), (5, .inl co), (4, .inl s), (3, .inl mo), (2, .inl be), (0, .inr (.inr (some 82))), (1, .inl w)], [.inl s], (I1, Ka, X), 0, 0) (fun _ => rfl) ?_
                refine yi_G_calls rfl rfl (c_bitsOf d (by omega) hS) ?_
                rintro _ ⟨z21, rfl, h22a, h22b⟩
                show yi_G zi_Ms d zi_m3 (114, [(6, .inl k), (5, .inl co), (4, .inl s), (3, .inl mo), (2, .inl be), (0, .inr (.inr (some 82))), (1, .inl w)], [.inl z21], (I1, Ka, X), 0, 0) _
                refine yi_G_run 1 (115, [(6, .inl k), (5, .inl co), (4, .inl s), (3, .inl mo), (2, .inl be), (0, .inr (.inr (some 82))), (1, .inl w)], [.inl be, .inl z21], (I1, Ka, X), 0, 0) (fun _ => rfl) ?_
                refine yi_G_calls rfl rfl (c_bitsOf d (by omega) hS) ?_
                rintro _ ⟨z23, rfl, h24a, h24b⟩
                show yi_G zi_Ms d zi_m3 (118, [(6, .inl k), (5, .inl co), (4, .inl s), (3, .inl mo), (2, .inl be), (0, .inr (.inr (some 82))), (1, .inl w)], [.inl z23, .inl z21], (I1, Ka, X), 0, 0) _
                by_cases h25 : z23 ≤ z21
                · refine yi_G_if2 true rfl (yi_ge_t h25) ?_
                  refine yi_G_iinc [(4, .inl (s + 1)), (6, .inl k), (5, .inl co), (3, .inl mo), (2, .inl be), (0, .inr (.inr (some 82))), (1, .inl w)] rfl rfl rfl (by rw [show yi_w (s + 1) = s + 1 from (yi_wn (by omega) (by omega)).trans (by omega)]; rfl) ?_
                  refine yi_G_run 1 (28, [(4, .inl (s + 1)), (6, .inl k), (5, .inl co), (3, .inl mo), (2, .inl be), (0, .inr (.inr (some 82))), (1, .inl w)], [], (I1, Ka, X), 0, 0) (fun _ => rfl) ?_
                  refine yi_G_al (al := [(4, .inl (s + 1)), (3, .inl mo), (2, .inl be), (0, .inr (.inr (some 82))), (1, .inl w)]) (show ([4, 3, 2, 0, 1] : List Nat).Nodup by decide) (show ([4, 6, 5, 3, 2, 0, 1] : List Nat).Nodup by decide) (yi_mc (List.mem_of_getElem? (i := 0) rfl) (yi_mc (List.mem_of_getElem? (i := 3) rfl) (yi_mc (List.mem_of_getElem? (i := 4) rfl) (yi_mc (List.mem_of_getElem? (i := 5) rfl) (yi_mc (List.mem_of_getElem? (i := 6) rfl) yi_mn))))) ?_
                  exact ih28 _ (by omega) (s + 1) be mo Ka (fun p k hp => by rw [fKa p k (by omega)]) (by omega) (by have sh := yi_shl1 (s := I 88 5) (by omega) (by omega); omega) rfl
                · refine yi_G_if2 false rfl (yi_ge_f h25) ?_
                  refine yi_G_run 2 (124, [(6, .inl k), (5, .inl co), (4, .inl s), (3, .inl mo), (2, .inl be), (0, .inr (.inr (some 82))), (1, .inl w)], [.inl s, .inr (.inr (some 82))], (I1, Ka, X), 0, 0) (fun _ => rfl) ?_
                  have r30 : I1 82 25 = I 82 25 := by rw [← w2, yi_u_ne _ _ (by omega)]
                  refine yi_G_callv rfl rfl (ym_rcv hS) rfl (c_canWish d (by omega) hS (ym_LR_t (fun k => by rw [← w2, yi_u_ne _ _ (fun z => absurd z.1 (by decide))]) hLR) ⟨(by rw [r30]; omega), (by rw [r30]; omega)⟩) ?_
                  rintro _ ⟨z28, L26, ⟨rfl, h29⟩, f27⟩
                  show yi_G zi_Ms d zi_m3 (127, [(6, .inl k), (5, .inl co), (4, .inl s), (3, .inl mo), (2, .inl be), (0, .inr (.inr (some 82))), (1, .inl w)], [.inl z28], (I1, L26, X), 0, 0) _
                  by_cases h31 : z28 = 0
                  · refine yi_G_if1 true rfl (yi_eq_t h31) ?_
                    refine yi_G_iinc [(4, .inl (s + 1)), (6, .inl k), (5, .inl co), (3, .inl mo), (2, .inl be), (0, .inr (.inr (some 82))), (1, .inl w)] rfl rfl rfl (by rw [show yi_w (s + 1) = s + 1 from (yi_wn (by omega) (by omega)).trans (by omega)]; rfl) ?_
                    refine yi_G_run 1 (28, [(4, .inl (s + 1)), (6, .inl k), (5, .inl co), (3, .inl mo), (2, .inl be), (0, .inr (.inr (some 82))), (1, .inl w)], [], (I1, L26, X), 0, 0) (fun _ => rfl) ?_
                    refine yi_G_al (al := [(4, .inl (s + 1)), (3, .inl mo), (2, .inl be), (0, .inr (.inr (some 82))), (1, .inl w)]) (show ([4, 3, 2, 0, 1] : List Nat).Nodup by decide) (show ([4, 6, 5, 3, 2, 0, 1] : List Nat).Nodup by decide) (yi_mc (List.mem_of_getElem? (i := 0) rfl) (yi_mc (List.mem_of_getElem? (i := 3) rfl) (yi_mc (List.mem_of_getElem? (i := 4) rfl) (yi_mc (List.mem_of_getElem? (i := 5) rfl) (yi_mc (List.mem_of_getElem? (i := 6) rfl) yi_mn))))) ?_
                    exact ih28 _ (by omega) (s + 1) be mo L26 (fun p k hp => by rw [f27 p k (by omega), fKa p k (by omega)]) (by omega) (by have sh := yi_shl1 (s := I 88 5) (by omega) (by omega); omega) rfl
                  · refine yi_G_if1 false rfl (yi_eq_f h31) ?_
                    refine yi_G_run 4 (136, [(3, .inl co), (2, .inl s), (6, .inl k), (5, .inl co), (4, .inl s), (0, .inr (.inr (some 82))), (1, .inl w)], [], (I1, L26, X), 0, 0) (fun _ => rfl) ?_
                    refine yi_G_iinc [(4, .inl (s + 1)), (3, .inl co), (2, .inl s), (6, .inl k), (5, .inl co), (0, .inr (.inr (some 82))), (1, .inl w)] rfl rfl rfl (by rw [show yi_w (s + 1) = s + 1 from (yi_wn (by omega) (by omega)).trans (by omega)]; rfl) ?_
                    refine yi_G_run 1 (28, [(4, .inl (s + 1)), (3, .inl co), (2, .inl s), (6, .inl k), (5, .inl co), (0, .inr (.inr (some 82))), (1, .inl w)], [], (I1, L26, X), 0, 0) (fun _ => rfl) ?_
                    refine yi_G_al (al := [(4, .inl (s + 1)), (3, .inl co), (2, .inl s), (0, .inr (.inr (some 82))), (1, .inl w)]) (show ([4, 3, 2, 0, 1] : List Nat).Nodup by decide) (show ([4, 3, 2, 6, 5, 0, 1] : List Nat).Nodup by decide) (yi_mc (List.mem_of_getElem? (i := 0) rfl) (yi_mc (List.mem_of_getElem? (i := 1) rfl) (yi_mc (List.mem_of_getElem? (i := 2) rfl) (yi_mc (List.mem_of_getElem? (i := 5) rfl) (yi_mc (List.mem_of_getElem? (i := 6) rfl) yi_mn))))) ?_
                    exact ih28 _ (by omega) (s + 1) s co L26 (fun p k hp => by rw [f27 p k (by omega), fKa p k (by omega)]) (by omega) (by have sh := yi_shl1 (s := I 88 5) (by omega) (by omega); omega) rfl
              · refine yi_G_if2 true rfl (yi_ne_t h20) ?_
                refine yi_G_iinc [(4, .inl (s + 1)), (6, .inl k), (5, .inl co), (3, .inl mo), (2, .inl be), (0, .inr (.inr (some 82))), (1, .inl w)] rfl rfl rfl (by rw [show yi_w (s + 1) = s + 1 from (yi_wn (by omega) (by omega)).trans (by omega)]; rfl) ?_
                refine yi_G_run 1 (28, [(4, .inl (s + 1)), (6, .inl k), (5, .inl co), (3, .inl mo), (2, .inl be), (0, .inr (.inr (some 82))), (1, .inl w)], [], (I1, Ka, X), 0, 0) (fun _ => rfl) ?_
                refine yi_G_al (al := [(4, .inl (s + 1)), (3, .inl mo), (2, .inl be), (0, .inr (.inr (some 82))), (1, .inl w)]) (show ([4, 3, 2, 0, 1] : List Nat).Nodup by decide) (show ([4, 6, 5, 3, 2, 0, 1] : List Nat).Nodup by decide) (yi_mc (List.mem_of_getElem? (i := 0) rfl) (yi_mc (List.mem_of_getElem? (i := 3) rfl) (yi_mc (List.mem_of_getElem? (i := 4) rfl) (yi_mc (List.mem_of_getElem? (i := 5) rfl) (yi_mc (List.mem_of_getElem? (i := 6) rfl) yi_mn))))) ?_
                exact ih28 _ (by omega) (s + 1) be mo Ka (fun p k hp => by rw [fKa p k (by omega)]) (by omega) (by have sh := yi_shl1 (s := I 88 5) (by omega) (by omega); omega) rfl
          · refine yi_G_if2 false rfl (yi_ge_f h12) ?_
            refine yi_G_run 3 (64, [(6, .inl k), (5, .inl co), (4, .inl s), (3, .inl mo), (2, .inl be), (0, .inr (.inr (some 82))), (1, .inl w)], [.inl k, .inl s, .inl co], (I1, Ka, X), 0, 0) (fun _ => rfl) ?_
            refine yi_G_calls rfl rfl (c_isIn d (by omega) hS) ?_
            rintro _ (⟨c32, rfl⟩ | ⟨c32, rfl⟩)
            · show yi_G zi_Ms d zi_m3 (67, [(6, .inl k), (5, .inl co), (4, .inl s), (3, .inl mo), (2, .inl be), (0, .inr (.inr (some 82))), (1, .inl w)], [.inl 1, .inl co], (I1, Ka, X), 0, 0) _
              refine yi_G_if1 false rfl (by decide) ?_
              refine yi_G_run 1 (71, [(6, .inl k), (5, .inl co), (4, .inl s), (3, .inl mo), (2, .inl be), (0, .inr (.inr (some 82))), (1, .inl w)], [.inr (.inr (some 82)), .inl co], (I1, Ka, X), 0, 0) (fun _ => rfl) ?_
              refine yi_G_get (74, [(6, .inl k), (5, .inl co), (4, .inl s), (3, .inl mo), (2, .inl be), (0, .inr (.inr (some 82))), (1, .inl w)], [.inr (.inr (some 88)), .inl co], (I1, Ka, X), 0, 0) rfl (ym_gr hS 5 rfl rfl rfl) ?_
              refine yi_G_run 3 (79, [(6, .inl k), (5, .inl co), (4, .inl s), (3, .inl mo), (2, .inl be), (0, .inr (.inr (some 82))), (1, .inl w)], [.inl k, .inl 3, .inl 25, .inr (.inr (some 88)), .inl co], (I1, Ka, X), 0, 0) (fun _ => rfl) ?_
              refine yi_G_imul rfl (3 * k) (yi_wn (by omega) (by omega)) ?_
              refine yi_G_iadd rfl (25 + (3 * k)) (yi_wn (by omega) (by omega)) ?_
              refine yi_G_run 1 (82, [(6, .inl k), (5, .inl co), (4, .inl s), (3, .inl mo), (2, .inl be), (0, .inr (.inr (some 82))), (1, .inl w)], [.inl 1, .inl (25 + (3 * k)), .inr (.inr (some 88)), .inl co], (I1, Ka, X), 0, 0) (fun _ => rfl) ?_
              refine yi_G_iadd rfl ((25 + (3 * k)) + 1) (yi_wn (by omega) (by omega)) ?_
              have r33 : I1 88 (((25 + (3 * k)) + 1).toNat) = I 88 (((25 + (3 * k)) + 1).toNat) := by rw [← w2, yi_u_ne _ _ (by omega)]
              refine yi_G_iald (84, [(6, .inl k), (5, .inl co), (4, .inl s), (3, .inl mo), (2, .inl be), (0, .inr (.inr (some 82))), (1, .inl w)], [.inl (I 88 (((25 + (3 * k)) + 1).toNat)), .inl co], (I1, Ka, X), 0, 0) rfl (ym_li hS 5 rfl (by omega) (by omega) r33) ?_
              refine yi_G_run 3 (91, [(5, .inl (yi_w (co + (I 88 (((25 + (3 * k)) + 1).toNat))))), (6, .inl k), (4, .inl s), (3, .inl mo), (2, .inl be), (0, .inr (.inr (some 82))), (1, .inl w)], [], (I1, Ka, X), 0, 0) (fun _ => rfl) ?_
              refine yi_G_iinc [(6, .inl (k + 1)), (5, .inl (yi_w (co + (I 88 (((25 + (3 * k)) + 1).toNat))))), (4, .inl s), (3, .inl mo), (2, .inl be), (0, .inr (.inr (some 82))), (1, .inl w)] rfl rfl rfl (by rw [show yi_w (k + 1) = k + 1 from (yi_wn (by omega) (by omega)).trans (by omega)]; rfl) ?_
              refine yi_G_run 1 (47, [(6, .inl (k + 1)), (5, .inl (yi_w (co + (I 88 (((25 + (3 * k)) + 1).toNat))))), (4, .inl s), (3, .inl mo), (2, .inl be), (0, .inr (.inr (some 82))), (1, .inl w)], [], (I1, Ka, X), 0, 0) (fun _ => rfl) ?_
              exact ih47 _ (by omega) (k + 1) (yi_w (co + (I 88 (((25 + (3 * k)) + 1).toNat)))) (by omega) (by omega) rfl
            · show yi_G zi_Ms d zi_m3 (67, [(6, .inl k), (5, .inl co), (4, .inl s), (3, .inl mo), (2, .inl be), (0, .inr (.inr (some 82))), (1, .inl w)], [.inl 0, .inl co], (I1, Ka, X), 0, 0) _
              refine yi_G_if1 true rfl (by decide) ?_
              refine yi_G_run 3 (91, [(5, .inl (yi_w (co + 0))), (6, .inl k), (4, .inl s), (3, .inl mo), (2, .inl be), (0, .inr (.inr (some 82))), (1, .inl w)], [], (I1, Ka, X), 0, 0) (fun _ => rfl) ?_
              refine yi_G_iinc [(6, .inl (k + 1)), (5, .inl (yi_w (co + 0))), (4, .inl s), (3, .inl mo), (2, .inl be), (0, .inr (.inr (some 82))), (1, .inl w)] rfl rfl rfl (by rw [show yi_w (k + 1) = k + 1 from (yi_wn (by omega) (by omega)).trans (by omega)]; rfl) ?_
              refine yi_G_run 1 (47, [(6, .inl (k + 1)), (5, .inl (yi_w (co + 0))), (4, .inl s), (3, .inl mo), (2, .inl be), (0, .inr (.inr (some 82))), (1, .inl w)], [], (I1, Ka, X), 0, 0) (fun _ => rfl) ?_
              exact ih47 _ (by omega) (k + 1) (yi_w (co + 0)) (by omega) (by omega) rfl
        exact pt47 _ 0 0 (by omega) (by omega) rfl
    exact pt28 _ 1 0 0 L4 (fun _ _ _ => rfl) (by omega) (by have sh := yi_shl1 (s := I 88 5) (by omega) (by omega); omega) rfl
  · show yi_G zi_Ms d zi_m3 (11, [(0, .inr (.inr (some 82))), (1, .inl w)], [.inl 0], (I1, L, X), 0, 0) _
    refine yi_G_if1 false rfl (by decide) ?_
    refine yi_G_run 1 (15, [(0, .inr (.inr (some 82))), (1, .inl w)], [.inl (-1)], (I1, L, X), 0, 0) (fun _ => rfl) ?_
    exact yi_G_reti rfl rfl (⟨_, _, _, rfl, (fun p k hp => by rw [← w2, yi_u_ne _ _ (fun z => by omega)]), (fun _ _ _ => rfl)⟩)
