/-! Calls that only ask. -/
theorem c_isWord3 (D : Nat) (hD : 3 ≤ D) {I L : Nat → Nat → Int} {X : ym_X} (hS : ym_S X) {p da ev pn dn en : Int} (e1 : I 88 1 = pn) (e0 : I 88 0 = dn) (e2 : I 88 2 = en) : yi_E zi_Ms D 65 [.inr (.inr (some 82)), .inl p, .inl da, .inl ev] (I, L, X) (fun r => (((0 ≤ p ∧ p < pn) ∧ (1 ≤ da ∧ da ≤ dn) ∧ (0 ≤ ev ∧ ev < en)) ∧ r = (some (.inl 1), (I, L, X), 0, 0)) ∨ (¬ ((0 ≤ p ∧ p < pn) ∧ (1 ≤ da ∧ da ≤ dn) ∧ (0 ≤ ev ∧ ev < en)) ∧ r = (some (.inl 0), (I, L, X), 0, 0))) := by
  obtain ⟨d, rfl⟩ : ∃ d, D = d + 1 := ⟨D - 1, by omega⟩
  refine yi_E_of (M := zi_m65) rfl rfl ?_
  subst e1 e0 e2
  show yi_G zi_Ms d zi_m65 (0, [(0, .inr (.inr (some 82))), (1, .inl p), (2, .inl da), (3, .inl ev)], [], (I, L, X), 0, 0) _
  refine yi_G_run 2 (2, [(0, .inr (.inr (some 82))), (1, .inl p), (2, .inl da), (3, .inl ev)], [.inl p, .inr (.inr (some 82))], (I, L, X), 0, 0) (fun _ => rfl) ?_
  refine yi_G_callv rfl rfl (ym_rcv hS) rfl (c_isPerson d (by omega) hS rfl) ?_
  rintro _ (⟨c1, rfl⟩ | ⟨c1, rfl⟩)
  · show yi_G zi_Ms d zi_m65 (5, [(0, .inr (.inr (some 82))), (1, .inl p), (2, .inl da), (3, .inl ev)], [.inl 1], (I, L, X), 0, 0) _
    refine yi_G_if1 false rfl (by decide) ?_
    refine yi_G_run 2 (10, [(0, .inr (.inr (some 82))), (1, .inl p), (2, .inl da), (3, .inl ev)], [.inl da, .inr (.inr (some 82))], (I, L, X), 0, 0) (fun _ => rfl) ?_
    refine yi_G_callv rfl rfl (ym_rcv hS) rfl (c_isDay d (by omega) hS rfl) ?_
    rintro _ (⟨c2, rfl⟩ | ⟨c2, rfl⟩)
    · show yi_G zi_Ms d zi_m65 (13, [(0, .inr (.inr (some 82))), (1, .inl p), (2, .inl da), (3, .inl ev)], [.inl 1], (I, L, X), 0, 0) _
      refine yi_G_if1 false rfl (by decide) ?_
      refine yi_G_run 2 (18, [(0, .inr (.inr (some 82))), (1, .inl p), (2, .inl da), (3, .inl ev)], [.inl ev, .inr (.inr (some 82))], (I, L, X), 0, 0) (fun _ => rfl) ?_
      refine yi_G_callv rfl rfl (ym_rcv hS) rfl (c_isEvent d (by omega) hS rfl) ?_
      rintro _ (⟨c3, rfl⟩ | ⟨c3, rfl⟩)
      · show yi_G zi_Ms d zi_m65 (21, [(0, .inr (.inr (some 82))), (1, .inl p), (2, .inl da), (3, .inl ev)], [.inl 1], (I, L, X), 0, 0) _
        refine yi_G_if1 false rfl (by decide) ?_
        refine yi_G_run 2 (29, [(0, .inr (.inr (some 82))), (1, .inl p), (2, .inl da), (3, .inl ev)], [.inl 1], (I, L, X), 0, 0) (fun _ => rfl) ?_
        exact yi_G_retb rfl rfl (by decide) (Or.inl ⟨by omega, rfl⟩)
      · show yi_G zi_Ms d zi_m65 (21, [(0, .inr (.inr (some 82))), (1, .inl p), (2, .inl da), (3, .inl ev)], [.inl 0], (I, L, X), 0, 0) _
        refine yi_G_if1 true rfl (by decide) ?_
        refine yi_G_run 1 (29, [(0, .inr (.inr (some 82))), (1, .inl p), (2, .inl da), (3, .inl ev)], [.inl 0], (I, L, X), 0, 0) (fun _ => rfl) ?_
        exact yi_G_retb rfl rfl (by decide) (Or.inr ⟨by omega, rfl⟩)
    · show yi_G zi_Ms d zi_m65 (13, [(0, .inr (.inr (some 82))), (1, .inl p), (2, .inl da), (3, .inl ev)], [.inl 0], (I, L, X), 0, 0) _
      refine yi_G_if1 true rfl (by decide) ?_
      refine yi_G_run 1 (29, [(0, .inr (.inr (some 82))), (1, .inl p), (2, .inl da), (3, .inl ev)], [.inl 0], (I, L, X), 0, 0) (fun _ => rfl) ?_
      exact yi_G_retb rfl rfl (by decide) (Or.inr ⟨by omega, rfl⟩)
  · show yi_G zi_Ms d zi_m65 (5, [(0, .inr (.inr (some 82))), (1, .inl p), (2, .inl da), (3, .inl ev)], [.inl 0], (I, L, X), 0, 0) _
    refine yi_G_if1 true rfl (by decide) ?_
    refine yi_G_run 1 (29, [(0, .inr (.inr (some 82))), (1, .inl p), (2, .inl da), (3, .inl ev)], [.inl 0], (I, L, X), 0, 0) (fun _ => rfl) ?_
    exact yi_G_retb rfl rfl (by decide) (Or.inr ⟨by omega, rfl⟩)
theorem q_tall (D : Nat) (hD : 4 ≤ D) {I L : Nat → Nat → Int} {X : ym_X} (hS : ym_S X) {p : Int} (hLR : ym_LR I) (hS0 : ym_S0 I) (hl : 0 ≤ I 82 25 ∧ I 82 25 ≤ 512) : yi_E zi_Ms D 121 [.inr (.inr (some 82)), .inl p] (I, L, X) (fun r => ∃ z I' L', r = (some (.inl z), (I', L', X), 0, 0) ∧ (∀ p k, p ≠ 96 ∧ p ≠ 99 ∧ p ≠ 103 ∧ p ≠ 104 ∧ p ≠ 105 ∧ p ≠ 106 ∧ p ≠ 107 ∧ p ≠ 108 ∧ ¬ (p = 82 ∧ k = 0) ∧ ¬ (p = 82 ∧ k = 34) ∧ ¬ (p = 82 ∧ k = 35) ∧ ¬ (p = 82 ∧ k = 37) ∧ ¬ (p = 82 ∧ k = 40) → I' p k = I p k) ∧ (∀ p k, p ≠ 97 ∧ ¬ (p = 82 ∧ k = 43) → L' p k = L p k)) := by
  obtain ⟨d, rfl⟩ : ∃ d, D = d + 1 := ⟨D - 1, by omega⟩
  refine yi_E_of (M := zi_m121) rfl rfl ?_
  obtain ⟨l0, l1, l2, l3, l4, l5⟩ := id hLR
  obtain ⟨t0, t1, t2, t3, t4⟩ := id hS0
  show yi_G zi_Ms d zi_m121 (0, [(0, .inr (.inr (some 82))), (1, .inl p)], [], (I, L, X), 0, 0) _
  refine yi_G_run 2 (2, [(0, .inr (.inr (some 82))), (1, .inl p)], [.inl 0, .inr (.inr (some 82))], (I, L, X), 0, 0) (fun _ => rfl) ?_
  refine yi_G_put (5, [(0, .inr (.inr (some 82))), (1, .inl p)], [], ((yi_u I 82 0 0), L, X), 0, 0) rfl (ym_pi hS rfl rfl) ?_
  generalize w2 : yi_u I 82 0 0 = I1
  refine yi_G_run 2 (7, [(0, .inr (.inr (some 82))), (1, .inl p)], [.inl p, .inr (.inr (some 82))], (I1, L, X), 0, 0) (fun _ => rfl) ?_
  have r4 : I1 88 1 = I 88 1 := by rw [← w2, yi_u_ne _ _ (by omega)]
  refine yi_G_callv rfl rfl (ym_rcv hS) rfl (c_isPerson d (by omega) hS r4) ?_
  rintro _ (⟨c3, rfl⟩ | ⟨c3, rfl⟩)
  · show yi_G zi_Ms d zi_m121 (10, [(0, .inr (.inr (some 82))), (1, .inl p)], [.inl 1], (I1, L, X), 0, 0) _
    refine yi_G_if1 false rfl (by decide) ?_
    refine yi_G_run 1 (14, [(0, .inr (.inr (some 82))), (1, .inl p)], [.inr (.inr (some 82))], (I1, L, X), 0, 0) (fun _ => rfl) ?_
    refine yi_G_get (17, [(0, .inr (.inr (some 82))), (1, .inl p)], [.inr (.inr (some 88))], (I1, L, X), 0, 0) rfl (ym_gr hS 5 rfl rfl rfl) ?_
    refine yi_G_run 2 (20, [(0, .inr (.inr (some 82))), (1, .inl p)], [.inl p, .inl 7, .inr (.inr (some 88))], (I1, L, X), 0, 0) (fun _ => rfl) ?_
    refine yi_G_iadd rfl (7 + p) (yi_wn (by omega) (by omega)) ?_
    have r5 : I1 88 ((7 + p).toNat) = I 88 ((7 + p).toNat) := by rw [← w2, yi_u_ne _ _ (by omega)]
    refine yi_G_iald (22, [(0, .inr (.inr (some 82))), (1, .inl p)], [.inl (I 88 ((7 + p).toNat))], (I1, L, X), 0, 0) rfl (ym_li hS 5 rfl (by omega) (by omega) r5) ?_
    refine yi_G_run 1 (26, [(0, .inr (.inr (some 82))), (1, .inl p)], [.inl (I 88 ((7 + p).toNat))], (I1, L, X), 0, 0) (fun _ => rfl) ?_
    exact yi_G_reti rfl rfl (⟨_, _, _, rfl, (fun p k hp => by rw [← w2, yi_u_ne _ _ (fun z => by omega)]), (fun _ _ _ => rfl)⟩)
  · show yi_G zi_Ms d zi_m121 (10, [(0, .inr (.inr (some 82))), (1, .inl p)], [.inl 0], (I1, L, X), 0, 0) _
    refine yi_G_if1 true rfl (by decide) ?_
    refine yi_G_run 1 (26, [(0, .inr (.inr (some 82))), (1, .inl p)], [.inl (-1)], (I1, L, X), 0, 0) (fun _ => rfl) ?_
    exact yi_G_reti rfl rfl (⟨_, _, _, rfl, (fun p k hp => by rw [← w2, yi_u_ne _ _ (fun z => by omega)]), (fun _ _ _ => rfl)⟩)
theorem q_came (D : Nat) (hD : 4 ≤ D) {I L : Nat → Nat → Int} {X : ym_X} (hS : ym_S X) {p da : Int} (hLR : ym_LR I) (hS0 : ym_S0 I) (hl : 0 ≤ I 82 25 ∧ I 82 25 ≤ 512) : yi_E zi_Ms D 7 [.inr (.inr (some 82)), .inl p, .inl da] (I, L, X) (fun r => ∃ z I' L', r = (some (.inl z), (I', L', X), 0, 0) ∧ (∀ p k, p ≠ 96 ∧ p ≠ 99 ∧ p ≠ 103 ∧ p ≠ 104 ∧ p ≠ 105 ∧ p ≠ 106 ∧ p ≠ 107 ∧ p ≠ 108 ∧ ¬ (p = 82 ∧ k = 0) ∧ ¬ (p = 82 ∧ k = 34) ∧ ¬ (p = 82 ∧ k = 35) ∧ ¬ (p = 82 ∧ k = 37) ∧ ¬ (p = 82 ∧ k = 40) → I' p k = I p k) ∧ (∀ p k, p ≠ 97 ∧ ¬ (p = 82 ∧ k = 43) → L' p k = L p k)) := by
  obtain ⟨d, rfl⟩ : ∃ d, D = d + 1 := ⟨D - 1, by omega⟩
  refine yi_E_of (M := zi_m7) rfl rfl ?_
  obtain ⟨l0, l1, l2, l3, l4, l5⟩ := id hLR
  obtain ⟨t0, t1, t2, t3, t4⟩ := id hS0
  show yi_G zi_Ms d zi_m7 (0, [(0, .inr (.inr (some 82))), (1, .inl p), (2, .inl da)], [], (I, L, X), 0, 0) _
  refine yi_G_run 2 (2, [(0, .inr (.inr (some 82))), (1, .inl p), (2, .inl da)], [.inl 0, .inr (.inr (some 82))], (I, L, X), 0, 0) (fun _ => rfl) ?_
  refine yi_G_put (5, [(0, .inr (.inr (some 82))), (1, .inl p), (2, .inl da)], [], ((yi_u I 82 0 0), L, X), 0, 0) rfl (ym_pi hS rfl rfl) ?_
  generalize w2 : yi_u I 82 0 0 = I1
  refine yi_G_run 2 (7, [(0, .inr (.inr (some 82))), (1, .inl p), (2, .inl da)], [.inl p, .inr (.inr (some 82))], (I1, L, X), 0, 0) (fun _ => rfl) ?_
  have r4 : I1 88 1 = I 88 1 := by rw [← w2, yi_u_ne _ _ (by omega)]
  refine yi_G_callv rfl rfl (ym_rcv hS) rfl (c_isPerson d (by omega) hS r4) ?_
  rintro _ (⟨c3, rfl⟩ | ⟨c3, rfl⟩)
  · show yi_G zi_Ms d zi_m7 (10, [(0, .inr (.inr (some 82))), (1, .inl p), (2, .inl da)], [.inl 1], (I1, L, X), 0, 0) _
    refine yi_G_if1 false rfl (by decide) ?_
    refine yi_G_run 2 (15, [(0, .inr (.inr (some 82))), (1, .inl p), (2, .inl da)], [.inl da, .inr (.inr (some 82))], (I1, L, X), 0, 0) (fun _ => rfl) ?_
    have r6 : I1 88 0 = I 88 0 := by rw [← w2, yi_u_ne _ _ (by omega)]
    refine yi_G_callv rfl rfl (ym_rcv hS) rfl (c_isDay d (by omega) hS r6) ?_
    rintro _ (⟨c5, rfl⟩ | ⟨c5, rfl⟩)
    · show yi_G zi_Ms d zi_m7 (18, [(0, .inr (.inr (some 82))), (1, .inl p), (2, .inl da)], [.inl 1], (I1, L, X), 0, 0) _
      refine yi_G_if1 false rfl (by decide) ?_
      refine yi_G_run 1 (22, [(0, .inr (.inr (some 82))), (1, .inl p), (2, .inl da)], [.inr (.inr (some 82))], (I1, L, X), 0, 0) (fun _ => rfl) ?_
      refine yi_G_get (25, [(0, .inr (.inr (some 82))), (1, .inl p), (2, .inl da)], [.inr (.inr (some 100))], (I1, L, X), 0, 0) rfl (ym_gr hS 17 rfl rfl rfl) ?_
      refine yi_G_run 2 (28, [(0, .inr (.inr (some 82))), (1, .inl p), (2, .inl da)], [.inr (.inr (some 82)), .inl 44, .inr (.inr (some 100))], (I1, L, X), 0, 0) (fun _ => rfl) ?_
      have r7 : I1 88 1 = I 88 1 := by rw [← w2, yi_u_ne _ _ (by omega)]
      refine yi_G_callv rfl rfl (ym_rcv hS) rfl (c_people d (by omega) hS r7) ?_
      rintro _ rfl
      show yi_G zi_Ms d zi_m7 (31, [(0, .inr (.inr (some 82))), (1, .inl p), (2, .inl da)], [.inl (I 88 1), .inl 44, .inr (.inr (some 100))], (I1, L, X), 0, 0) _
      refine yi_G_run 2 (33, [(0, .inr (.inr (some 82))), (1, .inl p), (2, .inl da)], [.inl 1, .inl da, .inl (I 88 1), .inl 44, .inr (.inr (some 100))], (I1, L, X), 0, 0) (fun _ => rfl) ?_
      refine yi_G_isub rfl (da - 1) (yi_wn (by omega) (by omega)) ?_
      have mb8 := yi_mb (a := I 88 1) (b := da - 1) (A := 4) (B := 5) (by omega) (by omega) (by omega) (by omega)
      refine yi_G_imul rfl ((I 88 1) * (da - 1)) (yi_wn (by omega) (by omega)) ?_
      refine yi_G_iadd rfl (44 + ((I 88 1) * (da - 1))) (yi_wn (by omega) (by omega)) ?_
      refine yi_G_run 1 (37, [(0, .inr (.inr (some 82))), (1, .inl p), (2, .inl da)], [.inl p, .inl (44 + ((I 88 1) * (da - 1))), .inr (.inr (some 100))], (I1, L, X), 0, 0) (fun _ => rfl) ?_
      refine yi_G_iadd rfl ((44 + ((I 88 1) * (da - 1))) + p) (yi_wn (by omega) (by omega)) ?_
      have r9 : I1 100 (((44 + ((I 88 1) * (da - 1))) + p).toNat) = I 100 (((44 + ((I 88 1) * (da - 1))) + p).toNat) := by rw [← w2, yi_u_ne _ _ (by omega)]
      refine yi_G_iald (39, [(0, .inr (.inr (some 82))), (1, .inl p), (2, .inl da)], [.inl (I 100 (((44 + ((I 88 1) * (da - 1))) + p).toNat))], (I1, L, X), 0, 0) rfl (ym_li hS 17 rfl (by omega) (by omega) r9) ?_
      refine yi_G_run 1 (43, [(0, .inr (.inr (some 82))), (1, .inl p), (2, .inl da)], [.inl (I 100 (((44 + ((I 88 1) * (da - 1))) + p).toNat))], (I1, L, X), 0, 0) (fun _ => rfl) ?_
      exact yi_G_reti rfl rfl (⟨_, _, _, rfl, (fun p k hp => by rw [← w2, yi_u_ne _ _ (fun z => by omega)]), (fun _ _ _ => rfl)⟩)
    · show yi_G zi_Ms d zi_m7 (18, [(0, .inr (.inr (some 82))), (1, .inl p), (2, .inl da)], [.inl 0], (I1, L, X), 0, 0) _
      refine yi_G_if1 true rfl (by decide) ?_
      refine yi_G_run 1 (43, [(0, .inr (.inr (some 82))), (1, .inl p), (2, .inl da)], [.inl (-1)], (I1, L, X), 0, 0) (fun _ => rfl) ?_
      exact yi_G_reti rfl rfl (⟨_, _, _, rfl, (fun p k hp => by rw [← w2, yi_u_ne _ _ (fun z => by omega)]), (fun _ _ _ => rfl)⟩)
  · show yi_G zi_Ms d zi_m7 (10, [(0, .inr (.inr (some 82))), (1, .inl p), (2, .inl da)], [.inl 0], (I1, L, X), 0, 0) _
    refine yi_G_if1 true rfl (by decide) ?_
    refine yi_G_run 1 (43, [(0, .inr (.inr (some 82))), (1, .inl p), (2, .inl da)], [.inl (-1)], (I1, L, X), 0, 0) (fun _ => rfl) ?_
    exact yi_G_reti rfl rfl (⟨_, _, _, rfl, (fun p k hp => by rw [← w2, yi_u_ne _ _ (fun z => by omega)]), (fun _ _ _ => rfl)⟩)
theorem q_count (D : Nat) (hD : 4 ≤ D) {I L : Nat → Nat → Int} {X : ym_X} (hS : ym_S X) {w : Int} (hLR : ym_LR I) (hS0 : ym_S0 I) (hl : 0 ≤ I 82 25 ∧ I 82 25 ≤ 512) : yi_E zi_Ms D 15 [.inr (.inr (some 82)), .inl w] (I, L, X) (fun r => ∃ z I' L', r = (some (.inl z), (I', L', X), 0, 0) ∧ (∀ p k, p ≠ 96 ∧ p ≠ 99 ∧ p ≠ 103 ∧ p ≠ 104 ∧ p ≠ 105 ∧ p ≠ 106 ∧ p ≠ 107 ∧ p ≠ 108 ∧ ¬ (p = 82 ∧ k = 0) ∧ ¬ (p = 82 ∧ k = 34) ∧ ¬ (p = 82 ∧ k = 35) ∧ ¬ (p = 82 ∧ k = 37) ∧ ¬ (p = 82 ∧ k = 40) → I' p k = I p k) ∧ (∀ p k, p ≠ 97 ∧ ¬ (p = 82 ∧ k = 43) → L' p k = L p k)) := by
  obtain ⟨d, rfl⟩ : ∃ d, D = d + 1 := ⟨D - 1, by omega⟩
  refine yi_E_of (M := zi_m15) rfl rfl ?_
  obtain ⟨l0, l1, l2, l3, l4, l5⟩ := id hLR
  obtain ⟨t0, t1, t2, t3, t4⟩ := id hS0
  show yi_G zi_Ms d zi_m15 (0, [(0, .inr (.inr (some 82))), (1, .inl w)], [], (I, L, X), 0, 0) _
  refine yi_G_run 2 (2, [(0, .inr (.inr (some 82))), (1, .inl w)], [.inl 0, .inr (.inr (some 82))], (I, L, X), 0, 0) (fun _ => rfl) ?_
  refine yi_G_put (5, [(0, .inr (.inr (some 82))), (1, .inl w)], [], ((yi_u I 82 0 0), L, X), 0, 0) rfl (ym_pi hS rfl rfl) ?_
  generalize w2 : yi_u I 82 0 0 = I1
  refine yi_G_run 1 (6, [(0, .inr (.inr (some 82))), (1, .inl w)], [.inl w], (I1, L, X), 0, 0) (fun _ => rfl) ?_
  by_cases h3 : w = 0
  · refine yi_G_tsi 0 rfl (by omega) (by decide) rfl ?_
    refine yi_G_run 1 (69, [(0, .inr (.inr (some 82))), (1, .inl w)], [.inr (.inr (some 82))], (I1, L, X), 0, 0) (fun _ => rfl) ?_
    have r4 : I1 88 0 = I 88 0 := by rw [← w2, yi_u_ne _ _ (by omega)]
    refine yi_G_callv rfl rfl (ym_rcv hS) rfl (c_days d (by omega) hS r4) ?_
    rintro _ rfl
    show yi_G zi_Ms d zi_m15 (72, [(0, .inr (.inr (some 82))), (1, .inl w)], [.inl (I 88 0)], (I1, L, X), 0, 0) _
    exact yi_G_reti rfl rfl (⟨_, _, _, rfl, (fun p k hp => by rw [← w2, yi_u_ne _ _ (fun z => by omega)]), (fun _ _ _ => rfl)⟩)
  by_cases h5 : w = 1
  · refine yi_G_tsi 1 rfl (by omega) (by decide) rfl ?_
    refine yi_G_run 1 (74, [(0, .inr (.inr (some 82))), (1, .inl w)], [.inr (.inr (some 82))], (I1, L, X), 0, 0) (fun _ => rfl) ?_
    have r6 : I1 88 1 = I 88 1 := by rw [← w2, yi_u_ne _ _ (by omega)]
    refine yi_G_callv rfl rfl (ym_rcv hS) rfl (c_people d (by omega) hS r6) ?_
    rintro _ rfl
    show yi_G zi_Ms d zi_m15 (77, [(0, .inr (.inr (some 82))), (1, .inl w)], [.inl (I 88 1)], (I1, L, X), 0, 0) _
    exact yi_G_reti rfl rfl (⟨_, _, _, rfl, (fun p k hp => by rw [← w2, yi_u_ne _ _ (fun z => by omega)]), (fun _ _ _ => rfl)⟩)
  by_cases h7 : w = 2
  · refine yi_G_tsi 2 rfl (by omega) (by decide) rfl ?_
    refine yi_G_run 1 (79, [(0, .inr (.inr (some 82))), (1, .inl w)], [.inr (.inr (some 82))], (I1, L, X), 0, 0) (fun _ => rfl) ?_
    have r8 : I1 88 2 = I 88 2 := by rw [← w2, yi_u_ne _ _ (by omega)]
    refine yi_G_callv rfl rfl (ym_rcv hS) rfl (c_events d (by omega) hS r8) ?_
    rintro _ rfl
    show yi_G zi_Ms d zi_m15 (82, [(0, .inr (.inr (some 82))), (1, .inl w)], [.inl (I 88 2)], (I1, L, X), 0, 0) _
    exact yi_G_reti rfl rfl (⟨_, _, _, rfl, (fun p k hp => by rw [← w2, yi_u_ne _ _ (fun z => by omega)]), (fun _ _ _ => rfl)⟩)
  by_cases h9 : w = 3
  · refine yi_G_tsi 3 rfl (by omega) (by decide) rfl ?_
    refine yi_G_run 1 (84, [(0, .inr (.inr (some 82))), (1, .inl w)], [.inr (.inr (some 82))], (I1, L, X), 0, 0) (fun _ => rfl) ?_
    refine yi_G_get (87, [(0, .inr (.inr (some 82))), (1, .inl w)], [.inr (.inr (some 88))], (I1, L, X), 0, 0) rfl (ym_gr hS 5 rfl rfl rfl) ?_
    refine yi_G_run 1 (88, [(0, .inr (.inr (some 82))), (1, .inl w)], [.inl 3, .inr (.inr (some 88))], (I1, L, X), 0, 0) (fun _ => rfl) ?_
    have r10 : I1 88 3 = I 88 3 := by rw [← w2, yi_u_ne _ _ (by omega)]
    refine yi_G_iald (89, [(0, .inr (.inr (some 82))), (1, .inl w)], [.inl (I 88 3)], (I1, L, X), 0, 0) rfl (ym_li hS 5 rfl (by omega) (by omega) r10) ?_
    exact yi_G_reti rfl rfl (⟨_, _, _, rfl, (fun p k hp => by rw [← w2, yi_u_ne _ _ (fun z => by omega)]), (fun _ _ _ => rfl)⟩)
  by_cases h11 : w = 4
  · refine yi_G_tsi 4 rfl (by omega) (by decide) rfl ?_
    refine yi_G_run 1 (91, [(0, .inr (.inr (some 82))), (1, .inl w)], [.inr (.inr (some 82))], (I1, L, X), 0, 0) (fun _ => rfl) ?_
    refine yi_G_get (94, [(0, .inr (.inr (some 82))), (1, .inl w)], [.inr (.inr (some 88))], (I1, L, X), 0, 0) rfl (ym_gr hS 5 rfl rfl rfl) ?_
    refine yi_G_run 1 (95, [(0, .inr (.inr (some 82))), (1, .inl w)], [.inl 4, .inr (.inr (some 88))], (I1, L, X), 0, 0) (fun _ => rfl) ?_
    have r12 : I1 88 4 = I 88 4 := by rw [← w2, yi_u_ne _ _ (by omega)]
    refine yi_G_iald (96, [(0, .inr (.inr (some 82))), (1, .inl w)], [.inl (I 88 4)], (I1, L, X), 0, 0) rfl (ym_li hS 5 rfl (by omega) (by omega) r12) ?_
    exact yi_G_reti rfl rfl (⟨_, _, _, rfl, (fun p k hp => by rw [← w2, yi_u_ne _ _ (fun z => by omega)]), (fun _ _ _ => rfl)⟩)
  by_cases h13 : w = 5
  · refine yi_G_tsi 5 rfl (by omega) (by decide) rfl ?_
    refine yi_G_run 1 (98, [(0, .inr (.inr (some 82))), (1, .inl w)], [.inr (.inr (some 82))], (I1, L, X), 0, 0) (fun _ => rfl) ?_
    refine yi_G_get (101, [(0, .inr (.inr (some 82))), (1, .inl w)], [.inr (.inr (some 88))], (I1, L, X), 0, 0) rfl (ym_gr hS 5 rfl rfl rfl) ?_
    refine yi_G_run 1 (102, [(0, .inr (.inr (some 82))), (1, .inl w)], [.inl 5, .inr (.inr (some 88))], (I1, L, X), 0, 0) (fun _ => rfl) ?_
    have r14 : I1 88 5 = I 88 5 := by rw [← w2, yi_u_ne _ _ (by omega)]
    refine yi_G_iald (103, [(0, .inr (.inr (some 82))), (1, .inl w)], [.inl (I 88 5)], (I1, L, X), 0, 0) rfl (ym_li hS 5 rfl (by omega) (by omega) r14) ?_
    exact yi_G_reti rfl rfl (⟨_, _, _, rfl, (fun p k hp => by rw [← w2, yi_u_ne _ _ (fun z => by omega)]), (fun _ _ _ => rfl)⟩)
  by_cases h15 : w = 6
  · refine yi_G_tsi 6 rfl (by omega) (by decide) rfl ?_
    refine yi_G_run 1 (105, [(0, .inr (.inr (some 82))), (1, .inl w)], [.inr (.inr (some 82))], (I1, L, X), 0, 0) (fun _ => rfl) ?_
    refine yi_G_get (108, [(0, .inr (.inr (some 82))), (1, .inl w)], [.inr (.inr (some 100))], (I1, L, X), 0, 0) rfl (ym_gr hS 17 rfl rfl rfl) ?_
    refine yi_G_run 1 (109, [(0, .inr (.inr (some 82))), (1, .inl w)], [.inl 0, .inr (.inr (some 100))], (I1, L, X), 0, 0) (fun _ => rfl) ?_
    have r16 : I1 100 0 = I 100 0 := by rw [← w2, yi_u_ne _ _ (by omega)]
    refine yi_G_iald (110, [(0, .inr (.inr (some 82))), (1, .inl w)], [.inl (I 100 0)], (I1, L, X), 0, 0) rfl (ym_li hS 17 rfl (by omega) (by omega) r16) ?_
    exact yi_G_reti rfl rfl (⟨_, _, _, rfl, (fun p k hp => by rw [← w2, yi_u_ne _ _ (fun z => by omega)]), (fun _ _ _ => rfl)⟩)
  by_cases h17 : w = 7
  · refine yi_G_tsi 7 rfl (by omega) (by decide) rfl ?_
    refine yi_G_run 1 (112, [(0, .inr (.inr (some 82))), (1, .inl w)], [.inr (.inr (some 82))], (I1, L, X), 0, 0) (fun _ => rfl) ?_
    refine yi_G_get (115, [(0, .inr (.inr (some 82))), (1, .inl w)], [.inr (.inr (some 100))], (I1, L, X), 0, 0) rfl (ym_gr hS 17 rfl rfl rfl) ?_
    refine yi_G_run 1 (116, [(0, .inr (.inr (some 82))), (1, .inl w)], [.inl 1, .inr (.inr (some 100))], (I1, L, X), 0, 0) (fun _ => rfl) ?_
    have r18 : I1 100 1 = I 100 1 := by rw [← w2, yi_u_ne _ _ (by omega)]
    refine yi_G_iald (117, [(0, .inr (.inr (some 82))), (1, .inl w)], [.inl (I 100 1)], (I1, L, X), 0, 0) rfl (ym_li hS 17 rfl (by omega) (by omega) r18) ?_
    exact yi_G_reti rfl rfl (⟨_, _, _, rfl, (fun p k hp => by rw [← w2, yi_u_ne _ _ (fun z => by omega)]), (fun _ _ _ => rfl)⟩)
  by_cases h19 : w = 8
  · refine yi_G_tsi 8 rfl (by omega) (by decide) rfl ?_
    refine yi_G_run 1 (119, [(0, .inr (.inr (some 82))), (1, .inl w)], [.inr (.inr (some 82))], (I1, L, X), 0, 0) (fun _ => rfl) ?_
    refine yi_G_get (122, [(0, .inr (.inr (some 82))), (1, .inl w)], [.inr (.inr (some 100))], (I1, L, X), 0, 0) rfl (ym_gr hS 17 rfl rfl rfl) ?_
    refine yi_G_run 1 (123, [(0, .inr (.inr (some 82))), (1, .inl w)], [.inl 2, .inr (.inr (some 100))], (I1, L, X), 0, 0) (fun _ => rfl) ?_
    have r20 : I1 100 2 = I 100 2 := by rw [← w2, yi_u_ne _ _ (by omega)]
    refine yi_G_iald (124, [(0, .inr (.inr (some 82))), (1, .inl w)], [.inl (I 100 2)], (I1, L, X), 0, 0) rfl (ym_li hS 17 rfl (by omega) (by omega) r20) ?_
    exact yi_G_reti rfl rfl (⟨_, _, _, rfl, (fun p k hp => by rw [← w2, yi_u_ne _ _ (fun z => by omega)]), (fun _ _ _ => rfl)⟩)
  by_cases h21 : w = 9
  · refine yi_G_tsi 9 rfl (by omega) (by decide) rfl ?_
    refine yi_G_run 1 (126, [(0, .inr (.inr (some 82))), (1, .inl w)], [.inr (.inr (some 82))], (I1, L, X), 0, 0) (fun _ => rfl) ?_
    refine yi_G_get (129, [(0, .inr (.inr (some 82))), (1, .inl w)], [.inr (.inr (some 102))], (I1, L, X), 0, 0) rfl (ym_gr hS 19 rfl rfl rfl) ?_
    refine yi_G_run 1 (130, [(0, .inr (.inr (some 82))), (1, .inl w)], [.inl 0, .inr (.inr (some 102))], (I1, L, X), 0, 0) (fun _ => rfl) ?_
    have r22 : I1 102 0 = I 102 0 := by rw [← w2, yi_u_ne _ _ (by omega)]
    refine yi_G_bald (131, [(0, .inr (.inr (some 82))), (1, .inl w)], [.inl (I 102 0)], (I1, L, X), 0, 0) rfl (ym_lb hS 19 rfl (by omega) (by omega) r22) ?_
    by_cases h23 : (I 102 0) = 0
    · refine yi_G_if1 true rfl (yi_eq_t h23) ?_
      refine yi_G_run 1 (139, [(0, .inr (.inr (some 82))), (1, .inl w)], [.inl 0], (I1, L, X), 0, 0) (fun _ => rfl) ?_
      exact yi_G_reti rfl rfl (⟨_, _, _, rfl, (fun p k hp => by rw [← w2, yi_u_ne _ _ (fun z => by omega)]), (fun _ _ _ => rfl)⟩)
    · refine yi_G_if1 false rfl (yi_eq_f h23) ?_
      refine yi_G_run 2 (139, [(0, .inr (.inr (some 82))), (1, .inl w)], [.inl 1], (I1, L, X), 0, 0) (fun _ => rfl) ?_
      exact yi_G_reti rfl rfl (⟨_, _, _, rfl, (fun p k hp => by rw [← w2, yi_u_ne _ _ (fun z => by omega)]), (fun _ _ _ => rfl)⟩)
  by_cases h24 : w = 10
  · refine yi_G_tsi 10 rfl (by omega) (by decide) rfl ?_
    refine yi_G_run 1 (141, [(0, .inr (.inr (some 82))), (1, .inl w)], [.inr (.inr (some 82))], (I1, L, X), 0, 0) (fun _ => rfl) ?_
    have r25 : I1 82 30 = I 82 30 := by rw [← w2, yi_u_ne _ _ (by omega)]
    refine yi_G_get (144, [(0, .inr (.inr (some 82))), (1, .inl w)], [.inl (I 82 30)], (I1, L, X), 0, 0) rfl (ym_gi hS rfl rfl r25) ?_
    exact yi_G_reti rfl rfl (⟨_, _, _, rfl, (fun p k hp => by rw [← w2, yi_u_ne _ _ (fun z => by omega)]), (fun _ _ _ => rfl)⟩)
  by_cases h26 : w = 11
  · refine yi_G_tsi 11 rfl (by omega) (by decide) rfl ?_
    refine yi_G_run 1 (146, [(0, .inr (.inr (some 82))), (1, .inl w)], [.inr (.inr (some 82))], (I1, L, X), 0, 0) (fun _ => rfl) ?_
    have r27 : I1 82 2 = I 82 2 := by rw [← w2, yi_u_ne _ _ (by omega)]
    refine yi_G_get (149, [(0, .inr (.inr (some 82))), (1, .inl w)], [.inl (I 82 2)], (I1, L, X), 0, 0) rfl (ym_gi hS rfl rfl r27) ?_
    exact yi_G_reti rfl rfl (⟨_, _, _, rfl, (fun p k hp => by rw [← w2, yi_u_ne _ _ (fun z => by omega)]), (fun _ _ _ => rfl)⟩)
  refine yi_G_tso rfl (by omega) ?_
  refine yi_G_run 1 (151, [(0, .inr (.inr (some 82))), (1, .inl w)], [.inl (-1)], (I1, L, X), 0, 0) (fun _ => rfl) ?_
  exact yi_G_reti rfl rfl (⟨_, _, _, rfl, (fun p k hp => by rw [← w2, yi_u_ne _ _ (fun z => by omega)]), (fun _ _ _ => rfl)⟩)
theorem q_holds (D : Nat) (hD : 5 ≤ D) {I L : Nat → Nat → Int} {X : ym_X} (hS : ym_S X) {p da ev : Int} (hLR : ym_LR I) (hS0 : ym_S0 I) (hl : 0 ≤ I 82 25 ∧ I 82 25 ≤ 512) : yi_E zi_Ms D 41 [.inr (.inr (some 82)), .inl p, .inl da, .inl ev] (I, L, X) (fun r => ∃ z I' L', r = (some (.inl z), (I', L', X), 0, 0) ∧ (∀ p k, p ≠ 96 ∧ p ≠ 99 ∧ p ≠ 103 ∧ p ≠ 104 ∧ p ≠ 105 ∧ p ≠ 106 ∧ p ≠ 107 ∧ p ≠ 108 ∧ ¬ (p = 82 ∧ k = 0) ∧ ¬ (p = 82 ∧ k = 34) ∧ ¬ (p = 82 ∧ k = 35) ∧ ¬ (p = 82 ∧ k = 37) ∧ ¬ (p = 82 ∧ k = 40) → I' p k = I p k) ∧ (∀ p k, p ≠ 97 ∧ ¬ (p = 82 ∧ k = 43) → L' p k = L p k)) := by
  obtain ⟨d, rfl⟩ : ∃ d, D = d + 1 := ⟨D - 1, by omega⟩
  refine yi_E_of (M := zi_m41) rfl rfl ?_
  obtain ⟨l0, l1, l2, l3, l4, l5⟩ := id hLR
  obtain ⟨t0, t1, t2, t3, t4⟩ := id hS0
  show yi_G zi_Ms d zi_m41 (0, [(0, .inr (.inr (some 82))), (1, .inl p), (2, .inl da), (3, .inl ev)], [], (I, L, X), 0, 0) _
  refine yi_G_run 2 (2, [(0, .inr (.inr (some 82))), (1, .inl p), (2, .inl da), (3, .inl ev)], [.inl 0, .inr (.inr (some 82))], (I, L, X), 0, 0) (fun _ => rfl) ?_
  refine yi_G_put (5, [(0, .inr (.inr (some 82))), (1, .inl p), (2, .inl da), (3, .inl ev)], [], ((yi_u I 82 0 0), L, X), 0, 0) rfl (ym_pi hS rfl rfl) ?_
  generalize w2 : yi_u I 82 0 0 = I1
  refine yi_G_run 4 (9, [(0, .inr (.inr (some 82))), (1, .inl p), (2, .inl da), (3, .inl ev)], [.inl ev, .inl da, .inl p, .inr (.inr (some 82))], (I1, L, X), 0, 0) (fun _ => rfl) ?_
  have r4 : I1 88 1 = I 88 1 := by rw [← w2, yi_u_ne _ _ (by omega)]
  have r5 : I1 88 0 = I 88 0 := by rw [← w2, yi_u_ne _ _ (by omega)]
  have r6 : I1 88 2 = I 88 2 := by rw [← w2, yi_u_ne _ _ (by omega)]
  refine yi_G_callv rfl rfl (ym_rcv hS) rfl (c_isWord3 d (by omega) hS r4 r5 r6) ?_
  rintro _ (⟨c3, rfl⟩ | ⟨c3, rfl⟩)
  · show yi_G zi_Ms d zi_m41 (12, [(0, .inr (.inr (some 82))), (1, .inl p), (2, .inl da), (3, .inl ev)], [.inl 1], (I1, L, X), 0, 0) _
    refine yi_G_if1 true rfl (by decide) ?_
    refine yi_G_run 1 (18, [(0, .inr (.inr (some 82))), (1, .inl p), (2, .inl da), (3, .inl ev)], [.inr (.inr (some 82))], (I1, L, X), 0, 0) (fun _ => rfl) ?_
    have r10 : I1 82 25 = I 82 25 := by rw [← w2, yi_u_ne _ _ (by omega)]
    refine yi_G_callv rfl rfl (ym_rcv hS) rfl (c_findLeft d (by omega) hS (ym_LR_t (fun k => by rw [← w2, yi_u_ne _ _ (fun z => absurd z.1 (by decide))]) hLR) (ym_S0_t (fun k => by rw [← w2, yi_u_ne _ _ (fun z => absurd z.1 (by decide))]) hS0) ⟨(by rw [r10]; omega), (by rw [r10]; omega)⟩) ?_
    rintro _ ⟨z9, L7, rfl, f8⟩
    show yi_G zi_Ms d zi_m41 (21, [(0, .inr (.inr (some 82))), (1, .inl p), (2, .inl da), (3, .inl ev)], [.inl z9], (I1, L7, X), 0, 0) _
    refine yi_G_run 7 (29, [(0, .inr (.inr (some 82))), (1, .inl p), (2, .inl da), (3, .inl ev)], [.inl ev, .inl da, .inl p, .inr (.inr (some 82)), .inl 39, .inr (.inr (some 82))], (I1, L7, X), 0, 0) (fun _ => rfl) ?_
    refine yi_G_callv rfl rfl (ym_rcv hS) rfl (c_wordAt d (by omega) hS (ym_LR_t (fun k => by rw [← w2, yi_u_ne _ _ (fun z => absurd z.1 (by decide))]) hLR) (by omega) (by omega) (by omega) (by omega) (by omega) (by omega)) ?_
    rintro _ ⟨z11, rfl, h12a, h12b, h12c⟩
    show yi_G zi_Ms d zi_m41 (32, [(0, .inr (.inr (some 82))), (1, .inl p), (2, .inl da), (3, .inl ev)], [.inl z11, .inl 39, .inr (.inr (some 82))], (I1, L7, X), 0, 0) _
    have r13 : I1 82 25 = I 82 25 := by rw [← w2, yi_u_ne _ _ (by omega)]
    refine yi_G_callv rfl rfl (ym_rcv hS) rfl (w_manyBoth (by omega) hS (by omega) (by omega) (by omega) (by omega) (by rw [r13]; omega) (by rw [r13]; omega)) ?_
    rintro _ ⟨z14, rfl⟩
    show yi_G zi_Ms d zi_m41 (35, [(0, .inr (.inr (some 82))), (1, .inl p), (2, .inl da), (3, .inl ev)], [.inl z14], (I1, L7, X), 0, 0) _
    exact yi_G_reti rfl rfl (⟨_, _, _, rfl, (fun p k hp => by rw [← w2, yi_u_ne _ _ (fun z => by omega)]), (fun p k hp => by rw [f8 p k (by omega)])⟩)
  · show yi_G zi_Ms d zi_m41 (12, [(0, .inr (.inr (some 82))), (1, .inl p), (2, .inl da), (3, .inl ev)], [.inl 0], (I1, L, X), 0, 0) _
    refine yi_G_if1 false rfl (by decide) ?_
    refine yi_G_run 1 (16, [(0, .inr (.inr (some 82))), (1, .inl p), (2, .inl da), (3, .inl ev)], [.inl (-1)], (I1, L, X), 0, 0) (fun _ => rfl) ?_
    exact yi_G_reti rfl rfl (⟨_, _, _, rfl, (fun p k hp => by rw [← w2, yi_u_ne _ _ (fun z => by omega)]), (fun _ _ _ => rfl)⟩)
theorem q_word (D : Nat) (hD : 5 ≤ D) {I L : Nat → Nat → Int} {X : ym_X} (hS : ym_S X) {p da ev : Int} (hLR : ym_LR I) (hS0 : ym_S0 I) (hl : 0 ≤ I 82 25 ∧ I 82 25 ≤ 512) : yi_E zi_Ms D 132 [.inr (.inr (some 82)), .inl p, .inl da, .inl ev] (I, L, X) (fun r => ∃ z I' L', r = (some (.inl z), (I', L', X), 0, 0) ∧ (∀ p k, p ≠ 96 ∧ p ≠ 99 ∧ p ≠ 103 ∧ p ≠ 104 ∧ p ≠ 105 ∧ p ≠ 106 ∧ p ≠ 107 ∧ p ≠ 108 ∧ ¬ (p = 82 ∧ k = 0) ∧ ¬ (p = 82 ∧ k = 34) ∧ ¬ (p = 82 ∧ k = 35) ∧ ¬ (p = 82 ∧ k = 37) ∧ ¬ (p = 82 ∧ k = 40) → I' p k = I p k) ∧ (∀ p k, p ≠ 97 ∧ ¬ (p = 82 ∧ k = 43) → L' p k = L p k)) := by
  obtain ⟨d, rfl⟩ : ∃ d, D = d + 1 := ⟨D - 1, by omega⟩
  refine yi_E_of (M := zi_m132) rfl rfl ?_
  obtain ⟨l0, l1, l2, l3, l4, l5⟩ := id hLR
  obtain ⟨t0, t1, t2, t3, t4⟩ := id hS0
  show yi_G zi_Ms d zi_m132 (0, [(0, .inr (.inr (some 82))), (1, .inl p), (2, .inl da), (3, .inl ev)], [], (I, L, X), 0, 0) _
  refine yi_G_run 2 (2, [(0, .inr (.inr (some 82))), (1, .inl p), (2, .inl da), (3, .inl ev)], [.inl 0, .inr (.inr (some 82))], (I, L, X), 0, 0) (fun _ => rfl) ?_
  refine yi_G_put (5, [(0, .inr (.inr (some 82))), (1, .inl p), (2, .inl da), (3, .inl ev)], [], ((yi_u I 82 0 0), L, X), 0, 0) rfl (ym_pi hS rfl rfl) ?_
  generalize w2 : yi_u I 82 0 0 = I1
  refine yi_G_run 4 (9, [(0, .inr (.inr (some 82))), (1, .inl p), (2, .inl da), (3, .inl ev)], [.inl ev, .inl da, .inl p, .inr (.inr (some 82))], (I1, L, X), 0, 0) (fun _ => rfl) ?_
  have r4 : I1 88 1 = I 88 1 := by rw [← w2, yi_u_ne _ _ (by omega)]
  have r5 : I1 88 0 = I 88 0 := by rw [← w2, yi_u_ne _ _ (by omega)]
  have r6 : I1 88 2 = I 88 2 := by rw [← w2, yi_u_ne _ _ (by omega)]
  refine yi_G_callv rfl rfl (ym_rcv hS) rfl (c_isWord3 d (by omega) hS r4 r5 r6) ?_
  rintro _ (⟨c3, rfl⟩ | ⟨c3, rfl⟩)
  · show yi_G zi_Ms d zi_m132 (12, [(0, .inr (.inr (some 82))), (1, .inl p), (2, .inl da), (3, .inl ev)], [.inl 1], (I1, L, X), 0, 0) _
    refine yi_G_if1 false rfl (by decide) ?_
    refine yi_G_run 1 (16, [(0, .inr (.inr (some 82))), (1, .inl p), (2, .inl da), (3, .inl ev)], [.inr (.inr (some 82))], (I1, L, X), 0, 0) (fun _ => rfl) ?_
    have r10 : I1 82 25 = I 82 25 := by rw [← w2, yi_u_ne _ _ (by omega)]
    refine yi_G_callv rfl rfl (ym_rcv hS) rfl (c_findLeft d (by omega) hS (ym_LR_t (fun k => by rw [← w2, yi_u_ne _ _ (fun z => absurd z.1 (by decide))]) hLR) (ym_S0_t (fun k => by rw [← w2, yi_u_ne _ _ (fun z => absurd z.1 (by decide))]) hS0) ⟨(by rw [r10]; omega), (by rw [r10]; omega)⟩) ?_
    rintro _ ⟨z9, L7, rfl, f8⟩
    show yi_G zi_Ms d zi_m132 (19, [(0, .inr (.inr (some 82))), (1, .inl p), (2, .inl da), (3, .inl ev)], [.inl z9], (I1, L7, X), 0, 0) _
    refine yi_G_run 3 (27, [(4, .inl z9), (0, .inr (.inr (some 82))), (1, .inl p), (2, .inl da), (3, .inl ev)], [.inl z9], (I1, L7, X), 0, 0) (fun _ => rfl) ?_
    by_cases h11 : z9 = 0
    · refine yi_G_if1 false rfl (yi_ne_f h11) ?_
      refine yi_G_run 2 (52, [(4, .inl z9), (0, .inr (.inr (some 82))), (1, .inl p), (2, .inl da), (3, .inl ev)], [.inl (-1)], (I1, L7, X), 0, 0) (fun _ => rfl) ?_
      exact yi_G_reti rfl rfl (⟨_, _, _, rfl, (fun p k hp => by rw [← w2, yi_u_ne _ _ (fun z => by omega)]), (fun p k hp => by rw [f8 p k (by omega)])⟩)
    · refine yi_G_if1 true rfl (yi_ne_t h11) ?_
      refine yi_G_run 7 (43, [(4, .inl z9), (0, .inr (.inr (some 82))), (1, .inl p), (2, .inl da), (3, .inl ev)], [.inl ev, .inl da, .inl p, .inr (.inr (some 82)), .inl 39, .inr (.inr (some 82)), .inl z9], (I1, L7, X), 0, 0) (fun _ => rfl) ?_
      refine yi_G_callv rfl rfl (ym_rcv hS) rfl (c_wordAt d (by omega) hS (ym_LR_t (fun k => by rw [← w2, yi_u_ne _ _ (fun z => absurd z.1 (by decide))]) hLR) (by omega) (by omega) (by omega) (by omega) (by omega) (by omega)) ?_
      rintro _ ⟨z12, rfl, h13a, h13b, h13c⟩
      show yi_G zi_Ms d zi_m132 (46, [(4, .inl z9), (0, .inr (.inr (some 82))), (1, .inl p), (2, .inl da), (3, .inl ev)], [.inl z12, .inl 39, .inr (.inr (some 82)), .inl z9], (I1, L7, X), 0, 0) _
      have r14 : I1 82 25 = I 82 25 := by rw [← w2, yi_u_ne _ _ (by omega)]
      refine yi_G_callv rfl rfl (ym_rcv hS) rfl (w_manyBoth (by omega) hS (by omega) (by omega) (by omega) (by omega) (by rw [r14]; omega) (by rw [r14]; omega)) ?_
      rintro _ ⟨z15, rfl⟩
      show yi_G zi_Ms d zi_m132 (49, [(4, .inl z9), (0, .inr (.inr (some 82))), (1, .inl p), (2, .inl da), (3, .inl ev)], [.inl z15, .inl z9], (I1, L7, X), 0, 0) _
      refine yi_G_calls rfl rfl (c_how d (by omega) hS) ?_
      rintro _ ⟨z16, rfl, h17a, h17b⟩
      show yi_G zi_Ms d zi_m132 (52, [(4, .inl z9), (0, .inr (.inr (some 82))), (1, .inl p), (2, .inl da), (3, .inl ev)], [.inl z16], (I1, L7, X), 0, 0) _
      exact yi_G_reti rfl rfl (⟨_, _, _, rfl, (fun p k hp => by rw [← w2, yi_u_ne _ _ (fun z => by omega)]), (fun p k hp => by rw [f8 p k (by omega)])⟩)
  · show yi_G zi_Ms d zi_m132 (12, [(0, .inr (.inr (some 82))), (1, .inl p), (2, .inl da), (3, .inl ev)], [.inl 0], (I1, L, X), 0, 0) _
    refine yi_G_if1 true rfl (by decide) ?_
    refine yi_G_run 3 (27, [(4, .inl 0), (0, .inr (.inr (some 82))), (1, .inl p), (2, .inl da), (3, .inl ev)], [.inl 0], (I1, L, X), 0, 0) (fun _ => rfl) ?_
    refine yi_G_if1 false rfl (by decide) ?_
    refine yi_G_run 2 (52, [(4, .inl 0), (0, .inr (.inr (some 82))), (1, .inl p), (2, .inl da), (3, .inl ev)], [.inl (-1)], (I1, L, X), 0, 0) (fun _ => rfl) ?_
    exact yi_G_reti rfl rfl (⟨_, _, _, rfl, (fun p k hp => by rw [← w2, yi_u_ne _ _ (fun z => by omega)]), (fun _ _ _ => rfl)⟩)
theorem q_futures (D : Nat) (hD : 5 ≤ D) {I L : Nat → Nat → Int} {X : ym_X} (hS : ym_S X) {w : Int} (hLR : ym_LR I) (hS0 : ym_S0 I) (hl : 0 ≤ I 82 25 ∧ I 82 25 ≤ 512) : yi_E zi_Ms D 36 [.inr (.inr (some 82)), .inl w] (I, L, X) (fun r => ∃ z I' L', r = (some (.inl z), (I', L', X), 0, 0) ∧ (∀ p k, p ≠ 96 ∧ p ≠ 99 ∧ p ≠ 103 ∧ p ≠ 104 ∧ p ≠ 105 ∧ p ≠ 106 ∧ p ≠ 107 ∧ p ≠ 108 ∧ ¬ (p = 82 ∧ k = 0) ∧ ¬ (p = 82 ∧ k = 34) ∧ ¬ (p = 82 ∧ k = 35) ∧ ¬ (p = 82 ∧ k = 37) ∧ ¬ (p = 82 ∧ k = 40) → I' p k = I p k) ∧ (∀ p k, p ≠ 97 ∧ ¬ (p = 82 ∧ k = 43) → L' p k = L p k)) := by
  obtain ⟨d, rfl⟩ : ∃ d, D = d + 1 := ⟨D - 1, by omega⟩
  refine yi_E_of (M := zi_m36) rfl rfl ?_
  obtain ⟨l0, l1, l2, l3, l4, l5⟩ := id hLR
  obtain ⟨t0, t1, t2, t3, t4⟩ := id hS0
  show yi_G zi_Ms d zi_m36 (0, [(0, .inr (.inr (some 82))), (1, .inl w)], [], (I, L, X), 0, 0) _
  refine yi_G_run 2 (2, [(0, .inr (.inr (some 82))), (1, .inl w)], [.inl 0, .inr (.inr (some 82))], (I, L, X), 0, 0) (fun _ => rfl) ?_
  refine yi_G_put (5, [(0, .inr (.inr (some 82))), (1, .inl w)], [], ((yi_u I 82 0 0), L, X), 0, 0) rfl (ym_pi hS rfl rfl) ?_
  generalize w2 : yi_u I 82 0 0 = I1
  refine yi_G_run 1 (6, [(0, .inr (.inr (some 82))), (1, .inl w)], [.inl w], (I1, L, X), 0, 0) (fun _ => rfl) ?_
  by_cases h3 : w = 0
  · refine yi_G_if1 false rfl (yi_ne_f h3) ?_
    refine yi_G_run 1 (10, [(0, .inr (.inr (some 82))), (1, .inl w)], [.inr (.inr (some 82))], (I1, L, X), 0, 0) (fun _ => rfl) ?_
    have r4 : I1 82 24 = I 82 24 := by rw [← w2, yi_u_ne _ _ (by omega)]
    refine yi_G_get (13, [(0, .inr (.inr (some 82))), (1, .inl w)], [.inl (I 82 24)], (I1, L, X), 0, 0) rfl (ym_gi hS rfl rfl r4) ?_
    refine yi_G_run 1 (43, [(0, .inr (.inr (some 82))), (1, .inl w)], [.inl (I 82 24)], (I1, L, X), 0, 0) (fun _ => rfl) ?_
    exact yi_G_reti rfl rfl (⟨_, _, _, rfl, (fun p k hp => by rw [← w2, yi_u_ne _ _ (fun z => by omega)]), (fun _ _ _ => rfl)⟩)
  · refine yi_G_if1 true rfl (yi_ne_t h3) ?_
    refine yi_G_run 2 (18, [(0, .inr (.inr (some 82))), (1, .inl w)], [.inl 1, .inl w], (I1, L, X), 0, 0) (fun _ => rfl) ?_
    by_cases h5 : w = 1
    · refine yi_G_if2 false rfl (yi_ne_f h5) ?_
      refine yi_G_run 2 (24, [(0, .inr (.inr (some 82))), (1, .inl w)], [.inl 32, .inr (.inr (some 82))], (I1, L, X), 0, 0) (fun _ => rfl) ?_
      have r6 : I1 82 25 = I 82 25 := by rw [← w2, yi_u_ne _ _ (by omega)]
      refine yi_G_callv rfl rfl (ym_rcv hS) rfl (w_many (by omega) hS (by omega) (by omega) (by rw [r6]; omega) (by rw [r6]; omega)) ?_
      rintro _ ⟨z7, rfl⟩
      show yi_G zi_Ms d zi_m36 (27, [(0, .inr (.inr (some 82))), (1, .inl w)], [.inl z7], (I1, L, X), 0, 0) _
      refine yi_G_run 1 (43, [(0, .inr (.inr (some 82))), (1, .inl w)], [.inl z7], (I1, L, X), 0, 0) (fun _ => rfl) ?_
      exact yi_G_reti rfl rfl (⟨_, _, _, rfl, (fun p k hp => by rw [← w2, yi_u_ne _ _ (fun z => by omega)]), (fun _ _ _ => rfl)⟩)
    · refine yi_G_if2 true rfl (yi_ne_t h5) ?_
      refine yi_G_run 2 (32, [(0, .inr (.inr (some 82))), (1, .inl w)], [.inl 2, .inl w], (I1, L, X), 0, 0) (fun _ => rfl) ?_
      by_cases h8 : w = 2
      · refine yi_G_if2 false rfl (yi_ne_f h8) ?_
        refine yi_G_run 1 (36, [(0, .inr (.inr (some 82))), (1, .inl w)], [.inr (.inr (some 82))], (I1, L, X), 0, 0) (fun _ => rfl) ?_
        have r12 : I1 82 25 = I 82 25 := by rw [← w2, yi_u_ne _ _ (by omega)]
        refine yi_G_callv rfl rfl (ym_rcv hS) rfl (c_findLeft d (by omega) hS (ym_LR_t (fun k => by rw [← w2, yi_u_ne _ _ (fun z => absurd z.1 (by decide))]) hLR) (ym_S0_t (fun k => by rw [← w2, yi_u_ne _ _ (fun z => absurd z.1 (by decide))]) hS0) ⟨(by rw [r12]; omega), (by rw [r12]; omega)⟩) ?_
        rintro _ ⟨z11, L9, rfl, f10⟩
        show yi_G zi_Ms d zi_m36 (39, [(0, .inr (.inr (some 82))), (1, .inl w)], [.inl z11], (I1, L9, X), 0, 0) _
        refine yi_G_run 1 (43, [(0, .inr (.inr (some 82))), (1, .inl w)], [.inl z11], (I1, L9, X), 0, 0) (fun _ => rfl) ?_
        exact yi_G_reti rfl rfl (⟨_, _, _, rfl, (fun p k hp => by rw [← w2, yi_u_ne _ _ (fun z => by omega)]), (fun p k hp => by rw [f10 p k (by omega)])⟩)
      · refine yi_G_if2 true rfl (yi_ne_t h8) ?_
        refine yi_G_run 1 (43, [(0, .inr (.inr (some 82))), (1, .inl w)], [.inl (-1)], (I1, L, X), 0, 0) (fun _ => rfl) ?_
        exact yi_G_reti rfl rfl (⟨_, _, _, rfl, (fun p k hp => by rw [← w2, yi_u_ne _ _ (fun z => by omega)]), (fun _ _ _ => rfl)⟩)
theorem q_asked (D : Nat) (hD : 5 ≤ D) {I L : Nat → Nat → Int} {X : ym_X} (hS : ym_S X) {w : Int} (hLR : ym_LR I) (hS0 : ym_S0 I) (hl : 0 ≤ I 82 25 ∧ I 82 25 ≤ 512) : yi_E zi_Ms D 2 [.inr (.inr (some 82)), .inl w] (I, L, X) (fun r => ∃ z I' L', r = (some (.inl z), (I', L', X), 0, 0) ∧ (∀ p k, p ≠ 96 ∧ p ≠ 99 ∧ p ≠ 103 ∧ p ≠ 104 ∧ p ≠ 105 ∧ p ≠ 106 ∧ p ≠ 107 ∧ p ≠ 108 ∧ ¬ (p = 82 ∧ k = 0) ∧ ¬ (p = 82 ∧ k = 34) ∧ ¬ (p = 82 ∧ k = 35) ∧ ¬ (p = 82 ∧ k = 37) ∧ ¬ (p = 82 ∧ k = 40) → I' p k = I p k) ∧ (∀ p k, p ≠ 97 ∧ ¬ (p = 82 ∧ k = 43) → L' p k = L p k)) := by
  obtain ⟨d, rfl⟩ : ∃ d, D = d + 1 := ⟨D - 1, by omega⟩
  refine yi_E_of (M := zi_m2) rfl rfl ?_
  obtain ⟨l0, l1, l2, l3, l4, l5⟩ := id hLR
  obtain ⟨t0, t1, t2, t3, t4⟩ := id hS0
  show yi_G zi_Ms d zi_m2 (0, [(0, .inr (.inr (some 82))), (1, .inl w)], [], (I, L, X), 0, 0) _
  refine yi_G_run 2 (2, [(0, .inr (.inr (some 82))), (1, .inl w)], [.inl 0, .inr (.inr (some 82))], (I, L, X), 0, 0) (fun _ => rfl) ?_
  refine yi_G_put (5, [(0, .inr (.inr (some 82))), (1, .inl w)], [], ((yi_u I 82 0 0), L, X), 0, 0) rfl (ym_pi hS rfl rfl) ?_
  generalize w2 : yi_u I 82 0 0 = I1
  refine yi_G_run 1 (6, [(0, .inr (.inr (some 82))), (1, .inl w)], [.inr (.inr (some 82))], (I1, L, X), 0, 0) (fun _ => rfl) ?_
  refine yi_G_get (9, [(0, .inr (.inr (some 82))), (1, .inl w)], [.inr (.inr (some 102))], (I1, L, X), 0, 0) rfl (ym_gr hS 19 rfl rfl rfl) ?_
  refine yi_G_run 1 (10, [(0, .inr (.inr (some 82))), (1, .inl w)], [.inl 0, .inr (.inr (some 102))], (I1, L, X), 0, 0) (fun _ => rfl) ?_
  have r3 : I1 102 0 = I 102 0 := by rw [← w2, yi_u_ne _ _ (by omega)]
  refine yi_G_bald (11, [(0, .inr (.inr (some 82))), (1, .inl w)], [.inl (I 102 0)], (I1, L, X), 0, 0) rfl (ym_lb hS 19 rfl (by omega) (by omega) r3) ?_
  by_cases h4 : (I 102 0) = 0
  · refine yi_G_if1 true rfl (yi_eq_t h4) ?_
    refine yi_G_run 1 (24, [(0, .inr (.inr (some 82))), (1, .inl w)], [.inl (-1)], (I1, L, X), 0, 0) (fun _ => rfl) ?_
    exact yi_G_reti rfl rfl (⟨_, _, _, rfl, (fun p k hp => by rw [← w2, yi_u_ne _ _ (fun z => by omega)]), (fun _ _ _ => rfl)⟩)
  · refine yi_G_if1 false rfl (yi_eq_f h4) ?_
    refine yi_G_run 3 (17, [(0, .inr (.inr (some 82))), (1, .inl w)], [.inl 1, .inl 0, .inl w], (I1, L, X), 0, 0) (fun _ => rfl) ?_
    refine yi_G_calls rfl rfl (c_within d (by omega) hS) ?_
    rintro _ (⟨c5, rfl⟩ | ⟨c5, rfl⟩)
    · show yi_G zi_Ms d zi_m2 (20, [(0, .inr (.inr (some 82))), (1, .inl w)], [.inl 1], (I1, L, X), 0, 0) _
      refine yi_G_if1 true rfl (by decide) ?_
      refine yi_G_run 1 (26, [(0, .inr (.inr (some 82))), (1, .inl w)], [.inr (.inr (some 82))], (I1, L, X), 0, 0) (fun _ => rfl) ?_
      have r9 : I1 82 25 = I 82 25 := by rw [← w2, yi_u_ne _ _ (by omega)]
      refine yi_G_callv rfl rfl (ym_rcv hS) rfl (c_findLeft d (by omega) hS (ym_LR_t (fun k => by rw [← w2, yi_u_ne _ _ (fun z => absurd z.1 (by decide))]) hLR) (ym_S0_t (fun k => by rw [← w2, yi_u_ne _ _ (fun z => absurd z.1 (by decide))]) hS0) ⟨(by rw [r9]; omega), (by rw [r9]; omega)⟩) ?_
      rintro _ ⟨z8, L6, rfl, f7⟩
      show yi_G zi_Ms d zi_m2 (29, [(0, .inr (.inr (some 82))), (1, .inl w)], [.inl z8], (I1, L6, X), 0, 0) _
      refine yi_G_run 4 (35, [(2, .inl z8), (0, .inr (.inr (some 82))), (1, .inl w)], [.inl 33, .inl 39, .inr (.inr (some 82))], (I1, L6, X), 0, 0) (fun _ => rfl) ?_
      have r10 : I1 82 25 = I 82 25 := by rw [← w2, yi_u_ne _ _ (by omega)]
      refine yi_G_callv rfl rfl (ym_rcv hS) rfl (w_manyBoth (by omega) hS (by omega) (by omega) (by omega) (by omega) (by rw [r10]; omega) (by rw [r10]; omega)) ?_
      rintro _ ⟨z11, rfl⟩
      show yi_G zi_Ms d zi_m2 (38, [(2, .inl z8), (0, .inr (.inr (some 82))), (1, .inl w)], [.inl z11], (I1, L6, X), 0, 0) _
      refine yi_G_run 2 (40, [(3, .inl z11), (2, .inl z8), (0, .inr (.inr (some 82))), (1, .inl w)], [.inl w], (I1, L6, X), 0, 0) (fun _ => rfl) ?_
      by_cases h12 : w = 0
      · refine yi_G_if1 false rfl (yi_ne_f h12) ?_
        refine yi_G_run 2 (52, [(3, .inl z11), (2, .inl z8), (0, .inr (.inr (some 82))), (1, .inl w)], [.inl z11], (I1, L6, X), 0, 0) (fun _ => rfl) ?_
        exact yi_G_reti rfl rfl (⟨_, _, _, rfl, (fun p k hp => by rw [← w2, yi_u_ne _ _ (fun z => by omega)]), (fun p k hp => by rw [f7 p k (by omega)])⟩)
      · refine yi_G_if1 true rfl (yi_ne_t h12) ?_
        refine yi_G_run 2 (49, [(3, .inl z11), (2, .inl z8), (0, .inr (.inr (some 82))), (1, .inl w)], [.inl z11, .inl z8], (I1, L6, X), 0, 0) (fun _ => rfl) ?_
        refine yi_G_calls rfl rfl (c_how d (by omega) hS) ?_
        rintro _ ⟨z13, rfl, h14a, h14b⟩
        show yi_G zi_Ms d zi_m2 (52, [(3, .inl z11), (2, .inl z8), (0, .inr (.inr (some 82))), (1, .inl w)], [.inl z13], (I1, L6, X), 0, 0) _
        exact yi_G_reti rfl rfl (⟨_, _, _, rfl, (fun p k hp => by rw [← w2, yi_u_ne _ _ (fun z => by omega)]), (fun p k hp => by rw [f7 p k (by omega)])⟩)
    · show yi_G zi_Ms d zi_m2 (20, [(0, .inr (.inr (some 82))), (1, .inl w)], [.inl 0], (I1, L, X), 0, 0) _
      refine yi_G_if1 false rfl (by decide) ?_
      refine yi_G_run 1 (24, [(0, .inr (.inr (some 82))), (1, .inl w)], [.inl (-1)], (I1, L, X), 0, 0) (fun _ => rfl) ?_
      exact yi_G_reti rfl rfl (⟨_, _, _, rfl, (fun p k hp => by rw [← w2, yi_u_ne _ _ (fun z => by omega)]), (fun _ _ _ => rfl)⟩)
theorem q_saying (D : Nat) (hD : 4 ≤ D) {I L : Nat → Nat → Int} {X : ym_X} (hS : ym_S X) {s w : Int} (hLR : ym_LR I) (hS0 : ym_S0 I) (hl : 0 ≤ I 82 25 ∧ I 82 25 ≤ 512) : yi_E zi_Ms D 107 [.inr (.inr (some 82)), .inl s, .inl w] (I, L, X) (fun r => ∃ z I' L', r = (some (.inl z), (I', L', X), 0, 0) ∧ (∀ p k, p ≠ 96 ∧ p ≠ 99 ∧ p ≠ 103 ∧ p ≠ 104 ∧ p ≠ 105 ∧ p ≠ 106 ∧ p ≠ 107 ∧ p ≠ 108 ∧ ¬ (p = 82 ∧ k = 0) ∧ ¬ (p = 82 ∧ k = 34) ∧ ¬ (p = 82 ∧ k = 35) ∧ ¬ (p = 82 ∧ k = 37) ∧ ¬ (p = 82 ∧ k = 40) → I' p k = I p k) ∧ (∀ p k, p ≠ 97 ∧ ¬ (p = 82 ∧ k = 43) → L' p k = L p k)) := by
  obtain ⟨d, rfl⟩ : ∃ d, D = d + 1 := ⟨D - 1, by omega⟩
  refine yi_E_of (M := zi_m107) rfl rfl ?_
  obtain ⟨l0, l1, l2, l3, l4, l5⟩ := id hLR
  obtain ⟨t0, t1, t2, t3, t4⟩ := id hS0
  show yi_G zi_Ms d zi_m107 (0, [(0, .inr (.inr (some 82))), (1, .inl s), (2, .inl w)], [], (I, L, X), 0, 0) _
  refine yi_G_run 2 (2, [(0, .inr (.inr (some 82))), (1, .inl s), (2, .inl w)], [.inl 0, .inr (.inr (some 82))], (I, L, X), 0, 0) (fun _ => rfl) ?_
  refine yi_G_put (5, [(0, .inr (.inr (some 82))), (1, .inl s), (2, .inl w)], [], ((yi_u I 82 0 0), L, X), 0, 0) rfl (ym_pi hS rfl rfl) ?_
  generalize w2 : yi_u I 82 0 0 = I1
  refine yi_G_run 2 (7, [(0, .inr (.inr (some 82))), (1, .inl s), (2, .inl w)], [.inl s, .inr (.inr (some 82))], (I1, L, X), 0, 0) (fun _ => rfl) ?_
  have r4 : I1 100 0 = I 100 0 := by rw [← w2, yi_u_ne _ _ (by omega)]
  refine yi_G_callv rfl rfl (ym_rcv hS) rfl (c_isSaying d (by omega) hS) ?_
  rintro _ (⟨c3, rfl⟩ | ⟨c3, rfl⟩)
  · show yi_G zi_Ms d zi_m107 (10, [(0, .inr (.inr (some 82))), (1, .inl s), (2, .inl w)], [.inl 1], (I1, L, X), 0, 0) _
    refine yi_G_if1 false rfl (by decide) ?_
    refine yi_G_run 3 (16, [(0, .inr (.inr (some 82))), (1, .inl s), (2, .inl w)], [.inl 3, .inl 0, .inl w], (I1, L, X), 0, 0) (fun _ => rfl) ?_
    refine yi_G_calls rfl rfl (c_within d (by omega) hS) ?_
    rintro _ (⟨c5, rfl⟩ | ⟨c5, rfl⟩)
    · show yi_G zi_Ms d zi_m107 (19, [(0, .inr (.inr (some 82))), (1, .inl s), (2, .inl w)], [.inl 1], (I1, L, X), 0, 0) _
      refine yi_G_if1 true rfl (by decide) ?_
      refine yi_G_run 2 (26, [(0, .inr (.inr (some 82))), (1, .inl s), (2, .inl w)], [.inl 2, .inl w], (I1, L, X), 0, 0) (fun _ => rfl) ?_
      by_cases h6 : w = 2
      · refine yi_G_if2 false rfl (yi_ne_f h6) ?_
        refine yi_G_run 4 (35, [(0, .inr (.inr (some 82))), (1, .inl s), (2, .inl w)], [.inl s, .inl 60, .inl 32, .inr (.inr (some 82))], (I1, L, X), 0, 0) (fun _ => rfl) ?_
        refine yi_G_iadd rfl (60 + s) (yi_wn (by omega) (by omega)) ?_
        have r7 : I1 82 25 = I 82 25 := by rw [← w2, yi_u_ne _ _ (by omega)]
        refine yi_G_callv rfl rfl (ym_rcv hS) rfl (w_manyBoth (by omega) hS (by omega) (by omega) (by omega) (by omega) (by rw [r7]; omega) (by rw [r7]; omega)) ?_
        rintro _ ⟨z8, rfl⟩
        show yi_G zi_Ms d zi_m107 (39, [(0, .inr (.inr (some 82))), (1, .inl s), (2, .inl w)], [.inl z8], (I1, L, X), 0, 0) _
        refine yi_G_run 1 (64, [(0, .inr (.inr (some 82))), (1, .inl s), (2, .inl w)], [.inl z8], (I1, L, X), 0, 0) (fun _ => rfl) ?_
        exact yi_G_reti rfl rfl (⟨_, _, _, rfl, (fun p k hp => by rw [← w2, yi_u_ne _ _ (fun z => by omega)]), (fun _ _ _ => rfl)⟩)
      · refine yi_G_if2 true rfl (yi_ne_t h6) ?_
        refine yi_G_run 1 (43, [(0, .inr (.inr (some 82))), (1, .inl s), (2, .inl w)], [.inr (.inr (some 82))], (I1, L, X), 0, 0) (fun _ => rfl) ?_
        refine yi_G_get (46, [(0, .inr (.inr (some 82))), (1, .inl s), (2, .inl w)], [.inr (.inr (some 100))], (I1, L, X), 0, 0) rfl (ym_gr hS 17 rfl rfl rfl) ?_
        refine yi_G_run 3 (50, [(0, .inr (.inr (some 82))), (1, .inl s), (2, .inl w)], [.inl s, .inl 3, .inl 8, .inr (.inr (some 100))], (I1, L, X), 0, 0) (fun _ => rfl) ?_
        refine yi_G_imul rfl (3 * s) (yi_wn (by omega) (by omega)) ?_
        refine yi_G_iadd rfl (8 + (3 * s)) (yi_wn (by omega) (by omega)) ?_
        refine yi_G_run 2 (54, [(0, .inr (.inr (some 82))), (1, .inl s), (2, .inl w)], [.inl 3, .inl w, .inl (8 + (3 * s)), .inr (.inr (some 100))], (I1, L, X), 0, 0) (fun _ => rfl) ?_
        by_cases h9 : w = 3
        · refine yi_G_if2 false rfl (yi_ne_f h9) ?_
          refine yi_G_run 2 (62, [(0, .inr (.inr (some 82))), (1, .inl s), (2, .inl w)], [.inl 2, .inl (8 + (3 * s)), .inr (.inr (some 100))], (I1, L, X), 0, 0) (fun _ => rfl) ?_
          refine yi_G_iadd rfl ((8 + (3 * s)) + 2) (yi_wn (by omega) (by omega)) ?_
          have r10 : I1 100 (((8 + (3 * s)) + 2).toNat) = I 100 (((8 + (3 * s)) + 2).toNat) := by rw [← w2, yi_u_ne _ _ (by omega)]
          refine yi_G_iald (64, [(0, .inr (.inr (some 82))), (1, .inl s), (2, .inl w)], [.inl (I 100 (((8 + (3 * s)) + 2).toNat))], (I1, L, X), 0, 0) rfl (ym_li hS 17 rfl (by omega) (by omega) r10) ?_
          exact yi_G_reti rfl rfl (⟨_, _, _, rfl, (fun p k hp => by rw [← w2, yi_u_ne _ _ (fun z => by omega)]), (fun _ _ _ => rfl)⟩)
        · refine yi_G_if2 true rfl (yi_ne_t h9) ?_
          refine yi_G_run 1 (62, [(0, .inr (.inr (some 82))), (1, .inl s), (2, .inl w)], [.inl w, .inl (8 + (3 * s)), .inr (.inr (some 100))], (I1, L, X), 0, 0) (fun _ => rfl) ?_
          refine yi_G_iadd rfl ((8 + (3 * s)) + w) (yi_wn (by omega) (by omega)) ?_
          have r11 : I1 100 (((8 + (3 * s)) + w).toNat) = I 100 (((8 + (3 * s)) + w).toNat) := by rw [← w2, yi_u_ne _ _ (by omega)]
          refine yi_G_iald (64, [(0, .inr (.inr (some 82))), (1, .inl s), (2, .inl w)], [.inl (I 100 (((8 + (3 * s)) + w).toNat))], (I1, L, X), 0, 0) rfl (ym_li hS 17 rfl (by omega) (by omega) r11) ?_
          exact yi_G_reti rfl rfl (⟨_, _, _, rfl, (fun p k hp => by rw [← w2, yi_u_ne _ _ (fun z => by omega)]), (fun _ _ _ => rfl)⟩)
    · show yi_G zi_Ms d zi_m107 (19, [(0, .inr (.inr (some 82))), (1, .inl s), (2, .inl w)], [.inl 0], (I1, L, X), 0, 0) _
      refine yi_G_if1 false rfl (by decide) ?_
      refine yi_G_run 1 (23, [(0, .inr (.inr (some 82))), (1, .inl s), (2, .inl w)], [.inl (-1)], (I1, L, X), 0, 0) (fun _ => rfl) ?_
      exact yi_G_reti rfl rfl (⟨_, _, _, rfl, (fun p k hp => by rw [← w2, yi_u_ne _ _ (fun z => by omega)]), (fun _ _ _ => rfl)⟩)
  · show yi_G zi_Ms d zi_m107 (10, [(0, .inr (.inr (some 82))), (1, .inl s), (2, .inl w)], [.inl 0], (I1, L, X), 0, 0) _
    refine yi_G_if1 true rfl (by decide) ?_
    refine yi_G_run 1 (23, [(0, .inr (.inr (some 82))), (1, .inl s), (2, .inl w)], [.inl (-1)], (I1, L, X), 0, 0) (fun _ => rfl) ?_
    exact yi_G_reti rfl rfl (⟨_, _, _, rfl, (fun p k hp => by rw [← w2, yi_u_ne _ _ (fun z => by omega)]), (fun _ _ _ => rfl)⟩)
theorem q_wish (D : Nat) (hD : 5 ≤ D) {I L : Nat → Nat → Int} {X : ym_X} (hS : ym_S X) {s w : Int} (hLR : ym_LR I) (hS0 : ym_S0 I) (hl : 0 ≤ I 82 25 ∧ I 82 25 ≤ 512) : yi_E zi_Ms D 130 [.inr (.inr (some 82)), .inl s, .inl w] (I, L, X) (fun r => ∃ z I' L', r = (some (.inl z), (I', L', X), 0, 0) ∧ (∀ p k, p ≠ 96 ∧ p ≠ 99 ∧ p ≠ 103 ∧ p ≠ 104 ∧ p ≠ 105 ∧ p ≠ 106 ∧ p ≠ 107 ∧ p ≠ 108 ∧ ¬ (p = 82 ∧ k = 0) ∧ ¬ (p = 82 ∧ k = 34) ∧ ¬ (p = 82 ∧ k = 35) ∧ ¬ (p = 82 ∧ k = 37) ∧ ¬ (p = 82 ∧ k = 40) → I' p k = I p k) ∧ (∀ p k, p ≠ 97 ∧ ¬ (p = 82 ∧ k = 43) → L' p k = L p k)) := by
  obtain ⟨d, rfl⟩ : ∃ d, D = d + 1 := ⟨D - 1, by omega⟩
  refine yi_E_of (M := zi_m130) rfl rfl ?_
  obtain ⟨l0, l1, l2, l3, l4, l5⟩ := id hLR
  obtain ⟨t0, t1, t2, t3, t4⟩ := id hS0
  show yi_G zi_Ms d zi_m130 (0, [(0, .inr (.inr (some 82))), (1, .inl s), (2, .inl w)], [], (I, L, X), 0, 0) _
  refine yi_G_run 2 (2, [(0, .inr (.inr (some 82))), (1, .inl s), (2, .inl w)], [.inl 0, .inr (.inr (some 82))], (I, L, X), 0, 0) (fun _ => rfl) ?_
  refine yi_G_put (5, [(0, .inr (.inr (some 82))), (1, .inl s), (2, .inl w)], [], ((yi_u I 82 0 0), L, X), 0, 0) rfl (ym_pi hS rfl rfl) ?_
  generalize w2 : yi_u I 82 0 0 = I1
  refine yi_G_run 3 (8, [(0, .inr (.inr (some 82))), (1, .inl s), (2, .inl w)], [.inr (.inr (some 82)), .inl 0, .inl s], (I1, L, X), 0, 0) (fun _ => rfl) ?_
  refine yi_G_get (11, [(0, .inr (.inr (some 82))), (1, .inl s), (2, .inl w)], [.inr (.inr (some 88)), .inl 0, .inl s], (I1, L, X), 0, 0) rfl (ym_gr hS 5 rfl rfl rfl) ?_
  refine yi_G_run 1 (12, [(0, .inr (.inr (some 82))), (1, .inl s), (2, .inl w)], [.inl 5, .inr (.inr (some 88)), .inl 0, .inl s], (I1, L, X), 0, 0) (fun _ => rfl) ?_
  have r3 : I1 88 5 = I 88 5 := by rw [← w2, yi_u_ne _ _ (by omega)]
  refine yi_G_iald (13, [(0, .inr (.inr (some 82))), (1, .inl s), (2, .inl w)], [.inl (I 88 5), .inl 0, .inl s], (I1, L, X), 0, 0) rfl (ym_li hS 5 rfl (by omega) (by omega) r3) ?_
  refine yi_G_run 1 (14, [(0, .inr (.inr (some 82))), (1, .inl s), (2, .inl w)], [.inl 1, .inl (I 88 5), .inl 0, .inl s], (I1, L, X), 0, 0) (fun _ => rfl) ?_
  refine yi_G_isub rfl ((I 88 5) - 1) (yi_wn (by omega) (by omega)) ?_
  refine yi_G_calls rfl rfl (c_within d (by omega) hS) ?_
  rintro _ (⟨c4, rfl⟩ | ⟨c4, rfl⟩)
  · show yi_G zi_Ms d zi_m130 (18, [(0, .inr (.inr (some 82))), (1, .inl s), (2, .inl w)], [.inl 1], (I1, L, X), 0, 0) _
    refine yi_G_if1 false rfl (by decide) ?_
    refine yi_G_run 3 (24, [(0, .inr (.inr (some 82))), (1, .inl s), (2, .inl w)], [.inl 2, .inl 0, .inl w], (I1, L, X), 0, 0) (fun _ => rfl) ?_
    refine yi_G_calls rfl rfl (c_within d (by omega) hS) ?_
    rintro _ (⟨c5, rfl⟩ | ⟨c5, rfl⟩)
    · show yi_G zi_Ms d zi_m130 (27, [(0, .inr (.inr (some 82))), (1, .inl s), (2, .inl w)], [.inl 1], (I1, L, X), 0, 0) _
      refine yi_G_if1 true rfl (by decide) ?_
      refine yi_G_run 1 (33, [(0, .inr (.inr (some 82))), (1, .inl s), (2, .inl w)], [.inr (.inr (some 82))], (I1, L, X), 0, 0) (fun _ => rfl) ?_
      have r9 : I1 82 25 = I 82 25 := by rw [← w2, yi_u_ne _ _ (by omega)]
      refine yi_G_callv rfl rfl (ym_rcv hS) rfl (c_findLeft d (by omega) hS (ym_LR_t (fun k => by rw [← w2, yi_u_ne _ _ (fun z => absurd z.1 (by decide))]) hLR) (ym_S0_t (fun k => by rw [← w2, yi_u_ne _ _ (fun z => absurd z.1 (by decide))]) hS0) ⟨(by rw [r9]; omega), (by rw [r9]; omega)⟩) ?_
      rintro _ ⟨z8, L6, rfl, f7⟩
      show yi_G zi_Ms d zi_m130 (36, [(0, .inr (.inr (some 82))), (1, .inl s), (2, .inl w)], [.inl z8], (I1, L6, X), 0, 0) _
      refine yi_G_run 3 (39, [(0, .inr (.inr (some 82))), (1, .inl s), (2, .inl w)], [.inl 2, .inl w], (I1, L6, X), 0, 0) (fun _ => rfl) ?_
      by_cases h10 : 2 ≤ w
      · refine yi_G_if2 true rfl (yi_ge_t h10) ?_
        refine yi_G_run 4 (64, [(0, .inr (.inr (some 82))), (1, .inl s), (2, .inl w)], [.inl s, .inl 40, .inl 39, .inr (.inr (some 82))], (I1, L6, X), 0, 0) (fun _ => rfl) ?_
        refine yi_G_iadd rfl (40 + s) (yi_wn (by omega) (by omega)) ?_
        have r11 : I1 82 25 = I 82 25 := by rw [← w2, yi_u_ne _ _ (by omega)]
        refine yi_G_callv rfl rfl (ym_rcv hS) rfl (w_manyBoth (by omega) hS (by omega) (by omega) (by omega) (by omega) (by rw [r11]; omega) (by rw [r11]; omega)) ?_
        rintro _ ⟨z12, rfl⟩
        show yi_G zi_Ms d zi_m130 (68, [(0, .inr (.inr (some 82))), (1, .inl s), (2, .inl w)], [.inl z12], (I1, L6, X), 0, 0) _
        exact yi_G_reti rfl rfl (⟨_, _, _, rfl, (fun p k hp => by rw [← w2, yi_u_ne _ _ (fun z => by omega)]), (fun p k hp => by rw [f7 p k (by omega)])⟩)
      · refine yi_G_if2 false rfl (yi_ge_f h10) ?_
        refine yi_G_run 1 (43, [(0, .inr (.inr (some 82))), (1, .inl s), (2, .inl w)], [.inr (.inr (some 82))], (I1, L6, X), 0, 0) (fun _ => rfl) ?_
        refine yi_G_get (46, [(0, .inr (.inr (some 82))), (1, .inl s), (2, .inl w)], [.inr (.inr (some 88))], (I1, L6, X), 0, 0) rfl (ym_gr hS 5 rfl rfl rfl) ?_
        refine yi_G_run 3 (50, [(0, .inr (.inr (some 82))), (1, .inl s), (2, .inl w)], [.inl s, .inl 3, .inl 25, .inr (.inr (some 88))], (I1, L6, X), 0, 0) (fun _ => rfl) ?_
        refine yi_G_imul rfl (3 * s) (yi_wn (by omega) (by omega)) ?_
        refine yi_G_iadd rfl (25 + (3 * s)) (yi_wn (by omega) (by omega)) ?_
        refine yi_G_run 1 (53, [(0, .inr (.inr (some 82))), (1, .inl s), (2, .inl w)], [.inl w, .inl (25 + (3 * s)), .inr (.inr (some 88))], (I1, L6, X), 0, 0) (fun _ => rfl) ?_
        refine yi_G_iadd rfl ((25 + (3 * s)) + w) (yi_wn (by omega) (by omega)) ?_
        have r13 : I1 88 (((25 + (3 * s)) + w).toNat) = I 88 (((25 + (3 * s)) + w).toNat) := by rw [← w2, yi_u_ne _ _ (by omega)]
        refine yi_G_iald (55, [(0, .inr (.inr (some 82))), (1, .inl s), (2, .inl w)], [.inl (I 88 (((25 + (3 * s)) + w).toNat))], (I1, L6, X), 0, 0) rfl (ym_li hS 5 rfl (by omega) (by omega) r13) ?_
        refine yi_G_run 1 (68, [(0, .inr (.inr (some 82))), (1, .inl s), (2, .inl w)], [.inl (I 88 (((25 + (3 * s)) + w).toNat))], (I1, L6, X), 0, 0) (fun _ => rfl) ?_
        exact yi_G_reti rfl rfl (⟨_, _, _, rfl, (fun p k hp => by rw [← w2, yi_u_ne _ _ (fun z => by omega)]), (fun p k hp => by rw [f7 p k (by omega)])⟩)
    · show yi_G zi_Ms d zi_m130 (27, [(0, .inr (.inr (some 82))), (1, .inl s), (2, .inl w)], [.inl 0], (I1, L, X), 0, 0) _
      refine yi_G_if1 false rfl (by decide) ?_
      refine yi_G_run 1 (31, [(0, .inr (.inr (some 82))), (1, .inl s), (2, .inl w)], [.inl (-1)], (I1, L, X), 0, 0) (fun _ => rfl) ?_
      exact yi_G_reti rfl rfl (⟨_, _, _, rfl, (fun p k hp => by rw [← w2, yi_u_ne _ _ (fun z => by omega)]), (fun _ _ _ => rfl)⟩)
  · show yi_G zi_Ms d zi_m130 (18, [(0, .inr (.inr (some 82))), (1, .inl s), (2, .inl w)], [.inl 0], (I1, L, X), 0, 0) _
    refine yi_G_if1 true rfl (by decide) ?_
    refine yi_G_run 1 (31, [(0, .inr (.inr (some 82))), (1, .inl s), (2, .inl w)], [.inl (-1)], (I1, L, X), 0, 0) (fun _ => rfl) ?_
    exact yi_G_reti rfl rfl (⟨_, _, _, rfl, (fun p k hp => by rw [← w2, yi_u_ne _ _ (fun z => by omega)]), (fun _ _ _ => rfl)⟩)
theorem q_prophet (D : Nat) (hD : 4 ≤ D) {I L : Nat → Nat → Int} {X : ym_X} (hS : ym_S X) {p w : Int} (hLR : ym_LR I) (hS0 : ym_S0 I) (hl : 0 ≤ I 82 25 ∧ I 82 25 ≤ 512) : yi_E zi_Ms D 91 [.inr (.inr (some 82)), .inl p, .inl w] (I, L, X) (fun r => ∃ z I' L', r = (some (.inl z), (I', L', X), 0, 0) ∧ (∀ p k, p ≠ 96 ∧ p ≠ 99 ∧ p ≠ 103 ∧ p ≠ 104 ∧ p ≠ 105 ∧ p ≠ 106 ∧ p ≠ 107 ∧ p ≠ 108 ∧ ¬ (p = 82 ∧ k = 0) ∧ ¬ (p = 82 ∧ k = 34) ∧ ¬ (p = 82 ∧ k = 35) ∧ ¬ (p = 82 ∧ k = 37) ∧ ¬ (p = 82 ∧ k = 40) → I' p k = I p k) ∧ (∀ p k, p ≠ 97 ∧ ¬ (p = 82 ∧ k = 43) → L' p k = L p k)) := by
  obtain ⟨d, rfl⟩ : ∃ d, D = d + 1 := ⟨D - 1, by omega⟩
  refine yi_E_of (M := zi_m91) rfl rfl ?_
  obtain ⟨l0, l1, l2, l3, l4, l5⟩ := id hLR
  obtain ⟨t0, t1, t2, t3, t4⟩ := id hS0
  show yi_G zi_Ms d zi_m91 (0, [(0, .inr (.inr (some 82))), (1, .inl p), (2, .inl w)], [], (I, L, X), 0, 0) _
  refine yi_G_run 2 (2, [(0, .inr (.inr (some 82))), (1, .inl p), (2, .inl w)], [.inl 0, .inr (.inr (some 82))], (I, L, X), 0, 0) (fun _ => rfl) ?_
  refine yi_G_put (5, [(0, .inr (.inr (some 82))), (1, .inl p), (2, .inl w)], [], ((yi_u I 82 0 0), L, X), 0, 0) rfl (ym_pi hS rfl rfl) ?_
  generalize w2 : yi_u I 82 0 0 = I1
  refine yi_G_run 2 (7, [(0, .inr (.inr (some 82))), (1, .inl p), (2, .inl w)], [.inl p, .inr (.inr (some 82))], (I1, L, X), 0, 0) (fun _ => rfl) ?_
  have r4 : I1 88 3 = I 88 3 := by rw [← w2, yi_u_ne _ _ (by omega)]
  refine yi_G_callv rfl rfl (ym_rcv hS) rfl (c_isProphet d (by omega) hS r4) ?_
  rintro _ (⟨c3, rfl⟩ | ⟨c3, rfl⟩)
  · show yi_G zi_Ms d zi_m91 (10, [(0, .inr (.inr (some 82))), (1, .inl p), (2, .inl w)], [.inl 1], (I1, L, X), 0, 0) _
    refine yi_G_if1 false rfl (by decide) ?_
    refine yi_G_run 3 (16, [(0, .inr (.inr (some 82))), (1, .inl p), (2, .inl w)], [.inl 3, .inl 0, .inl w], (I1, L, X), 0, 0) (fun _ => rfl) ?_
    refine yi_G_calls rfl rfl (c_within d (by omega) hS) ?_
    rintro _ (⟨c5, rfl⟩ | ⟨c5, rfl⟩)
    · show yi_G zi_Ms d zi_m91 (19, [(0, .inr (.inr (some 82))), (1, .inl p), (2, .inl w)], [.inl 1], (I1, L, X), 0, 0) _
      refine yi_G_if1 true rfl (by decide) ?_
      refine yi_G_run 4 (29, [(4, .inl 0), (3, .inl 0), (0, .inr (.inr (some 82))), (1, .inl p), (2, .inl w)], [], (I1, L, X), 0, 0) (fun _ => rfl) ?_
      have pt29 : ∀ (m : Nat) (k : Int) (n : Int), (0 ≤ k) → (k ≤ I 100 0) → (I 100 0 - k).toNat = m → yi_G zi_Ms d zi_m91 (29, [(4, .inl k), (3, .inl n), (0, .inr (.inr (some 82))), (1, .inl p), (2, .inl w)], [], (I1, L, X), 0, 0) (fun r => ∃ z I' L', r = (some (.inl z), (I', L', X), 0, 0) ∧ (∀ p k, p ≠ 96 ∧ p ≠ 99 ∧ p ≠ 103 ∧ p ≠ 104 ∧ p ≠ 105 ∧ p ≠ 106 ∧ p ≠ 107 ∧ p ≠ 108 ∧ ¬ (p = 82 ∧ k = 0) ∧ ¬ (p = 82 ∧ k = 34) ∧ ¬ (p = 82 ∧ k = 35) ∧ ¬ (p = 82 ∧ k = 37) ∧ ¬ (p = 82 ∧ k = 40) → I' p k = I p k) ∧ (∀ p k, p ≠ 97 ∧ ¬ (p = 82 ∧ k = 43) → L' p k = L p k)) := by
        intro m29
        induction m29 using Nat.strongRecOn with
        | _ m29 ih29 =>
        intro k n k0 k1 hm29
        refine yi_G_run 2 (32, [(4, .inl k), (3, .inl n), (0, .inr (.inr (some 82))), (1, .inl p), (2, .inl w)], [.inr (.inr (some 82)), .inl k], (I1, L, X), 0, 0) (fun _ => rfl) ?_
        refine yi_G_get (35, [(4, .inl k), (3, .inl n), (0, .inr (.inr (some 82))), (1, .inl p), (2, .inl w)], [.inr (.inr (some 100)), .inl k], (I1, L, X), 0, 0) rfl (ym_gr hS 17 rfl rfl rfl) ?_
        refine yi_G_run 1 (36, [(4, .inl k), (3, .inl n), (0, .inr (.inr (some 82))), (1, .inl p), (2, .inl w)], [.inl 0, .inr (.inr (some 100)), .inl k], (I1, L, X), 0, 0) (fun _ => rfl) ?_
        have r6 : I1 100 0 = I 100 0 := by rw [← w2, yi_u_ne _ _ (by omega)]
        refine yi_G_iald (37, [(4, .inl k), (3, .inl n), (0, .inr (.inr (some 82))), (1, .inl p), (2, .inl w)], [.inl (I 100 0), .inl k], (I1, L, X), 0, 0) rfl (ym_li hS 17 rfl (by omega) (by omega) r6) ?_
        by_cases h7 : (I 100 0) ≤ k
        · refine yi_G_if2 true rfl (yi_ge_t h7) ?_
          refine yi_G_run 2 (81, [(4, .inl 0), (3, .inl n), (0, .inr (.inr (some 82))), (1, .inl p), (2, .inl w)], [], (I1, L, X), 0, 0) (fun _ => rfl) ?_
          have pt81 : ∀ (m : Nat) (k : Int) (n : Int), (0 ≤ k) → (k ≤ I 88 5) → (I 88 5 - k).toNat = m → yi_G zi_Ms d zi_m91 (81, [(4, .inl k), (3, .inl n), (0, .inr (.inr (some 82))), (1, .inl p), (2, .inl w)], [], (I1, L, X), 0, 0) (fun r => ∃ z I' L', r = (some (.inl z), (I', L', X), 0, 0) ∧ (∀ p k, p ≠ 96 ∧ p ≠ 99 ∧ p ≠ 103 ∧ p ≠ 104 ∧ p ≠ 105 ∧ p ≠ 106 ∧ p ≠ 107 ∧ p ≠ 108 ∧ ¬ (p = 82 ∧ k = 0) ∧ ¬ (p = 82 ∧ k = 34) ∧ ¬ (p = 82 ∧ k = 35) ∧ ¬ (p = 82 ∧ k = 37) ∧ ¬ (p = 82 ∧ k = 40) → I' p k = I p k) ∧ (∀ p k, p ≠ 97 ∧ ¬ (p = 82 ∧ k = 43) → L' p k = L p k)) := by
            intro m81
            induction m81 using Nat.strongRecOn with
            | _ m81 ih81 =>
            intro k n k2 k3 hm81
            refine yi_G_run 2 (84, [(4, .inl k), (3, .inl n), (0, .inr (.inr (some 82))), (1, .inl p), (2, .inl w)], [.inr (.inr (some 82)), .inl k], (I1, L, X), 0, 0) (fun _ => rfl) ?_
            refine yi_G_get (87, [(4, .inl k), (3, .inl n), (0, .inr (.inr (some 82))), (1, .inl p), (2, .inl w)], [.inr (.inr (some 88)), .inl k], (I1, L, X), 0, 0) rfl (ym_gr hS 5 rfl rfl rfl) ?_
            refine yi_G_run 1 (88, [(4, .inl k), (3, .inl n), (0, .inr (.inr (some 82))), (1, .inl p), (2, .inl w)], [.inl 5, .inr (.inr (some 88)), .inl k], (I1, L, X), 0, 0) (fun _ => rfl) ?_
            have r8 : I1 88 5 = I 88 5 := by rw [← w2, yi_u_ne _ _ (by omega)]
            refine yi_G_iald (89, [(4, .inl k), (3, .inl n), (0, .inr (.inr (some 82))), (1, .inl p), (2, .inl w)], [.inl (I 88 5), .inl k], (I1, L, X), 0, 0) rfl (ym_li hS 5 rfl (by omega) (by omega) r8) ?_
            by_cases h9 : (I 88 5) ≤ k
            · refine yi_G_if2 true rfl (yi_ge_t h9) ?_
              refine yi_G_run 1 (131, [(4, .inl k), (3, .inl n), (0, .inr (.inr (some 82))), (1, .inl p), (2, .inl w)], [.inl w], (I1, L, X), 0, 0) (fun _ => rfl) ?_
              by_cases h10 : w = 0
              · refine yi_G_if1 false rfl (yi_ne_f h10) ?_
                refine yi_G_run 2 (136, [(4, .inl k), (3, .inl n), (0, .inr (.inr (some 82))), (1, .inl p), (2, .inl w)], [.inl p, .inr (.inr (some 82))], (I1, L, X), 0, 0) (fun _ => rfl) ?_
                refine yi_G_callv rfl rfl (ym_rcv hS) rfl (c_kindOf d (by omega) hS (by omega) (by omega)) ?_
                rintro _ rfl
                show yi_G zi_Ms d zi_m91 (139, [(4, .inl k), (3, .inl n), (0, .inr (.inr (some 82))), (1, .inl p), (2, .inl w)], [.inl (I1 88 (11 + 2 * p).toNat)], (I1, L, X), 0, 0) _
                refine yi_G_run 1 (159, [(4, .inl k), (3, .inl n), (0, .inr (.inr (some 82))), (1, .inl p), (2, .inl w)], [.inl (I1 88 (11 + 2 * p).toNat)], (I1, L, X), 0, 0) (fun _ => rfl) ?_
                exact yi_G_reti rfl rfl (⟨_, _, _, rfl, (fun p k hp => by rw [← w2, yi_u_ne _ _ (fun z => by omega)]), (fun _ _ _ => rfl)⟩)
              · refine yi_G_if1 true rfl (yi_ne_t h10) ?_
                refine yi_G_run 2 (144, [(4, .inl k), (3, .inl n), (0, .inr (.inr (some 82))), (1, .inl p), (2, .inl w)], [.inl 1, .inl w], (I1, L, X), 0, 0) (fun _ => rfl) ?_
                by_cases h11 : w = 1
                · refine yi_G_if2 false rfl (yi_ne_f h11) ?_
                  refine yi_G_run 1 (148, [(4, .inl k), (3, .inl n), (0, .inr (.inr (some 82))), (1, .inl p), (2, .inl w)], [.inr (.inr (some 82))], (I1, L, X), 0, 0) (fun _ => rfl) ?_
                  refine yi_G_get (151, [(4, .inl k), (3, .inl n), (0, .inr (.inr (some 82))), (1, .inl p), (2, .inl w)], [.inr (.inr (some 100))], (I1, L, X), 0, 0) rfl (ym_gr hS 17 rfl rfl rfl) ?_
                  refine yi_G_run 2 (153, [(4, .inl k), (3, .inl n), (0, .inr (.inr (some 82))), (1, .inl p), (2, .inl w)], [.inl p, .inl 3, .inr (.inr (some 100))], (I1, L, X), 0, 0) (fun _ => rfl) ?_
                  refine yi_G_iadd rfl (3 + p) (yi_wn (by omega) (by omega)) ?_
                  have r12 : I1 100 ((3 + p).toNat) = I 100 ((3 + p).toNat) := by rw [← w2, yi_u_ne _ _ (by omega)]
                  refine yi_G_iald (155, [(4, .inl k), (3, .inl n), (0, .inr (.inr (some 82))), (1, .inl p), (2, .inl w)], [.inl (I 100 ((3 + p).toNat))], (I1, L, X), 0, 0) rfl (ym_li hS 17 rfl (by omega) (by omega) r12) ?_
                  refine yi_G_run 1 (159, [(4, .inl k), (3, .inl n), (0, .inr (.inr (some 82))), (1, .inl p), (2, .inl w)], [.inl (I 100 ((3 + p).toNat))], (I1, L, X), 0, 0) (fun _ => rfl) ?_
                  exact yi_G_reti rfl rfl (⟨_, _, _, rfl, (fun p k hp => by rw [← w2, yi_u_ne _ _ (fun z => by omega)]), (fun _ _ _ => rfl)⟩)
                · refine yi_G_if2 true rfl (yi_ne_t h11) ?_
                  refine yi_G_run 1 (159, [(4, .inl k), (3, .inl n), (0, .inr (.inr (some 82))), (1, .inl p), (2, .inl w)], [.inl n], (I1, L, X), 0, 0) (fun _ => rfl) ?_
                  exact yi_G_reti rfl rfl (⟨_, _, _, rfl, (fun p k hp => by rw [← w2, yi_u_ne _ _ (fun z => by omega)]), (fun _ _ _ => rfl)⟩)
            · refine yi_G_if2 false rfl (yi_ge_f h9) ?_
              refine yi_G_run 2 (94, [(4, .inl k), (3, .inl n), (0, .inr (.inr (some 82))), (1, .inl p), (2, .inl w)], [.inl 3, .inl w], (I1, L, X), 0, 0) (fun _ => rfl) ?_
              by_cases h13 : w = 3
              · refine yi_G_if2 false rfl (yi_ne_f h13) ?_
                refine yi_G_run 2 (99, [(4, .inl k), (3, .inl n), (0, .inr (.inr (some 82))), (1, .inl p), (2, .inl w)], [.inr (.inr (some 82)), .inl n], (I1, L, X), 0, 0) (fun _ => rfl) ?_
                refine yi_G_get (102, [(4, .inl k), (3, .inl n), (0, .inr (.inr (some 82))), (1, .inl p), (2, .inl w)], [.inr (.inr (some 88)), .inl n], (I1, L, X), 0, 0) rfl (ym_gr hS 5 rfl rfl rfl) ?_
                refine yi_G_run 3 (107, [(4, .inl k), (3, .inl n), (0, .inr (.inr (some 82))), (1, .inl p), (2, .inl w)], [.inl k, .inl 3, .inl 25, .inr (.inr (some 88)), .inl n], (I1, L, X), 0, 0) (fun _ => rfl) ?_
                refine yi_G_imul rfl (3 * k) (yi_wn (by omega) (by omega)) ?_
                refine yi_G_iadd rfl (25 + (3 * k)) (yi_wn (by omega) (by omega)) ?_
                have r14 : I1 88 ((25 + (3 * k)).toNat) = I 88 ((25 + (3 * k)).toNat) := by rw [← w2, yi_u_ne _ _ (by omega)]
                refine yi_G_iald (110, [(4, .inl k), (3, .inl n), (0, .inr (.inr (some 82))), (1, .inl p), (2, .inl w)], [.inl (I 88 ((25 + (3 * k)).toNat)), .inl n], (I1, L, X), 0, 0) rfl (ym_li hS 5 rfl (by omega) (by omega) r14) ?_
                refine yi_G_run 1 (111, [(4, .inl k), (3, .inl n), (0, .inr (.inr (some 82))), (1, .inl p), (2, .inl w)], [.inl p, .inl (I 88 ((25 + (3 * k)).toNat)), .inl n], (I1, L, X), 0, 0) (fun _ => rfl) ?_
                by_cases h15 : (I 88 ((25 + (3 * k)).toNat)) = p
                · refine yi_G_if2 false rfl (yi_ne_f h15) ?_
                  refine yi_G_run 6 (124, [(3, .inl (yi_ior n (yi_shl 1 k))), (4, .inl k), (0, .inr (.inr (some 82))), (1, .inl p), (2, .inl w)], [], (I1, L, X), 0, 0) (fun _ => rfl) ?_
                  refine yi_G_iinc [(4, .inl (k + 1)), (3, .inl (yi_ior n (yi_shl 1 k))), (0, .inr (.inr (some 82))), (1, .inl p), (2, .inl w)] rfl rfl rfl (by rw [show yi_w (k + 1) = k + 1 from (yi_wn (by omega) (by omega)).trans (by omega)]; rfl) ?_
                  refine yi_G_run 1 (81, [(4, .inl (k + 1)), (3, .inl (yi_ior n (yi_shl 1 k))), (0, .inr (.inr (some 82))), (1, .inl p), (2, .inl w)], [], (I1, L, X), 0, 0) (fun _ => rfl) ?_
                  exact ih81 _ (by omega) (k + 1) (yi_ior n (yi_shl 1 k)) (by omega) (by omega) rfl
                · refine yi_G_if2 true rfl (yi_ne_t h15) ?_
                  refine yi_G_run 3 (124, [(3, .inl (yi_ior n 0)), (4, .inl k), (0, .inr (.inr (some 82))), (1, .inl p), (2, .inl w)], [], (I1, L, X), 0, 0) (fun _ => rfl) ?_
                  refine yi_G_iinc [(4, .inl (k + 1)), (3, .inl (yi_ior n 0)), (0, .inr (.inr (some 82))), (1, .inl p), (2, .inl w)] rfl rfl rfl (by rw [show yi_w (k + 1) = k + 1 from (yi_wn (by omega) (by omega)).trans (by omega)]; rfl) ?_
                  refine yi_G_run 1 (81, [(4, .inl (k + 1)), (3, .inl (yi_ior n 0)), (0, .inr (.inr (some 82))), (1, .inl p), (2, .inl w)], [], (I1, L, X), 0, 0) (fun _ => rfl) ?_
                  exact ih81 _ (by omega) (k + 1) (yi_ior n 0) (by omega) (by omega) rfl
              · refine yi_G_if2 true rfl (yi_ne_t h13) ?_
                refine yi_G_run 1 (131, [(4, .inl k), (3, .inl n), (0, .inr (.inr (some 82))), (1, .inl p), (2, .inl w)], [.inl w], (I1, L, X), 0, 0) (fun _ => rfl) ?_
                by_cases h16 : w = 0
                · refine yi_G_if1 false rfl (yi_ne_f h16) ?_
                  refine yi_G_run 2 (136, [(4, .inl k), (3, .inl n), (0, .inr (.inr (some 82))), (1, .inl p), (2, .inl w)], [.inl p, .inr (.inr (some 82))], (I1, L, X), 0, 0) (fun _ => rfl) ?_
                  refine yi_G_callv rfl rfl (ym_rcv hS) rfl (c_kindOf d (by omega) hS (by omega) (by omega)) ?_
                  rintro _ rfl
                  show yi_G zi_Ms d zi_m91 (139, [(4, .inl k), (3, .inl n), (0, .inr (.inr (some 82))), (1, .inl p), (2, .inl w)], [.inl (I1 88 (11 + 2 * p).toNat)], (I1, L, X), 0, 0) _
                  refine yi_G_run 1 (159, [(4, .inl k), (3, .inl n), (0, .inr (.inr (some 82))), (1, .inl p), (2, .inl w)], [.inl (I1 88 (11 + 2 * p).toNat)], (I1, L, X), 0, 0) (fun _ => rfl) ?_
                  exact yi_G_reti rfl rfl (⟨_, _, _, rfl, (fun p k hp => by rw [← w2, yi_u_ne _ _ (fun z => by omega)]), (fun _ _ _ => rfl)⟩)
                · refine yi_G_if1 true rfl (yi_ne_t h16) ?_
                  refine yi_G_run 2 (144, [(4, .inl k), (3, .inl n), (0, .inr (.inr (some 82))), (1, .inl p), (2, .inl w)], [.inl 1, .inl w], (I1, L, X), 0, 0) (fun _ => rfl) ?_
                  by_cases h17 : w = 1
                  · refine yi_G_if2 false rfl (yi_ne_f h17) ?_
                    refine yi_G_run 1 (148, [(4, .inl k), (3, .inl n), (0, .inr (.inr (some 82))), (1, .inl p), (2, .inl w)], [.inr (.inr (some 82))], (I1, L, X), 0, 0) (fun _ => rfl) ?_
                    refine yi_G_get (151, [(4, .inl k), (3, .inl n), (0, .inr (.inr (some 82))), (1, .inl p), (2, .inl w)], [.inr (.inr (some 100))], (I1, L, X), 0, 0) rfl (ym_gr hS 17 rfl rfl rfl) ?_
                    refine yi_G_run 2 (153, [(4, .inl k), (3, .inl n), (0, .inr (.inr (some 82))), (1, .inl p), (2, .inl w)], [.inl p, .inl 3, .inr (.inr (some 100))], (I1, L, X), 0, 0) (fun _ => rfl) ?_
                    refine yi_G_iadd rfl (3 + p) (yi_wn (by omega) (by omega)) ?_
                    have r18 : I1 100 ((3 + p).toNat) = I 100 ((3 + p).toNat) := by rw [← w2, yi_u_ne _ _ (by omega)]
                    refine yi_G_iald (155, [(4, .inl k), (3, .inl n), (0, .inr (.inr (some 82))), (1, .inl p), (2, .inl w)], [.inl (I 100 ((3 + p).toNat))], (I1, L, X), 0, 0) rfl (ym_li hS 17 rfl (by omega) (by omega) r18) ?_
                    refine yi_G_run 1 (159, [(4, .inl k), (3, .inl n), (0, .inr (.inr (some 82))), (1, .inl p), (2, .inl w)], [.inl (I 100 ((3 + p).toNat))], (I1, L, X), 0, 0) (fun _ => rfl) ?_
                    exact yi_G_reti rfl rfl (⟨_, _, _, rfl, (fun p k hp => by rw [← w2, yi_u_ne _ _ (fun z => by omega)]), (fun _ _ _ => rfl)⟩)
                  · refine yi_G_if2 true rfl (yi_ne_t h17) ?_
                    refine yi_G_run 1 (159, [(4, .inl k), (3, .inl n), (0, .inr (.inr (some 82))), (1, .inl p), (2, .inl w)], [.inl n], (I1, L, X), 0, 0) (fun _ => rfl) ?_
                    exact yi_G_reti rfl rfl (⟨_, _, _, rfl, (fun p k hp => by rw [← w2, yi_u_ne _ _ (fun z => by omega)]), (fun _ _ _ => rfl)⟩)
          exact pt81 _ 0 n (by omega) (by omega) rfl
        · refine yi_G_if2 false rfl (yi_ge_f h7) ?_
          refine yi_G_run 2 (42, [(4, .inl k), (3, .inl n), (0, .inr (.inr (some 82))), (1, .inl p), (2, .inl w)], [.inl 2, .inl w], (I1, L, X), 0, 0) (fun _ => rfl) ?_
          by_cases h19 : w = 2
          · refine yi_G_if2 false rfl (yi_ne_f h19) ?_
            refine yi_G_run 2 (47, [(4, .inl k), (3, .inl n), (0, .inr (.inr (some 82))), (1, .inl p), (2, .inl w)], [.inr (.inr (some 82)), .inl n], (I1, L, X), 0, 0) (fun _ => rfl) ?_
            refine yi_G_get (50, [(4, .inl k), (3, .inl n), (0, .inr (.inr (some 82))), (1, .inl p), (2, .inl w)], [.inr (.inr (some 100)), .inl n], (I1, L, X), 0, 0) rfl (ym_gr hS 17 rfl rfl rfl) ?_
            refine yi_G_run 3 (55, [(4, .inl k), (3, .inl n), (0, .inr (.inr (some 82))), (1, .inl p), (2, .inl w)], [.inl k, .inl 3, .inl 8, .inr (.inr (some 100)), .inl n], (I1, L, X), 0, 0) (fun _ => rfl) ?_
            refine yi_G_imul rfl (3 * k) (yi_wn (by omega) (by omega)) ?_
            refine yi_G_iadd rfl (8 + (3 * k)) (yi_wn (by omega) (by omega)) ?_
            have r20 : I1 100 ((8 + (3 * k)).toNat) = I 100 ((8 + (3 * k)).toNat) := by rw [← w2, yi_u_ne _ _ (by omega)]
            refine yi_G_iald (58, [(4, .inl k), (3, .inl n), (0, .inr (.inr (some 82))), (1, .inl p), (2, .inl w)], [.inl (I 100 ((8 + (3 * k)).toNat)), .inl n], (I1, L, X), 0, 0) rfl (ym_li hS 17 rfl (by omega) (by omega) r20) ?_
            refine yi_G_run 1 (59, [(4, .inl k), (3, .inl n), (0, .inr (.inr (some 82))), (1, .inl p), (2, .inl w)], [.inl p, .inl (I 100 ((8 + (3 * k)).toNat)), .inl n], (I1, L, X), 0, 0) (fun _ => rfl) ?_
            by_cases h21 : (I 100 ((8 + (3 * k)).toNat)) = p
            · refine yi_G_if2 false rfl (yi_ne_f h21) ?_
              refine yi_G_run 6 (72, [(3, .inl (yi_ior n (yi_shl 1 k))), (4, .inl k), (0, .inr (.inr (some 82))), (1, .inl p), (2, .inl w)], [], (I1, L, X), 0, 0) (fun _ => rfl) ?_
              refine yi_G_iinc [(4, .inl (k + 1)), (3, .inl (yi_ior n (yi_shl 1 k))), (0, .inr (.inr (some 82))), (1, .inl p), (2, .inl w)] rfl rfl rfl (by rw [show yi_w (k + 1) = k + 1 from (yi_wn (by omega) (by omega)).trans (by omega)]; rfl) ?_
              refine yi_G_run 1 (29, [(4, .inl (k + 1)), (3, .inl (yi_ior n (yi_shl 1 k))), (0, .inr (.inr (some 82))), (1, .inl p), (2, .inl w)], [], (I1, L, X), 0, 0) (fun _ => rfl) ?_
              exact ih29 _ (by omega) (k + 1) (yi_ior n (yi_shl 1 k)) (by omega) (by omega) rfl
            · refine yi_G_if2 true rfl (yi_ne_t h21) ?_
              refine yi_G_run 3 (72, [(3, .inl (yi_ior n 0)), (4, .inl k), (0, .inr (.inr (some 82))), (1, .inl p), (2, .inl w)], [], (I1, L, X), 0, 0) (fun _ => rfl) ?_
              refine yi_G_iinc [(4, .inl (k + 1)), (3, .inl (yi_ior n 0)), (0, .inr (.inr (some 82))), (1, .inl p), (2, .inl w)] rfl rfl rfl (by rw [show yi_w (k + 1) = k + 1 from (yi_wn (by omega) (by omega)).trans (by omega)]; rfl) ?_
              refine yi_G_run 1 (29, [(4, .inl (k + 1)), (3, .inl (yi_ior n 0)), (0, .inr (.inr (some 82))), (1, .inl p), (2, .inl w)], [], (I1, L, X), 0, 0) (fun _ => rfl) ?_
              exact ih29 _ (by omega) (k + 1) (yi_ior n 0) (by omega) (by omega) rfl
          · refine yi_G_if2 true rfl (yi_ne_t h19) ?_
            refine yi_G_run 2 (81, [(4, .inl 0), (3, .inl n), (0, .inr (.inr (some 82))), (1, .inl p), (2, .inl w)], [], (I1, L, X), 0, 0) (fun _ => rfl) ?_
            have pt81 : ∀ (m : Nat) (k : Int) (n : Int), (0 ≤ k) → (k ≤ I 88 5) → (I 88 5 - k).toNat = m → yi_G zi_Ms d zi_m91 (81, [(4, .inl k), (3, .inl n), (0, .inr (.inr (some 82))), (1, .inl p), (2, .inl w)], [], (I1, L, X), 0, 0) (fun r => ∃ z I' L', r = (some (.inl z), (I', L', X), 0, 0) ∧ (∀ p k, p ≠ 96 ∧ p ≠ 99 ∧ p ≠ 103 ∧ p ≠ 104 ∧ p ≠ 105 ∧ p ≠ 106 ∧ p ≠ 107 ∧ p ≠ 108 ∧ ¬ (p = 82 ∧ k = 0) ∧ ¬ (p = 82 ∧ k = 34) ∧ ¬ (p = 82 ∧ k = 35) ∧ ¬ (p = 82 ∧ k = 37) ∧ ¬ (p = 82 ∧ k = 40) → I' p k = I p k) ∧ (∀ p k, p ≠ 97 ∧ ¬ (p = 82 ∧ k = 43) → L' p k = L p k)) := by
              intro m81
              induction m81 using Nat.strongRecOn with
              | _ m81 ih81 =>
              intro k n k2 k3 hm81
              refine yi_G_run 2 (84, [(4, .inl k), (3, .inl n), (0, .inr (.inr (some 82))), (1, .inl p), (2, .inl w)], [.inr (.inr (some 82)), .inl k], (I1, L, X), 0, 0) (fun _ => rfl) ?_
              refine yi_G_get (87, [(4, .inl k), (3, .inl n), (0, .inr (.inr (some 82))), (1, .inl p), (2, .inl w)], [.inr (.inr (some 88)), .inl k], (I1, L, X), 0, 0) rfl (ym_gr hS 5 rfl rfl rfl) ?_
              refine yi_G_run 1 (88, [(4, .inl k), (3, .inl n), (0, .inr (.inr (some 82))), (1, .inl p), (2, .inl w)], [.inl 5, .inr (.inr (some 88)), .inl k], (I1, L, X), 0, 0) (fun _ => rfl) ?_
              have r22 : I1 88 5 = I 88 5 := by rw [← w2, yi_u_ne _ _ (by omega)]
              refine yi_G_iald (89, [(4, .inl k), (3, .inl n), (0, .inr (.inr (some 82))), (1, .inl p), (2, .inl w)], [.inl (I 88 5), .inl k], (I1, L, X), 0, 0) rfl (ym_li hS 5 rfl (by omega) (by omega) r22) ?_
              by_cases h23 : (I 88 5) ≤ k
              · refine yi_G_if2 true rfl (yi_ge_t h23) ?_
                refine yi_G_run 1 (131, [(4, .inl k), (3, .inl n), (0, .inr (.inr (some 82))), (1, .inl p), (2, .inl w)], [.inl w], (I1, L, X), 0, 0) (fun _ => rfl) ?_
                by_cases h24 : w = 0
                · refine yi_G_if1 false rfl (yi_ne_f h24) ?_
                  refine yi_G_run 2 (136, [(4, .inl k), (3, .inl n), (0, .inr (.inr (some 82))), (1, .inl p), (2, .inl w)], [.inl p, .inr (.inr (some 82))], (I1, L, X), 0, 0) (fun _ => rfl) ?_
                  refine yi_G_callv rfl rfl (ym_rcv hS) rfl (c_kindOf d (by omega) hS (by omega) (by omega)) ?_
                  rintro _ rfl
                  show yi_G zi_Ms d zi_m91 (139, [(4, .inl k), (3, .inl n), (0, .inr (.inr (some 82))), (1, .inl p), (2, .inl w)], [.inl (I1 88 (11 + 2 * p).toNat)], (I1, L, X), 0, 0) _
                  refine yi_G_run 1 (159, [(4, .inl k), (3, .inl n), (0, .inr (.inr (some 82))), (1, .inl p), (2, .inl w)], [.inl (I1 88 (11 + 2 * p).toNat)], (I1, L, X), 0, 0) (fun _ => rfl) ?_
                  exact yi_G_reti rfl rfl (⟨_, _, _, rfl, (fun p k hp => by rw [← w2, yi_u_ne _ _ (fun z => by omega)]), (fun _ _ _ => rfl)⟩)
                · refine yi_G_if1 true rfl (yi_ne_t h24) ?_
                  refine yi_G_run 2 (144, [(4, .inl k), (3, .inl n), (0, .inr (.inr (some 82))), (1, .inl p), (2, .inl w)], [.inl 1, .inl w], (I1, L, X), 0, 0) (fun _ => rfl) ?_
                  by_cases h25 : w = 1
                  · refine yi_G_if2 false rfl (yi_ne_f h25) ?_
                    refine yi_G_run 1 (148, [(4, .inl k), (3, .inl n), (0, .inr (.inr (some 82))), (1, .inl p), (2, .inl w)], [.inr (.inr (some 82))], (I1, L, X), 0, 0) (fun _ => rfl) ?_
                    refine yi_G_get (151, [(4, .inl k), (3, .inl n), (0, .inr (.inr (some 82))), (1, .inl p), (2, .inl w)], [.inr (.inr (some 100))], (I1, L, X), 0, 0) rfl (ym_gr hS 17 rfl rfl rfl) ?_
                    refine yi_G_run 2 (153, [(4, .inl k), (3, .inl n), (0, .inr (.inr (some 82))), (1, .inl p), (2, .inl w)], [.inl p, .inl 3, .inr (.inr (some 100))], (I1, L, X), 0, 0) (fun _ => rfl) ?_
                    refine yi_G_iadd rfl (3 + p) (yi_wn (by omega) (by omega)) ?_
                    have r26 : I1 100 ((3 + p).toNat) = I 100 ((3 + p).toNat) := by rw [← w2, yi_u_ne _ _ (by omega)]
                    refine yi_G_iald (155, [(4, .inl k), (3, .inl n), (0, .inr (.inr (some 82))), (1, .inl p), (2, .inl w)], [.inl (I 100 ((3 + p).toNat))], (I1, L, X), 0, 0) rfl (ym_li hS 17 rfl (by omega) (by omega) r26) ?_
                    refine yi_G_run 1 (159, [(4, .inl k), (3, .inl n), (0, .inr (.inr (some 82))), (1, .inl p), (2, .inl w)], [.inl (I 100 ((3 + p).toNat))], (I1, L, X), 0, 0) (fun _ => rfl) ?_
                    exact yi_G_reti rfl rfl (⟨_, _, _, rfl, (fun p k hp => by rw [← w2, yi_u_ne _ _ (fun z => by omega)]), (fun _ _ _ => rfl)⟩)
                  · refine yi_G_if2 true rfl (yi_ne_t h25) ?_
                    refine yi_G_run 1 (159, [(4, .inl k), (3, .inl n), (0, .inr (.inr (some 82))), (1, .inl p), (2, .inl w)], [.inl n], (I1, L, X), 0, 0) (fun _ => rfl) ?_
                    exact yi_G_reti rfl rfl (⟨_, _, _, rfl, (fun p k hp => by rw [← w2, yi_u_ne _ _ (fun z => by omega)]), (fun _ _ _ => rfl)⟩)
              · refine yi_G_if2 false rfl (yi_ge_f h23) ?_
                refine yi_G_run 2 (94, [(4, .inl k), (3, .inl n), (0, .inr (.inr (some 82))), (1, .inl p), (2, .inl w)], [.inl 3, .inl w], (I1, L, X), 0, 0) (fun _ => rfl) ?_
                by_cases h27 : w = 3
                · refine yi_G_if2 false rfl (yi_ne_f h27) ?_
                  refine yi_G_run 2 (99, [(4, .inl k), (3, .inl n), (0, .inr (.inr (some 82))), (1, .inl p), (2, .inl w)], [.inr (.inr (some 82)), .inl n], (I1, L, X), 0, 0) (fun _ => rfl) ?_
                  refine yi_G_get (102, [(4, .inl k), (3, .inl n), (0, .inr (.inr (some 82))), (1, .inl p), (2, .inl w)], [.inr (.inr (some 88)), .inl n], (I1, L, X), 0, 0) rfl (ym_gr hS 5 rfl rfl rfl) ?_
                  refine yi_G_run 3 (107, [(4, .inl k), (3, .inl n), (0, .inr (.inr (some 82))), (1, .inl p), (2, .inl w)], [.inl k, .inl 3, .inl 25, .inr (.inr (some 88)), .inl n], (I1, L, X), 0, 0) (fun _ => rfl) ?_
                  refine yi_G_imul rfl (3 * k) (yi_wn (by omega) (by omega)) ?_
                  refine yi_G_iadd rfl (25 + (3 * k)) (yi_wn (by omega) (by omega)) ?_
                  have r28 : I1 88 ((25 + (3 * k)).toNat) = I 88 ((25 + (3 * k)).toNat) := by rw [← w2, yi_u_ne _ _ (by omega)]
                  refine yi_G_iald (110, [(4, .inl k), (3, .inl n), (0, .inr (.inr (some 82))), (1, .inl p), (2, .inl w)], [.inl (I 88 ((25 + (3 * k)).toNat)), .inl n], (I1, L, X), 0, 0) rfl (ym_li hS 5 rfl (by omega) (by omega) r28) ?_
                  refine yi_G_run 1 (111, [(4, .inl k), (3, .inl n), (0, .inr (.inr (some 82))), (1, .inl p), (2, .inl w)], [.inl p, .inl (I 88 ((25 + (3 * k)).toNat)), .inl n], (I1, L, X), 0, 0) (fun _ => rfl) ?_
                  by_cases h29 : (I 88 ((25 + (3 * k)).toNat)) = p
                  · refine yi_G_if2 false rfl (yi_ne_f h29) ?_
                    refine yi_G_run 6 (124, [(3, .inl (yi_ior n (yi_shl 1 k))), (4, .inl k), (0, .inr (.inr (some 82))), (1, .inl p), (2, .inl w)], [], (I1, L, X), 0, 0) (fun _ => rfl) ?_
                    refine yi_G_iinc [(4, .inl (k + 1)), (3, .inl (yi_ior n (yi_shl 1 k))), (0, .inr (.inr (some 82))), (1, .inl p), (2, .inl w)] rfl rfl rfl (by rw [show yi_w (k + 1) = k + 1 from (yi_wn (by omega) (by omega)).trans (by omega)]; rfl) ?_
                    refine yi_G_run 1 (81, [(4, .inl (k + 1)), (3, .inl (yi_ior n (yi_shl 1 k))), (0, .inr (.inr (some 82))), (1, .inl p), (2, .inl w)], [], (I1, L, X), 0, 0) (fun _ => rfl) ?_
                    exact ih81 _ (by omega) (k + 1) (yi_ior n (yi_shl 1 k)) (by omega) (by omega) rfl
                  · refine yi_G_if2 true rfl (yi_ne_t h29) ?_
                    refine yi_G_run 3 (124, [(3, .inl (yi_ior n 0)), (4, .inl k), (0, .inr (.inr (some 82))), (1, .inl p), (2, .inl w)], [], (I1, L, X), 0, 0) (fun _ => rfl) ?_
                    refine yi_G_iinc [(4, .inl (k + 1)), (3, .inl (yi_ior n 0)), (0, .inr (.inr (some 82))), (1, .inl p), (2, .inl w)] rfl rfl rfl (by rw [show yi_w (k + 1) = k + 1 from (yi_wn (by omega) (by omega)).trans (by omega)]; rfl) ?_
                    refine yi_G_run 1 (81, [(4, .inl (k + 1)), (3, .inl (yi_ior n 0)), (0, .inr (.inr (some 82))), (1, .inl p), (2, .inl w)], [], (I1, L, X), 0, 0) (fun _ => rfl) ?_
                    exact ih81 _ (by omega) (k + 1) (yi_ior n 0) (by omega) (by omega) rfl
                · refine yi_G_if2 true rfl (yi_ne_t h27) ?_
                  refine yi_G_run 1 (131, [(4, .inl k), (3, .inl n), (0, .inr (.inr (some 82))), (1, .inl p), (2, .inl w)], [.inl w], (I1, L, X), 0, 0) (fun _ => rfl) ?_
                  by_cases h30 : w = 0
                  · refine yi_G_if1 false rfl (yi_ne_f h30) ?_
                    refine yi_G_run 2 (136, [(4, .inl k), (3, .inl n), (0, .inr (.inr (some 82))), (1, .inl p), (2, .inl w)], [.inl p, .inr (.inr (some 82))], (I1, L, X), 0, 0) (fun _ => rfl) ?_
                    refine yi_G_callv rfl rfl (ym_rcv hS) rfl (c_kindOf d (by omega) hS (by omega) (by omega)) ?_
                    rintro _ rfl
                    show yi_G zi_Ms d zi_m91 (139, [(4, .inl k), (3, .inl n), (0, .inr (.inr (some 82))), (1, .inl p), (2, .inl w)], [.inl (I1 88 (11 + 2 * p).toNat)], (I1, L, X), 0, 0) _
                    refine yi_G_run 1 (159, [(4, .inl k), (3, .inl n), (0, .inr (.inr (some 82))), (1, .inl p), (2, .inl w)], [.inl (I1 88 (11 + 2 * p).toNat)], (I1, L, X), 0, 0) (fun _ => rfl) ?_
                    exact yi_G_reti rfl rfl (⟨_, _, _, rfl, (fun p k hp => by rw [← w2, yi_u_ne _ _ (fun z => by omega)]), (fun _ _ _ => rfl)⟩)
                  · refine yi_G_if1 true rfl (yi_ne_t h30) ?_
                    refine yi_G_run 2 (144, [(4, .inl k), (3, .inl n), (0, .inr (.inr (some 82))), (1, .inl p), (2, .inl w)], [.inl 1, .inl w], (I1, L, X), 0, 0) (fun _ => rfl) ?_
                    by_cases h31 : w = 1
                    · refine yi_G_if2 false rfl (yi_ne_f h31) ?_
                      refine yi_G_run 1 (148, [(4, .inl k), (3, .inl n), (0, .inr (.inr (some 82))), (1, .inl p), (2, .inl w)], [.inr (.inr (some 82))], (I1, L, X), 0, 0) (fun _ => rfl) ?_
                      refine yi_G_get (151, [(4, .inl k), (3, .inl n), (0, .inr (.inr (some 82))), (1, .inl p), (2, .inl w)], [.inr (.inr (some 100))], (I1, L, X), 0, 0) rfl (ym_gr hS 17 rfl rfl rfl) ?_
                      refine yi_G_run 2 (153, [(4, .inl k), (3, .inl n), (0, .inr (.inr (some 82))), (1, .inl p), (2, .inl w)], [.inl p, .inl 3, .inr (.inr (some 100))], (I1, L, X), 0, 0) (fun _ => rfl) ?_
                      refine yi_G_iadd rfl (3 + p) (yi_wn (by omega) (by omega)) ?_
                      have r32 : I1 100 ((3 + p).toNat) = I 100 ((3 + p).toNat) := by rw [← w2, yi_u_ne _ _ (by omega)]
                      refine yi_G_iald (155, [(4, .inl k), (3, .inl n), (0, .inr (.inr (some 82))), (1, .inl p), (2, .inl w)], [.inl (I 100 ((3 + p).toNat))], (I1, L, X), 0, 0) rfl (ym_li hS 17 rfl (by omega) (by omega) r32) ?_
                      refine yi_G_run 1 (159, [(4, .inl k), (3, .inl n), (0, .inr (.inr (some 82))), (1, .inl p), (2, .inl w)], [.inl (I 100 ((3 + p).toNat))], (I1, L, X), 0, 0) (fun _ => rfl) ?_
                      exact yi_G_reti rfl rfl (⟨_, _, _, rfl, (fun p k hp => by rw [← w2, yi_u_ne _ _ (fun z => by omega)]), (fun _ _ _ => rfl)⟩)
                    · refine yi_G_if2 true rfl (yi_ne_t h31) ?_
                      refine yi_G_run 1 (159, [(4, .inl k), (3, .inl n), (0, .inr (.inr (some 82))), (1, .inl p), (2, .inl w)], [.inl n], (I1, L, X), 0, 0) (fun _ => rfl) ?_
                      exact yi_G_reti rfl rfl (⟨_, _, _, rfl, (fun p k hp => by rw [← w2, yi_u_ne _ _ (fun z => by omega)]), (fun _ _ _ => rfl)⟩)
            exact pt81 _ 0 n (by omega) (by omega) rfl
      exact pt29 _ 0 0 (by omega) (by omega) rfl
    · show yi_G zi_Ms d zi_m91 (19, [(0, .inr (.inr (some 82))), (1, .inl p), (2, .inl w)], [.inl 0], (I1, L, X), 0, 0) _
      refine yi_G_if1 false rfl (by decide) ?_
      refine yi_G_run 1 (23, [(0, .inr (.inr (some 82))), (1, .inl p), (2, .inl w)], [.inl (-1)], (I1, L, X), 0, 0) (fun _ => rfl) ?_
      exact yi_G_reti rfl rfl (⟨_, _, _, rfl, (fun p k hp => by rw [← w2, yi_u_ne _ _ (fun z => by omega)]), (fun _ _ _ => rfl)⟩)
  · show yi_G zi_Ms d zi_m91 (10, [(0, .inr (.inr (some 82))), (1, .inl p), (2, .inl w)], [.inl 0], (I1, L, X), 0, 0) _
    refine yi_G_if1 true rfl (by decide) ?_
    refine yi_G_run 1 (23, [(0, .inr (.inr (some 82))), (1, .inl p), (2, .inl w)], [.inl (-1)], (I1, L, X), 0, 0) (fun _ => rfl) ?_
    exact yi_G_reti rfl rfl (⟨_, _, _, rfl, (fun p k hp => by rw [← w2, yi_u_ne _ _ (fun z => by omega)]), (fun _ _ _ => rfl)⟩)
theorem x_daysLeft (D : Nat) (hD : 2 ≤ D) {I L : Nat → Nat → Int} {X : ym_X} (hS : ym_S X) (hLR : ym_LR I) (t1 : 1 ≤ I 100 1 ∧ I 100 1 ≤ 7) : yi_E zi_Ms D 18 [.inr (.inr (some 82))] (I, L, X) (fun r => ∃ z, r = (some (.inl z), (I, L, X), 0, 0) ∧ -6 ≤ z ∧ z ≤ 6) := by
  obtain ⟨d, rfl⟩ : ∃ d, D = d + 1 := ⟨D - 1, by omega⟩
  refine yi_E_of (M := zi_m18) rfl rfl ?_
  obtain ⟨l0, l1, l2, l3, l4, l5⟩ := id hLR
  show yi_G zi_Ms d zi_m18 (0, [(0, .inr (.inr (some 82)))], [], (I, L, X), 0, 0) _
  refine yi_G_run 1 (1, [(0, .inr (.inr (some 82)))], [.inr (.inr (some 82))], (I, L, X), 0, 0) (fun _ => rfl) ?_
  refine yi_G_callv rfl rfl (ym_rcv hS) rfl (c_days d (by omega) hS rfl) ?_
  rintro _ rfl
  show yi_G zi_Ms d zi_m18 (4, [(0, .inr (.inr (some 82)))], [.inl (I 88 0)], (I, L, X), 0, 0) _
  refine yi_G_run 1 (5, [(0, .inr (.inr (some 82)))], [.inr (.inr (some 82)), .inl (I 88 0)], (I, L, X), 0, 0) (fun _ => rfl) ?_
  refine yi_G_get (8, [(0, .inr (.inr (some 82)))], [.inr (.inr (some 100)), .inl (I 88 0)], (I, L, X), 0, 0) rfl (ym_gr hS 17 rfl rfl rfl) ?_
  refine yi_G_run 1 (9, [(0, .inr (.inr (some 82)))], [.inl 1, .inr (.inr (some 100)), .inl (I 88 0)], (I, L, X), 0, 0) (fun _ => rfl) ?_
  refine yi_G_iald (10, [(0, .inr (.inr (some 82)))], [.inl (I 100 1), .inl (I 88 0)], (I, L, X), 0, 0) rfl (ym_li hS 17 rfl (by omega) (by omega) rfl) ?_
  refine yi_G_isub rfl ((I 88 0) - (I 100 1)) (yi_wn (by omega) (by omega)) ?_
  refine yi_G_run 1 (12, [(0, .inr (.inr (some 82)))], [.inl 1, .inl ((I 88 0) - (I 100 1))], (I, L, X), 0, 0) (fun _ => rfl) ?_
  refine yi_G_iadd rfl (((I 88 0) - (I 100 1)) + 1) (yi_wn (by omega) (by omega)) ?_
  exact yi_G_reti rfl rfl (⟨_, rfl, by omega, by omega⟩)
theorem q_shorted (D : Nat) (hD : 5 ≤ D) {I L : Nat → Nat → Int} {X : ym_X} (hS : ym_S X) (hLR : ym_LR I) (hS0 : ym_S0 I) (hl : 0 ≤ I 82 25 ∧ I 82 25 ≤ 512) : yi_E zi_Ms D 109 [.inr (.inr (some 82))] (I, L, X) (fun r => ∃ z I' L', r = (some (.inl z), (I', L', X), 0, 0) ∧ (∀ p k, p ≠ 96 ∧ p ≠ 99 ∧ p ≠ 103 ∧ p ≠ 104 ∧ p ≠ 105 ∧ p ≠ 106 ∧ p ≠ 107 ∧ p ≠ 108 ∧ ¬ (p = 82 ∧ k = 0) ∧ ¬ (p = 82 ∧ k = 34) ∧ ¬ (p = 82 ∧ k = 35) ∧ ¬ (p = 82 ∧ k = 37) ∧ ¬ (p = 82 ∧ k = 40) → I' p k = I p k) ∧ (∀ p k, p ≠ 97 ∧ ¬ (p = 82 ∧ k = 43) → L' p k = L p k)) := by
  obtain ⟨d, rfl⟩ : ∃ d, D = d + 1 := ⟨D - 1, by omega⟩
  refine yi_E_of (M := zi_m109) rfl rfl ?_
  obtain ⟨l0, l1, l2, l3, l4, l5⟩ := id hLR
  obtain ⟨t0, t1, t2, t3, t4⟩ := id hS0
  show yi_G zi_Ms d zi_m109 (0, [(0, .inr (.inr (some 82)))], [], (I, L, X), 0, 0) _
  refine yi_G_run 2 (2, [(0, .inr (.inr (some 82)))], [.inl 0, .inr (.inr (some 82))], (I, L, X), 0, 0) (fun _ => rfl) ?_
  refine yi_G_put (5, [(0, .inr (.inr (some 82)))], [], ((yi_u I 82 0 0), L, X), 0, 0) rfl (ym_pi hS rfl rfl) ?_
  generalize w2 : yi_u I 82 0 0 = I1
  refine yi_G_run 4 (9, [(2, .inl 0), (1, .inl (-1)), (0, .inr (.inr (some 82)))], [], (I1, L, X), 0, 0) (fun _ => rfl) ?_
  have pt9 : ∀ (m : Nat) (k : Int) (y : Int), (0 ≤ k) → (k ≤ I 100 2) → (I 100 2 - k).toNat = m → yi_G zi_Ms d zi_m109 (9, [(2, .inl k), (1, .inl y), (0, .inr (.inr (some 82)))], [], (I1, L, X), 0, 0) (fun r => ∃ z I' L', r = (some (.inl z), (I', L', X), 0, 0) ∧ (∀ p k, p ≠ 96 ∧ p ≠ 99 ∧ p ≠ 103 ∧ p ≠ 104 ∧ p ≠ 105 ∧ p ≠ 106 ∧ p ≠ 107 ∧ p ≠ 108 ∧ ¬ (p = 82 ∧ k = 0) ∧ ¬ (p = 82 ∧ k = 34) ∧ ¬ (p = 82 ∧ k = 35) ∧ ¬ (p = 82 ∧ k = 37) ∧ ¬ (p = 82 ∧ k = 40) → I' p k = I p k) ∧ (∀ p k, p ≠ 97 ∧ ¬ (p = 82 ∧ k = 43) → L' p k = L p k)) := by
    intro m9
    induction m9 using Nat.strongRecOn with
    | _ m9 ih9 =>
    intro k y k0 k1 hm9
    refine yi_G_run 2 (11, [(2, .inl k), (1, .inl y), (0, .inr (.inr (some 82)))], [.inr (.inr (some 82)), .inl k], (I1, L, X), 0, 0) (fun _ => rfl) ?_
    refine yi_G_get (14, [(2, .inl k), (1, .inl y), (0, .inr (.inr (some 82)))], [.inr (.inr (some 100)), .inl k], (I1, L, X), 0, 0) rfl (ym_gr hS 17 rfl rfl rfl) ?_
    refine yi_G_run 1 (15, [(2, .inl k), (1, .inl y), (0, .inr (.inr (some 82)))], [.inl 2, .inr (.inr (some 100)), .inl k], (I1, L, X), 0, 0) (fun _ => rfl) ?_
    have r3 : I1 100 2 = I 100 2 := by rw [← w2, yi_u_ne _ _ (by omega)]
    refine yi_G_iald (16, [(2, .inl k), (1, .inl y), (0, .inr (.inr (some 82)))], [.inl (I 100 2), .inl k], (I1, L, X), 0, 0) rfl (ym_li hS 17 rfl (by omega) (by omega) r3) ?_
    by_cases h4 : (I 100 2) ≤ k
    · refine yi_G_if2 true rfl (yi_ge_t h4) ?_
      refine yi_G_run 1 (159, [(2, .inl k), (1, .inl y), (0, .inr (.inr (some 82)))], [.inl y], (I1, L, X), 0, 0) (fun _ => rfl) ?_
      exact yi_G_reti rfl rfl (⟨_, _, _, rfl, (fun p k hp => by rw [← w2, yi_u_ne _ _ (fun z => by omega)]), (fun _ _ _ => rfl)⟩)
    · refine yi_G_if2 false rfl (yi_ge_f h4) ?_
      refine yi_G_run 1 (20, [(2, .inl k), (1, .inl y), (0, .inr (.inr (some 82)))], [.inr (.inr (some 82))], (I1, L, X), 0, 0) (fun _ => rfl) ?_
      refine yi_G_get (23, [(2, .inl k), (1, .inl y), (0, .inr (.inr (some 82)))], [.inr (.inr (some 100))], (I1, L, X), 0, 0) rfl (ym_gr hS 17 rfl rfl rfl) ?_
      refine yi_G_run 3 (27, [(2, .inl k), (1, .inl y), (0, .inr (.inr (some 82)))], [.inl k, .inl 2, .inl 68, .inr (.inr (some 100))], (I1, L, X), 0, 0) (fun _ => rfl) ?_
      refine yi_G_imul rfl (2 * k) (yi_wn (by omega) (by omega)) ?_
      refine yi_G_iadd rfl (68 + (2 * k)) (yi_wn (by omega) (by omega)) ?_
      refine yi_G_run 1 (30, [(2, .inl k), (1, .inl y), (0, .inr (.inr (some 82)))], [.inl 1, .inl (68 + (2 * k)), .inr (.inr (some 100))], (I1, L, X), 0, 0) (fun _ => rfl) ?_
      refine yi_G_iadd rfl ((68 + (2 * k)) + 1) (yi_wn (by omega) (by omega)) ?_
      have r5 : I1 100 (((68 + (2 * k)) + 1).toNat) = I 100 (((68 + (2 * k)) + 1).toNat) := by rw [← w2, yi_u_ne _ _ (by omega)]
      refine yi_G_iald (32, [(2, .inl k), (1, .inl y), (0, .inr (.inr (some 82)))], [.inl (I 100 (((68 + (2 * k)) + 1).toNat))], (I1, L, X), 0, 0) rfl (ym_li hS 17 rfl (by omega) (by omega) r5) ?_
      refine yi_G_run 7 (42, [(6, .inl 0), (5, .inl 0), (4, .inl 0), (3, .inl (I 100 (((68 + (2 * k)) + 1).toNat))), (2, .inl k), (1, .inl y), (0, .inr (.inr (some 82)))], [], (I1, L, X), 0, 0) (fun _ => rfl) ?_
      have pt42 : ∀ (m : Nat) (e : Int) (a0 : Int), (0 ≤ e) → (e ≤ I 100 2) → (0 ≤ a0 ∧ a0 ≤ e) → (I 100 2 - e).toNat = m → yi_G zi_Ms d zi_m109 (42, [(6, .inl e), (5, .inl 0), (4, .inl a0), (3, .inl (I 100 (((68 + (2 * k)) + 1).toNat))), (2, .inl k), (1, .inl y), (0, .inr (.inr (some 82)))], [], (I1, L, X), 0, 0) (fun r => ∃ z I' L', r = (some (.inl z), (I', L', X), 0, 0) ∧ (∀ p k, p ≠ 96 ∧ p ≠ 99 ∧ p ≠ 103 ∧ p ≠ 104 ∧ p ≠ 105 ∧ p ≠ 106 ∧ p ≠ 107 ∧ p ≠ 108 ∧ ¬ (p = 82 ∧ k = 0) ∧ ¬ (p = 82 ∧ k = 34) ∧ ¬ (p = 82 ∧ k = 35) ∧ ¬ (p = 82 ∧ k = 37) ∧ ¬ (p = 82 ∧ k = 40) → I' p k = I p k) ∧ (∀ p k, p ≠ 97 ∧ ¬ (p = 82 ∧ k = 43) → L' p k = L p k)) := by
        intro m42
        induction m42 using Nat.strongRecOn with
        | _ m42 ih42 =>
        intro e a0 e0 e1 a1 hm42
        refine yi_G_run 2 (45, [(6, .inl e), (5, .inl 0), (4, .inl a0), (3, .inl (I 100 (((68 + (2 * k)) + 1).toNat))), (2, .inl k), (1, .inl y), (0, .inr (.inr (some 82)))], [.inr (.inr (some 82)), .inl e], (I1, L, X), 0, 0) (fun _ => rfl) ?_
        refine yi_G_get (48, [(6, .inl e), (5, .inl 0), (4, .inl a0), (3, .inl (I 100 (((68 + (2 * k)) + 1).toNat))), (2, .inl k), (1, .inl y), (0, .inr (.inr (some 82)))], [.inr (.inr (some 100)), .inl e], (I1, L, X), 0, 0) rfl (ym_gr hS 17 rfl rfl rfl) ?_
        refine yi_G_run 1 (49, [(6, .inl e), (5, .inl 0), (4, .inl a0), (3, .inl (I 100 (((68 + (2 * k)) + 1).toNat))), (2, .inl k), (1, .inl y), (0, .inr (.inr (some 82)))], [.inl 2, .inr (.inr (some 100)), .inl e], (I1, L, X), 0, 0) (fun _ => rfl) ?_
        have r6 : I1 100 2 = I 100 2 := by rw [← w2, yi_u_ne _ _ (by omega)]
        refine yi_G_iald (50, [(6, .inl e), (5, .inl 0), (4, .inl a0), (3, .inl (I 100 (((68 + (2 * k)) + 1).toNat))), (2, .inl k), (1, .inl y), (0, .inr (.inr (some 82)))], [.inl (I 100 2), .inl e], (I1, L, X), 0, 0) rfl (ym_li hS 17 rfl (by omega) (by omega) r6) ?_
        by_cases h7 : (I 100 2) ≤ e
        · refine yi_G_if2 true rfl (yi_ge_t h7) ?_
          refine yi_G_run 2 (90, [(6, .inl 0), (5, .inl 0), (4, .inl a0), (3, .inl (I 100 (((68 + (2 * k)) + 1).toNat))), (2, .inl k), (1, .inl y), (0, .inr (.inr (some 82)))], [], (I1, L, X), 0, 0) (fun _ => rfl) ?_
          have pt90 : ∀ (m : Nat) (p : Int) (th : Int), (0 ≤ p) → (p ≤ I 88 1) → (0 ≤ th ∧ th ≤ p) → (I 88 1 - p).toNat = m → yi_G zi_Ms d zi_m109 (90, [(6, .inl p), (5, .inl th), (4, .inl a0), (3, .inl (I 100 (((68 + (2 * k)) + 1).toNat))), (2, .inl k), (1, .inl y), (0, .inr (.inr (some 82)))], [], (I1, L, X), 0, 0) (fun r => ∃ z I' L', r = (some (.inl z), (I', L', X), 0, 0) ∧ (∀ p k, p ≠ 96 ∧ p ≠ 99 ∧ p ≠ 103 ∧ p ≠ 104 ∧ p ≠ 105 ∧ p ≠ 106 ∧ p ≠ 107 ∧ p ≠ 108 ∧ ¬ (p = 82 ∧ k = 0) ∧ ¬ (p = 82 ∧ k = 34) ∧ ¬ (p = 82 ∧ k = 35) ∧ ¬ (p = 82 ∧ k = 37) ∧ ¬ (p = 82 ∧ k = 40) → I' p k = I p k) ∧ (∀ p k, p ≠ 97 ∧ ¬ (p = 82 ∧ k = 43) → L' p k = L p k)) := by
            intro m90
            induction m90 using Nat.strongRecOn with
            | _ m90 ih90 =>
            intro p th p0 p1 th0 hm90
            refine yi_G_run 2 (93, [(6, .inl p), (5, .inl th), (4, .inl a0), (3, .inl (I 100 (((68 + (2 * k)) + 1).toNat))), (2, .inl k), (1, .inl y), (0, .inr (.inr (some 82)))], [.inr (.inr (some 82)), .inl p], (I1, L, X), 0, 0) (fun _ => rfl) ?_
            have r8 : I1 88 1 = I 88 1 := by rw [← w2, yi_u_ne _ _ (by omega)]
            refine yi_G_callv rfl rfl (ym_rcv hS) rfl (c_people d (by omega) hS r8) ?_
            rintro _ rfl
            show yi_G zi_Ms d zi_m109 (96, [(6, .inl p), (5, .inl th), (4, .inl a0), (3, .inl (I 100 (((68 + (2 * k)) + 1).toNat))), (2, .inl k), (1, .inl y), (0, .inr (.inr (some 82)))], [.inl (I 88 1), .inl p], (I1, L, X), 0, 0) _
            by_cases h9 : (I 88 1) ≤ p
            · refine yi_G_if2 true rfl (yi_ge_t h9) ?_
              refine yi_G_run 3 (134, [(6, .inl p), (5, .inl th), (4, .inl a0), (3, .inl (I 100 (((68 + (2 * k)) + 1).toNat))), (2, .inl k), (1, .inl y), (0, .inr (.inr (some 82)))], [.inr (.inr (some 82)), .inl th, .inl a0], (I1, L, X), 0, 0) (fun _ => rfl) ?_
              have r12 : I1 100 1 = I 100 1 := by rw [← w2, yi_u_ne _ _ (by omega)]
              refine yi_G_callv rfl rfl (ym_rcv hS) rfl (x_daysLeft d (by omega) hS (ym_LR_t (fun k => by rw [← w2, yi_u_ne _ _ (fun z => absurd z.1 (by decide))]) hLR) ⟨by rw [r12]; omega, by rw [r12]; omega⟩) ?_
              rintro _ ⟨z10, rfl, h11a, h11b⟩
              show yi_G zi_Ms d zi_m109 (137, [(6, .inl p), (5, .inl th), (4, .inl a0), (3, .inl (I 100 (((68 + (2 * k)) + 1).toNat))), (2, .inl k), (1, .inl y), (0, .inr (.inr (some 82)))], [.inl z10, .inl th, .inl a0], (I1, L, X), 0, 0) _
              refine yi_G_run 1 (138, [(6, .inl p), (5, .inl th), (4, .inl a0), (3, .inl (I 100 (((68 + (2 * k)) + 1).toNat))), (2, .inl k), (1, .inl y), (0, .inr (.inr (some 82)))], [.inl (yi_w (th * z10)), .inl a0], (I1, L, X), 0, 0) (fun _ => rfl) ?_
              by_cases h13 : a0 ≤ (yi_w (th * z10))
              · refine yi_G_if2 true rfl (yi_le_t h13) ?_
                refine yi_G_run 2 (152, [(1, .inl y), (6, .inl p), (5, .inl th), (4, .inl a0), (3, .inl (I 100 (((68 + (2 * k)) + 1).toNat))), (2, .inl k), (0, .inr (.inr (some 82)))], [], (I1, L, X), 0, 0) (fun _ => rfl) ?_
                refine yi_G_iinc [(2, .inl (k + 1)), (1, .inl y), (6, .inl p), (5, .inl th), (4, .inl a0), (3, .inl (I 100 (((68 + (2 * k)) + 1).toNat))), (0, .inr (.inr (some 82)))] rfl rfl rfl (by rw [show yi_w (k + 1) = k + 1 from (yi_wn (by omega) (by omega)).trans (by omega)]; rfl) ?_
                refine yi_G_run 1 (9, [(2, .inl (k + 1)), (1, .inl y), (6, .inl p), (5, .inl th), (4, .inl a0), (3, .inl (I 100 (((68 + (2 * k)) + 1).toNat))), (0, .inr (.inr (some 82)))], [], (I1, L, X), 0, 0) (fun _ => rfl) ?_
                refine yi_G_al (al := [(2, .inl (k + 1)), (1, .inl y), (0, .inr (.inr (some 82)))]) (show ([2, 1, 0] : List Nat).Nodup by decide) (show ([2, 1, 6, 5, 4, 3, 0] : List Nat).Nodup by decide) (yi_mc (List.mem_of_getElem? (i := 0) rfl) (yi_mc (List.mem_of_getElem? (i := 1) rfl) (yi_mc (List.mem_of_getElem? (i := 6) rfl) yi_mn))) ?_
                exact ih9 _ (by omega) (k + 1) y (by omega) (by omega) rfl
              · refine yi_G_if2 false rfl (yi_le_f h13) ?_
                refine yi_G_run 2 (143, [(6, .inl p), (5, .inl th), (4, .inl a0), (3, .inl (I 100 (((68 + (2 * k)) + 1).toNat))), (2, .inl k), (1, .inl y), (0, .inr (.inr (some 82)))], [.inl y, .inl (I 100 (((68 + (2 * k)) + 1).toNat))], (I1, L, X), 0, 0) (fun _ => rfl) ?_
                by_cases h14 : (I 100 (((68 + (2 * k)) + 1).toNat)) ≤ y
                · refine yi_G_if2 true rfl (yi_le_t h14) ?_
                  refine yi_G_run 2 (152, [(1, .inl y), (6, .inl p), (5, .inl th), (4, .inl a0), (3, .inl (I 100 (((68 + (2 * k)) + 1).toNat))), (2, .inl k), (0, .inr (.inr (some 82)))], [], (I1, L, X), 0, 0) (fun _ => rfl) ?_
                  refine yi_G_iinc [(2, .inl (k + 1)), (1, .inl y), (6, .inl p), (5, .inl th), (4, .inl a0), (3, .inl (I 100 (((68 + (2 * k)) + 1).toNat))), (0, .inr (.inr (some 82)))] rfl rfl rfl (by rw [show yi_w (k + 1) = k + 1 from (yi_wn (by omega) (by omega)).trans (by omega)]; rfl) ?_
                  refine yi_G_run 1 (9, [(2, .inl (k + 1)), (1, .inl y), (6, .inl p), (5, .inl th), (4, .inl a0), (3, .inl (I 100 (((68 + (2 * k)) + 1).toNat))), (0, .inr (.inr (some 82)))], [], (I1, L, X), 0, 0) (fun _ => rfl) ?_
                  refine yi_G_al (al := [(2, .inl (k + 1)), (1, .inl y), (0, .inr (.inr (some 82)))]) (show ([2, 1, 0] : List Nat).Nodup by decide) (show ([2, 1, 6, 5, 4, 3, 0] : List Nat).Nodup by decide) (yi_mc (List.mem_of_getElem? (i := 0) rfl) (yi_mc (List.mem_of_getElem? (i := 1) rfl) (yi_mc (List.mem_of_getElem? (i := 6) rfl) yi_mn))) ?_
                  exact ih9 _ (by omega) (k + 1) y (by omega) (by omega) rfl
                · refine yi_G_if2 false rfl (yi_le_f h14) ?_
                  refine yi_G_run 3 (152, [(1, .inl (I 100 (((68 + (2 * k)) + 1).toNat))), (6, .inl p), (5, .inl th), (4, .inl a0), (3, .inl (I 100 (((68 + (2 * k)) + 1).toNat))), (2, .inl k), (0, .inr (.inr (some 82)))], [], (I1, L, X), 0, 0) (fun _ => rfl) ?_
                  refine yi_G_iinc [(2, .inl (k + 1)), (1, .inl (I 100 (((68 + (2 * k)) + 1).toNat))), (6, .inl p), (5, .inl th), (4, .inl a0), (3, .inl (I 100 (((68 + (2 * k)) + 1).toNat))), (0, .inr (.inr (some 82)))] rfl rfl rfl (by rw [show yi_w (k + 1) = k + 1 from (yi_wn (by omega) (by omega)).trans (by omega)]; rfl) ?_
                  refine yi_G_run 1 (9, [(2, .inl (k + 1)), (1, .inl (I 100 (((68 + (2 * k)) + 1).toNat))), (6, .inl p), (5, .inl th), (4, .inl a0), (3, .inl (I 100 (((68 + (2 * k)) + 1).toNat))), (0, .inr (.inr (some 82)))], [], (I1, L, X), 0, 0) (fun _ => rfl) ?_
                  refine yi_G_al (al := [(2, .inl (k + 1)), (1, .inl (I 100 (((68 + (2 * k)) + 1).toNat))), (0, .inr (.inr (some 82)))]) (show ([2, 1, 0] : List Nat).Nodup by decide) (show ([2, 1, 6, 5, 4, 3, 0] : List Nat).Nodup by decide) (yi_mc (List.mem_of_getElem? (i := 0) rfl) (yi_mc (List.mem_of_getElem? (i := 1) rfl) (yi_mc (List.mem_of_getElem? (i := 6) rfl) yi_mn))) ?_
                  exact ih9 _ (by omega) (k + 1) (I 100 (((68 + (2 * k)) + 1).toNat)) (by omega) (by omega) rfl
            · refine yi_G_if2 false rfl (yi_ge_f h9) ?_
              refine yi_G_run 2 (102, [(6, .inl p), (5, .inl th), (4, .inl a0), (3, .inl (I 100 (((68 + (2 * k)) + 1).toNat))), (2, .inl k), (1, .inl y), (0, .inr (.inr (some 82)))], [.inr (.inr (some 82)), .inl th], (I1, L, X), 0, 0) (fun _ => rfl) ?_
              refine yi_G_get (105, [(6, .inl p), (5, .inl th), (4, .inl a0), (3, .inl (I 100 (((68 + (2 * k)) + 1).toNat))), (2, .inl k), (1, .inl y), (0, .inr (.inr (some 82)))], [.inr (.inr (some 88)), .inl th], (I1, L, X), 0, 0) rfl (ym_gr hS 5 rfl rfl rfl) ?_
              refine yi_G_run 2 (109, [(6, .inl p), (5, .inl th), (4, .inl a0), (3, .inl (I 100 (((68 + (2 * k)) + 1).toNat))), (2, .inl k), (1, .inl y), (0, .inr (.inr (some 82)))], [.inl p, .inl 7, .inr (.inr (some 88)), .inl th], (I1, L, X), 0, 0) (fun _ => rfl) ?_
              refine yi_G_iadd rfl (7 + p) (yi_wn (by omega) (by omega)) ?_
              have r15 : I1 88 ((7 + p).toNat) = I 88 ((7 + p).toNat) := by rw [← w2, yi_u_ne _ _ (by omega)]
              refine yi_G_iald (111, [(6, .inl p), (5, .inl th), (4, .inl a0), (3, .inl (I 100 (((68 + (2 * k)) + 1).toNat))), (2, .inl k), (1, .inl y), (0, .inr (.inr (some 82)))], [.inl (I 88 ((7 + p).toNat)), .inl th], (I1, L, X), 0, 0) rfl (ym_li hS 5 rfl (by omega) (by omega) r15) ?_
              refine yi_G_run 1 (112, [(6, .inl p), (5, .inl th), (4, .inl a0), (3, .inl (I 100 (((68 + (2 * k)) + 1).toNat))), (2, .inl k), (1, .inl y), (0, .inr (.inr (some 82)))], [.inl (I 100 (((68 + (2 * k)) + 1).toNat)), .inl (I 88 ((7 + p).toNat)), .inl th], (I1, L, X), 0, 0) (fun _ => rfl) ?_
              by_cases h16 : (I 88 ((7 + p).toNat)) < (I 100 (((68 + (2 * k)) + 1).toNat))
              · refine yi_G_if2 true rfl (yi_lt_t h16) ?_
                refine yi_G_run 1 (120, [(6, .inl p), (5, .inl th), (4, .inl a0), (3, .inl (I 100 (((68 + (2 * k)) + 1).toNat))), (2, .inl k), (1, .inl y), (0, .inr (.inr (some 82)))], [.inl 0, .inl th], (I1, L, X), 0, 0) (fun _ => rfl) ?_
                refine yi_G_iadd rfl (th + 0) (yi_wn (by omega) (by omega)) ?_
                refine yi_G_run 1 (123, [(5, .inl (th + 0)), (6, .inl p), (4, .inl a0), (3, .inl (I 100 (((68 + (2 * k)) + 1).toNat))), (2, .inl k), (1, .inl y), (0, .inr (.inr (some 82)))], [], (I1, L, X), 0, 0) (fun _ => rfl) ?_
                refine yi_G_iinc [(6, .inl (p + 1)), (5, .inl (th + 0)), (4, .inl a0), (3, .inl (I 100 (((68 + (2 * k)) + 1).toNat))), (2, .inl k), (1, .inl y), (0, .inr (.inr (some 82)))] rfl rfl rfl (by rw [show yi_w (p + 1) = p + 1 from (yi_wn (by omega) (by omega)).trans (by omega)]; rfl) ?_
                refine yi_G_run 1 (90, [(6, .inl (p + 1)), (5, .inl (th + 0)), (4, .inl a0), (3, .inl (I 100 (((68 + (2 * k)) + 1).toNat))), (2, .inl k), (1, .inl y), (0, .inr (.inr (some 82)))], [], (I1, L, X), 0, 0) (fun _ => rfl) ?_
                exact ih90 _ (by omega) (p + 1) (th + 0) (by omega) (by omega) (by omega) rfl
              · refine yi_G_if2 false rfl (yi_lt_f h16) ?_
                refine yi_G_run 2 (120, [(6, .inl p), (5, .inl th), (4, .inl a0), (3, .inl (I 100 (((68 + (2 * k)) + 1).toNat))), (2, .inl k), (1, .inl y), (0, .inr (.inr (some 82)))], [.inl 1, .inl th], (I1, L, X), 0, 0) (fun _ => rfl) ?_
                refine yi_G_iadd rfl (th + 1) (yi_wn (by omega) (by omega)) ?_
                refine yi_G_run 1 (123, [(5, .inl (th + 1)), (6, .inl p), (4, .inl a0), (3, .inl (I 100 (((68 + (2 * k)) + 1).toNat))), (2, .inl k), (1, .inl y), (0, .inr (.inr (some 82)))], [], (I1, L, X), 0, 0) (fun _ => rfl) ?_
                refine yi_G_iinc [(6, .inl (p + 1)), (5, .inl (th + 1)), (4, .inl a0), (3, .inl (I 100 (((68 + (2 * k)) + 1).toNat))), (2, .inl k), (1, .inl y), (0, .inr (.inr (some 82)))] rfl rfl rfl (by rw [show yi_w (p + 1) = p + 1 from (yi_wn (by omega) (by omega)).trans (by omega)]; rfl) ?_
                refine yi_G_run 1 (90, [(6, .inl (p + 1)), (5, .inl (th + 1)), (4, .inl a0), (3, .inl (I 100 (((68 + (2 * k)) + 1).toNat))), (2, .inl k), (1, .inl y), (0, .inr (.inr (some 82)))], [], (I1, L, X), 0, 0) (fun _ => rfl) ?_
                exact ih90 _ (by omega) (p + 1) (th + 1) (by omega) (by omega) (by omega) rfl
          exact pt90 _ 0 0 (by omega) (by omega) (by omega) rfl
        · refine yi_G_if2 false rfl (yi_ge_f h7) ?_
          refine yi_G_run 2 (56, [(6, .inl e), (5, .inl 0), (4, .inl a0), (3, .inl (I 100 (((68 + (2 * k)) + 1).toNat))), (2, .inl k), (1, .inl y), (0, .inr (.inr (some 82)))], [.inr (.inr (some 82)), .inl a0], (I1, L, X), 0, 0) (fun _ => rfl) ?_
          refine yi_G_get (59, [(6, .inl e), (5, .inl 0), (4, .inl a0), (3, .inl (I 100 (((68 + (2 * k)) + 1).toNat))), (2, .inl k), (1, .inl y), (0, .inr (.inr (some 82)))], [.inr (.inr (some 100)), .inl a0], (I1, L, X), 0, 0) rfl (ym_gr hS 17 rfl rfl rfl) ?_
          refine yi_G_run 3 (64, [(6, .inl e), (5, .inl 0), (4, .inl a0), (3, .inl (I 100 (((68 + (2 * k)) + 1).toNat))), (2, .inl k), (1, .inl y), (0, .inr (.inr (some 82)))], [.inl e, .inl 2, .inl 68, .inr (.inr (some 100)), .inl a0], (I1, L, X), 0, 0) (fun _ => rfl) ?_
          refine yi_G_imul rfl (2 * e) (yi_wn (by omega) (by omega)) ?_
          refine yi_G_iadd rfl (68 + (2 * e)) (yi_wn (by omega) (by omega)) ?_
          refine yi_G_run 1 (67, [(6, .inl e), (5, .inl 0), (4, .inl a0), (3, .inl (I 100 (((68 + (2 * k)) + 1).toNat))), (2, .inl k), (1, .inl y), (0, .inr (.inr (some 82)))], [.inl 1, .inl (68 + (2 * e)), .inr (.inr (some 100)), .inl a0], (I1, L, X), 0, 0) (fun _ => rfl) ?_
          refine yi_G_iadd rfl ((68 + (2 * e)) + 1) (yi_wn (by omega) (by omega)) ?_
          have r17 : I1 100 (((68 + (2 * e)) + 1).toNat) = I 100 (((68 + (2 * e)) + 1).toNat) := by rw [← w2, yi_u_ne _ _ (by omega)]
          refine yi_G_iald (69, [(6, .inl e), (5, .inl 0), (4, .inl a0), (3, .inl (I 100 (((68 + (2 * k)) + 1).toNat))), (2, .inl k), (1, .inl y), (0, .inr (.inr (some 82)))], [.inl (I 100 (((68 + (2 * e)) + 1).toNat)), .inl a0], (I1, L, X), 0, 0) rfl (ym_li hS 17 rfl (by omega) (by omega) r17) ?_
          refine yi_G_run 1 (70, [(6, .inl e), (5, .inl 0), (4, .inl a0), (3, .inl (I 100 (((68 + (2 * k)) + 1).toNat))), (2, .inl k), (1, .inl y), (0, .inr (.inr (some 82)))], [.inl (I 100 (((68 + (2 * k)) + 1).toNat)), .inl (I 100 (((68 + (2 * e)) + 1).toNat)), .inl a0], (I1, L, X), 0, 0) (fun _ => rfl) ?_
          by_cases h18 : (I 100 (((68 + (2 * e)) + 1).toNat)) < (I 100 (((68 + (2 * k)) + 1).toNat))
          · refine yi_G_if2 true rfl (yi_lt_t h18) ?_
            refine yi_G_run 1 (78, [(6, .inl e), (5, .inl 0), (4, .inl a0), (3, .inl (I 100 (((68 + (2 * k)) + 1).toNat))), (2, .inl k), (1, .inl y), (0, .inr (.inr (some 82)))], [.inl 0, .inl a0], (I1, L, X), 0, 0) (fun _ => rfl) ?_
            refine yi_G_iadd rfl (a0 + 0) (yi_wn (by omega) (by omega)) ?_
            refine yi_G_run 1 (81, [(4, .inl (a0 + 0)), (6, .inl e), (5, .inl 0), (3, .inl (I 100 (((68 + (2 * k)) + 1).toNat))), (2, .inl k), (1, .inl y), (0, .inr (.inr (some 82)))], [], (I1, L, X), 0, 0) (fun _ => rfl) ?_
            refine yi_G_iinc [(6, .inl (e + 1)), (4, .inl (a0 + 0)), (5, .inl 0), (3, .inl (I 100 (((68 + (2 * k)) + 1).toNat))), (2, .inl k), (1, .inl y), (0, .inr (.inr (some 82)))] rfl rfl rfl (by rw [show yi_w (e + 1) = e + 1 from (yi_wn (by omega) (by omega)).trans (by omega)]; rfl) ?_
            refine yi_G_run 1 (42, [(6, .inl (e + 1)), (4, .inl (a0 + 0)), (5, .inl 0), (3, .inl (I 100 (((68 + (2 * k)) + 1).toNat))), (2, .inl k), (1, .inl y), (0, .inr (.inr (some 82)))], [], (I1, L, X), 0, 0) (fun _ => rfl) ?_
            refine yi_G_al (al := [(6, .inl (e + 1)), (5, .inl 0), (4, .inl (a0 + 0)), (3, .inl (I 100 (((68 + (2 * k)) + 1).toNat))), (2, .inl k), (1, .inl y), (0, .inr (.inr (some 82)))]) (show ([6, 5, 4, 3, 2, 1, 0] : List Nat).Nodup by decide) (show ([6, 4, 5, 3, 2, 1, 0] : List Nat).Nodup by decide) (yi_mc (List.mem_of_getElem? (i := 0) rfl) (yi_mc (List.mem_of_getElem? (i := 2) rfl) (yi_mc (List.mem_of_getElem? (i := 1) rfl) (yi_mc (List.mem_of_getElem? (i := 3) rfl) (yi_mc (List.mem_of_getElem? (i := 4) rfl) (yi_mc (List.mem_of_getElem? (i := 5) rfl) (yi_mc (List.mem_of_getElem? (i := 6) rfl) yi_mn))))))) ?_
            exact ih42 _ (by omega) (e + 1) (a0 + 0) (by omega) (by omega) (by omega) rfl
          · refine yi_G_if2 false rfl (yi_lt_f h18) ?_
            refine yi_G_run 2 (78, [(6, .inl e), (5, .inl 0), (4, .inl a0), (3, .inl (I 100 (((68 + (2 * k)) + 1).toNat))), (2, .inl k), (1, .inl y), (0, .inr (.inr (some 82)))], [.inl 1, .inl a0], (I1, L, X), 0, 0) (fun _ => rfl) ?_
            refine yi_G_iadd rfl (a0 + 1) (yi_wn (by omega) (by omega)) ?_
            refine yi_G_run 1 (81, [(4, .inl (a0 + 1)), (6, .inl e), (5, .inl 0), (3, .inl (I 100 (((68 + (2 * k)) + 1).toNat))), (2, .inl k), (1, .inl y), (0, .inr (.inr (some 82)))], [], (I1, L, X), 0, 0) (fun _ => rfl) ?_
            refine yi_G_iinc [(6, .inl (e + 1)), (4, .inl (a0 + 1)), (5, .inl 0), (3, .inl (I 100 (((68 + (2 * k)) + 1).toNat))), (2, .inl k), (1, .inl y), (0, .inr (.inr (some 82)))] rfl rfl rfl (by rw [show yi_w (e + 1) = e + 1 from (yi_wn (by omega) (by omega)).trans (by omega)]; rfl) ?_
            refine yi_G_run 1 (42, [(6, .inl (e + 1)), (4, .inl (a0 + 1)), (5, .inl 0), (3, .inl (I 100 (((68 + (2 * k)) + 1).toNat))), (2, .inl k), (1, .inl y), (0, .inr (.inr (some 82)))], [], (I1, L, X), 0, 0) (fun _ => rfl) ?_
            refine yi_G_al (al := [(6, .inl (e + 1)), (5, .inl 0), (4, .inl (a0 + 1)), (3, .inl (I 100 (((68 + (2 * k)) + 1).toNat))), (2, .inl k), (1, .inl y), (0, .inr (.inr (some 82)))]) (show ([6, 5, 4, 3, 2, 1, 0] : List Nat).Nodup by decide) (show ([6, 4, 5, 3, 2, 1, 0] : List Nat).Nodup by decide) (yi_mc (List.mem_of_getElem? (i := 0) rfl) (yi_mc (List.mem_of_getElem? (i := 2) rfl) (yi_mc (List.mem_of_getElem? (i := 1) rfl) (yi_mc (List.mem_of_getElem? (i := 3) rfl) (yi_mc (List.mem_of_getElem? (i := 4) rfl) (yi_mc (List.mem_of_getElem? (i := 5) rfl) (yi_mc (List.mem_of_getElem? (i := 6) rfl) yi_mn))))))) ?_
            exact ih42 _ (by omega) (e + 1) (a0 + 1) (by omega) (by omega) (by omega) rfl
      exact pt42 _ 0 0 (by omega) (by omega) (by omega) rfl
  exact pt9 _ 0 (-1) (by omega) (by omega) rfl
