/-! Undo and promise. -/
theorem c_undo (D : Nat) (hD : 3 ≤ D) {I L : Nat → Nat → Int} {X : ym_X} (hS : ym_S X) (hU : ym_UB I) (h00 : ym_SB I 0) (hl : 0 ≤ I 82 25 ∧ I 82 25 ≤ 512) : yi_E zi_Ms D 124 [.inr (.inr (some 82))] (I, L, X) (fun r => ∃ z I' L', (r = (some (.inl z), (I', L', X), 0, 0)) ∧ (∀ p k, p ≠ 100 ∧ ¬ (p = 82 ∧ k = 0) ∧ ¬ (p = 82 ∧ k = 30) → I' p k = I p k) ∧ (∀ p k, p ≠ 97 → L' p k = L p k) ∧ ym_UB I' ∧ ym_SB I' 0 ∧ (∀ k : Nat, 110 ≤ k → k < 550 → I' 100 k = I 100 k)) := by
  obtain ⟨d, rfl⟩ : ∃ d, D = d + 1 := ⟨D - 1, by omega⟩
  refine yi_E_of (M := zi_m124) rfl rfl ?_
  have hU1 := hU.1
  show yi_G zi_Ms d zi_m124 (0, [(0, .inr (.inr (some 82)))], [], (I, L, X), 0, 0) _
  refine yi_G_run 2 (2, [(0, .inr (.inr (some 82)))], [.inl 0, .inr (.inr (some 82))], (I, L, X), 0, 0) (fun _ => rfl) ?_
  refine yi_G_put (5, [(0, .inr (.inr (some 82)))], [], ((yi_u I 82 0 0), L, X), 0, 0) rfl (ym_pi hS rfl rfl) ?_
  generalize w2 : yi_u I 82 0 0 = I1
  refine yi_G_run 1 (6, [(0, .inr (.inr (some 82)))], [.inr (.inr (some 82))], (I1, L, X), 0, 0) (fun _ => rfl) ?_
  have r3 : I1 82 30 = I 82 30 := by rw [← w2, yi_u_ne _ _ (by omega)]
  refine yi_G_get (9, [(0, .inr (.inr (some 82)))], [.inl (I 82 30)], (I1, L, X), 0, 0) rfl (ym_gi hS rfl rfl r3) ?_
  by_cases h4 : (I 82 30) = 0
  · refine yi_G_if1 false rfl (yi_ne_f h4) ?_
    refine yi_G_run 1 (13, [(0, .inr (.inr (some 82)))], [.inl 0], (I1, L, X), 0, 0) (fun _ => rfl) ?_
    exact yi_G_retb rfl rfl (by decide) (⟨_, _, _, rfl, (fun p k hp => by rw [← w2, yi_u_ne _ _ (fun z => by omega)]), (fun _ _ _ => rfl), ⟨by rw [← w2, yi_u_ne _ _ (by omega)]; exact hU.1, fun u a b => ym_SB_t (I := I) (by omega) (fun k => by rw [← w2, yi_u_ne _ _ (by omega)]) (hU.2 u a (by rw [← w2, yi_u_ne _ _ (by omega)] at b; exact b))⟩, ym_SB_t (I := I) (by omega) (fun k => by rw [← w2, yi_u_ne _ _ (by omega)]) h00, fun k _ _ => (fun k => by rw [← w2, yi_u_ne _ _ (by omega)]) k⟩)
  · refine yi_G_if1 true rfl (yi_ne_t h4) ?_
    refine yi_G_run 2 (16, [(0, .inr (.inr (some 82)))], [.inr (.inr (some 82)), .inr (.inr (some 82))], (I1, L, X), 0, 0) (fun _ => rfl) ?_
    have r5 : I1 82 30 = I 82 30 := by rw [← w2, yi_u_ne _ _ (by omega)]
    refine yi_G_get (19, [(0, .inr (.inr (some 82)))], [.inl (I 82 30), .inr (.inr (some 82))], (I1, L, X), 0, 0) rfl (ym_gi hS rfl rfl r5) ?_
    refine yi_G_run 1 (20, [(0, .inr (.inr (some 82)))], [.inl 1, .inl (I 82 30), .inr (.inr (some 82))], (I1, L, X), 0, 0) (fun _ => rfl) ?_
    refine yi_G_isub rfl ((I 82 30) - 1) (yi_wn (by omega) (by omega)) ?_
    refine yi_G_put (24, [(0, .inr (.inr (some 82)))], [], ((yi_u I1 82 30 ((I 82 30) - 1)), L, X), 0, 0) rfl (ym_pi hS rfl rfl) ?_
    generalize w7 : yi_u I1 82 30 ((I 82 30) - 1) = I6
    refine yi_G_run 3 (27, [(0, .inr (.inr (some 82)))], [.inr (.inr (some 82)), .inl 5, .inr (.inr (some 82))], (I6, L, X), 0, 0) (fun _ => rfl) ?_
    have r8 : I6 82 30 = (I 82 30) - 1 := by rw [← w7, yi_u_eq]
    refine yi_G_get (30, [(0, .inr (.inr (some 82)))], [.inl ((I 82 30) - 1), .inl 5, .inr (.inr (some 82))], (I6, L, X), 0, 0) rfl (ym_gi hS rfl rfl r8) ?_
    refine yi_G_iadd rfl (5 + ((I 82 30) - 1)) (yi_wn (by omega) (by omega)) ?_
    refine yi_G_run 1 (32, [(0, .inr (.inr (some 82)))], [.inl 0, .inl (5 + ((I 82 30) - 1)), .inr (.inr (some 82))], (I6, L, X), 0, 0) (fun _ => rfl) ?_
    have r12 : I6 82 25 = I 82 25 := by rw [← w7, yi_u_ne _ _ (by omega), ← w2, yi_u_ne _ _ (by omega)]
    refine yi_G_callv rfl rfl (ym_rcv hS) rfl (c_copies (fr := 5 + ((I 82 30) - 1)) (to := 0) d (by omega) hS (by omega) (by omega) (by omega) (by omega) (ym_SB_0 (ym_SB_t (I := I) (by omega) (fun k => by rw [← w7, yi_u_ne _ _ (by omega), ← w2, yi_u_ne _ _ (by omega)]) (hU.2 (I 82 30 - 1) (by omega) (by omega)))) ⟨(by rw [r12]; omega), (by rw [r12]; omega)⟩) ?_
    rintro _ ⟨L9, rfl, f10⟩
    show yi_G zi_Ms d zi_m124 (35, [(0, .inr (.inr (some 82)))], [], ((ym_cp I6 (5 + ((I 82 30) - 1)) 0), L9, X), 0, 0) _
    refine yi_G_run 1 (36, [(0, .inr (.inr (some 82)))], [.inl 1], ((ym_cp I6 (5 + ((I 82 30) - 1)) 0), L9, X), 0, 0) (fun _ => rfl) ?_
    generalize wI13 : ym_cp I6 (5 + ((I 82 30) - 1)) 0 = I13
    have fI13 : ∀ p k, p ≠ 100 → I13 p k = I6 p k := fun p k hp => by rw [← wI13]; exact ym_cp_p hp
    exact yi_G_retb rfl rfl (by decide) (⟨_, _, _, rfl, (fun p k hp => by rw [fI13 p k (by omega), ← w7, yi_u_ne _ _ (fun z => by omega), ← w2, yi_u_ne _ _ (fun z => by omega)]), (fun p k hp => by rw [f10 p k (by omega)]), ⟨by rw [fI13 82 30 (by omega), ← w7, yi_u_eq]; omega, fun u a b => by
        rw [fI13 82 30 (by omega), ← w7, yi_u_eq] at b
        rw [← wI13]
        exact ym_cp_ne (by omega) (by omega) (by omega) (ym_SB_t (I := I) (by omega) (fun k => by rw [← w7, yi_u_ne _ _ (by omega), ← w2, yi_u_ne _ _ (by omega)]) (hU.2 u a (by omega)))⟩, (by rw [← wI13]; exact ym_cp_to (by omega) (by omega) (ym_SB_t (I := I) (by omega) (fun k => by rw [← w7, yi_u_ne _ _ (by omega), ← w2, yi_u_ne _ _ (by omega)]) (hU.2 (I 82 30 - 1) (by omega) (by omega)))), (fun k a b => by rw [← wI13, ym_cp_o (by omega)]; exact (fun k => by rw [← w7, yi_u_ne _ _ (by omega), ← w2, yi_u_ne _ _ (by omega)]) k)⟩)
