/-! What undo goes back to. -/
theorem c_keeps (D : Nat) (hD : 3 ≤ D) {I L : Nat → Nat → Int} {X : ym_X} (hS : ym_S X) (hU : ym_UB I) (h00 : ym_SB I 0) (hl : 0 ≤ I 82 25 ∧ I 82 25 ≤ 512) : yi_E zi_Ms D 67 [.inr (.inr (some 82))] (I, L, X) (fun r => ∃ I' L', r = (none, (I', L', X), 0, 0) ∧ (∀ p k, p ≠ 100 ∧ ¬ (p = 82 ∧ k = 30) → I' p k = I p k) ∧ (∀ p k, p ≠ 97 → L' p k = L p k) ∧ ym_UB I' ∧ (∀ k : Nat, k < 550 → I' 100 k = I 100 k)) := by
  obtain ⟨d, rfl⟩ : ∃ d, D = d + 1 := ⟨D - 1, by omega⟩
  refine yi_E_of (M := zi_m67) rfl rfl ?_
  have hU1 := hU.1
  show yi_G zi_Ms d zi_m67 (0, [(0, .inr (.inr (some 82)))], [], (I, L, X), 0, 0) _
  refine yi_G_run 1 (1, [(0, .inr (.inr (some 82)))], [.inr (.inr (some 82))], (I, L, X), 0, 0) (fun _ => rfl) ?_
  refine yi_G_get (4, [(0, .inr (.inr (some 82)))], [.inl (I 82 30)], (I, L, X), 0, 0) rfl (ym_gi hS rfl rfl rfl) ?_
  refine yi_G_run 1 (6, [(0, .inr (.inr (some 82)))], [.inl 16, .inl (I 82 30)], (I, L, X), 0, 0) (fun _ => rfl) ?_
  by_cases h1 : (I 82 30) = 16
  · refine yi_G_if2 false rfl (yi_ne_f h1) ?_
    refine yi_G_run 2 (11, [(1, .inl 1), (0, .inr (.inr (some 82)))], [], (I, L, X), 0, 0) (fun _ => rfl) ?_
    have pt11 : ∀ (m : Nat) (k : Int) (Ja : Nat → Nat → Int) (Ka : Nat → Nat → Int), (∀ p k, p ≠ 100 → Ja p k = I p k) → (∀ p k, p ≠ 97 → Ka p k = L p k) → (1 ≤ k) → (k ≤ 16) → (∀ u : Int, 0 ≤ u → u < 16 → ym_SB Ja (5 + u)) → (∀ i : Nat, i < 550 → Ja 100 i = I 100 i) → (16 - k).toNat = m → yi_G zi_Ms d zi_m67 (11, [(1, .inl k), (0, .inr (.inr (some 82)))], [], (Ja, Ka, X), 0, 0) (fun r => ∃ I' L', r = (none, (I', L', X), 0, 0) ∧ (∀ p k, p ≠ 100 ∧ ¬ (p = 82 ∧ k = 30) → I' p k = I p k) ∧ (∀ p k, p ≠ 97 → L' p k = L p k) ∧ ym_UB I' ∧ (∀ k : Nat, k < 550 → I' 100 k = I 100 k)) := by
      intro m11
      induction m11 using Nat.strongRecOn with
      | _ m11 ih11 =>
      intro k Ja Ka fJa fKa k0 k1 hbl hlo hm11
      refine yi_G_run 2 (14, [(1, .inl k), (0, .inr (.inr (some 82)))], [.inl 16, .inl k], (Ja, Ka, X), 0, 0) (fun _ => rfl) ?_
      by_cases h2 : 16 ≤ k
      · refine yi_G_if2 true rfl (yi_ge_t h2) ?_
        refine yi_G_run 2 (37, [(1, .inl k), (0, .inr (.inr (some 82)))], [.inr (.inr (some 82)), .inr (.inr (some 82))], (Ja, Ka, X), 0, 0) (fun _ => rfl) ?_
        have r3 : Ja 82 30 = I 82 30 := by rw [fJa 82 (30) (by omega)]
        refine yi_G_get (40, [(1, .inl k), (0, .inr (.inr (some 82)))], [.inl (I 82 30), .inr (.inr (some 82))], (Ja, Ka, X), 0, 0) rfl (ym_gi hS rfl rfl r3) ?_
        refine yi_G_run 1 (41, [(1, .inl k), (0, .inr (.inr (some 82)))], [.inl 1, .inl (I 82 30), .inr (.inr (some 82))], (Ja, Ka, X), 0, 0) (fun _ => rfl) ?_
        refine yi_G_isub rfl ((I 82 30) - 1) (yi_wn (by omega) (by omega)) ?_
        refine yi_G_put (45, [(1, .inl k), (0, .inr (.inr (some 82)))], [], ((yi_u Ja 82 30 ((I 82 30) - 1)), Ka, X), 0, 0) rfl (ym_pi hS rfl rfl) ?_
        generalize w5 : yi_u Ja 82 30 ((I 82 30) - 1) = I4
        refine yi_G_run 4 (49, [(1, .inl k), (0, .inr (.inr (some 82)))], [.inr (.inr (some 82)), .inl 5, .inl 0, .inr (.inr (some 82))], (I4, Ka, X), 0, 0) (fun _ => rfl) ?_
        have r6 : I4 82 30 = (I 82 30) - 1 := by rw [← w5, yi_u_eq]
        refine yi_G_get (52, [(1, .inl k), (0, .inr (.inr (some 82)))], [.inl ((I 82 30) - 1), .inl 5, .inl 0, .inr (.inr (some 82))], (I4, Ka, X), 0, 0) rfl (ym_gi hS rfl rfl r6) ?_
        refine yi_G_iadd rfl (5 + ((I 82 30) - 1)) (yi_wn (by omega) (by omega)) ?_
        have r10 : I4 82 25 = I 82 25 := by rw [← w5, yi_u_ne _ _ (by omega), fJa 82 (25) (by omega)]
        refine yi_G_callv rfl rfl (ym_rcv hS) rfl (c_copies (fr := 0) (to := 5 + ((I 82 30) - 1)) d (by omega) hS (by omega) (by omega) (by omega) (by omega) (ym_SB_0 (ym_SB_cp (I := I) (by omega) (by omega) (fun k a b => by rw [← w5, yi_u_ne _ _ (by omega), hlo _ (by omega)]) h00)) ⟨(by rw [r10]; omega), (by rw [r10]; omega)⟩) ?_
        rintro _ ⟨L7, rfl, f8⟩
        show yi_G zi_Ms d zi_m67 (56, [(1, .inl k), (0, .inr (.inr (some 82)))], [], ((ym_cp I4 0 (5 + ((I 82 30) - 1))), L7, X), 0, 0) _
        refine yi_G_run 2 (58, [(1, .inl k), (0, .inr (.inr (some 82)))], [.inr (.inr (some 82)), .inr (.inr (some 82))], ((ym_cp I4 0 (5 + ((I 82 30) - 1))), L7, X), 0, 0) (fun _ => rfl) ?_
        generalize wI11 : ym_cp I4 0 (5 + ((I 82 30) - 1)) = I11
        have fI11 : ∀ p k, p ≠ 100 → I11 p k = I4 p k := fun p k hp => by rw [← wI11]; exact ym_cp_p hp
        have r12 : I11 82 30 = (I 82 30) - 1 := by rw [fI11 82 (30) (by omega), ← w5, yi_u_eq]
        refine yi_G_get (61, [(1, .inl k), (0, .inr (.inr (some 82)))], [.inl ((I 82 30) - 1), .inr (.inr (some 82))], (I11, L7, X), 0, 0) rfl (ym_gi hS rfl rfl r12) ?_
        refine yi_G_run 1 (62, [(1, .inl k), (0, .inr (.inr (some 82)))], [.inl 1, .inl ((I 82 30) - 1), .inr (.inr (some 82))], (I11, L7, X), 0, 0) (fun _ => rfl) ?_
        refine yi_G_iadd rfl (((I 82 30) - 1) + 1) (yi_wn (by omega) (by omega)) ?_
        refine yi_G_put (66, [(1, .inl k), (0, .inr (.inr (some 82)))], [], ((yi_u I11 82 30 (((I 82 30) - 1) + 1)), L7, X), 0, 0) rfl (ym_pi hS rfl rfl) ?_
        generalize w14 : yi_u I11 82 30 (((I 82 30) - 1) + 1) = I13
        exact yi_G_retv rfl rfl (⟨_, _, rfl, (fun p k hp => by rw [← w14, yi_u_ne _ _ (fun z => by omega), fI11 p k (by omega), ← w5, yi_u_ne _ _ (fun z => by omega), fJa p k (by omega)]), (fun p k hp => by rw [f8 p k (by omega), fKa p k (by omega)]), ⟨by rw [← w14, yi_u_eq]; omega, fun u a b => ym_SB_t (I := I11) (by omega) (fun k => by rw [← w14, yi_u_ne _ _ (by omega)]) (by rw [← wI11]; rw [← w14, yi_u_eq] at b; exact ym_cp_all (by omega) (by omega) (by omega) (ym_SB_cp (I := I) (by omega) (by omega) (fun k a b => by rw [← w5, yi_u_ne _ _ (by omega), hlo _ (by omega)]) h00) (fun hne => ym_SB_t (I := Ja) (by omega) (fun k => by rw [← w5, yi_u_ne _ _ (by omega)]) (hbl u a (by omega))))⟩, (fun k hk => by rw [← w14, yi_u_ne _ _ (by omega), ← wI11, ym_cp_o (by omega), ← w5, yi_u_ne _ _ (by omega), hlo _ (by omega)])⟩)
      · refine yi_G_if2 false rfl (yi_ge_f h2) ?_
        refine yi_G_run 3 (20, [(1, .inl k), (0, .inr (.inr (some 82)))], [.inl k, .inl 5, .inr (.inr (some 82))], (Ja, Ka, X), 0, 0) (fun _ => rfl) ?_
        refine yi_G_iadd rfl (5 + k) (yi_wn (by omega) (by omega)) ?_
        refine yi_G_run 2 (23, [(1, .inl k), (0, .inr (.inr (some 82)))], [.inl k, .inl 5, .inl (5 + k), .inr (.inr (some 82))], (Ja, Ka, X), 0, 0) (fun _ => rfl) ?_
        refine yi_G_iadd rfl (5 + k) (yi_wn (by omega) (by omega)) ?_
        refine yi_G_run 1 (25, [(1, .inl k), (0, .inr (.inr (some 82)))], [.inl 1, .inl (5 + k), .inl (5 + k), .inr (.inr (some 82))], (Ja, Ka, X), 0, 0) (fun _ => rfl) ?_
        refine yi_G_isub rfl ((5 + k) - 1) (yi_wn (by omega) (by omega)) ?_
        have r18 : Ja 82 25 = I 82 25 := by rw [fJa 82 (25) (by omega)]
        refine yi_G_callv rfl rfl (ym_rcv hS) rfl (c_copies (fr := 5 + k) (to := (5 + k) - 1) d (by omega) hS (by omega) (by omega) (by omega) (by omega) (ym_SB_0 (hbl k (by omega) (by omega))) ⟨(by rw [r18]; omega), (by rw [r18]; omega)⟩) ?_
        rintro _ ⟨L15, rfl, f16⟩
        show yi_G zi_Ms d zi_m67 (29, [(1, .inl k), (0, .inr (.inr (some 82)))], [], ((ym_cp Ja (5 + k) ((5 + k) - 1)), L15, X), 0, 0) _
        generalize wI19 : ym_cp Ja (5 + k) ((5 + k) - 1) = I19
        have fI19 : ∀ p k, p ≠ 100 → I19 p k = Ja p k := fun p k hp => by rw [← wI19]; exact ym_cp_p hp
        refine yi_G_iinc [(1, .inl (k + 1)), (0, .inr (.inr (some 82)))] rfl rfl rfl (by rw [show yi_w (k + 1) = k + 1 from (yi_wn (by omega) (by omega)).trans (by omega)]; rfl) ?_
        refine yi_G_run 1 (11, [(1, .inl (k + 1)), (0, .inr (.inr (some 82)))], [], (I19, L15, X), 0, 0) (fun _ => rfl) ?_
        exact ih11 _ (by omega) (k + 1) I19 L15 (fun p k hp => by rw [fI19 p k (by omega), fJa p k (by omega)]) (fun p k hp => by rw [f16 p k (by omega), fKa p k (by omega)]) (by omega) (by omega) (fun u a b => by rw [← wI19]; exact ym_cp_all (by omega) (by omega) (by omega) (hbl k (by omega) (by omega)) (fun _ => hbl u a b)) (fun i a => by rw [← wI19, ym_cp_o (by omega)]; exact hlo i a) rfl
    exact pt11 _ 1 I L (fun _ _ _ => rfl) (fun _ _ _ => rfl) (by omega) (by omega) (fun u a b => hU.2 u a (by omega)) (fun i _ => rfl) rfl
  · refine yi_G_if2 true rfl (yi_ne_t h1) ?_
    refine yi_G_run 4 (49, [(0, .inr (.inr (some 82)))], [.inr (.inr (some 82)), .inl 5, .inl 0, .inr (.inr (some 82))], (I, L, X), 0, 0) (fun _ => rfl) ?_
    refine yi_G_get (52, [(0, .inr (.inr (some 82)))], [.inl (I 82 30), .inl 5, .inl 0, .inr (.inr (some 82))], (I, L, X), 0, 0) rfl (ym_gi hS rfl rfl rfl) ?_
    refine yi_G_iadd rfl (5 + (I 82 30)) (yi_wn (by omega) (by omega)) ?_
    refine yi_G_callv rfl rfl (ym_rcv hS) rfl (c_copies (fr := 0) (to := 5 + (I 82 30)) d (by omega) hS (by omega) (by omega) (by omega) (by omega) (ym_SB_0 h00) ⟨(by omega), (by omega)⟩) ?_
    rintro _ ⟨L20, rfl, f21⟩
    show yi_G zi_Ms d zi_m67 (56, [(0, .inr (.inr (some 82)))], [], ((ym_cp I 0 (5 + (I 82 30))), L20, X), 0, 0) _
    refine yi_G_run 2 (58, [(0, .inr (.inr (some 82)))], [.inr (.inr (some 82)), .inr (.inr (some 82))], ((ym_cp I 0 (5 + (I 82 30))), L20, X), 0, 0) (fun _ => rfl) ?_
    generalize wI23 : ym_cp I 0 (5 + (I 82 30)) = I23
    have fI23 : ∀ p k, p ≠ 100 → I23 p k = I p k := fun p k hp => by rw [← wI23]; exact ym_cp_p hp
    have r24 : I23 82 30 = I 82 30 := by rw [fI23 82 (30) (by omega)]
    refine yi_G_get (61, [(0, .inr (.inr (some 82)))], [.inl (I 82 30), .inr (.inr (some 82))], (I23, L20, X), 0, 0) rfl (ym_gi hS rfl rfl r24) ?_
    refine yi_G_run 1 (62, [(0, .inr (.inr (some 82)))], [.inl 1, .inl (I 82 30), .inr (.inr (some 82))], (I23, L20, X), 0, 0) (fun _ => rfl) ?_
    refine yi_G_iadd rfl ((I 82 30) + 1) (yi_wn (by omega) (by omega)) ?_
    refine yi_G_put (66, [(0, .inr (.inr (some 82)))], [], ((yi_u I23 82 30 ((I 82 30) + 1)), L20, X), 0, 0) rfl (ym_pi hS rfl rfl) ?_
    generalize w26 : yi_u I23 82 30 ((I 82 30) + 1) = I25
    exact yi_G_retv rfl rfl (⟨_, _, rfl, (fun p k hp => by rw [← w26, yi_u_ne _ _ (fun z => by omega), fI23 p k (by omega)]), (fun p k hp => by rw [f21 p k (by omega)]), ⟨by rw [← w26, yi_u_eq]; omega, fun u a b => ym_SB_t (I := I23) (by omega) (fun k => by rw [← w26, yi_u_ne _ _ (by omega)]) (by rw [← wI23]; rw [← w26, yi_u_eq] at b; exact ym_cp_all (by omega) (by omega) (by omega) h00 (fun hne => hU.2 u a (by omega)))⟩, (fun k hk => by rw [← w26, yi_u_ne _ _ (by omega), ← wI23, ym_cp_o (by omega)])⟩)
