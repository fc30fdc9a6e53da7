/-! Codes and clauses read. -/
theorem c_emit (D : Nat) (hD : 1 ≤ D) {I L : Nat → Nat → Int} {X : ym_X} (hS : ym_S X) {c a n : Int} (hn : I 82 13 = n) (n0 : 0 ≤ n ∧ n ≤ 1099) : yi_E zi_Ms D 21 [.inr (.inr (some 82)), .inl c, .inl a] (I, L, X) (fun r => ∃ I', r = (none, (I', L, X), 0, 0) ∧ (∀ p k, ¬ (p = 82 ∧ k = 13) ∧ p ≠ 89 ∧ p ≠ 90 → I' p k = I p k) ∧ I' 82 13 = n + 1 ∧ ym_EM I I' n c a) := by
  obtain ⟨d, rfl⟩ : ∃ d, D = d + 1 := ⟨D - 1, by omega⟩
  refine yi_E_of (M := zi_m21) rfl rfl ?_
  subst hn
  show yi_G zi_Ms d zi_m21 (0, [(0, .inr (.inr (some 82))), (1, .inl c), (2, .inl a)], [], (I, L, X), 0, 0) _
  refine yi_G_run 1 (1, [(0, .inr (.inr (some 82))), (1, .inl c), (2, .inl a)], [.inr (.inr (some 82))], (I, L, X), 0, 0) (fun _ => rfl) ?_
  refine yi_G_get (4, [(0, .inr (.inr (some 82))), (1, .inl c), (2, .inl a)], [.inr (.inr (some 89))], (I, L, X), 0, 0) rfl (ym_gr hS 6 rfl rfl rfl) ?_
  refine yi_G_run 2 (8, [(0, .inr (.inr (some 82))), (1, .inl c), (2, .inl a)], [.inr (.inr (some 82)), .inl 1100, .inr (.inr (some 89))], (I, L, X), 0, 0) (fun _ => rfl) ?_
  refine yi_G_get (11, [(0, .inr (.inr (some 82))), (1, .inl c), (2, .inl a)], [.inl (I 82 13), .inl 1100, .inr (.inr (some 89))], (I, L, X), 0, 0) rfl (ym_gi hS rfl rfl rfl) ?_
  refine yi_G_iadd rfl (1100 + (I 82 13)) (yi_wn (by omega) (by omega)) ?_
  refine yi_G_run 1 (13, [(0, .inr (.inr (some 82))), (1, .inl c), (2, .inl a)], [.inl c, .inl (1100 + (I 82 13)), .inr (.inr (some 89))], (I, L, X), 0, 0) (fun _ => rfl) ?_
  refine yi_G_iast (14, [(0, .inr (.inr (some 82))), (1, .inl c), (2, .inl a)], [], ((yi_u I 89 ((1100 + (I 82 13)).toNat) c), L, X), 0, 0) rfl (ym_si hS 6 rfl (by omega) (by omega)) ?_
  generalize w2 : yi_u I 89 ((1100 + (I 82 13)).toNat) c = I1
  refine yi_G_run 1 (15, [(0, .inr (.inr (some 82))), (1, .inl c), (2, .inl a)], [.inr (.inr (some 82))], (I1, L, X), 0, 0) (fun _ => rfl) ?_
  refine yi_G_get (18, [(0, .inr (.inr (some 82))), (1, .inl c), (2, .inl a)], [.inr (.inr (some 90))], (I1, L, X), 0, 0) rfl (ym_gr hS 7 rfl rfl rfl) ?_
  refine yi_G_run 2 (22, [(0, .inr (.inr (some 82))), (1, .inl c), (2, .inl a)], [.inr (.inr (some 82)), .inl 1100, .inr (.inr (some 90))], (I1, L, X), 0, 0) (fun _ => rfl) ?_
  have r3 : I1 82 13 = I 82 13 := by rw [← w2, yi_u_ne _ _ (by omega)]
  refine yi_G_get (25, [(0, .inr (.inr (some 82))), (1, .inl c), (2, .inl a)], [.inl (I 82 13), .inl 1100, .inr (.inr (some 90))], (I1, L, X), 0, 0) rfl (ym_gi hS rfl rfl r3) ?_
  refine yi_G_iadd rfl (1100 + (I 82 13)) (yi_wn (by omega) (by omega)) ?_
  refine yi_G_run 1 (27, [(0, .inr (.inr (some 82))), (1, .inl c), (2, .inl a)], [.inl a, .inl (1100 + (I 82 13)), .inr (.inr (some 90))], (I1, L, X), 0, 0) (fun _ => rfl) ?_
  refine yi_G_iast (28, [(0, .inr (.inr (some 82))), (1, .inl c), (2, .inl a)], [], ((yi_u I1 90 ((1100 + (I 82 13)).toNat) a), L, X), 0, 0) rfl (ym_si hS 7 rfl (by omega) (by omega)) ?_
  generalize w5 : yi_u I1 90 ((1100 + (I 82 13)).toNat) a = I4
  refine yi_G_run 2 (30, [(0, .inr (.inr (some 82))), (1, .inl c), (2, .inl a)], [.inr (.inr (some 82)), .inr (.inr (some 82))], (I4, L, X), 0, 0) (fun _ => rfl) ?_
  have r6 : I4 82 13 = I 82 13 := by rw [← w5, yi_u_ne _ _ (by omega), ← w2, yi_u_ne _ _ (by omega)]
  refine yi_G_get (33, [(0, .inr (.inr (some 82))), (1, .inl c), (2, .inl a)], [.inl (I 82 13), .inr (.inr (some 82))], (I4, L, X), 0, 0) rfl (ym_gi hS rfl rfl r6) ?_
  refine yi_G_run 1 (34, [(0, .inr (.inr (some 82))), (1, .inl c), (2, .inl a)], [.inl 1, .inl (I 82 13), .inr (.inr (some 82))], (I4, L, X), 0, 0) (fun _ => rfl) ?_
  refine yi_G_iadd rfl ((I 82 13) + 1) (yi_wn (by omega) (by omega)) ?_
  refine yi_G_put (38, [(0, .inr (.inr (some 82))), (1, .inl c), (2, .inl a)], [], ((yi_u I4 82 13 ((I 82 13) + 1)), L, X), 0, 0) rfl (ym_pi hS rfl rfl) ?_
  generalize w8 : yi_u I4 82 13 ((I 82 13) + 1) = I7
  exact yi_G_retv rfl rfl (⟨_, rfl, (fun p k hp => by rw [← w8, yi_u_ne _ _ (fun z => by omega), ← w5, yi_u_ne _ _ (fun z => by omega), ← w2, yi_u_ne _ _ (fun z => by omega)]), by rw [← w8, yi_u_eq], by rw [← w8, yi_u_ne _ _ (by omega), ← w5, yi_u_ne _ _ (by omega), ← w2, yi_u_eq], by rw [← w8, yi_u_ne _ _ (by omega), ← w5, yi_u_eq], fun k hk => ⟨by rw [← w8, yi_u_ne _ _ (by omega), ← w5, yi_u_ne _ _ (by omega), ← w2, yi_u_ne _ _ (by omega)], by rw [← w8, yi_u_ne _ _ (by omega), ← w5, yi_u_ne _ _ (by omega), ← w2, yi_u_ne _ _ (by omega)]⟩⟩)
theorem c_clause (D : Nat) (hD : 1 ≤ D) {I L : Nat → Nat → Int} {X : ym_X} (hS : ym_S X) {w ev wh n : Int} : yi_E zi_Ms D 10 [.inl w, .inl ev, .inl wh, .inl n] (I, L, X) (fun r => ∃ z, r = (some (.inl z), (I, L, X), 0, 0) ∧ ((0 ≤ w ∧ w ≤ 5) ∧ (0 ≤ ev ∧ ev ≤ 3) ∧ (0 ≤ wh ∧ wh ≤ 8) ∧ (0 ≤ n ∧ n ≤ 7) → z = ((w * 4 + ev) * 16 + wh) * 8 + n)) := by
  obtain ⟨d, rfl⟩ : ∃ d, D = d + 1 := ⟨D - 1, by omega⟩
  refine yi_E_of (M := zi_m10) rfl rfl ?_
  show yi_G zi_Ms d zi_m10 (0, [(0, .inl w), (1, .inl ev), (2, .inl wh), (3, .inl n)], [], (I, L, X), 0, 0) _
  refine yi_G_run 13 (15, [(0, .inl w), (1, .inl ev), (2, .inl wh), (3, .inl n)], [.inl (yi_w ((yi_w ((yi_w ((yi_w ((yi_w ((yi_w (w * 4)) + ev)) * 16)) + wh)) * 8)) + n))], (I, L, X), 0, 0) (fun _ => rfl) ?_
  exact yi_G_reti rfl rfl (⟨_, rfl, fun h => by unfold yi_w; omega⟩)
theorem c_readClause (D : Nat) (hD : 6 ≤ D) {I L : Nat → Nat → Int} {X : ym_X} (hS : ym_S X) (n0 : 0 ≤ I 82 18 ∧ I 82 18 ≤ 13) (n1 : 0 ≤ I 82 19 ∧ I 82 19 ≤ 13) {te : Int} (hT : ym_TK I te) (a0 : 0 ≤ I 82 7 ∧ I 82 7 ≤ te) (f0 : I 82 8 = 0) (hDY : ym_DY I) : yi_E zi_Ms D 94 [.inr (.inr (some 82))] (I, L, X) (fun r => ∃ z I', r = (some (.inl z), (I', L, X), 0, 0) ∧ (∀ p k, ¬ (p = 82 ∧ k = 7) ∧ ¬ (p = 82 ∧ k = 8) → I' p k = I p k) ∧ (I 82 7 ≤ I' 82 7 ∧ I' 82 7 ≤ te) ∧ 0 ≤ I' 82 8 ∧ (I' 82 8 = 0 → I 82 7 < I' 82 7 ∧ ym_CV z)) := by
  obtain ⟨d, rfl⟩ : ∃ d, D = d + 1 := ⟨D - 1, by omega⟩
  refine yi_E_of (M := zi_m94) rfl rfl ?_
  obtain ⟨te0, te1, te2⟩ := id hT
  obtain ⟨dq, dy1⟩ := id hDY
  have dy : 1 ≤ I 88 (I 82 20 + 0).toNat ∧ I 88 (I 82 20 + 0).toNat ≤ 6 := by rw [Int.add_zero]; exact dy1
  show yi_G zi_Ms d zi_m94 (0, [(0, .inr (.inr (some 82)))], [], (I, L, X), 0, 0) _
  refine yi_G_run 1 (1, [(0, .inr (.inr (some 82)))], [.inr (.inr (some 82))], (I, L, X), 0, 0) (fun _ => rfl) ?_
  refine yi_G_get (4, [(0, .inr (.inr (some 82)))], [.inr (.inr (some 88))], (I, L, X), 0, 0) rfl (ym_gr hS 5 rfl rfl rfl) ?_
  refine yi_G_run 1 (5, [(0, .inr (.inr (some 82)))], [.inr (.inr (some 82)), .inr (.inr (some 88))], (I, L, X), 0, 0) (fun _ => rfl) ?_
  refine yi_G_get (8, [(0, .inr (.inr (some 82)))], [.inl (I 82 20), .inr (.inr (some 88))], (I, L, X), 0, 0) rfl (ym_gi hS rfl rfl rfl) ?_
  refine yi_G_run 1 (9, [(0, .inr (.inr (some 82)))], [.inl 0, .inl (I 82 20), .inr (.inr (some 88))], (I, L, X), 0, 0) (fun _ => rfl) ?_
  refine yi_G_iadd rfl ((I 82 20) + 0) (yi_wn (by omega) (by omega)) ?_
  refine yi_G_iald (11, [(0, .inr (.inr (some 82)))], [.inl (I 88 (((I 82 20) + 0).toNat))], (I, L, X), 0, 0) rfl (ym_li hS 5 rfl (by omega) (by omega) rfl) ?_
  refine yi_G_run 1 (12, [(1, .inl (I 88 (((I 82 20) + 0).toNat))), (0, .inr (.inr (some 82)))], [], (I, L, X), 0, 0) (fun _ => rfl) ?_
  have pt30 : (I 82 7 < te) → yi_G zi_Ms d zi_m94 (30, [(1, .inl (I 88 (((I 82 20) + 0).toNat))), (0, .inr (.inr (some 82)))], [], (I, L, X), 0, 0) (fun r => ∃ z I', r = (some (.inl z), (I', L, X), 0, 0) ∧ (∀ p k, ¬ (p = 82 ∧ k = 7) ∧ ¬ (p = 82 ∧ k = 8) → I' p k = I p k) ∧ (I 82 7 ≤ I' 82 7 ∧ I' 82 7 ≤ te) ∧ 0 ≤ I' 82 8 ∧ (I' 82 8 = 0 → I 82 7 < I' 82 7 ∧ ym_CV z)) := by
    intro  q30 
    have pt47 : ∀ (wh : Int), (wh = 7 ∨ wh = 8) → yi_G zi_Ms d zi_m94 (47, [(1, .inl (I 88 (((I 82 20) + 0).toNat))), (0, .inr (.inr (some 82))), (2, .inl wh)], [], (I, L, X), 0, 0) (fun r => ∃ z I', r = (some (.inl z), (I', L, X), 0, 0) ∧ (∀ p k, ¬ (p = 82 ∧ k = 7) ∧ ¬ (p = 82 ∧ k = 8) → I' p k = I p k) ∧ (I 82 7 ≤ I' 82 7 ∧ I' 82 7 ≤ te) ∧ 0 ≤ I' 82 8 ∧ (I' 82 8 = 0 → I 82 7 < I' 82 7 ∧ ym_CV z)) := by
      intro wh q47 
      refine yi_G_run 2 (49, [(1, .inl (I 88 (((I 82 20) + 0).toNat))), (0, .inr (.inr (some 82))), (2, .inl wh)], [.inr (.inr (some 82)), .inr (.inr (some 82))], (I, L, X), 0, 0) (fun _ => rfl) ?_
      refine yi_G_get (52, [(1, .inl (I 88 (((I 82 20) + 0).toNat))), (0, .inr (.inr (some 82))), (2, .inl wh)], [.inl (I 82 7), .inr (.inr (some 82))], (I, L, X), 0, 0) rfl (ym_gi hS rfl rfl rfl) ?_
      refine yi_G_run 1 (53, [(1, .inl (I 88 (((I 82 20) + 0).toNat))), (0, .inr (.inr (some 82))), (2, .inl wh)], [.inl 1, .inl (I 82 7), .inr (.inr (some 82))], (I, L, X), 0, 0) (fun _ => rfl) ?_
      refine yi_G_iadd rfl ((I 82 7) + 1) (yi_wn (by omega) (by omega)) ?_
      refine yi_G_put (57, [(1, .inl (I 88 (((I 82 20) + 0).toNat))), (0, .inr (.inr (some 82))), (2, .inl wh)], [], ((yi_u I 82 7 ((I 82 7) + 1)), L, X), 0, 0) rfl (ym_pi hS rfl rfl) ?_
      generalize w2 : yi_u I 82 7 ((I 82 7) + 1) = I1
      refine yi_G_run 3 (60, [(1, .inl (I 88 (((I 82 20) + 0).toNat))), (0, .inr (.inr (some 82))), (2, .inl wh)], [.inl (-1), .inl 0, .inr (.inr (some 82))], (I1, L, X), 0, 0) (fun _ => rfl) ?_
      have r3 : I1 82 7 = (I 82 7) + 1 := by rw [← w2, yi_u_eq]
      have r4 : I1 82 8 = I 82 8 := by rw [← w2, yi_u_ne _ _ (by omega)]
      have r9 : I1 82 18 = I 82 18 := by rw [← w2, yi_u_ne _ _ (by omega)]
      have r10 : I1 82 19 = I 82 19 := by rw [← w2, yi_u_ne _ _ (by omega)]
      refine yi_G_callv rfl rfl (ym_rcv hS) rfl (c_takeTold d (by omega) hS ⟨by omega, by omega⟩ ⟨(by rw [r9]; omega), (by rw [r9]; omega)⟩ ⟨(by rw [r10]; omega), (by rw [r10]; omega)⟩ (ym_TK_t (fun k => by rw [← w2, yi_u_ne _ _ (fun z => absurd z.1 (by decide))]) (fun k => by rw [← w2, yi_u_ne _ _ (fun z => absurd z.1 (by decide))]) hT) ⟨by omega, by omega⟩ (by omega)) ?_
      rintro _ ⟨z7, I5, rfl, f6, h8a, h8b, h8c⟩
      show yi_G zi_Ms d zi_m94 (63, [(1, .inl (I 88 (((I 82 20) + 0).toNat))), (0, .inr (.inr (some 82))), (2, .inl wh)], [.inl z7], (I5, L, X), 0, 0) _
      refine yi_G_run 4 (67, [(3, .inl z7), (1, .inl (I 88 (((I 82 20) + 0).toNat))), (0, .inr (.inr (some 82))), (2, .inl wh)], [.inl z7, .inl 0, .inr (.inr (some 82))], (I5, L, X), 0, 0) (fun _ => rfl) ?_
      have r15 : I5 82 18 = I 82 18 := by rw [f6 82 (18) (by omega), ← w2, yi_u_ne _ _ (by omega)]
      have r16 : I5 82 19 = I 82 19 := by rw [f6 82 (19) (by omega), ← w2, yi_u_ne _ _ (by omega)]
      refine yi_G_callv rfl rfl (ym_rcv hS) rfl (c_takeTold d (by omega) hS ⟨by omega, by omega⟩ ⟨(by rw [r15]; omega), (by rw [r15]; omega)⟩ ⟨(by rw [r16]; omega), (by rw [r16]; omega)⟩ (ym_TK_t (fun k => by rw [f6 84 k (by omega), ← w2, yi_u_ne _ _ (fun z => absurd z.1 (by decide))]) (fun k => by rw [f6 85 k (by omega), ← w2, yi_u_ne _ _ (fun z => absurd z.1 (by decide))]) hT) ⟨by omega, by omega⟩ (by omega)) ?_
      rintro _ ⟨z13, I11, rfl, f12, h14a, h14b, h14c⟩
      show yi_G zi_Ms d zi_m94 (70, [(3, .inl z7), (1, .inl (I 88 (((I 82 20) + 0).toNat))), (0, .inr (.inr (some 82))), (2, .inl wh)], [.inl z13], (I11, L, X), 0, 0) _
      refine yi_G_run 5 (76, [(4, .inl z13), (3, .inl z7), (1, .inl (I 88 (((I 82 20) + 0).toNat))), (0, .inr (.inr (some 82))), (2, .inl wh)], [.inl (-1), .inl 1, .inr (.inr (some 82)), .inl z7], (I11, L, X), 0, 0) (fun _ => rfl) ?_
      have r21 : I11 82 18 = I 82 18 := by rw [f12 82 (18) (by omega), f6 82 (18) (by omega), ← w2, yi_u_ne _ _ (by omega)]
      have r22 : I11 82 19 = I 82 19 := by rw [f12 82 (19) (by omega), f6 82 (19) (by omega), ← w2, yi_u_ne _ _ (by omega)]
      refine yi_G_callv rfl rfl (ym_rcv hS) rfl (c_takeTold d (by omega) hS ⟨by omega, by omega⟩ ⟨(by rw [r21]; omega), (by rw [r21]; omega)⟩ ⟨(by rw [r22]; omega), (by rw [r22]; omega)⟩ (ym_TK_t (fun k => by rw [f12 84 k (by omega), f6 84 k (by omega), ← w2, yi_u_ne _ _ (fun z => absurd z.1 (by decide))]) (fun k => by rw [f12 85 k (by omega), f6 85 k (by omega), ← w2, yi_u_ne _ _ (fun z => absurd z.1 (by decide))]) hT) ⟨by omega, by omega⟩ (by omega)) ?_
      rintro _ ⟨z19, I17, rfl, f18, h20a, h20b, h20c⟩
      show yi_G zi_Ms d zi_m94 (79, [(4, .inl z13), (3, .inl z7), (1, .inl (I 88 (((I 82 20) + 0).toNat))), (0, .inr (.inr (some 82))), (2, .inl wh)], [.inl z19, .inl z7], (I17, L, X), 0, 0) _
      refine yi_G_run 2 (82, [(4, .inl z13), (3, .inl z7), (1, .inl (I 88 (((I 82 20) + 0).toNat))), (0, .inr (.inr (some 82))), (2, .inl wh)], [.inl z13, .inl wh, .inl z19, .inl z7], (I17, L, X), 0, 0) (fun _ => rfl) ?_
      refine yi_G_calls rfl rfl (c_clause d (by omega) hS) ?_
      rintro _ ⟨z23, rfl, h24⟩
      show yi_G zi_Ms d zi_m94 (85, [(4, .inl z13), (3, .inl z7), (1, .inl (I 88 (((I 82 20) + 0).toNat))), (0, .inr (.inr (some 82))), (2, .inl wh)], [.inl z23], (I17, L, X), 0, 0) _
      exact yi_G_reti rfl rfl (⟨_, _, rfl, (fun p k hp => by rw [f18 p k (by omega), f12 p k (by omega), f6 p k (by omega), ← w2, yi_u_ne _ _ (fun z => by omega)]), ⟨by omega, by omega⟩, by omega, fun zz => ⟨by omega, ym_CV_of (h24 ⟨by omega, by omega, by omega, by omega⟩) (by omega) (by omega) (by omega) (by omega) (by omega) (by omega)⟩⟩)
    refine yi_G_run 2 (33, [(1, .inl (I 88 (((I 82 20) + 0).toNat))), (0, .inr (.inr (some 82)))], [.inl 12, .inr (.inr (some 82))], (I, L, X), 0, 0) (fun _ => rfl) ?_
    refine yi_G_callv rfl rfl (ym_rcv hS) rfl (c_isWord1 d (by omega) hS ⟨by omega, by omega⟩ rfl rfl rfl rfl ⟨by omega, by omega⟩) ?_
    rintro _ (⟨c25, rfl⟩ | ⟨c25, rfl⟩)
    · have lt26 : I 82 7 < te := ym_TK_lt hT (by omega) (by omega)
      show yi_G zi_Ms d zi_m94 (36, [(1, .inl (I 88 (((I 82 20) + 0).toNat))), (0, .inr (.inr (some 82)))], [.inl 1], (I, L, X), 0, 0) _
      refine yi_G_if1 false rfl (by decide) ?_
      refine yi_G_run 3 (47, [(2, .inl 7), (1, .inl (I 88 (((I 82 20) + 0).toNat))), (0, .inr (.inr (some 82)))], [], (I, L, X), 0, 0) (fun _ => rfl) ?_
      refine yi_G_al (al := [(1, .inl (I 88 (((I 82 20) + 0).toNat))), (0, .inr (.inr (some 82))), (2, .inl 7)]) (show ([1, 0, 2] : List Nat).Nodup by decide) (show ([2, 1, 0] : List Nat).Nodup by decide) (yi_mc (List.mem_of_getElem? (i := 1) rfl) (yi_mc (List.mem_of_getElem? (i := 2) rfl) (yi_mc (List.mem_of_getElem? (i := 0) rfl) yi_mn))) ?_
      exact pt47 7 (by omega)
    · show yi_G zi_Ms d zi_m94 (36, [(1, .inl (I 88 (((I 82 20) + 0).toNat))), (0, .inr (.inr (some 82)))], [.inl 0], (I, L, X), 0, 0) _
      refine yi_G_if1 true rfl (by decide) ?_
      refine yi_G_run 2 (47, [(2, .inl 8), (1, .inl (I 88 (((I 82 20) + 0).toNat))), (0, .inr (.inr (some 82)))], [], (I, L, X), 0, 0) (fun _ => rfl) ?_
      refine yi_G_al (al := [(1, .inl (I 88 (((I 82 20) + 0).toNat))), (0, .inr (.inr (some 82))), (2, .inl 8)]) (show ([1, 0, 2] : List Nat).Nodup by decide) (show ([2, 1, 0] : List Nat).Nodup by decide) (yi_mc (List.mem_of_getElem? (i := 1) rfl) (yi_mc (List.mem_of_getElem? (i := 2) rfl) (yi_mc (List.mem_of_getElem? (i := 0) rfl) yi_mn))) ?_
      exact pt47 8 (by omega)
  refine yi_G_run 2 (15, [(1, .inl (I 88 (((I 82 20) + 0).toNat))), (0, .inr (.inr (some 82)))], [.inl 12, .inr (.inr (some 82))], (I, L, X), 0, 0) (fun _ => rfl) ?_
  refine yi_G_callv rfl rfl (ym_rcv hS) rfl (c_isWord1 d (by omega) hS ⟨by omega, by omega⟩ rfl rfl rfl rfl ⟨by omega, by omega⟩) ?_
  rintro _ (⟨c27, rfl⟩ | ⟨c27, rfl⟩)
  · have lt28 : I 82 7 < te := ym_TK_lt hT (by omega) (by omega)
    show yi_G zi_Ms d zi_m94 (18, [(1, .inl (I 88 (((I 82 20) + 0).toNat))), (0, .inr (.inr (some 82)))], [.inl 1], (I, L, X), 0, 0) _
    refine yi_G_if1 true rfl (by decide) ?_
    exact pt30  (by omega)
  · show yi_G zi_Ms d zi_m94 (18, [(1, .inl (I 88 (((I 82 20) + 0).toNat))), (0, .inr (.inr (some 82)))], [.inl 0], (I, L, X), 0, 0) _
    refine yi_G_if1 false rfl (by decide) ?_
    refine yi_G_run 2 (24, [(1, .inl (I 88 (((I 82 20) + 0).toNat))), (0, .inr (.inr (some 82)))], [.inl 13, .inr (.inr (some 82))], (I, L, X), 0, 0) (fun _ => rfl) ?_
    refine yi_G_callv rfl rfl (ym_rcv hS) rfl (c_isWord1 d (by omega) hS ⟨by omega, by omega⟩ rfl rfl rfl rfl ⟨by omega, by omega⟩) ?_
    rintro _ (⟨c29, rfl⟩ | ⟨c29, rfl⟩)
    · have lt30 : I 82 7 < te := ym_TK_lt hT (by omega) (by omega)
      show yi_G zi_Ms d zi_m94 (27, [(1, .inl (I 88 (((I 82 20) + 0).toNat))), (0, .inr (.inr (some 82)))], [.inl 1], (I, L, X), 0, 0) _
      refine yi_G_if1 false rfl (by decide) ?_
      exact pt30  (by omega)
    · show yi_G zi_Ms d zi_m94 (27, [(1, .inl (I 88 (((I 82 20) + 0).toNat))), (0, .inr (.inr (some 82)))], [.inl 0], (I, L, X), 0, 0) _
      refine yi_G_if1 true rfl (by decide) ?_
      have pt114 : ∀ (wo : Int), (wo = -1 ∨ ((wo = 4 ∨ wo = 5) ∧ I 82 7 < te)) → yi_G zi_Ms d zi_m94 (114, [(1, .inl (I 88 (((I 82 20) + 0).toNat))), (0, .inr (.inr (some 82))), (2, .inl wo)], [], (I, L, X), 0, 0) (fun r => ∃ z I', r = (some (.inl z), (I', L, X), 0, 0) ∧ (∀ p k, ¬ (p = 82 ∧ k = 7) ∧ ¬ (p = 82 ∧ k = 8) → I' p k = I p k) ∧ (I 82 7 ≤ I' 82 7 ∧ I' 82 7 ≤ te) ∧ 0 ≤ I' 82 8 ∧ (I' 82 8 = 0 → I 82 7 < I' 82 7 ∧ ym_CV z)) := by
        intro wo q114 
        have pt147 : ∀ (w2 : Int) (Jb : Nat → Nat → Int), (∀ p k, ¬ (p = 82 ∧ k = 7) ∧ ¬ (p = 82 ∧ k = 8) → Jb p k = I p k) → (I 82 7 ≤ Jb 82 7 ∧ Jb 82 7 ≤ te) → (0 ≤ Jb 82 8) → (Jb 82 8 = 0 → (0 ≤ w2 ∧ w2 ≤ 5) ∧ I 82 7 < Jb 82 7) → yi_G zi_Ms d zi_m94 (147, [(1, .inl (I 88 (((I 82 20) + 0).toNat))), (0, .inr (.inr (some 82))), (2, .inl w2)], [], (Jb, L, X), 0, 0) (fun r => ∃ z I', r = (some (.inl z), (I', L, X), 0, 0) ∧ (∀ p k, ¬ (p = 82 ∧ k = 7) ∧ ¬ (p = 82 ∧ k = 8) → I' p k = I p k) ∧ (I 82 7 ≤ I' 82 7 ∧ I' 82 7 ≤ te) ∧ 0 ≤ I' 82 8 ∧ (I' 82 8 = 0 → I 82 7 < I' 82 7 ∧ ym_CV z)) := by
          intro w2 Jb fJb b1 b2 b3 
          refine yi_G_run 3 (150, [(1, .inl (I 88 (((I 82 20) + 0).toNat))), (0, .inr (.inr (some 82))), (2, .inl w2)], [.inl (-1), .inl 1, .inr (.inr (some 82))], (Jb, L, X), 0, 0) (fun _ => rfl) ?_
          have r35 : Jb 82 18 = I 82 18 := by rw [fJb 82 (18) (by omega)]
          have r36 : Jb 82 19 = I 82 19 := by rw [fJb 82 (19) (by omega)]
          refine yi_G_callv rfl rfl (ym_rcv hS) rfl (c_takeTold d (by omega) hS ⟨by omega, by omega⟩ ⟨(by rw [r35]; omega), (by rw [r35]; omega)⟩ ⟨(by rw [r36]; omega), (by rw [r36]; omega)⟩ (ym_TK_t (fun k => by rw [fJb 84 k (by omega)]) (fun k => by rw [fJb 85 k (by omega)]) hT) ⟨by omega, by omega⟩ (by omega)) ?_
          rintro _ ⟨z33, I31, rfl, f32, h34a, h34b, h34c⟩
          show yi_G zi_Ms d zi_m94 (153, [(1, .inl (I 88 (((I 82 20) + 0).toNat))), (0, .inr (.inr (some 82))), (2, .inl w2)], [.inl z33], (I31, L, X), 0, 0) _
          refine yi_G_run 1 (154, [(3, .inl z33), (1, .inl (I 88 (((I 82 20) + 0).toNat))), (0, .inr (.inr (some 82))), (2, .inl w2)], [], (I31, L, X), 0, 0) (fun _ => rfl) ?_
          have pt175 : ∀ (wn : Int), (wn = -1 ∨ (0 ≤ wn ∧ wn ≤ 6 ∧ I31 82 8 = 0 ∧ I31 82 7 < te)) → yi_G zi_Ms d zi_m94 (175, [(3, .inl z33), (1, .inl (I 88 (((I 82 20) + 0).toNat))), (0, .inr (.inr (some 82))), (2, .inl w2), (4, .inl wn)], [], (I31, L, X), 0, 0) (fun r => ∃ z I', r = (some (.inl z), (I', L, X), 0, 0) ∧ (∀ p k, ¬ (p = 82 ∧ k = 7) ∧ ¬ (p = 82 ∧ k = 8) → I' p k = I p k) ∧ (I 82 7 ≤ I' 82 7 ∧ I' 82 7 ≤ te) ∧ 0 ≤ I' 82 8 ∧ (I' 82 8 = 0 → I 82 7 < I' 82 7 ∧ ym_CV z)) := by
            intro wn q175 
            refine yi_G_run 1 (177, [(3, .inl z33), (1, .inl (I 88 (((I 82 20) + 0).toNat))), (0, .inr (.inr (some 82))), (2, .inl w2), (4, .inl wn)], [.inl wn], (I31, L, X), 0, 0) (fun _ => rfl) ?_
            by_cases h37 : 0 ≤ wn
            · refine yi_G_if1 true rfl (yi_ge_t h37) ?_
              have pt230 : ∀ (nn : Int) (Jc : Nat → Nat → Int), (∀ p k, ¬ (p = 82 ∧ k = 7) ∧ ¬ (p = 82 ∧ k = 8) → Jc p k = I31 p k) → (I 82 7 ≤ Jc 82 7 ∧ Jc 82 7 ≤ te) → (0 ≤ Jc 82 8) → (Jc 82 8 = 0 → (0 ≤ nn ∧ nn ≤ 6) ∧ (wn ≤ 2 → 1 ≤ nn) ∧ I31 82 7 ≤ Jc 82 7) → yi_G zi_Ms d zi_m94 (230, [(3, .inl z33), (1, .inl (I 88 (((I 82 20) + 0).toNat))), (0, .inr (.inr (some 82))), (2, .inl w2), (4, .inl wn), (5, .inl nn)], [], (Jc, L, X), 0, 0) (fun r => ∃ z I', r = (some (.inl z), (I', L, X), 0, 0) ∧ (∀ p k, ¬ (p = 82 ∧ k = 7) ∧ ¬ (p = 82 ∧ k = 8) → I' p k = I p k) ∧ (I 82 7 ≤ I' 82 7 ∧ I' 82 7 ≤ te) ∧ 0 ≤ I' 82 8 ∧ (I' 82 8 = 0 → I 82 7 < I' 82 7 ∧ ym_CV z)) := by
                intro nn Jc fJc d1 d2 d3 
                refine yi_G_run 4 (236, [(3, .inl z33), (1, .inl (I 88 (((I 82 20) + 0).toNat))), (0, .inr (.inr (some 82))), (2, .inl w2), (4, .inl wn), (5, .inl nn)], [.inl nn, .inl wn, .inl z33, .inl w2], (Jc, L, X), 0, 0) (fun _ => rfl) ?_
                refine yi_G_calls rfl rfl (c_clause d (by omega) hS) ?_
                rintro _ ⟨z38, rfl, h39⟩
                show yi_G zi_Ms d zi_m94 (239, [(3, .inl z33), (1, .inl (I 88 (((I 82 20) + 0).toNat))), (0, .inr (.inr (some 82))), (2, .inl w2), (4, .inl wn), (5, .inl nn)], [.inl z38], (Jc, L, X), 0, 0) _
                exact yi_G_reti rfl rfl (⟨_, _, rfl, (fun p k hp => by rw [fJc p k (by omega), f32 p k (by omega), fJb p k (by omega)]), ⟨by omega, by omega⟩, by omega, fun zz => ⟨by omega, ym_CV_of (h39 ⟨by omega, by omega, by omega, by omega⟩) (by omega) (by omega) (by omega) (by omega) (by omega) (by omega)⟩⟩)
              refine yi_G_run 2 (189, [(3, .inl z33), (1, .inl (I 88 (((I 82 20) + 0).toNat))), (0, .inr (.inr (some 82))), (2, .inl w2), (4, .inl wn)], [.inr (.inr (some 82)), .inr (.inr (some 82))], (I31, L, X), 0, 0) (fun _ => rfl) ?_
              refine yi_G_get (192, [(3, .inl z33), (1, .inl (I 88 (((I 82 20) + 0).toNat))), (0, .inr (.inr (some 82))), (2, .inl w2), (4, .inl wn)], [.inl (I31 82 7), .inr (.inr (some 82))], (I31, L, X), 0, 0) rfl (ym_gi hS rfl rfl rfl) ?_
              refine yi_G_run 1 (193, [(3, .inl z33), (1, .inl (I 88 (((I 82 20) + 0).toNat))), (0, .inr (.inr (some 82))), (2, .inl w2), (4, .inl wn)], [.inl 1, .inl (I31 82 7), .inr (.inr (some 82))], (I31, L, X), 0, 0) (fun _ => rfl) ?_
              refine yi_G_iadd rfl ((I31 82 7) + 1) (yi_wn (by omega) (by omega)) ?_
              refine yi_G_put (197, [(3, .inl z33), (1, .inl (I 88 (((I 82 20) + 0).toNat))), (0, .inr (.inr (some 82))), (2, .inl w2), (4, .inl wn)], [], ((yi_u I31 82 7 ((I31 82 7) + 1)), L, X), 0, 0) rfl (ym_pi hS rfl rfl) ?_
              generalize w41 : yi_u I31 82 7 ((I31 82 7) + 1) = I40
              refine yi_G_run 2 (200, [(3, .inl z33), (1, .inl (I 88 (((I 82 20) + 0).toNat))), (0, .inr (.inr (some 82))), (2, .inl w2), (4, .inl wn)], [.inl 2, .inl wn], (I40, L, X), 0, 0) (fun _ => rfl) ?_
              by_cases h42 : 2 < wn
              · refine yi_G_if2 true rfl (yi_gt_t h42) ?_
                refine yi_G_run 2 (215, [(3, .inl z33), (1, .inl (I 88 (((I 82 20) + 0).toNat))), (0, .inr (.inr (some 82))), (2, .inl w2), (4, .inl wn)], [.inl 5, .inl wn], (I40, L, X), 0, 0) (fun _ => rfl) ?_
                by_cases h43 : wn < 5
                · refine yi_G_if2 true rfl (yi_lt_t h43) ?_
                  refine yi_G_run 2 (230, [(5, .inl 0), (3, .inl z33), (1, .inl (I 88 (((I 82 20) + 0).toNat))), (0, .inr (.inr (some 82))), (2, .inl w2), (4, .inl wn)], [], (I40, L, X), 0, 0) (fun _ => rfl) ?_
                  refine yi_G_al (al := [(3, .inl z33), (1, .inl (I 88 (((I 82 20) + 0).toNat))), (0, .inr (.inr (some 82))), (2, .inl w2), (4, .inl wn), (5, .inl 0)]) (show ([3, 1, 0, 2, 4, 5] : List Nat).Nodup by decide) (show ([5, 3, 1, 0, 2, 4] : List Nat).Nodup by decide) (yi_mc (List.mem_of_getElem? (i := 1) rfl) (yi_mc (List.mem_of_getElem? (i := 2) rfl) (yi_mc (List.mem_of_getElem? (i := 3) rfl) (yi_mc (List.mem_of_getElem? (i := 4) rfl) (yi_mc (List.mem_of_getElem? (i := 5) rfl) (yi_mc (List.mem_of_getElem? (i := 0) rfl) yi_mn)))))) ?_
                  have r44 : I40 82 7 = (I31 82 7) + 1 := by rw [← w41, yi_u_eq]
                  have r45 : I40 82 8 = I31 82 8 := by rw [← w41, yi_u_ne _ _ (by omega)]
                  have r46 : I40 82 7 = (I31 82 7) + 1 := by rw [← w41, yi_u_eq]
                  have r47 : I40 82 8 = I31 82 8 := by rw [← w41, yi_u_ne _ _ (by omega)]
                  have r48 : I40 82 7 = (I31 82 7) + 1 := by rw [← w41, yi_u_eq]
                  have r49 : I40 82 8 = I31 82 8 := by rw [← w41, yi_u_ne _ _ (by omega)]
                  exact pt230 0 I40 (fun p k hp => by rw [← w41, yi_u_ne _ _ (fun z => by omega)]) (by omega) (by omega) (by omega)
                · refine yi_G_if2 false rfl (yi_lt_f h43) ?_
                  refine yi_G_run 3 (221, [(3, .inl z33), (1, .inl (I 88 (((I 82 20) + 0).toNat))), (0, .inr (.inr (some 82))), (2, .inl w2), (4, .inl wn)], [.inl (I 88 (((I 82 20) + 0).toNat)), .inl 0, .inr (.inr (some 82))], (I40, L, X), 0, 0) (fun _ => rfl) ?_
                  have r50 : I40 82 7 = (I31 82 7) + 1 := by rw [← w41, yi_u_eq]
                  have r51 : I40 82 8 = I31 82 8 := by rw [← w41, yi_u_ne _ _ (by omega)]
                  refine yi_G_callv rfl rfl (ym_rcv hS) rfl (c_takeNumber d (by omega) hS (by omega) (by omega) (ym_TK_t (fun k => by rw [← w41, yi_u_ne _ _ (fun z => absurd z.1 (by decide)), f32 84 k (by omega), fJb 84 k (by omega)]) (fun k => by rw [← w41, yi_u_ne _ _ (fun z => absurd z.1 (by decide)), f32 85 k (by omega), fJb 85 k (by omega)]) hT) ⟨by omega, by omega⟩ (by omega)) ?_
                  rintro _ ⟨z54, I52, rfl, f53, h55a, h55b, h55c⟩
                  show yi_G zi_Ms d zi_m94 (224, [(3, .inl z33), (1, .inl (I 88 (((I 82 20) + 0).toNat))), (0, .inr (.inr (some 82))), (2, .inl w2), (4, .inl wn)], [.inl z54], (I52, L, X), 0, 0) _
                  refine yi_G_run 2 (230, [(5, .inl z54), (3, .inl z33), (1, .inl (I 88 (((I 82 20) + 0).toNat))), (0, .inr (.inr (some 82))), (2, .inl w2), (4, .inl wn)], [], (I52, L, X), 0, 0) (fun _ => rfl) ?_
                  refine yi_G_al (al := [(3, .inl z33), (1, .inl (I 88 (((I 82 20) + 0).toNat))), (0, .inr (.inr (some 82))), (2, .inl w2), (4, .inl wn), (5, .inl z54)]) (show ([3, 1, 0, 2, 4, 5] : List Nat).Nodup by decide) (show ([5, 3, 1, 0, 2, 4] : List Nat).Nodup by decide) (yi_mc (List.mem_of_getElem? (i := 1) rfl) (yi_mc (List.mem_of_getElem? (i := 2) rfl) (yi_mc (List.mem_of_getElem? (i := 3) rfl) (yi_mc (List.mem_of_getElem? (i := 4) rfl) (yi_mc (List.mem_of_getElem? (i := 5) rfl) (yi_mc (List.mem_of_getElem? (i := 0) rfl) yi_mn)))))) ?_
                  exact pt230 z54 I52 (fun p k hp => by rw [f53 p k (by omega), ← w41, yi_u_ne _ _ (fun z => by omega)]) (by omega) (by omega) (by omega)
              · refine yi_G_if2 false rfl (yi_gt_f h42) ?_
                refine yi_G_run 3 (206, [(3, .inl z33), (1, .inl (I 88 (((I 82 20) + 0).toNat))), (0, .inr (.inr (some 82))), (2, .inl w2), (4, .inl wn)], [.inl (I 88 (((I 82 20) + 0).toNat)), .inl 1, .inr (.inr (some 82))], (I40, L, X), 0, 0) (fun _ => rfl) ?_
                have r56 : I40 82 7 = (I31 82 7) + 1 := by rw [← w41, yi_u_eq]
                have r57 : I40 82 8 = I31 82 8 := by rw [← w41, yi_u_ne _ _ (by omega)]
                refine yi_G_callv rfl rfl (ym_rcv hS) rfl (c_takeNumber d (by omega) hS (by omega) (by omega) (ym_TK_t (fun k => by rw [← w41, yi_u_ne _ _ (fun z => absurd z.1 (by decide)), f32 84 k (by omega), fJb 84 k (by omega)]) (fun k => by rw [← w41, yi_u_ne _ _ (fun z => absurd z.1 (by decide)), f32 85 k (by omega), fJb 85 k (by omega)]) hT) ⟨by omega, by omega⟩ (by omega)) ?_
                rintro _ ⟨z60, I58, rfl, f59, h61a, h61b, h61c⟩
                show yi_G zi_Ms d zi_m94 (209, [(3, .inl z33), (1, .inl (I 88 (((I 82 20) + 0).toNat))), (0, .inr (.inr (some 82))), (2, .inl w2), (4, .inl wn)], [.inl z60], (I58, L, X), 0, 0) _
                refine yi_G_run 2 (230, [(5, .inl z60), (3, .inl z33), (1, .inl (I 88 (((I 82 20) + 0).toNat))), (0, .inr (.inr (some 82))), (2, .inl w2), (4, .inl wn)], [], (I58, L, X), 0, 0) (fun _ => rfl) ?_
                refine yi_G_al (al := [(3, .inl z33), (1, .inl (I 88 (((I 82 20) + 0).toNat))), (0, .inr (.inr (some 82))), (2, .inl w2), (4, .inl wn), (5, .inl z60)]) (show ([3, 1, 0, 2, 4, 5] : List Nat).Nodup by decide) (show ([5, 3, 1, 0, 2, 4] : List Nat).Nodup by decide) (yi_mc (List.mem_of_getElem? (i := 1) rfl) (yi_mc (List.mem_of_getElem? (i := 2) rfl) (yi_mc (List.mem_of_getElem? (i := 3) rfl) (yi_mc (List.mem_of_getElem? (i := 4) rfl) (yi_mc (List.mem_of_getElem? (i := 5) rfl) (yi_mc (List.mem_of_getElem? (i := 0) rfl) yi_mn)))))) ?_
                exact pt230 z60 I58 (fun p k hp => by rw [f59 p k (by omega), ← w41, yi_u_ne _ _ (fun z => by omega)]) (by omega) (by omega) (by omega)
            · refine yi_G_if1 false rfl (yi_ge_f h37) ?_
              refine yi_G_run 2 (182, [(3, .inl z33), (1, .inl (I 88 (((I 82 20) + 0).toNat))), (0, .inr (.inr (some 82))), (2, .inl w2), (4, .inl wn)], [.inl 1, .inr (.inr (some 82))], (I31, L, X), 0, 0) (fun _ => rfl) ?_
              refine yi_G_callv rfl rfl (ym_rcv hS) rfl (c_wrong d (by omega) hS ⟨by omega, by omega⟩ (ym_TK_t (fun k => by rw [f32 84 k (by omega), fJb 84 k (by omega)]) (fun k => by rw [f32 85 k (by omega), fJb 85 k (by omega)]) hT) ⟨by omega, by omega⟩ (by omega)) ?_
              rintro _ ⟨I62, rfl, f63, h64⟩
              show yi_G zi_Ms d zi_m94 (185, [(3, .inl z33), (1, .inl (I 88 (((I 82 20) + 0).toNat))), (0, .inr (.inr (some 82))), (2, .inl w2), (4, .inl wn)], [], (I62, L, X), 0, 0) _
              refine yi_G_run 1 (186, [(3, .inl z33), (1, .inl (I 88 (((I 82 20) + 0).toNat))), (0, .inr (.inr (some 82))), (2, .inl w2), (4, .inl wn)], [.inl 0], (I62, L, X), 0, 0) (fun _ => rfl) ?_
              have r65 : I62 82 7 = I31 82 7 := by rw [f63 82 (7) (by omega)]
              exact yi_G_reti rfl rfl (⟨_, _, rfl, (fun p k hp => by rw [f63 p k (by omega), f32 p k (by omega), fJb p k (by omega)]), ⟨by omega, by omega⟩, by omega, by omega⟩)
          refine yi_G_run 1 (155, [(3, .inl z33), (1, .inl (I 88 (((I 82 20) + 0).toNat))), (0, .inr (.inr (some 82))), (2, .inl w2)], [.inr (.inr (some 82))], (I31, L, X), 0, 0) (fun _ => rfl) ?_
          refine yi_G_get (158, [(3, .inl z33), (1, .inl (I 88 (((I 82 20) + 0).toNat))), (0, .inr (.inr (some 82))), (2, .inl w2)], [.inl (I31 82 8)], (I31, L, X), 0, 0) rfl (ym_gi hS rfl rfl rfl) ?_
          by_cases h66 : (I31 82 8) ≤ 0
          · refine yi_G_if1 true rfl (yi_le_t h66) ?_
            refine yi_G_run 3 (170, [(3, .inl z33), (1, .inl (I 88 (((I 82 20) + 0).toNat))), (0, .inr (.inr (some 82))), (2, .inl w2)], [.inl 7, .inl 14, .inr (.inr (some 82))], (I31, L, X), 0, 0) (fun _ => rfl) ?_
            refine yi_G_callv rfl rfl (ym_rcv hS) rfl (c_wordHere d (by omega) hS ⟨by omega, by omega⟩ ⟨by omega, by omega⟩ (ym_TK_t (fun k => by rw [f32 84 k (by omega), fJb 84 k (by omega)]) (fun k => by rw [f32 85 k (by omega), fJb 85 k (by omega)]) hT) ⟨by omega, by omega⟩) ?_
            rintro _ ⟨z67, rfl, h68⟩
            show yi_G zi_Ms d zi_m94 (173, [(3, .inl z33), (1, .inl (I 88 (((I 82 20) + 0).toNat))), (0, .inr (.inr (some 82))), (2, .inl w2)], [.inl z67], (I31, L, X), 0, 0) _
            refine yi_G_run 1 (175, [(4, .inl z67), (3, .inl z33), (1, .inl (I 88 (((I 82 20) + 0).toNat))), (0, .inr (.inr (some 82))), (2, .inl w2)], [], (I31, L, X), 0, 0) (fun _ => rfl) ?_
            refine yi_G_al (al := [(3, .inl z33), (1, .inl (I 88 (((I 82 20) + 0).toNat))), (0, .inr (.inr (some 82))), (2, .inl w2), (4, .inl z67)]) (show ([3, 1, 0, 2, 4] : List Nat).Nodup by decide) (show ([4, 3, 1, 0, 2] : List Nat).Nodup by decide) (yi_mc (List.mem_of_getElem? (i := 1) rfl) (yi_mc (List.mem_of_getElem? (i := 2) rfl) (yi_mc (List.mem_of_getElem? (i := 3) rfl) (yi_mc (List.mem_of_getElem? (i := 4) rfl) (yi_mc (List.mem_of_getElem? (i := 0) rfl) yi_mn))))) ?_
            exact pt175 z67 (by omega)
          · refine yi_G_if1 false rfl (yi_le_f h66) ?_
            refine yi_G_run 3 (175, [(4, .inl (-1)), (3, .inl z33), (1, .inl (I 88 (((I 82 20) + 0).toNat))), (0, .inr (.inr (some 82))), (2, .inl w2)], [], (I31, L, X), 0, 0) (fun _ => rfl) ?_
            refine yi_G_al (al := [(3, .inl z33), (1, .inl (I 88 (((I 82 20) + 0).toNat))), (0, .inr (.inr (some 82))), (2, .inl w2), (4, .inl (-1))]) (show ([3, 1, 0, 2, 4] : List Nat).Nodup by decide) (show ([4, 3, 1, 0, 2] : List Nat).Nodup by decide) (yi_mc (List.mem_of_getElem? (i := 1) rfl) (yi_mc (List.mem_of_getElem? (i := 2) rfl) (yi_mc (List.mem_of_getElem? (i := 3) rfl) (yi_mc (List.mem_of_getElem? (i := 4) rfl) (yi_mc (List.mem_of_getElem? (i := 0) rfl) yi_mn))))) ?_
            exact pt175 (-1) (by omega)
        refine yi_G_run 2 (116, [(1, .inl (I 88 (((I 82 20) + 0).toNat))), (0, .inr (.inr (some 82))), (2, .inl wo)], [.inr (.inr (some 82)), .inr (.inr (some 82))], (I, L, X), 0, 0) (fun _ => rfl) ?_
        refine yi_G_get (119, [(1, .inl (I 88 (((I 82 20) + 0).toNat))), (0, .inr (.inr (some 82))), (2, .inl wo)], [.inl (I 82 7), .inr (.inr (some 82))], (I, L, X), 0, 0) rfl (ym_gi hS rfl rfl rfl) ?_
        refine yi_G_run 1 (120, [(1, .inl (I 88 (((I 82 20) + 0).toNat))), (0, .inr (.inr (some 82))), (2, .inl wo)], [.inl wo, .inl (I 82 7), .inr (.inr (some 82))], (I, L, X), 0, 0) (fun _ => rfl) ?_
        by_cases h69 : 0 ≤ wo
        · refine yi_G_if1 true rfl (yi_ge_t h69) ?_
          refine yi_G_run 1 (128, [(1, .inl (I 88 (((I 82 20) + 0).toNat))), (0, .inr (.inr (some 82))), (2, .inl wo)], [.inl 1, .inl (I 82 7), .inr (.inr (some 82))], (I, L, X), 0, 0) (fun _ => rfl) ?_
          refine yi_G_iadd rfl ((I 82 7) + 1) (yi_wn (by omega) (by omega)) ?_
          refine yi_G_put (132, [(1, .inl (I 88 (((I 82 20) + 0).toNat))), (0, .inr (.inr (some 82))), (2, .inl wo)], [], ((yi_u I 82 7 ((I 82 7) + 1)), L, X), 0, 0) rfl (ym_pi hS rfl rfl) ?_
          generalize w71 : yi_u I 82 7 ((I 82 7) + 1) = I70
          refine yi_G_run 1 (133, [(1, .inl (I 88 (((I 82 20) + 0).toNat))), (0, .inr (.inr (some 82))), (2, .inl wo)], [.inl wo], (I70, L, X), 0, 0) (fun _ => rfl) ?_
          by_cases h72 : 0 ≤ wo
          · refine yi_G_if1 true rfl (yi_ge_t h72) ?_
            refine yi_G_run 2 (147, [(2, .inl wo), (1, .inl (I 88 (((I 82 20) + 0).toNat))), (0, .inr (.inr (some 82)))], [], (I70, L, X), 0, 0) (fun _ => rfl) ?_
            refine yi_G_al (al := [(1, .inl (I 88 (((I 82 20) + 0).toNat))), (0, .inr (.inr (some 82))), (2, .inl wo)]) (show ([1, 0, 2] : List Nat).Nodup by decide) (show ([2, 1, 0] : List Nat).Nodup by decide) (yi_mc (List.mem_of_getElem? (i := 1) rfl) (yi_mc (List.mem_of_getElem? (i := 2) rfl) (yi_mc (List.mem_of_getElem? (i := 0) rfl) yi_mn))) ?_
            have r73 : I70 82 7 = (I 82 7) + 1 := by rw [← w71, yi_u_eq]
            have r74 : I70 82 8 = I 82 8 := by rw [← w71, yi_u_ne _ _ (by omega)]
            have r75 : I70 82 7 = (I 82 7) + 1 := by rw [← w71, yi_u_eq]
            have r76 : I70 82 8 = I 82 8 := by rw [← w71, yi_u_ne _ _ (by omega)]
            have r77 : I70 82 7 = (I 82 7) + 1 := by rw [← w71, yi_u_eq]
            have r78 : I70 82 8 = I 82 8 := by rw [← w71, yi_u_ne _ _ (by omega)]
            exact pt147 wo I70 (fun p k hp => by rw [← w71, yi_u_ne _ _ (fun z => by omega)]) (by omega) (by omega) (by omega)
          · refine yi_G_if1 false rfl (yi_ge_f h72) ?_
            refine yi_G_run 3 (139, [(1, .inl (I 88 (((I 82 20) + 0).toNat))), (0, .inr (.inr (some 82))), (2, .inl wo)], [.inl (-1), .inl 0, .inr (.inr (some 82))], (I70, L, X), 0, 0) (fun _ => rfl) ?_
            have r79 : I70 82 7 = (I 82 7) + 1 := by rw [← w71, yi_u_eq]
            have r80 : I70 82 8 = I 82 8 := by rw [← w71, yi_u_ne _ _ (by omega)]
            have r85 : I70 82 18 = I 82 18 := by rw [← w71, yi_u_ne _ _ (by omega)]
            have r86 : I70 82 19 = I 82 19 := by rw [← w71, yi_u_ne _ _ (by omega)]
            refine yi_G_callv rfl rfl (ym_rcv hS) rfl (c_takeTold d (by omega) hS ⟨by omega, by omega⟩ ⟨(by rw [r85]; omega), (by rw [r85]; omega)⟩ ⟨(by rw [r86]; omega), (by rw [r86]; omega)⟩ (ym_TK_t (fun k => by rw [← w71, yi_u_ne _ _ (fun z => absurd z.1 (by decide))]) (fun k => by rw [← w71, yi_u_ne _ _ (fun z => absurd z.1 (by decide))]) hT) ⟨by omega, by omega⟩ (by omega)) ?_
            rintro _ ⟨z83, I81, rfl, f82, h84a, h84b, h84c⟩
            show yi_G zi_Ms d zi_m94 (142, [(1, .inl (I 88 (((I 82 20) + 0).toNat))), (0, .inr (.inr (some 82))), (2, .inl wo)], [.inl z83], (I81, L, X), 0, 0) _
            refine yi_G_run 2 (147, [(2, .inl z83), (1, .inl (I 88 (((I 82 20) + 0).toNat))), (0, .inr (.inr (some 82)))], [], (I81, L, X), 0, 0) (fun _ => rfl) ?_
            refine yi_G_al (al := [(1, .inl (I 88 (((I 82 20) + 0).toNat))), (0, .inr (.inr (some 82))), (2, .inl z83)]) (show ([1, 0, 2] : List Nat).Nodup by decide) (show ([2, 1, 0] : List Nat).Nodup by decide) (yi_mc (List.mem_of_getElem? (i := 1) rfl) (yi_mc (List.mem_of_getElem? (i := 2) rfl) (yi_mc (List.mem_of_getElem? (i := 0) rfl) yi_mn))) ?_
            exact pt147 z83 I81 (fun p k hp => by rw [f82 p k (by omega), ← w71, yi_u_ne _ _ (fun z => by omega)]) (by omega) (by omega) (by omega)
        · refine yi_G_if1 false rfl (yi_ge_f h69) ?_
          refine yi_G_run 2 (128, [(1, .inl (I 88 (((I 82 20) + 0).toNat))), (0, .inr (.inr (some 82))), (2, .inl wo)], [.inl 0, .inl (I 82 7), .inr (.inr (some 82))], (I, L, X), 0, 0) (fun _ => rfl) ?_
          refine yi_G_iadd rfl ((I 82 7) + 0) (yi_wn (by omega) (by omega)) ?_
          refine yi_G_put (132, [(1, .inl (I 88 (((I 82 20) + 0).toNat))), (0, .inr (.inr (some 82))), (2, .inl wo)], [], ((yi_u I 82 7 ((I 82 7) + 0)), L, X), 0, 0) rfl (ym_pi hS rfl rfl) ?_
          generalize w88 : yi_u I 82 7 ((I 82 7) + 0) = I87
          refine yi_G_run 1 (133, [(1, .inl (I 88 (((I 82 20) + 0).toNat))), (0, .inr (.inr (some 82))), (2, .inl wo)], [.inl wo], (I87, L, X), 0, 0) (fun _ => rfl) ?_
          by_cases h89 : 0 ≤ wo
          · refine yi_G_if1 true rfl (yi_ge_t h89) ?_
            refine yi_G_run 2 (147, [(2, .inl wo), (1, .inl (I 88 (((I 82 20) + 0).toNat))), (0, .inr (.inr (some 82)))], [], (I87, L, X), 0, 0) (fun _ => rfl) ?_
            refine yi_G_al (al := [(1, .inl (I 88 (((I 82 20) + 0).toNat))), (0, .inr (.inr (some 82))), (2, .inl wo)]) (show ([1, 0, 2] : List Nat).Nodup by decide) (show ([2, 1, 0] : List Nat).Nodup by decide) (yi_mc (List.mem_of_getElem? (i := 1) rfl) (yi_mc (List.mem_of_getElem? (i := 2) rfl) (yi_mc (List.mem_of_getElem? (i := 0) rfl) yi_mn))) ?_
            have r90 : I87 82 7 = (I 82 7) + 0 := by rw [← w88, yi_u_eq]
            have r91 : I87 82 8 = I 82 8 := by rw [← w88, yi_u_ne _ _ (by omega)]
            have r92 : I87 82 7 = (I 82 7) + 0 := by rw [← w88, yi_u_eq]
            have r93 : I87 82 8 = I 82 8 := by rw [← w88, yi_u_ne _ _ (by omega)]
            have r94 : I87 82 7 = (I 82 7) + 0 := by rw [← w88, yi_u_eq]
            have r95 : I87 82 8 = I 82 8 := by rw [← w88, yi_u_ne _ _ (by omega)]
            exact pt147 wo I87 (fun p k hp => by rw [← w88, yi_u_ne _ _ (fun z => by omega)]) (by omega) (by omega) (by omega)
          · refine yi_G_if1 false rfl (yi_ge_f h89) ?_
            refine yi_G_run 3 (139, [(1, .inl (I 88 (((I 82 20) + 0).toNat))), (0, .inr (.inr (some 82))), (2, .inl wo)], [.inl (-1), .inl 0, .inr (.inr (some 82))], (I87, L, X), 0, 0) (fun _ => rfl) ?_
            have r96 : I87 82 7 = (I 82 7) + 0 := by rw [← w88, yi_u_eq]
            have r97 : I87 82 8 = I 82 8 := by rw [← w88, yi_u_ne _ _ (by omega)]
            have r102 : I87 82 18 = I 82 18 := by rw [← w88, yi_u_ne _ _ (by omega)]
            have r103 : I87 82 19 = I 82 19 := by rw [← w88, yi_u_ne _ _ (by omega)]
            refine yi_G_callv rfl rfl (ym_rcv hS) rfl (c_takeTold d (by omega) hS ⟨by omega, by omega⟩ ⟨(by rw [r102]; omega), (by rw [r102]; omega)⟩ ⟨(by rw [r103]; omega), (by rw [r103]; omega)⟩ (ym_TK_t (fun k => by rw [← w88, yi_u_ne _ _ (fun z => absurd z.1 (by decide))]) (fun k => by rw [← w88, yi_u_ne _ _ (fun z => absurd z.1 (by decide))]) hT) ⟨by omega, by omega⟩ (by omega)) ?_
            rintro _ ⟨z100, I98, rfl, f99, h101a, h101b, h101c⟩
            show yi_G zi_Ms d zi_m94 (142, [(1, .inl (I 88 (((I 82 20) + 0).toNat))), (0, .inr (.inr (some 82))), (2, .inl wo)], [.inl z100], (I98, L, X), 0, 0) _
            refine yi_G_run 2 (147, [(2, .inl z100), (1, .inl (I 88 (((I 82 20) + 0).toNat))), (0, .inr (.inr (some 82)))], [], (I98, L, X), 0, 0) (fun _ => rfl) ?_
            refine yi_G_al (al := [(1, .inl (I 88 (((I 82 20) + 0).toNat))), (0, .inr (.inr (some 82))), (2, .inl z100)]) (show ([1, 0, 2] : List Nat).Nodup by decide) (show ([2, 1, 0] : List Nat).Nodup by decide) (yi_mc (List.mem_of_getElem? (i := 1) rfl) (yi_mc (List.mem_of_getElem? (i := 2) rfl) (yi_mc (List.mem_of_getElem? (i := 0) rfl) yi_mn))) ?_
            exact pt147 z100 I98 (fun p k hp => by rw [f99 p k (by omega), ← w88, yi_u_ne _ _ (fun z => by omega)]) (by omega) (by omega) (by omega)
      refine yi_G_run 2 (89, [(1, .inl (I 88 (((I 82 20) + 0).toNat))), (0, .inr (.inr (some 82)))], [.inl 10, .inr (.inr (some 82))], (I, L, X), 0, 0) (fun _ => rfl) ?_
      refine yi_G_callv rfl rfl (ym_rcv hS) rfl (c_isWord1 d (by omega) hS ⟨by omega, by omega⟩ rfl rfl rfl rfl ⟨by omega, by omega⟩) ?_
      rintro _ (⟨c104, rfl⟩ | ⟨c104, rfl⟩)
      · have lt105 : I 82 7 < te := ym_TK_lt hT (by omega) (by omega)
        show yi_G zi_Ms d zi_m94 (92, [(1, .inl (I 88 (((I 82 20) + 0).toNat))), (0, .inr (.inr (some 82)))], [.inl 1], (I, L, X), 0, 0) _
        refine yi_G_if1 false rfl (by decide) ?_
        refine yi_G_run 3 (114, [(2, .inl 4), (1, .inl (I 88 (((I 82 20) + 0).toNat))), (0, .inr (.inr (some 82)))], [], (I, L, X), 0, 0) (fun _ => rfl) ?_
        refine yi_G_al (al := [(1, .inl (I 88 (((I 82 20) + 0).toNat))), (0, .inr (.inr (some 82))), (2, .inl 4)]) (show ([1, 0, 2] : List Nat).Nodup by decide) (show ([2, 1, 0] : List Nat).Nodup by decide) (yi_mc (List.mem_of_getElem? (i := 1) rfl) (yi_mc (List.mem_of_getElem? (i := 2) rfl) (yi_mc (List.mem_of_getElem? (i := 0) rfl) yi_mn))) ?_
        exact pt114 4 (by omega)
      · show yi_G zi_Ms d zi_m94 (92, [(1, .inl (I 88 (((I 82 20) + 0).toNat))), (0, .inr (.inr (some 82)))], [.inl 0], (I, L, X), 0, 0) _
        refine yi_G_if1 true rfl (by decide) ?_
        refine yi_G_run 2 (102, [(1, .inl (I 88 (((I 82 20) + 0).toNat))), (0, .inr (.inr (some 82)))], [.inl 11, .inr (.inr (some 82))], (I, L, X), 0, 0) (fun _ => rfl) ?_
        refine yi_G_callv rfl rfl (ym_rcv hS) rfl (c_isWord1 d (by omega) hS ⟨by omega, by omega⟩ rfl rfl rfl rfl ⟨by omega, by omega⟩) ?_
        rintro _ (⟨c106, rfl⟩ | ⟨c106, rfl⟩)
        · have lt107 : I 82 7 < te := ym_TK_lt hT (by omega) (by omega)
          show yi_G zi_Ms d zi_m94 (105, [(1, .inl (I 88 (((I 82 20) + 0).toNat))), (0, .inr (.inr (some 82)))], [.inl 1], (I, L, X), 0, 0) _
          refine yi_G_if1 false rfl (by decide) ?_
          refine yi_G_run 3 (114, [(2, .inl 5), (1, .inl (I 88 (((I 82 20) + 0).toNat))), (0, .inr (.inr (some 82)))], [], (I, L, X), 0, 0) (fun _ => rfl) ?_
          refine yi_G_al (al := [(1, .inl (I 88 (((I 82 20) + 0).toNat))), (0, .inr (.inr (some 82))), (2, .inl 5)]) (show ([1, 0, 2] : List Nat).Nodup by decide) (show ([2, 1, 0] : List Nat).Nodup by decide) (yi_mc (List.mem_of_getElem? (i := 1) rfl) (yi_mc (List.mem_of_getElem? (i := 2) rfl) (yi_mc (List.mem_of_getElem? (i := 0) rfl) yi_mn))) ?_
          exact pt114 5 (by omega)
        · show yi_G zi_Ms d zi_m94 (105, [(1, .inl (I 88 (((I 82 20) + 0).toNat))), (0, .inr (.inr (some 82)))], [.inl 0], (I, L, X), 0, 0) _
          refine yi_G_if1 true rfl (by decide) ?_
          refine yi_G_run 2 (114, [(2, .inl (-1)), (1, .inl (I 88 (((I 82 20) + 0).toNat))), (0, .inr (.inr (some 82)))], [], (I, L, X), 0, 0) (fun _ => rfl) ?_
          refine yi_G_al (al := [(1, .inl (I 88 (((I 82 20) + 0).toNat))), (0, .inr (.inr (some 82))), (2, .inl (-1))]) (show ([1, 0, 2] : List Nat).Nodup by decide) (show ([2, 1, 0] : List Nat).Nodup by decide) (yi_mc (List.mem_of_getElem? (i := 1) rfl) (yi_mc (List.mem_of_getElem? (i := 2) rfl) (yi_mc (List.mem_of_getElem? (i := 0) rfl) yi_mn))) ?_
          exact pt114 (-1) (by omega)
