/-! Marks; asked and told. -/
theorem c_mark (D : Nat) (hD : 4 ≤ D) {I L : Nat → Nat → Int} {X : ym_X} (hS : ym_S X) {m bk : Int} (b0 : bk = 0 ∨ bk = 1) (hLR : ym_LR I) (hST : ym_ST I) (hl : 0 ≤ I 82 25 ∧ I 82 25 ≤ 512) : yi_E zi_Ms D 82 [.inr (.inr (some 82)), .inl m, .inl bk] (I, L, X) (fun r => ∃ z I' L', (r = (some (.inl z), (I', L', X), 0, 0)) ∧ (∀ p k, p ≠ 100 ∧ p ≠ 101 ∧ p ≠ 102 ∧ ¬ (p = 82 ∧ k = 0) ∧ ¬ (p = 82 ∧ k = 30) → I' p k = I p k) ∧ (∀ p k, p ≠ 97 → L' p k = L p k) ∧ ym_ST I') := by
  obtain ⟨d, rfl⟩ : ∃ d, D = d + 1 := ⟨D - 1, by omega⟩
  refine yi_E_of (M := zi_m82) rfl rfl ?_
  obtain ⟨l0, l1, l2, l3, l4, l5⟩ := id hLR
  have hS0 := hST.1
  obtain ⟨t0, t1, t2, t3, t4⟩ := id hS0
  show yi_G zi_Ms d zi_m82 (0, [(0, .inr (.inr (some 82))), (1, .inl m), (2, .inl bk)], [], (I, L, X), 0, 0) _
  refine yi_G_run 2 (2, [(0, .inr (.inr (some 82))), (1, .inl m), (2, .inl bk)], [.inl 0, .inr (.inr (some 82))], (I, L, X), 0, 0) (fun _ => rfl) ?_
  refine yi_G_put (5, [(0, .inr (.inr (some 82))), (1, .inl m), (2, .inl bk)], [], ((yi_u I 82 0 0), L, X), 0, 0) rfl (ym_pi hS rfl rfl) ?_
  generalize w2 : yi_u I 82 0 0 = I1
  refine yi_G_run 3 (8, [(0, .inr (.inr (some 82))), (1, .inl m), (2, .inl bk)], [.inl 3, .inl 0, .inl m], (I1, L, X), 0, 0) (fun _ => rfl) ?_
  refine yi_G_calls rfl rfl (c_within d (by omega) hS) ?_
  rintro _ (⟨c3, rfl⟩ | ⟨c3, rfl⟩)
  · show yi_G zi_Ms d zi_m82 (11, [(0, .inr (.inr (some 82))), (1, .inl m), (2, .inl bk)], [.inl 1], (I1, L, X), 0, 0) _
    refine yi_G_if1 false rfl (by decide) ?_
    refine yi_G_run 1 (15, [(0, .inr (.inr (some 82))), (1, .inl m), (2, .inl bk)], [.inl bk], (I1, L, X), 0, 0) (fun _ => rfl) ?_
    by_cases h4 : bk = 0
    · refine yi_G_if1 true rfl (yi_eq_t h4) ?_
      refine yi_G_run 1 (30, [(0, .inr (.inr (some 82))), (1, .inl m), (2, .inl bk)], [.inl bk], (I1, L, X), 0, 0) (fun _ => rfl) ?_
      by_cases h5 : bk = 0
      · refine yi_G_if1 true rfl (yi_eq_t h5) ?_
        refine yi_G_run 3 (42, [(3, .inl 0), (0, .inr (.inr (some 82))), (1, .inl m), (2, .inl bk)], [.inl bk], (I1, L, X), 0, 0) (fun _ => rfl) ?_
        by_cases h6 : bk = 0
        · refine yi_G_if1 true rfl (yi_eq_t h6) ?_
          refine yi_G_run 2 (51, [(3, .inl 0), (0, .inr (.inr (some 82))), (1, .inl m), (2, .inl bk)], [.inl m, .inl 1], (I1, L, X), 0, 0) (fun _ => rfl) ?_
          refine yi_G_iadd rfl (1 + m) (yi_wn (by omega) (by omega)) ?_
          refine yi_G_run 4 (58, [(4, .inl (1 + m)), (3, .inl 0), (0, .inr (.inr (some 82))), (1, .inl m), (2, .inl bk)], [.inl (1 + m), .inl 0, .inr (.inr (some 82))], (I1, L, X), 0, 0) (fun _ => rfl) ?_
          have stm : ym_ST I1 := (ym_ST_t (fun k => by rw [← w2, yi_u_ne _ _ (by omega)]) (by rw [← w2, yi_u_ne _ _ (by omega)]) (fun k => by rw [← w2, yi_u_ne _ _ (by omega)]) (fun k => by rw [← w2, yi_u_ne _ _ (by omega)]) hST)
          have r7 : I1 101 (m.toNat) = I 101 (m.toNat) := by rw [← w2, yi_u_ne _ _ (by omega)]
          have sbfr : ym_SB I1 0 := ((ym_S0_iff _).mp stm.1)
          have r11 : I1 82 25 = I 82 25 := by rw [← w2, yi_u_ne _ _ (by omega)]
          refine yi_G_callv rfl rfl (ym_rcv hS) rfl (c_copies (fr := 0) (to := 1 + m) d (by omega) hS (by omega) (by omega) (by omega) (by omega) (ym_SB_0 sbfr) ⟨(by rw [r11]; omega), (by rw [r11]; omega)⟩) ?_
          rintro _ ⟨L8, rfl, f9⟩
          show yi_G zi_Ms d zi_m82 (61, [(4, .inl (1 + m)), (3, .inl 0), (0, .inr (.inr (some 82))), (1, .inl m), (2, .inl bk)], [], ((ym_cp I1 0 (1 + m)), L8, X), 0, 0) _
          refine yi_G_run 3 (65, [(4, .inl (1 + m)), (3, .inl 0), (0, .inr (.inr (some 82))), (1, .inl m), (2, .inl bk)], [.inl 0, .inl 33, .inr (.inr (some 82))], ((ym_cp I1 0 (1 + m)), L8, X), 0, 0) (fun _ => rfl) ?_
          refine yi_G_iadd rfl (33) (by decide) ?_
          refine yi_G_run 2 (70, [(4, .inl (1 + m)), (3, .inl 0), (0, .inr (.inr (some 82))), (1, .inl m), (2, .inl bk)], [.inl (1 + m), .inl 33, .inl 33, .inr (.inr (some 82))], ((ym_cp I1 0 (1 + m)), L8, X), 0, 0) (fun _ => rfl) ?_
          refine yi_G_iadd rfl (33 + (1 + m)) (yi_wn (by omega) (by omega)) ?_
          generalize wI12 : ym_cp I1 0 (1 + m) = I12
          have fI12 : ∀ p k, p ≠ 100 → I12 p k = I1 p k := fun p k hp => by rw [← wI12]; exact ym_cp_p hp
          have stI12 : ym_ST I12 := by rw [← wI12]; exact ym_ST_cp stm sbfr (by omega) (by omega)
          have sbI12 : ym_SB I12 (1 + m) := by rw [← wI12]; exact ym_cp_to (by omega) (by omega) sbfr
          have r13 : I12 82 25 = I 82 25 := by rw [fI12 82 (25) (by omega), ← w2, yi_u_ne _ _ (by omega)]
          refine yi_G_callv rfl rfl (ym_rcv hS) rfl (w_copiesRow (by omega) hS (by omega) (by omega) (by omega) (by omega) (by rw [r13]; omega) (by rw [r13]; omega)) ?_
          rintro _ ⟨L14, rfl, f15⟩
          show yi_G zi_Ms d zi_m82 (74, [(4, .inl (1 + m)), (3, .inl 0), (0, .inr (.inr (some 82))), (1, .inl m), (2, .inl bk)], [], (I12, L14, X), 0, 0) _
          refine yi_G_run 1 (75, [(4, .inl (1 + m)), (3, .inl 0), (0, .inr (.inr (some 82))), (1, .inl m), (2, .inl bk)], [.inr (.inr (some 82))], (I12, L14, X), 0, 0) (fun _ => rfl) ?_
          refine yi_G_get (78, [(4, .inl (1 + m)), (3, .inl 0), (0, .inr (.inr (some 82))), (1, .inl m), (2, .inl bk)], [.inr (.inr (some 102))], (I12, L14, X), 0, 0) rfl (ym_gr hS 19 rfl rfl rfl) ?_
          refine yi_G_run 2 (81, [(4, .inl (1 + m)), (3, .inl 0), (0, .inr (.inr (some 82))), (1, .inl m), (2, .inl bk)], [.inr (.inr (some 82)), .inl (1 + m), .inr (.inr (some 102))], (I12, L14, X), 0, 0) (fun _ => rfl) ?_
          refine yi_G_get (84, [(4, .inl (1 + m)), (3, .inl 0), (0, .inr (.inr (some 82))), (1, .inl m), (2, .inl bk)], [.inr (.inr (some 102)), .inl (1 + m), .inr (.inr (some 102))], (I12, L14, X), 0, 0) rfl (ym_gr hS 19 rfl rfl rfl) ?_
          refine yi_G_run 1 (85, [(4, .inl (1 + m)), (3, .inl 0), (0, .inr (.inr (some 82))), (1, .inl m), (2, .inl bk)], [.inl 0, .inr (.inr (some 102)), .inl (1 + m), .inr (.inr (some 102))], (I12, L14, X), 0, 0) (fun _ => rfl) ?_
          have r16 : I12 102 0 = I 102 0 := by rw [fI12 102 (0) (by omega), ← w2, yi_u_ne _ _ (by omega)]
          refine yi_G_bald (86, [(4, .inl (1 + m)), (3, .inl 0), (0, .inr (.inr (some 82))), (1, .inl m), (2, .inl bk)], [.inl (I 102 0), .inl (1 + m), .inr (.inr (some 102))], (I12, L14, X), 0, 0) rfl (ym_lb hS 19 rfl (by omega) (by omega) r16) ?_
          have hb9 : I 102 0 = 0 ∨ I 102 0 = 1 := (hST.2.2 0 (by omega) (by omega)).2.1
          refine yi_G_bast (87, [(4, .inl (1 + m)), (3, .inl 0), (0, .inr (.inr (some 82))), (1, .inl m), (2, .inl bk)], [], ((yi_u I12 102 ((1 + m).toNat) (I 102 0)), L14, X), 0, 0) rfl (ym_sb hS 19 rfl (by omega) (by omega) (by omega)) ?_
          generalize w18 : yi_u I12 102 ((1 + m).toNat) (I 102 0) = I17
          refine yi_G_run 1 (88, [(4, .inl (1 + m)), (3, .inl 0), (0, .inr (.inr (some 82))), (1, .inl m), (2, .inl bk)], [.inr (.inr (some 82))], (I17, L14, X), 0, 0) (fun _ => rfl) ?_
          refine yi_G_get (91, [(4, .inl (1 + m)), (3, .inl 0), (0, .inr (.inr (some 82))), (1, .inl m), (2, .inl bk)], [.inr (.inr (some 101))], (I17, L14, X), 0, 0) rfl (ym_gr hS 18 rfl rfl rfl) ?_
          refine yi_G_run 2 (93, [(4, .inl (1 + m)), (3, .inl 0), (0, .inr (.inr (some 82))), (1, .inl m), (2, .inl bk)], [.inl 1, .inl m, .inr (.inr (some 101))], (I17, L14, X), 0, 0) (fun _ => rfl) ?_
          refine yi_G_bast (94, [(4, .inl (1 + m)), (3, .inl 0), (0, .inr (.inr (some 82))), (1, .inl m), (2, .inl bk)], [], ((yi_u I17 101 (m.toNat) 1), L14, X), 0, 0) rfl (ym_sb hS 18 rfl (by omega) (by omega) (by omega)) ?_
          generalize w20 : yi_u I17 101 (m.toNat) 1 = I19
          refine yi_G_run 2 (96, [(4, .inl (1 + m)), (3, .inl 0), (0, .inr (.inr (some 82))), (1, .inl m), (2, .inl bk)], [.inl bk, .inr (.inr (some 82))], (I19, L14, X), 0, 0) (fun _ => rfl) ?_
          by_cases h21 : bk = 0
          · refine yi_G_if1 true rfl (yi_eq_t h21) ?_
            refine yi_G_run 1 (104, [(4, .inl (1 + m)), (3, .inl 0), (0, .inr (.inr (some 82))), (1, .inl m), (2, .inl bk)], [.inr (.inr (some 82)), .inr (.inr (some 82))], (I19, L14, X), 0, 0) (fun _ => rfl) ?_
            have r22 : I19 82 30 = I 82 30 := by rw [← w20, yi_u_ne _ _ (by omega), ← w18, yi_u_ne _ _ (by omega), fI12 82 (30) (by omega), ← w2, yi_u_ne _ _ (by omega)]
            refine yi_G_get (107, [(4, .inl (1 + m)), (3, .inl 0), (0, .inr (.inr (some 82))), (1, .inl m), (2, .inl bk)], [.inl (I 82 30), .inr (.inr (some 82))], (I19, L14, X), 0, 0) rfl (ym_gi hS rfl rfl r22) ?_
            have r23 : I19 82 30 = I 82 30 := by rw [← w20, yi_u_ne _ _ (by omega), ← w18, yi_u_ne _ _ (by omega), fI12 82 (30) (by omega), ← w2, yi_u_ne _ _ (by omega)]
            have ub9 := hST.2.1.1
            refine yi_G_put (110, [(4, .inl (1 + m)), (3, .inl 0), (0, .inr (.inr (some 82))), (1, .inl m), (2, .inl bk)], [], ((yi_u I19 82 30 (I 82 30)), L14, X), 0, 0) rfl (ym_pi hS rfl rfl) ?_
            generalize w25 : yi_u I19 82 30 (I 82 30) = I24
            refine yi_G_run 1 (111, [(4, .inl (1 + m)), (3, .inl 0), (0, .inr (.inr (some 82))), (1, .inl m), (2, .inl bk)], [.inl 1], (I24, L14, X), 0, 0) (fun _ => rfl) ?_
            exact yi_G_retb rfl rfl (by decide) (⟨_, _, _, rfl, (fun p k hp => by rw [← w25, yi_u_ne _ _ (fun z => by omega), ← w20, yi_u_ne _ _ (fun z => by omega), ← w18, yi_u_ne _ _ (fun z => by omega), fI12 p k (by omega), ← w2, yi_u_ne _ _ (fun z => by omega)]), (fun p k hp => by rw [f15 p k (by omega), f9 p k (by omega)]), (by rw [← w25]; exact ym_ST_30 (by rw [← w20]; exact ym_ST_101 (by rw [← w18]; exact ym_ST_102 stI12 (by omega)) (by omega) (ym_SB_t (by omega) (fun k => by rw [← w18, yi_u_ne _ _ (by omega)]) sbI12)) (by omega) (by omega))⟩)
          · refine yi_G_if1 false rfl (yi_eq_f h21) ?_
            refine yi_G_run 2 (107, [(4, .inl (1 + m)), (3, .inl 0), (0, .inr (.inr (some 82))), (1, .inl m), (2, .inl bk)], [.inl 0, .inr (.inr (some 82))], (I19, L14, X), 0, 0) (fun _ => rfl) ?_
            have r26 : I19 82 30 = I 82 30 := by rw [← w20, yi_u_ne _ _ (by omega), ← w18, yi_u_ne _ _ (by omega), fI12 82 (30) (by omega), ← w2, yi_u_ne _ _ (by omega)]
            have ub9 := hST.2.1.1
            refine yi_G_put (110, [(4, .inl (1 + m)), (3, .inl 0), (0, .inr (.inr (some 82))), (1, .inl m), (2, .inl bk)], [], ((yi_u I19 82 30 0), L14, X), 0, 0) rfl (ym_pi hS rfl rfl) ?_
            generalize w28 : yi_u I19 82 30 0 = I27
            refine yi_G_run 1 (111, [(4, .inl (1 + m)), (3, .inl 0), (0, .inr (.inr (some 82))), (1, .inl m), (2, .inl bk)], [.inl 1], (I27, L14, X), 0, 0) (fun _ => rfl) ?_
            exact yi_G_retb rfl rfl (by decide) (⟨_, _, _, rfl, (fun p k hp => by rw [← w28, yi_u_ne _ _ (fun z => by omega), ← w20, yi_u_ne _ _ (fun z => by omega), ← w18, yi_u_ne _ _ (fun z => by omega), fI12 p k (by omega), ← w2, yi_u_ne _ _ (fun z => by omega)]), (fun p k hp => by rw [f15 p k (by omega), f9 p k (by omega)]), (by rw [← w28]; exact ym_ST_30 (by rw [← w20]; exact ym_ST_101 (by rw [← w18]; exact ym_ST_102 stI12 (by omega)) (by omega) (ym_SB_t (by omega) (fun k => by rw [← w18, yi_u_ne _ _ (by omega)]) sbI12)) (by omega) (by omega))⟩)
        · refine yi_G_if1 false rfl (yi_eq_f h6) ?_
          refine yi_G_run 6 (58, [(4, .inl 0), (3, .inl 0), (0, .inr (.inr (some 82))), (1, .inl m), (2, .inl bk)], [.inl 0, .inl 0, .inr (.inr (some 82))], (I1, L, X), 0, 0) (fun _ => rfl) ?_
          have stm : ym_ST I1 := (ym_ST_t (fun k => by rw [← w2, yi_u_ne _ _ (by omega)]) (by rw [← w2, yi_u_ne _ _ (by omega)]) (fun k => by rw [← w2, yi_u_ne _ _ (by omega)]) (fun k => by rw [← w2, yi_u_ne _ _ (by omega)]) hST)
          have r29 : I1 101 (m.toNat) = I 101 (m.toNat) := by rw [← w2, yi_u_ne _ _ (by omega)]
          have sbfr : ym_SB I1 0 := ((ym_S0_iff _).mp stm.1)
          have r33 : I1 82 25 = I 82 25 := by rw [← w2, yi_u_ne _ _ (by omega)]
          refine yi_G_callv rfl rfl (ym_rcv hS) rfl (c_copies (fr := 0) (to := 0) d (by omega) hS (by omega) (by omega) (by omega) (by omega) (ym_SB_0 sbfr) ⟨(by rw [r33]; omega), (by rw [r33]; omega)⟩) ?_
          rintro _ ⟨L30, rfl, f31⟩
          show yi_G zi_Ms d zi_m82 (61, [(4, .inl 0), (3, .inl 0), (0, .inr (.inr (some 82))), (1, .inl m), (2, .inl bk)], [], ((ym_cp I1 0 0), L30, X), 0, 0) _
          refine yi_G_run 3 (65, [(4, .inl 0), (3, .inl 0), (0, .inr (.inr (some 82))), (1, .inl m), (2, .inl bk)], [.inl 0, .inl 33, .inr (.inr (some 82))], ((ym_cp I1 0 0), L30, X), 0, 0) (fun _ => rfl) ?_
          refine yi_G_iadd rfl (33) (by decide) ?_
          refine yi_G_run 2 (70, [(4, .inl 0), (3, .inl 0), (0, .inr (.inr (some 82))), (1, .inl m), (2, .inl bk)], [.inl 0, .inl 33, .inl 33, .inr (.inr (some 82))], ((ym_cp I1 0 0), L30, X), 0, 0) (fun _ => rfl) ?_
          refine yi_G_iadd rfl (33) (by decide) ?_
          generalize wI34 : ym_cp I1 0 0 = I34
          have fI34 : ∀ p k, p ≠ 100 → I34 p k = I1 p k := fun p k hp => by rw [← wI34]; exact ym_cp_p hp
          have stI34 : ym_ST I34 := by rw [← wI34]; exact ym_ST_cp stm sbfr (by omega) (by omega)
          have sbI34 : ym_SB I34 (1 + m) := by rw [← wI34]; exact False.elim (by omega)
          have r35 : I34 82 25 = I 82 25 := by rw [fI34 82 (25) (by omega), ← w2, yi_u_ne _ _ (by omega)]
          refine yi_G_callv rfl rfl (ym_rcv hS) rfl (w_copiesRow (by omega) hS (by omega) (by omega) (by omega) (by omega) (by rw [r35]; omega) (by rw [r35]; omega)) ?_
          rintro _ ⟨L36, rfl, f37⟩
          show yi_G zi_Ms d zi_m82 (74, [(4, .inl 0), (3, .inl 0), (0, .inr (.inr (some 82))), (1, .inl m), (2, .inl bk)], [], (I34, L36, X), 0, 0) _
          refine yi_G_run 1 (75, [(4, .inl 0), (3, .inl 0), (0, .inr (.inr (some 82))), (1, .inl m), (2, .inl bk)], [.inr (.inr (some 82))], (I34, L36, X), 0, 0) (fun _ => rfl) ?_
          refine yi_G_get (78, [(4, .inl 0), (3, .inl 0), (0, .inr (.inr (some 82))), (1, .inl m), (2, .inl bk)], [.inr (.inr (some 102))], (I34, L36, X), 0, 0) rfl (ym_gr hS 19 rfl rfl rfl) ?_
          refine yi_G_run 2 (81, [(4, .inl 0), (3, .inl 0), (0, .inr (.inr (some 82))), (1, .inl m), (2, .inl bk)], [.inr (.inr (some 82)), .inl 0, .inr (.inr (some 102))], (I34, L36, X), 0, 0) (fun _ => rfl) ?_
          refine yi_G_get (84, [(4, .inl 0), (3, .inl 0), (0, .inr (.inr (some 82))), (1, .inl m), (2, .inl bk)], [.inr (.inr (some 102)), .inl 0, .inr (.inr (some 102))], (I34, L36, X), 0, 0) rfl (ym_gr hS 19 rfl rfl rfl) ?_
          refine yi_G_run 1 (85, [(4, .inl 0), (3, .inl 0), (0, .inr (.inr (some 82))), (1, .inl m), (2, .inl bk)], [.inl 0, .inr (.inr (some 102)), .inl 0, .inr (.inr (some 102))], (I34, L36, X), 0, 0) (fun _ => rfl) ?_
          have r38 : I34 102 0 = I 102 0 := by rw [fI34 102 (0) (by omega), ← w2, yi_u_ne _ _ (by omega)]
          refine yi_G_bald (86, [(4, .inl 0), (3, .inl 0), (0, .inr (.inr (some 82))), (1, .inl m), (2, .inl bk)], [.inl (I 102 0), .inl 0, .inr (.inr (some 102))], (I34, L36, X), 0, 0) rfl (ym_lb hS 19 rfl (by omega) (by omega) r38) ?_
          have hb9 : I 102 0 = 0 ∨ I 102 0 = 1 := (hST.2.2 0 (by omega) (by omega)).2.1
          refine yi_G_bast (87, [(4, .inl 0), (3, .inl 0), (0, .inr (.inr (some 82))), (1, .inl m), (2, .inl bk)], [], ((yi_u I34 102 0 (I 102 0)), L36, X), 0, 0) rfl (ym_sb hS 19 rfl (by omega) (by omega) (by omega)) ?_
          generalize w40 : yi_u I34 102 0 (I 102 0) = I39
          refine yi_G_run 1 (88, [(4, .inl 0), (3, .inl 0), (0, .inr (.inr (some 82))), (1, .inl m), (2, .inl bk)], [.inr (.inr (some 82))], (I39, L36, X), 0, 0) (fun _ => rfl) ?_
          refine yi_G_get (91, [(4, .inl 0), (3, .inl 0), (0, .inr (.inr (some 82))), (1, .inl m), (2, .inl bk)], [.inr (.inr (some 101))], (I39, L36, X), 0, 0) rfl (ym_gr hS 18 rfl rfl rfl) ?_
          refine yi_G_run 2 (93, [(4, .inl 0), (3, .inl 0), (0, .inr (.inr (some 82))), (1, .inl m), (2, .inl bk)], [.inl 1, .inl m, .inr (.inr (some 101))], (I39, L36, X), 0, 0) (fun _ => rfl) ?_
          refine yi_G_bast (94, [(4, .inl 0), (3, .inl 0), (0, .inr (.inr (some 82))), (1, .inl m), (2, .inl bk)], [], ((yi_u I39 101 (m.toNat) 1), L36, X), 0, 0) rfl (ym_sb hS 18 rfl (by omega) (by omega) (by omega)) ?_
          generalize w42 : yi_u I39 101 (m.toNat) 1 = I41
          refine yi_G_run 2 (96, [(4, .inl 0), (3, .inl 0), (0, .inr (.inr (some 82))), (1, .inl m), (2, .inl bk)], [.inl bk, .inr (.inr (some 82))], (I41, L36, X), 0, 0) (fun _ => rfl) ?_
          by_cases h43 : bk = 0
          · refine yi_G_if1 true rfl (yi_eq_t h43) ?_
            refine yi_G_run 1 (104, [(4, .inl 0), (3, .inl 0), (0, .inr (.inr (some 82))), (1, .inl m), (2, .inl bk)], [.inr (.inr (some 82)), .inr (.inr (some 82))], (I41, L36, X), 0, 0) (fun _ => rfl) ?_
            have r44 : I41 82 30 = I 82 30 := by rw [← w42, yi_u_ne _ _ (by omega), ← w40, yi_u_ne _ _ (by omega), fI34 82 (30) (by omega), ← w2, yi_u_ne _ _ (by omega)]
            refine yi_G_get (107, [(4, .inl 0), (3, .inl 0), (0, .inr (.inr (some 82))), (1, .inl m), (2, .inl bk)], [.inl (I 82 30), .inr (.inr (some 82))], (I41, L36, X), 0, 0) rfl (ym_gi hS rfl rfl r44) ?_
            have r45 : I41 82 30 = I 82 30 := by rw [← w42, yi_u_ne _ _ (by omega), ← w40, yi_u_ne _ _ (by omega), fI34 82 (30) (by omega), ← w2, yi_u_ne _ _ (by omega)]
            have ub9 := hST.2.1.1
            refine yi_G_put (110, [(4, .inl 0), (3, .inl 0), (0, .inr (.inr (some 82))), (1, .inl m), (2, .inl bk)], [], ((yi_u I41 82 30 (I 82 30)), L36, X), 0, 0) rfl (ym_pi hS rfl rfl) ?_
            generalize w47 : yi_u I41 82 30 (I 82 30) = I46
            refine yi_G_run 1 (111, [(4, .inl 0), (3, .inl 0), (0, .inr (.inr (some 82))), (1, .inl m), (2, .inl bk)], [.inl 1], (I46, L36, X), 0, 0) (fun _ => rfl) ?_
            exact yi_G_retb rfl rfl (by decide) (⟨_, _, _, rfl, (fun p k hp => by rw [← w47, yi_u_ne _ _ (fun z => by omega), ← w42, yi_u_ne _ _ (fun z => by omega), ← w40, yi_u_ne _ _ (fun z => by omega), fI34 p k (by omega), ← w2, yi_u_ne _ _ (fun z => by omega)]), (fun p k hp => by rw [f37 p k (by omega), f31 p k (by omega)]), (by rw [← w47]; exact ym_ST_30 (by rw [← w42]; exact ym_ST_101 (by rw [← w40]; exact ym_ST_102 stI34 (by omega)) (by omega) (ym_SB_t (by omega) (fun k => by rw [← w40, yi_u_ne _ _ (by omega)]) sbI34)) (by omega) (by omega))⟩)
          · refine yi_G_if1 false rfl (yi_eq_f h43) ?_
            refine yi_G_run 2 (107, [(4, .inl 0), (3, .inl 0), (0, .inr (.inr (some 82))), (1, .inl m), (2, .inl bk)], [.inl 0, .inr (.inr (some 82))], (I41, L36, X), 0, 0) (fun _ => rfl) ?_
            have r48 : I41 82 30 = I 82 30 := by rw [← w42, yi_u_ne _ _ (by omega), ← w40, yi_u_ne _ _ (by omega), fI34 82 (30) (by omega), ← w2, yi_u_ne _ _ (by omega)]
            have ub9 := hST.2.1.1
            refine yi_G_put (110, [(4, .inl 0), (3, .inl 0), (0, .inr (.inr (some 82))), (1, .inl m), (2, .inl bk)], [], ((yi_u I41 82 30 0), L36, X), 0, 0) rfl (ym_pi hS rfl rfl) ?_
            generalize w50 : yi_u I41 82 30 0 = I49
            refine yi_G_run 1 (111, [(4, .inl 0), (3, .inl 0), (0, .inr (.inr (some 82))), (1, .inl m), (2, .inl bk)], [.inl 1], (I49, L36, X), 0, 0) (fun _ => rfl) ?_
            exact yi_G_retb rfl rfl (by decide) (⟨_, _, _, rfl, (fun p k hp => by rw [← w50, yi_u_ne _ _ (fun z => by omega), ← w42, yi_u_ne _ _ (fun z => by omega), ← w40, yi_u_ne _ _ (fun z => by omega), fI34 p k (by omega), ← w2, yi_u_ne _ _ (fun z => by omega)]), (fun p k hp => by rw [f37 p k (by omega), f31 p k (by omega)]), (by rw [← w50]; exact ym_ST_30 (by rw [← w42]; exact ym_ST_101 (by rw [← w40]; exact ym_ST_102 stI34 (by omega)) (by omega) (ym_SB_t (by omega) (fun k => by rw [← w40, yi_u_ne _ _ (by omega)]) sbI34)) (by omega) (by omega))⟩)
      · refine yi_G_if1 false rfl (yi_eq_f h5) ?_
        refine yi_G_run 2 (35, [(0, .inr (.inr (some 82))), (1, .inl m), (2, .inl bk)], [.inl m, .inl 1], (I1, L, X), 0, 0) (fun _ => rfl) ?_
        refine yi_G_iadd rfl (1 + m) (yi_wn (by omega) (by omega)) ?_
        refine yi_G_run 3 (42, [(3, .inl (1 + m)), (0, .inr (.inr (some 82))), (1, .inl m), (2, .inl bk)], [.inl bk], (I1, L, X), 0, 0) (fun _ => rfl) ?_
        by_cases h51 : bk = 0
        · refine yi_G_if1 true rfl (yi_eq_t h51) ?_
          refine yi_G_run 2 (51, [(3, .inl (1 + m)), (0, .inr (.inr (some 82))), (1, .inl m), (2, .inl bk)], [.inl m, .inl 1], (I1, L, X), 0, 0) (fun _ => rfl) ?_
          refine yi_G_iadd rfl (1 + m) (yi_wn (by omega) (by omega)) ?_
          refine yi_G_run 4 (58, [(4, .inl (1 + m)), (3, .inl (1 + m)), (0, .inr (.inr (some 82))), (1, .inl m), (2, .inl bk)], [.inl (1 + m), .inl (1 + m), .inr (.inr (some 82))], (I1, L, X), 0, 0) (fun _ => rfl) ?_
          have stm : ym_ST I1 := (ym_ST_t (fun k => by rw [← w2, yi_u_ne _ _ (by omega)]) (by rw [← w2, yi_u_ne _ _ (by omega)]) (fun k => by rw [← w2, yi_u_ne _ _ (by omega)]) (fun k => by rw [← w2, yi_u_ne _ _ (by omega)]) hST)
          have r52 : I1 101 (m.toNat) = I 101 (m.toNat) := by rw [← w2, yi_u_ne _ _ (by omega)]
          have sbfr : ym_SB I1 (1 + m) := ((stm.2.2 m (by omega) (by omega)).2.2 (by omega) (by omega))
          have r56 : I1 82 25 = I 82 25 := by rw [← w2, yi_u_ne _ _ (by omega)]
          refine yi_G_callv rfl rfl (ym_rcv hS) rfl (c_copies (fr := 1 + m) (to := 1 + m) d (by omega) hS (by omega) (by omega) (by omega) (by omega) (ym_SB_0 sbfr) ⟨(by rw [r56]; omega), (by rw [r56]; omega)⟩) ?_
          rintro _ ⟨L53, rfl, f54⟩
          show yi_G zi_Ms d zi_m82 (61, [(4, .inl (1 + m)), (3, .inl (1 + m)), (0, .inr (.inr (some 82))), (1, .inl m), (2, .inl bk)], [], ((ym_cp I1 (1 + m) (1 + m)), L53, X), 0, 0) _
          refine yi_G_run 3 (65, [(4, .inl (1 + m)), (3, .inl (1 + m)), (0, .inr (.inr (some 82))), (1, .inl m), (2, .inl bk)], [.inl (1 + m), .inl 33, .inr (.inr (some 82))], ((ym_cp I1 (1 + m) (1 + m)), L53, X), 0, 0) (fun _ => rfl) ?_
          refine yi_G_iadd rfl (33 + (1 + m)) (yi_wn (by omega) (by omega)) ?_
          refine yi_G_run 2 (70, [(4, .inl (1 + m)), (3, .inl (1 + m)), (0, .inr (.inr (some 82))), (1, .inl m), (2, .inl bk)], [.inl (1 + m), .inl 33, .inl (33 + (1 + m)), .inr (.inr (some 82))], ((ym_cp I1 (1 + m) (1 + m)), L53, X), 0, 0) (fun _ => rfl) ?_
          refine yi_G_iadd rfl (33 + (1 + m)) (yi_wn (by omega) (by omega)) ?_
          generalize wI57 : ym_cp I1 (1 + m) (1 + m) = I57
          have fI57 : ∀ p k, p ≠ 100 → I57 p k = I1 p k := fun p k hp => by rw [← wI57]; exact ym_cp_p hp
          have stI57 : ym_ST I57 := by rw [← wI57]; exact ym_ST_cp stm sbfr (by omega) (by omega)
          have sbI57 : ym_SB I57 (1 + m) := by rw [← wI57]; exact False.elim (by omega)
          have r58 : I57 82 25 = I 82 25 := by rw [fI57 82 (25) (by omega), ← w2, yi_u_ne _ _ (by omega)]
          refine yi_G_callv rfl rfl (ym_rcv hS) rfl (w_copiesRow (by omega) hS (by omega) (by omega) (by omega) (by omega) (by rw [r58]; omega) (by rw [r58]; omega)) ?_
          rintro _ ⟨L59, rfl, f60⟩
          show yi_G zi_Ms d zi_m82 (74, [(4, .inl (1 + m)), (3, .inl (1 + m)), (0, .inr (.inr (some 82))), (1, .inl m), (2, .inl bk)], [], (I57, L59, X), 0, 0) _
          refine yi_G_run 1 (75, [(4, .inl (1 + m)), (3, .inl (1 + m)), (0, .inr (.inr (some 82))), (1, .inl m), (2, .inl bk)], [.inr (.inr (some 82))], (I57, L59, X), 0, 0) (fun _ => rfl) ?_
          refine yi_G_get (78, [(4, .inl (1 + m)), (3, .inl (1 + m)), (0, .inr (.inr (some 82))), (1, .inl m), (2, .inl bk)], [.inr (.inr (some 102))], (I57, L59, X), 0, 0) rfl (ym_gr hS 19 rfl rfl rfl) ?_
          refine yi_G_run 2 (81, [(4, .inl (1 + m)), (3, .inl (1 + m)), (0, .inr (.inr (some 82))), (1, .inl m), (2, .inl bk)], [.inr (.inr (some 82)), .inl (1 + m), .inr (.inr (some 102))], (I57, L59, X), 0, 0) (fun _ => rfl) ?_
          refine yi_G_get (84, [(4, .inl (1 + m)), (3, .inl (1 + m)), (0, .inr (.inr (some 82))), (1, .inl m), (2, .inl bk)], [.inr (.inr (some 102)), .inl (1 + m), .inr (.inr (some 102))], (I57, L59, X), 0, 0) rfl (ym_gr hS 19 rfl rfl rfl) ?_
          refine yi_G_run 1 (85, [(4, .inl (1 + m)), (3, .inl (1 + m)), (0, .inr (.inr (some 82))), (1, .inl m), (2, .inl bk)], [.inl (1 + m), .inr (.inr (some 102)), .inl (1 + m), .inr (.inr (some 102))], (I57, L59, X), 0, 0) (fun _ => rfl) ?_
          have r61 : I57 102 ((1 + m).toNat) = I 102 ((1 + m).toNat) := by rw [fI57 102 ((1 + m).toNat) (by omega), ← w2, yi_u_ne _ _ (by omega)]
          refine yi_G_bald (86, [(4, .inl (1 + m)), (3, .inl (1 + m)), (0, .inr (.inr (some 82))), (1, .inl m), (2, .inl bk)], [.inl (I 102 ((1 + m).toNat)), .inl (1 + m), .inr (.inr (some 102))], (I57, L59, X), 0, 0) rfl (ym_lb hS 19 rfl (by omega) (by omega) r61) ?_
          have hb9 := (hST.2.2 (1 + m) (by omega) (by omega)).2.1
          refine yi_G_bast (87, [(4, .inl (1 + m)), (3, .inl (1 + m)), (0, .inr (.inr (some 82))), (1, .inl m), (2, .inl bk)], [], ((yi_u I57 102 ((1 + m).toNat) (I 102 ((1 + m).toNat))), L59, X), 0, 0) rfl (ym_sb hS 19 rfl (by omega) (by omega) (by omega)) ?_
          generalize w63 : yi_u I57 102 ((1 + m).toNat) (I 102 ((1 + m).toNat)) = I62
          refine yi_G_run 1 (88, [(4, .inl (1 + m)), (3, .inl (1 + m)), (0, .inr (.inr (some 82))), (1, .inl m), (2, .inl bk)], [.inr (.inr (some 82))], (I62, L59, X), 0, 0) (fun _ => rfl) ?_
          refine yi_G_get (91, [(4, .inl (1 + m)), (3, .inl (1 + m)), (0, .inr (.inr (some 82))), (1, .inl m), (2, .inl bk)], [.inr (.inr (some 101))], (I62, L59, X), 0, 0) rfl (ym_gr hS 18 rfl rfl rfl) ?_
          refine yi_G_run 2 (93, [(4, .inl (1 + m)), (3, .inl (1 + m)), (0, .inr (.inr (some 82))), (1, .inl m), (2, .inl bk)], [.inl 1, .inl m, .inr (.inr (some 101))], (I62, L59, X), 0, 0) (fun _ => rfl) ?_
          refine yi_G_bast (94, [(4, .inl (1 + m)), (3, .inl (1 + m)), (0, .inr (.inr (some 82))), (1, .inl m), (2, .inl bk)], [], ((yi_u I62 101 (m.toNat) 1), L59, X), 0, 0) rfl (ym_sb hS 18 rfl (by omega) (by omega) (by omega)) ?_
          generalize w65 : yi_u I62 101 (m.toNat) 1 = I64
          refine yi_G_run 2 (96, [(4, .inl (1 + m)), (3, .inl (1 + m)), (0, .inr (.inr (some 82))), (1, .inl m), (2, .inl bk)], [.inl bk, .inr (.inr (some 82))], (I64, L59, X), 0, 0) (fun _ => rfl) ?_
          by_cases h66 : bk = 0
          · refine yi_G_if1 true rfl (yi_eq_t h66) ?_
            refine yi_G_run 1 (104, [(4, .inl (1 + m)), (3, .inl (1 + m)), (0, .inr (.inr (some 82))), (1, .inl m), (2, .inl bk)], [.inr (.inr (some 82)), .inr (.inr (some 82))], (I64, L59, X), 0, 0) (fun _ => rfl) ?_
            have r67 : I64 82 30 = I 82 30 := by rw [← w65, yi_u_ne _ _ (by omega), ← w63, yi_u_ne _ _ (by omega), fI57 82 (30) (by omega), ← w2, yi_u_ne _ _ (by omega)]
            refine yi_G_get (107, [(4, .inl (1 + m)), (3, .inl (1 + m)), (0, .inr (.inr (some 82))), (1, .inl m), (2, .inl bk)], [.inl (I 82 30), .inr (.inr (some 82))], (I64, L59, X), 0, 0) rfl (ym_gi hS rfl rfl r67) ?_
            have r68 : I64 82 30 = I 82 30 := by rw [← w65, yi_u_ne _ _ (by omega), ← w63, yi_u_ne _ _ (by omega), fI57 82 (30) (by omega), ← w2, yi_u_ne _ _ (by omega)]
            have ub9 := hST.2.1.1
            refine yi_G_put (110, [(4, .inl (1 + m)), (3, .inl (1 + m)), (0, .inr (.inr (some 82))), (1, .inl m), (2, .inl bk)], [], ((yi_u I64 82 30 (I 82 30)), L59, X), 0, 0) rfl (ym_pi hS rfl rfl) ?_
            generalize w70 : yi_u I64 82 30 (I 82 30) = I69
            refine yi_G_run 1 (111, [(4, .inl (1 + m)), (3, .inl (1 + m)), (0, .inr (.inr (some 82))), (1, .inl m), (2, .inl bk)], [.inl 1], (I69, L59, X), 0, 0) (fun _ => rfl) ?_
            exact yi_G_retb rfl rfl (by decide) (⟨_, _, _, rfl, (fun p k hp => by rw [← w70, yi_u_ne _ _ (fun z => by omega), ← w65, yi_u_ne _ _ (fun z => by omega), ← w63, yi_u_ne _ _ (fun z => by omega), fI57 p k (by omega), ← w2, yi_u_ne _ _ (fun z => by omega)]), (fun p k hp => by rw [f60 p k (by omega), f54 p k (by omega)]), (by rw [← w70]; exact ym_ST_30 (by rw [← w65]; exact ym_ST_101 (by rw [← w63]; exact ym_ST_102 stI57 (by omega)) (by omega) (ym_SB_t (by omega) (fun k => by rw [← w63, yi_u_ne _ _ (by omega)]) sbI57)) (by omega) (by omega))⟩)
          · refine yi_G_if1 false rfl (yi_eq_f h66) ?_
            refine yi_G_run 2 (107, [(4, .inl (1 + m)), (3, .inl (1 + m)), (0, .inr (.inr (some 82))), (1, .inl m), (2, .inl bk)], [.inl 0, .inr (.inr (some 82))], (I64, L59, X), 0, 0) (fun _ => rfl) ?_
            have r71 : I64 82 30 = I 82 30 := by rw [← w65, yi_u_ne _ _ (by omega), ← w63, yi_u_ne _ _ (by omega), fI57 82 (30) (by omega), ← w2, yi_u_ne _ _ (by omega)]
            have ub9 := hST.2.1.1
            refine yi_G_put (110, [(4, .inl (1 + m)), (3, .inl (1 + m)), (0, .inr (.inr (some 82))), (1, .inl m), (2, .inl bk)], [], ((yi_u I64 82 30 0), L59, X), 0, 0) rfl (ym_pi hS rfl rfl) ?_
            generalize w73 : yi_u I64 82 30 0 = I72
            refine yi_G_run 1 (111, [(4, .inl (1 + m)), (3, .inl (1 + m)), (0, .inr (.inr (some 82))), (1, .inl m), (2, .inl bk)], [.inl 1], (I72, L59, X), 0, 0) (fun _ => rfl) ?_
            exact yi_G_retb rfl rfl (by decide) (⟨_, _, _, rfl, (fun p k hp => by rw [← w73, yi_u_ne _ _ (fun z => by omega), ← w65, yi_u_ne _ _ (fun z => by omega), ← w63, yi_u_ne _ _ (fun z => by omega), fI57 p k (by omega), ← w2, yi_u_ne _ _ (fun z => by omega)]), (fun p k hp => by rw [f60 p k (by omega), f54 p k (by omega)]), (by rw [← w73]; exact ym_ST_30 (by rw [← w65]; exact ym_ST_101 (by rw [← w63]; exact ym_ST_102 stI57 (by omega)) (by omega) (ym_SB_t (by omega) (fun k => by rw [← w63, yi_u_ne _ _ (by omega)]) sbI57)) (by omega) (by omega))⟩)
        · refine yi_G_if1 false rfl (yi_eq_f h51) ?_
          refine yi_G_run 6 (58, [(4, .inl 0), (3, .inl (1 + m)), (0, .inr (.inr (some 82))), (1, .inl m), (2, .inl bk)], [.inl 0, .inl (1 + m), .inr (.inr (some 82))], (I1, L, X), 0, 0) (fun _ => rfl) ?_
          have stm : ym_ST I1 := (ym_ST_t (fun k => by rw [← w2, yi_u_ne _ _ (by omega)]) (by rw [← w2, yi_u_ne _ _ (by omega)]) (fun k => by rw [← w2, yi_u_ne _ _ (by omega)]) (fun k => by rw [← w2, yi_u_ne _ _ (by omega)]) hST)
          have r74 : I1 101 (m.toNat) = I 101 (m.toNat) := by rw [← w2, yi_u_ne _ _ (by omega)]
          have sbfr : ym_SB I1 (1 + m) := ((stm.2.2 m (by omega) (by omega)).2.2 (by omega) (by omega))
          have r78 : I1 82 25 = I 82 25 := by rw [← w2, yi_u_ne _ _ (by omega)]
          refine yi_G_callv rfl rfl (ym_rcv hS) rfl (c_copies (fr := 1 + m) (to := 0) d (by omega) hS (by omega) (by omega) (by omega) (by omega) (ym_SB_0 sbfr) ⟨(by rw [r78]; omega), (by rw [r78]; omega)⟩) ?_
          rintro _ ⟨L75, rfl, f76⟩
          show yi_G zi_Ms d zi_m82 (61, [(4, .inl 0), (3, .inl (1 + m)), (0, .inr (.inr (some 82))), (1, .inl m), (2, .inl bk)], [], ((ym_cp I1 (1 + m) 0), L75, X), 0, 0) _
          refine yi_G_run 3 (65, [(4, .inl 0), (3, .inl (1 + m)), (0, .inr (.inr (some 82))), (1, .inl m), (2, .inl bk)], [.inl (1 + m), .inl 33, .inr (.inr (some 82))], ((ym_cp I1 (1 + m) 0), L75, X), 0, 0) (fun _ => rfl) ?_
          refine yi_G_iadd rfl (33 + (1 + m)) (yi_wn (by omega) (by omega)) ?_
          refine yi_G_run 2 (70, [(4, .inl 0), (3, .inl (1 + m)), (0, .inr (.inr (some 82))), (1, .inl m), (2, .inl bk)], [.inl 0, .inl 33, .inl (33 + (1 + m)), .inr (.inr (some 82))], ((ym_cp I1 (1 + m) 0), L75, X), 0, 0) (fun _ => rfl) ?_
          refine yi_G_iadd rfl (33) (by decide) ?_
          generalize wI79 : ym_cp I1 (1 + m) 0 = I79
          have fI79 : ∀ p k, p ≠ 100 → I79 p k = I1 p k := fun p k hp => by rw [← wI79]; exact ym_cp_p hp
          have stI79 : ym_ST I79 := by rw [← wI79]; exact ym_ST_cp stm sbfr (by omega) (by omega)
          have sbI79 : ym_SB I79 (1 + m) := by rw [← wI79]; exact ym_cp_ne (by omega) (by omega) (by omega) sbfr
          have r80 : I79 82 25 = I 82 25 := by rw [fI79 82 (25) (by omega), ← w2, yi_u_ne _ _ (by omega)]
          refine yi_G_callv rfl rfl (ym_rcv hS) rfl (w_copiesRow (by omega) hS (by omega) (by omega) (by omega) (by omega) (by rw [r80]; omega) (by rw [r80]; omega)) ?_
          rintro _ ⟨L81, rfl, f82⟩
          show yi_G zi_Ms d zi_m82 (74, [(4, .inl 0), (3, .inl (1 + m)), (0, .inr (.inr (some 82))), (1, .inl m), (2, .inl bk)], [], (I79, L81, X), 0, 0) _
          refine yi_G_run 1 (75, [(4, .inl 0), (3, .inl (1 + m)), (0, .inr (.inr (some 82))), (1, .inl m), (2, .inl bk)], [.inr (.inr (some 82))], (I79, L81, X), 0, 0) (fun _ => rfl) ?_
          refine yi_G_get (78, [(4, .inl 0), (3, .inl (1 + m)), (0, .inr (.inr (some 82))), (1, .inl m), (2, .inl bk)], [.inr (.inr (some 102))], (I79, L81, X), 0, 0) rfl (ym_gr hS 19 rfl rfl rfl) ?_
          refine yi_G_run 2 (81, [(4, .inl 0), (3, .inl (1 + m)), (0, .inr (.inr (some 82))), (1, .inl m), (2, .inl bk)], [.inr (.inr (some 82)), .inl 0, .inr (.inr (some 102))], (I79, L81, X), 0, 0) (fun _ => rfl) ?_
          refine yi_G_get (84, [(4, .inl 0), (3, .inl (1 + m)), (0, .inr (.inr (some 82))), (1, .inl m), (2, .inl bk)], [.inr (.inr (some 102)), .inl 0, .inr (.inr (some 102))], (I79, L81, X), 0, 0) rfl (ym_gr hS 19 rfl rfl rfl) ?_
          refine yi_G_run 1 (85, [(4, .inl 0), (3, .inl (1 + m)), (0, .inr (.inr (some 82))), (1, .inl m), (2, .inl bk)], [.inl (1 + m), .inr (.inr (some 102)), .inl 0, .inr (.inr (some 102))], (I79, L81, X), 0, 0) (fun _ => rfl) ?_
          have r83 : I79 102 ((1 + m).toNat) = I 102 ((1 + m).toNat) := by rw [fI79 102 ((1 + m).toNat) (by omega), ← w2, yi_u_ne _ _ (by omega)]
          refine yi_G_bald (86, [(4, .inl 0), (3, .inl (1 + m)), (0, .inr (.inr (some 82))), (1, .inl m), (2, .inl bk)], [.inl (I 102 ((1 + m).toNat)), .inl 0, .inr (.inr (some 102))], (I79, L81, X), 0, 0) rfl (ym_lb hS 19 rfl (by omega) (by omega) r83) ?_
          have hb9 := (hST.2.2 (1 + m) (by omega) (by omega)).2.1
          refine yi_G_bast (87, [(4, .inl 0), (3, .inl (1 + m)), (0, .inr (.inr (some 82))), (1, .inl m), (2, .inl bk)], [], ((yi_u I79 102 0 (I 102 ((1 + m).toNat))), L81, X), 0, 0) rfl (ym_sb hS 19 rfl (by omega) (by omega) (by omega)) ?_
          generalize w85 : yi_u I79 102 0 (I 102 ((1 + m).toNat)) = I84
          refine yi_G_run 1 (88, [(4, .inl 0), (3, .inl (1 + m)), (0, .inr (.inr (some 82))), (1, .inl m), (2, .inl bk)], [.inr (.inr (some 82))], (I84, L81, X), 0, 0) (fun _ => rfl) ?_
          refine yi_G_get (91, [(4, .inl 0), (3, .inl (1 + m)), (0, .inr (.inr (some 82))), (1, .inl m), (2, .inl bk)], [.inr (.inr (some 101))], (I84, L81, X), 0, 0) rfl (ym_gr hS 18 rfl rfl rfl) ?_
          refine yi_G_run 2 (93, [(4, .inl 0), (3, .inl (1 + m)), (0, .inr (.inr (some 82))), (1, .inl m), (2, .inl bk)], [.inl 1, .inl m, .inr (.inr (some 101))], (I84, L81, X), 0, 0) (fun _ => rfl) ?_
          refine yi_G_bast (94, [(4, .inl 0), (3, .inl (1 + m)), (0, .inr (.inr (some 82))), (1, .inl m), (2, .inl bk)], [], ((yi_u I84 101 (m.toNat) 1), L81, X), 0, 0) rfl (ym_sb hS 18 rfl (by omega) (by omega) (by omega)) ?_
          generalize w87 : yi_u I84 101 (m.toNat) 1 = I86
          refine yi_G_run 2 (96, [(4, .inl 0), (3, .inl (1 + m)), (0, .inr (.inr (some 82))), (1, .inl m), (2, .inl bk)], [.inl bk, .inr (.inr (some 82))], (I86, L81, X), 0, 0) (fun _ => rfl) ?_
          by_cases h88 : bk = 0
          · refine yi_G_if1 true rfl (yi_eq_t h88) ?_
            refine yi_G_run 1 (104, [(4, .inl 0), (3, .inl (1 + m)), (0, .inr (.inr (some 82))), (1, .inl m), (2, .inl bk)], [.inr (.inr (some 82)), .inr (.inr (some 82))], (I86, L81, X), 0, 0) (fun _ => rfl) ?_
            have r89 : I86 82 30 = I 82 30 := by rw [← w87, yi_u_ne _ _ (by omega), ← w85, yi_u_ne _ _ (by omega), fI79 82 (30) (by omega), ← w2, yi_u_ne _ _ (by omega)]
            refine yi_G_get (107, [(4, .inl 0), (3, .inl (1 + m)), (0, .inr (.inr (some 82))), (1, .inl m), (2, .inl bk)], [.inl (I 82 30), .inr (.inr (some 82))], (I86, L81, X), 0, 0) rfl (ym_gi hS rfl rfl r89) ?_
            have r90 : I86 82 30 = I 82 30 := by rw [← w87, yi_u_ne _ _ (by omega), ← w85, yi_u_ne _ _ (by omega), fI79 82 (30) (by omega), ← w2, yi_u_ne _ _ (by omega)]
            have ub9 := hST.2.1.1
            refine yi_G_put (110, [(4, .inl 0), (3, .inl (1 + m)), (0, .inr (.inr (some 82))), (1, .inl m), (2, .inl bk)], [], ((yi_u I86 82 30 (I 82 30)), L81, X), 0, 0) rfl (ym_pi hS rfl rfl) ?_
            generalize w92 : yi_u I86 82 30 (I 82 30) = I91
            refine yi_G_run 1 (111, [(4, .inl 0), (3, .inl (1 + m)), (0, .inr (.inr (some 82))), (1, .inl m), (2, .inl bk)], [.inl 1], (I91, L81, X), 0, 0) (fun _ => rfl) ?_
            exact yi_G_retb rfl rfl (by decide) (⟨_, _, _, rfl, (fun p k hp => by rw [← w92, yi_u_ne _ _ (fun z => by omega), ← w87, yi_u_ne _ _ (fun z => by omega), ← w85, yi_u_ne _ _ (fun z => by omega), fI79 p k (by omega), ← w2, yi_u_ne _ _ (fun z => by omega)]), (fun p k hp => by rw [f82 p k (by omega), f76 p k (by omega)]), (by rw [← w92]; exact ym_ST_30 (by rw [← w87]; exact ym_ST_101 (by rw [← w85]; exact ym_ST_102 stI79 (by omega)) (by omega) (ym_SB_t (by omega) (fun k => by rw [← w85, yi_u_ne _ _ (by omega)]) sbI79)) (by omega) (by omega))⟩)
          · refine yi_G_if1 false rfl (yi_eq_f h88) ?_
            refine yi_G_run 2 (107, [(4, .inl 0), (3, .inl (1 + m)), (0, .inr (.inr (some 82))), (1, .inl m), (2, .inl bk)], [.inl 0, .inr (.inr (some 82))], (I86, L81, X), 0, 0) (fun _ => rfl) ?_
            have r93 : I86 82 30 = I 82 30 := by rw [← w87, yi_u_ne _ _ (by omega), ← w85, yi_u_ne _ _ (by omega), fI79 82 (30) (by omega), ← w2, yi_u_ne _ _ (by omega)]
            have ub9 := hST.2.1.1
            refine yi_G_put (110, [(4, .inl 0), (3, .inl (1 + m)), (0, .inr (.inr (some 82))), (1, .inl m), (2, .inl bk)], [], ((yi_u I86 82 30 0), L81, X), 0, 0) rfl (ym_pi hS rfl rfl) ?_
            generalize w95 : yi_u I86 82 30 0 = I94
            refine yi_G_run 1 (111, [(4, .inl 0), (3, .inl (1 + m)), (0, .inr (.inr (some 82))), (1, .inl m), (2, .inl bk)], [.inl 1], (I94, L81, X), 0, 0) (fun _ => rfl) ?_
            exact yi_G_retb rfl rfl (by decide) (⟨_, _, _, rfl, (fun p k hp => by rw [← w95, yi_u_ne _ _ (fun z => by omega), ← w87, yi_u_ne _ _ (fun z => by omega), ← w85, yi_u_ne _ _ (fun z => by omega), fI79 p k (by omega), ← w2, yi_u_ne _ _ (fun z => by omega)]), (fun p k hp => by rw [f82 p k (by omega), f76 p k (by omega)]), (by rw [← w95]; exact ym_ST_30 (by rw [← w87]; exact ym_ST_101 (by rw [← w85]; exact ym_ST_102 stI79 (by omega)) (by omega) (ym_SB_t (by omega) (fun k => by rw [← w85, yi_u_ne _ _ (by omega)]) sbI79)) (by omega) (by omega))⟩)
    · refine yi_G_if1 false rfl (yi_eq_f h4) ?_
      refine yi_G_run 1 (19, [(0, .inr (.inr (some 82))), (1, .inl m), (2, .inl bk)], [.inr (.inr (some 82))], (I1, L, X), 0, 0) (fun _ => rfl) ?_
      refine yi_G_get (22, [(0, .inr (.inr (some 82))), (1, .inl m), (2, .inl bk)], [.inr (.inr (some 101))], (I1, L, X), 0, 0) rfl (ym_gr hS 18 rfl rfl rfl) ?_
      refine yi_G_run 1 (23, [(0, .inr (.inr (some 82))), (1, .inl m), (2, .inl bk)], [.inl m, .inr (.inr (some 101))], (I1, L, X), 0, 0) (fun _ => rfl) ?_
      have hmk := (hST.2.2 m (by omega) (by omega)).1
      have r96 : I1 101 (m.toNat) = I 101 (m.toNat) := by rw [← w2, yi_u_ne _ _ (by omega)]
      refine yi_G_bald (24, [(0, .inr (.inr (some 82))), (1, .inl m), (2, .inl bk)], [.inl (I 101 (m.toNat))], (I1, L, X), 0, 0) rfl (ym_lb hS 18 rfl (by omega) (by omega) r96) ?_
      by_cases h97 : (I 101 (m.toNat)) = 0
      · refine yi_G_if1 false rfl (yi_ne_f h97) ?_
        refine yi_G_run 1 (28, [(0, .inr (.inr (some 82))), (1, .inl m), (2, .inl bk)], [.inl 0], (I1, L, X), 0, 0) (fun _ => rfl) ?_
        exact yi_G_retb rfl rfl (by decide) (⟨_, _, _, rfl, (fun p k hp => by rw [← w2, yi_u_ne _ _ (fun z => by omega)]), (fun _ _ _ => rfl), (ym_ST_t (fun k => by rw [← w2, yi_u_ne _ _ (by omega)]) (by rw [← w2, yi_u_ne _ _ (by omega)]) (fun k => by rw [← w2, yi_u_ne _ _ (by omega)]) (fun k => by rw [← w2, yi_u_ne _ _ (by omega)]) hST)⟩)
      · refine yi_G_if1 true rfl (yi_ne_t h97) ?_
        refine yi_G_run 1 (30, [(0, .inr (.inr (some 82))), (1, .inl m), (2, .inl bk)], [.inl bk], (I1, L, X), 0, 0) (fun _ => rfl) ?_
        by_cases h98 : bk = 0
        · refine yi_G_if1 true rfl (yi_eq_t h98) ?_
          refine yi_G_run 3 (42, [(3, .inl 0), (0, .inr (.inr (some 82))), (1, .inl m), (2, .inl bk)], [.inl bk], (I1, L, X), 0, 0) (fun _ => rfl) ?_
          by_cases h99 : bk = 0
          · refine yi_G_if1 true rfl (yi_eq_t h99) ?_
            refine yi_G_run 2 (51, [(3, .inl 0), (0, .inr (.inr (some 82))), (1, .inl m), (2, .inl bk)], [.inl m, .inl 1], (I1, L, X), 0, 0) (fun _ => rfl) ?_
            refine yi_G_iadd rfl (1 + m) (yi_wn (by omega) (by omega)) ?_
            refine yi_G_run 4 (58, [(4, .inl (1 + m)), (3, .inl 0), (0, .inr (.inr (some 82))), (1, .inl m), (2, .inl bk)], [.inl (1 + m), .inl 0, .inr (.inr (some 82))], (I1, L, X), 0, 0) (fun _ => rfl) ?_
            have stm : ym_ST I1 := (ym_ST_t (fun k => by rw [← w2, yi_u_ne _ _ (by omega)]) (by rw [← w2, yi_u_ne _ _ (by omega)]) (fun k => by rw [← w2, yi_u_ne _ _ (by omega)]) (fun k => by rw [← w2, yi_u_ne _ _ (by omega)]) hST)
            have r100 : I1 101 (m.toNat) = I 101 (m.toNat) := by rw [← w2, yi_u_ne _ _ (by omega)]
            have sbfr : ym_SB I1 0 := ((ym_S0_iff _).mp stm.1)
            have r104 : I1 82 25 = I 82 25 := by rw [← w2, yi_u_ne _ _ (by omega)]
            refine yi_G_callv rfl rfl (ym_rcv hS) rfl (c_copies (fr := 0) (to := 1 + m) d (by omega) hS (by omega) (by omega) (by omega) (by omega) (ym_SB_0 sbfr) ⟨(by rw [r104]; omega), (by rw [r104]; omega)⟩) ?_
            rintro _ ⟨L101, rfl, f102⟩
            show yi_G zi_Ms d zi_m82 (61, [(4, .inl (1 + m)), (3, .inl 0), (0, .inr (.inr (some 82))), (1, .inl m), (2, .inl bk)], [], ((ym_cp I1 0 (1 + m)), L101, X), 0, 0) _
            refine yi_G_run 3 (65, [(4, .inl (1 + m)), (3, .inl 0), (0, .inr (.inr (some 82))), (1, .inl m), (2, .inl bk)], [.inl 0, .inl 33, .inr (.inr (some 82))], ((ym_cp I1 0 (1 + m)), L101, X), 0, 0) (fun _ => rfl) ?_
            refine yi_G_iadd rfl (33) (by decide) ?_
            refine yi_G_run 2 (70, [(4, .inl (1 + m)), (3, .inl 0), (0, .inr (.inr (some 82))), (1, .inl m), (2, .inl bk)], [.inl (1 + m), .inl 33, .inl 33, .inr (.inr (some 82))], ((ym_cp I1 0 (1 + m)), L101, X), 0, 0) (fun _ => rfl) ?_
            refine yi_G_iadd rfl (33 + (1 + m)) (yi_wn (by omega) (by omega)) ?_
            generalize wI105 : ym_cp I1 0 (1 + m) = I105
            have fI105 : ∀ p k, p ≠ 100 → I105 p k = I1 p k := fun p k hp => by rw [← wI105]; exact ym_cp_p hp
            have stI105 : ym_ST I105 := by rw [← wI105]; exact ym_ST_cp stm sbfr (by omega) (by omega)
            have sbI105 : ym_SB I105 (1 + m) := by rw [← wI105]; exact ym_cp_to (by omega) (by omega) sbfr
            have r106 : I105 82 25 = I 82 25 := by rw [fI105 82 (25) (by omega), ← w2, yi_u_ne _ _ (by omega)]
            refine yi_G_callv rfl rfl (ym_rcv hS) rfl (w_copiesRow (by omega) hS (by omega) (by omega) (by omega) (by omega) (by rw [r106]; omega) (by rw [r106]; omega)) ?_
            rintro _ ⟨L107, rfl, f108⟩
            show yi_G zi_Ms d zi_m82 (74, [(4, .inl (1 + m)), (3, .inl 0), (0, .inr (.inr (some 82))), (1, .inl m), (2, .inl bk)], [], (I105, L107, X), 0, 0) _
            refine yi_G_run 1 (75, [(4, .inl (1 + m)), (3, .inl 0), (0, .inr (.inr (some 82))), (1, .inl m), (2, .inl bk)], [.inr (.inr (some 82))], (I105, L107, X), 0, 0) (fun _ => rfl) ?_
            refine yi_G_get (78, [(4, .inl (1 + m)), (3, .inl 0), (0, .inr (.inr (some 82))), (1, .inl m), (2, .inl bk)], [.inr (.inr (some 102))], (I105, L107, X), 0, 0) rfl (ym_gr hS 19 rfl rfl rfl) ?_
            refine yi_G_run 2 (81, [(4, .inl (1 + m)), (3, .inl 0), (0, .inr (.inr (some 82))), (1, .inl m), (2, .inl bk)], [.inr (.inr (some 82)), .inl (1 + m), .inr (.inr (some 102))], (I105, L107, X), 0, 0) (fun _ => rfl) ?_
            refine yi_G_get (84, [(4, .inl (1 + m)), (3, .inl 0), (0, .inr (.inr (some 82))), (1, .inl m), (2, .inl bk)], [.inr (.inr (some 102)), .inl (1 + m), .inr (.inr (some 102))], (I105, L107, X), 0, 0) rfl (ym_gr hS 19 rfl rfl rfl) ?_
            refine yi_G_run 1 (85, [(4, .inl (1 + m)), (3, .inl 0), (0, .inr (.inr (some 82))), (1, .inl m), (2, .inl bk)], [.inl 0, .inr (.inr (some 102)), .inl (1 + m), .inr (.inr (some 102))], (I105, L107, X), 0, 0) (fun _ => rfl) ?_
            have r109 : I105 102 0 = I 102 0 := by rw [fI105 102 (0) (by omega), ← w2, yi_u_ne _ _ (by omega)]
            refine yi_G_bald (86, [(4, .inl (1 + m)), (3, .inl 0), (0, .inr (.inr (some 82))), (1, .inl m), (2, .inl bk)], [.inl (I 102 0), .inl (1 + m), .inr (.inr (some 102))], (I105, L107, X), 0, 0) rfl (ym_lb hS 19 rfl (by omega) (by omega) r109) ?_
            have hb9 : I 102 0 = 0 ∨ I 102 0 = 1 := (hST.2.2 0 (by omega) (by omega)).2.1
            refine yi_G_bast (87, [(4, .inl (1 + m)), (3, .inl 0), (0, .inr (.inr (some 82))), (1, .inl m), (2, .inl bk)], [], ((yi_u I105 102 ((1 + m).toNat) (I 102 0)), L107, X), 0, 0) rfl (ym_sb hS 19 rfl (by omega) (by omega) (by omega)) ?_
            generalize w111 : yi_u I105 102 ((1 + m).toNat) (I 102 0) = I110
            refine yi_G_run 1 (88, [(4, .inl (1 + m)), (3, .inl 0), (0, .inr (.inr (some 82))), (1, .inl m), (2, .inl bk)], [.inr (.inr (some 82))], (I110, L107, X), 0, 0) (fun _ => rfl) ?_
            refine yi_G_get (91, [(4, .inl (1 + m)), (3, .inl 0), (0, .inr (.inr (some 82))), (1, .inl m), (2, .inl bk)], [.inr (.inr (some 101))], (I110, L107, X), 0, 0) rfl (ym_gr hS 18 rfl rfl rfl) ?_
            refine yi_G_run 2 (93, [(4, .inl (1 + m)), (3, .inl 0), (0, .inr (.inr (some 82))), (1, .inl m), (2, .inl bk)], [.inl 1, .inl m, .inr (.inr (some 101))], (I110, L107, X), 0, 0) (fun _ => rfl) ?_
            refine yi_G_bast (94, [(4, .inl (1 + m)), (3, .inl 0), (0, .inr (.inr (some 82))), (1, .inl m), (2, .inl bk)], [], ((yi_u I110 101 (m.toNat) 1), L107, X), 0, 0) rfl (ym_sb hS 18 rfl (by omega) (by omega) (by omega)) ?_
            generalize w113 : yi_u I110 101 (m.toNat) 1 = I112
            refine yi_G_run 2 (96, [(4, .inl (1 + m)), (3, .inl 0), (0, .inr (.inr (some 82))), (1, .inl m), (2, .inl bk)], [.inl bk, .inr (.inr (some 82))], (I112, L107, X), 0, 0) (fun _ => rfl) ?_
            by_cases h114 : bk = 0
            · refine yi_G_if1 true rfl (yi_eq_t h114) ?_
              refine yi_G_run 1 (104, [(4, .inl (1 + m)), (3, .inl 0), (0, .inr (.inr (some 82))), (1, .inl m), (2, .inl bk)], [.inr (.inr (some 82)), .inr (.inr (some 82))], (I112, L107, X), 0, 0) (fun _ => rfl) ?_
              have r115 : I112 82 30 = I 82 30 := by rw [← w113, yi_u_ne _ _ (by omega), ← w111, yi_u_ne _ _ (by omega), fI105 82 (30) (by omega), ← w2, yi_u_ne _ _ (by omega)]
              refine yi_G_get (107, [(4, .inl (1 + m)), (3, .inl 0), (0, .inr (.inr (some 82))), (1, .inl m), (2, .inl bk)], [.inl (I 82 30), .inr (.inr (some 82))], (I112, L107, X), 0, 0) rfl (ym_gi hS rfl rfl r115) ?_
              have r116 : I112 82 30 = I 82 30 := by rw [← w113, yi_u_ne _ _ (by omega), ← w111, yi_u_ne _ _ (by omega), fI105 82 (30) (by omega), ← w2, yi_u_ne _ _ (by omega)]
              have ub9 := hST.2.1.1
              refine yi_G_put (110, [(4, .inl (1 + m)), (3, .inl 0), (0, .inr (.inr (some 82))), (1, .inl m), (2, .inl bk)], [], ((yi_u I112 82 30 (I 82 30)), L107, X), 0, 0) rfl (ym_pi hS rfl rfl) ?_
              generalize w118 : yi_u I112 82 30 (I 82 30) = I117
              refine yi_G_run 1 (111, [(4, .inl (1 + m)), (3, .inl 0), (0, .inr (.inr (some 82))), (1, .inl m), (2, .inl bk)], [.inl 1], (I117, L107, X), 0, 0) (fun _ => rfl) ?_
              exact yi_G_retb rfl rfl (by decide) (⟨_, _, _, rfl, (fun p k hp => by rw [← w118, yi_u_ne _ _ (fun z => by omega), ← w113, yi_u_ne _ _ (fun z => by omega), ← w111, yi_u_ne _ _ (fun z => by omega), fI105 p k (by omega), ← w2, yi_u_ne _ _ (fun z => by omega)]), (fun p k hp => by rw [f108 p k (by omega), f102 p k (by omega)]), (by rw [← w118]; exact ym_ST_30 (by rw [← w113]; exact ym_ST_101 (by rw [← w111]; exact ym_ST_102 stI105 (by omega)) (by omega) (ym_SB_t (by omega) (fun k => by rw [← w111, yi_u_ne _ _ (by omega)]) sbI105)) (by omega) (by omega))⟩)
            · refine yi_G_if1 false rfl (yi_eq_f h114) ?_
              refine yi_G_run 2 (107, [(4, .inl (1 + m)), (3, .inl 0), (0, .inr (.inr (some 82))), (1, .inl m), (2, .inl bk)], [.inl 0, .inr (.inr (some 82))], (I112, L107, X), 0, 0) (fun _ => rfl) ?_
              have r119 : I112 82 30 = I 82 30 := by rw [← w113, yi_u_ne _ _ (by omega), ← w111, yi_u_ne _ _ (by omega), fI105 82 (30) (by omega), ← w2, yi_u_ne _ _ (by omega)]
              have ub9 := hST.2.1.1
              refine yi_G_put (110, [(4, .inl (1 + m)), (3, .inl 0), (0, .inr (.inr (some 82))), (1, .inl m), (2, .inl bk)], [], ((yi_u I112 82 30 0), L107, X), 0, 0) rfl (ym_pi hS rfl rfl) ?_
              generalize w121 : yi_u I112 82 30 0 = I120
              refine yi_G_run 1 (111, [(4, .inl (1 + m)), (3, .inl 0), (0, .inr (.inr (some 82))), (1, .inl m), (2, .inl bk)], [.inl 1], (I120, L107, X), 0, 0) (fun _ => rfl) ?_
              exact yi_G_retb rfl rfl (by decide) (⟨_, _, _, rfl, (fun p k hp => by rw [← w121, yi_u_ne _ _ (fun z => by omega), ← w113, yi_u_ne _ _ (fun z => by omega), ← w111, yi_u_ne _ _ (fun z => by omega), fI105 p k (by omega), ← w2, yi_u_ne _ _ (fun z => by omega)]), (fun p k hp => by rw [f108 p k (by omega), f102 p k (by omega)]), (by rw [← w121]; exact ym_ST_30 (by rw [← w113]; exact ym_ST_101 (by rw [← w111]; exact ym_ST_102 stI105 (by omega)) (by omega) (ym_SB_t (by omega) (fun k => by rw [← w111, yi_u_ne _ _ (by omega)]) sbI105)) (by omega) (by omega))⟩)
          · refine yi_G_if1 false rfl (yi_eq_f h99) ?_
            refine yi_G_run 6 (58, [(4, .inl 0), (3, .inl 0), (0, .inr (.inr (some 82))), (1, .inl m), (2, .inl bk)], [.inl 0, .inl 0, .inr (.inr (some 82))], (I1, L, X), 0, 0) (fun _ => rfl) ?_
            have stm : ym_ST I1 := (ym_ST_t (fun k => by rw [← w2, yi_u_ne _ _ (by omega)]) (by rw [← w2, yi_u_ne _ _ (by omega)]) (fun k => by rw [← w2, yi_u_ne _ _ (by omega)]) (fun k => by rw [← w2, yi_u_ne _ _ (by omega)]) hST)
            have r122 : I1 101 (m.toNat) = I 101 (m.toNat) := by rw [← w2, yi_u_ne _ _ (by omega)]
            have sbfr : ym_SB I1 0 := ((ym_S0_iff _).mp stm.1)
            have r126 : I1 82 25 = I 82 25 := by rw [← w2, yi_u_ne _ _ (by omega)]
            refine yi_G_callv rfl rfl (ym_rcv hS) rfl (c_copies (fr := 0) (to := 0) d (by omega) hS (by omega) (by omega) (by omega) (by omega) (ym_SB_0 sbfr) ⟨(by rw [r126]; omega), (by rw [r126]; omega)⟩) ?_
            rintro _ ⟨L123, rfl, f124⟩
            show yi_G zi_Ms d zi_m82 (61, [(4, .inl 0), (3, .inl 0), (0, .inr (.inr (some 82))), (1, .inl m), (2, .inl bk)], [], ((ym_cp I1 0 0), L123, X), 0, 0) _
            refine yi_G_run 3 (65, [(4, .inl 0), (3, .inl 0), (0, .inr (.inr (some 82))), (1, .inl m), (2, .inl bk)], [.inl 0, .inl 33, .inr (.inr (some 82))], ((ym_cp I1 0 0), L123, X), 0, 0) (fun _ => rfl) ?_
            refine yi_G_iadd rfl (33) (by decide) ?_
            refine yi_G_run 2 (70, [(4, .inl 0), (3, .inl 0), (0, .inr (.inr (some 82))), (1, .inl m), (2, .inl bk)], [.inl 0, .inl 33, .inl 33, .inr (.inr (some 82))], ((ym_cp I1 0 0), L123, X), 0, 0) (fun _ => rfl) ?_
            refine yi_G_iadd rfl (33) (by decide) ?_
            generalize wI127 : ym_cp I1 0 0 = I127
            have fI127 : ∀ p k, p ≠ 100 → I127 p k = I1 p k := fun p k hp => by rw [← wI127]; exact ym_cp_p hp
            have stI127 : ym_ST I127 := by rw [← wI127]; exact ym_ST_cp stm sbfr (by omega) (by omega)
            have sbI127 : ym_SB I127 (1 + m) := by rw [← wI127]; exact False.elim (by omega)
            have r128 : I127 82 25 = I 82 25 := by rw [fI127 82 (25) (by omega), ← w2, yi_u_ne _ _ (by omega)]
            refine yi_G_callv rfl rfl (ym_rcv hS) rfl (w_copiesRow (by omega) hS (by omega) (by omega) (by omega) (by omega) (by rw [r128]; omega) (by rw [r128]; omega)) ?_
            rintro _ ⟨L129, rfl, f130⟩
            show yi_G zi_Ms d zi_m82 (74, [(4, .inl 0), (3, .inl 0), (0, .inr (.inr (some 82))), (1, .inl m), (2, .inl bk)], [], (I127, L129, X), 0, 0) _
            refine yi_G_run 1 (75, [(4, .inl 0), (3, .inl 0), (0, .inr (.inr (some 82))), (1, .inl m), (2, .inl bk)], [.inr (.inr (some 82))], (I127, L129, X), 0, 0) (fun _ => rfl) ?_
            refine yi_G_get (78, [(4, .inl 0), (3, .inl 0), (0, .inr (.inr (some 82))), (1, .inl m), (2, .inl bk)], [.inr (.inr (some 102))], (I127, L129, X), 0, 0) rfl (ym_gr hS 19 rfl rfl rfl) ?_
            refine yi_G_run 2 (81, [(4, .inl 0), (3, .inl 0), (0, .inr (.inr (some 82))), (1, .inl m), (2, .inl bk)], [.inr (.inr (some 82)), .inl 0, .inr (.inr (some 102))], (I127, L129, X), 0, 0) (fun _ => rfl) ?_
            refine yi_G_get (84, [(4, .inl 0), (3, .inl 0), (0, .inr (.inr (some 82))), (1, .inl m), (2, .inl bk)], [.inr (.inr (some 102)), .inl 0, .inr (.inr (some 102))], (I127, L129, X), 0, 0) rfl (ym_gr hS 19 rfl rfl rfl) ?_
            refine yi_G_run 1 (85, [(4, .inl 0), (3, .inl 0), (0, .inr (.inr (some 82))), (1, .inl m), (2, .inl bk)], [.inl 0, .inr (.inr (some 102)), .inl 0, .inr (.inr (some 102))], (I127, L129, X), 0, 0) (fun _ => rfl) ?_
            have r131 : I127 102 0 = I 102 0 := by rw [fI127 102 (0) (by omega), ← w2, yi_u_ne _ _ (by omega)]
            refine yi_G_bald (86, [(4, .inl 0), (3, .inl 0), (0, .inr (.inr (some 82))), (1, .inl m), (2, .inl bk)], [.inl (I 102 0), .inl 0, .inr (.inr (some 102))], (I127, L129, X), 0, 0) rfl (ym_lb hS 19 rfl (by omega) (by omega) r131) ?_
            have hb9 : I 102 0 = 0 ∨ I 102 0 = 1 := (hST.2.2 0 (by omega) (by omega)).2.1
            refine yi_G_bast (87, [(4, .inl 0), (3, .inl 0), (0, .inr (.inr (some 82))), (1, .inl m), (2, .inl bk)], [], ((yi_u I127 102 0 (I 102 0)), L129, X), 0, 0) rfl (ym_sb hS 19 rfl (by omega) (by omega) (by omega)) ?_
            generalize w133 : yi_u I127 102 0 (I 102 0) = I132
            refine yi_G_run 1 (88, [(4, .inl 0), (3, .inl 0), (0, .inr (.inr (some 82))), (1, .inl m), (2, .inl bk)], [.inr (.inr (some 82))], (I132, L129, X), 0, 0) (fun _ => rfl) ?_
            refine yi_G_get (91, [(4, .inl 0), (3, .inl 0), (0, .inr (.inr (some 82))), (1, .inl m), (2, .inl bk)], [.inr (.inr (some 101))], (I132, L129, X), 0, 0) rfl (ym_gr hS 18 rfl rfl rfl) ?_
            refine yi_G_run 2 (93, [(4, .inl 0), (3, .inl 0), (0, .inr (.inr (some 82))), (1, .inl m), (2, .inl bk)], [.inl 1, .inl m, .inr (.inr (some 101))], (I132, L129, X), 0, 0) (fun _ => rfl) ?_
            refine yi_G_bast (94, [(4, .inl 0), (3, .inl 0), (0, .inr (.inr (some 82))), (1, .inl m), (2, .inl bk)], [], ((yi_u I132 101 (m.toNat) 1), L129, X), 0, 0) rfl (ym_sb hS 18 rfl (by omega) (by omega) (by omega)) ?_
            generalize w135 : yi_u I132 101 (m.toNat) 1 = I134
            refine yi_G_run 2 (96, [(4, .inl 0), (3, .inl 0), (0, .inr (.inr (some 82))), (1, .inl m), (2, .inl bk)], [.inl bk, .inr (.inr (some 82))], (I134, L129, X), 0, 0) (fun _ => rfl) ?_
            by_cases h136 : bk = 0
            · refine yi_G_if1 true rfl (yi_eq_t h136) ?_
              refine yi_G_run 1 (104, [(4, .inl 0), (3, .inl 0), (0, .inr (.inr (some 82))), (1, .inl m), (2, .inl bk)], [.inr (.inr (some 82)), .inr (.inr (some 82))], (I134, L129, X), 0, 0) (fun _ => rfl) ?_
              have r137 : I134 82 30 = I 82 30 := by rw [← w135, yi_u_ne _ _ (by omega), ← w133, yi_u_ne _ _ (by omega), fI127 82 (30) (by omega), ← w2, yi_u_ne _ _ (by omega)]
              refine yi_G_get (107, [(4, .inl 0), (3, .inl 0), (0, .inr (.inr (some 82))), (1, .inl m), (2, .inl bk)], [.inl (I 82 30), .inr (.inr (some 82))], (I134, L129, X), 0, 0) rfl (ym_gi hS rfl rfl r137) ?_
              have r138 : I134 82 30 = I 82 30 := by rw [← w135, yi_u_ne _ _ (by omega), ← w133, yi_u_ne _ _ (by omega), fI127 82 (30) (by omega), ← w2, yi_u_ne _ _ (by omega)]
              have ub9 := hST.2.1.1
              refine yi_G_put (110, [(4, .inl 0), (3, .inl 0), (0, .inr (.inr (some 82))), (1, .inl m), (2, .inl bk)], [], ((yi_u I134 82 30 (I 82 30)), L129, X), 0, 0) rfl (ym_pi hS rfl rfl) ?_
              generalize w140 : yi_u I134 82 30 (I 82 30) = I139
              refine yi_G_run 1 (111, [(4, .inl 0), (3, .inl 0), (0, .inr (.inr (some 82))), (1, .inl m), (2, .inl bk)], [.inl 1], (I139, L129, X), 0, 0) (fun _ => rfl) ?_
              exact yi_G_retb rfl rfl (by decide) (⟨_, _, _, rfl, (fun p k hp => by rw [← w140, yi_u_ne _ _ (fun z => by omega), ← w135, yi_u_ne _ _ (fun z => by omega), ← w133, yi_u_ne _ _ (fun z => by omega), fI127 p k (by omega), ← w2, yi_u_ne _ _ (fun z => by omega)]), (fun p k hp => by rw [f130 p k (by omega), f124 p k (by omega)]), (by rw [← w140]; exact ym_ST_30 (by rw [← w135]; exact ym_ST_101 (by rw [← w133]; exact ym_ST_102 stI127 (by omega)) (by omega) (ym_SB_t (by omega) (fun k => by rw [← w133, yi_u_ne _ _ (by omega)]) sbI127)) (by omega) (by omega))⟩)
            · refine yi_G_if1 false rfl (yi_eq_f h136) ?_
              refine yi_G_run 2 (107, [(4, .inl 0), (3, .inl 0), (0, .inr (.inr (some 82))), (1, .inl m), (2, .inl bk)], [.inl 0, .inr (.inr (some 82))], (I134, L129, X), 0, 0) (fun _ => rfl) ?_
              have r141 : I134 82 30 = I 82 30 := by rw [← w135, yi_u_ne _ _ (by omega), ← w133, yi_u_ne _ _ (by omega), fI127 82 (30) (by omega), ← w2, yi_u_ne _ _ (by omega)]
              have ub9 := hST.2.1.1
              refine yi_G_put (110, [(4, .inl 0), (3, .inl 0), (0, .inr (.inr (some 82))), (1, .inl m), (2, .inl bk)], [], ((yi_u I134 82 30 0), L129, X), 0, 0) rfl (ym_pi hS rfl rfl) ?_
              generalize w143 : yi_u I134 82 30 0 = I142
              refine yi_G_run 1 (111, [(4, .inl 0), (3, .inl 0), (0, .inr (.inr (some 82))), (1, .inl m), (2, .inl bk)], [.inl 1], (I142, L129, X), 0, 0) (fun _ => rfl) ?_
              exact yi_G_retb rfl rfl (by decide) (⟨_, _, _, rfl, (fun p k hp => by rw [← w143, yi_u_ne _ _ (fun z => by omega), ← w135, yi_u_ne _ _ (fun z => by omega), ← w133, yi_u_ne _ _ (fun z => by omega), fI127 p k (by omega), ← w2, yi_u_ne _ _ (fun z => by omega)]), (fun p k hp => by rw [f130 p k (by omega), f124 p k (by omega)]), (by rw [← w143]; exact ym_ST_30 (by rw [← w135]; exact ym_ST_101 (by rw [← w133]; exact ym_ST_102 stI127 (by omega)) (by omega) (ym_SB_t (by omega) (fun k => by rw [← w133, yi_u_ne _ _ (by omega)]) sbI127)) (by omega) (by omega))⟩)
        · refine yi_G_if1 false rfl (yi_eq_f h98) ?_
          refine yi_G_run 2 (35, [(0, .inr (.inr (some 82))), (1, .inl m), (2, .inl bk)], [.inl m, .inl 1], (I1, L, X), 0, 0) (fun _ => rfl) ?_
          refine yi_G_iadd rfl (1 + m) (yi_wn (by omega) (by omega)) ?_
          refine yi_G_run 3 (42, [(3, .inl (1 + m)), (0, .inr (.inr (some 82))), (1, .inl m), (2, .inl bk)], [.inl bk], (I1, L, X), 0, 0) (fun _ => rfl) ?_
          by_cases h144 : bk = 0
          · refine yi_G_if1 true rfl (yi_eq_t h144) ?_
            refine yi_G_run 2 (51, [(3, .inl (1 + m)), (0, .inr (.inr (some 82))), (1, .inl m), (2, .inl bk)], [.inl m, .inl 1], (I1, L, X), 0, 0) (fun _ => rfl) ?_
            refine yi_G_iadd rfl (1 + m) (yi_wn (by omega) (by omega)) ?_
            refine yi_G_run 4 (58, [(4, .inl (1 + m)), (3, .inl (1 + m)), (0, .inr (.inr (some 82))), (1, .inl m), (2, .inl bk)], [.inl (1 + m), .inl (1 + m), .inr (.inr (some 82))], (I1, L, X), 0, 0) (fun _ => rfl) ?_
            have stm : ym_ST I1 := (ym_ST_t (fun k => by rw [← w2, yi_u_ne _ _ (by omega)]) (by rw [← w2, yi_u_ne _ _ (by omega)]) (fun k => by rw [← w2, yi_u_ne _ _ (by omega)]) (fun k => by rw [← w2, yi_u_ne _ _ (by omega)]) hST)
            have r145 : I1 101 (m.toNat) = I 101 (m.toNat) := by rw [← w2, yi_u_ne _ _ (by omega)]
            have sbfr : ym_SB I1 (1 + m) := ((stm.2.2 m (by omega) (by omega)).2.2 (by omega) (by omega))
            have r149 : I1 82 25 = I 82 25 := by rw [← w2, yi_u_ne _ _ (by omega)]
            refine yi_G_callv rfl rfl (ym_rcv hS) rfl (c_copies (fr := 1 + m) (to := 1 + m) d (by omega) hS (by omega) (by omega) (by omega) (by omega) (ym_SB_0 sbfr) ⟨(by rw [r149]; omega), (by rw [r149]; omega)⟩) ?_
            rintro _ ⟨L146, rfl, f147⟩
            show yi_G zi_Ms d zi_m82 (61, [(4, .inl (1 + m)), (3, .inl (1 + m)), (0, .inr (.inr (some 82))), (1, .inl m), (2, .inl bk)], [], ((ym_cp I1 (1 + m) (1 + m)), L146, X), 0, 0) _
            refine yi_G_run 3 (65, [(4, .inl (1 + m)), (3, .inl (1 + m)), (0, .inr (.inr (some 82))), (1, .inl m), (2, .inl bk)], [.inl (1 + m), .inl 33, .inr (.inr (some 82))], ((ym_cp I1 (1 + m) (1 + m)), L146, X), 0, 0) (fun _ => rfl) ?_
            refine yi_G_iadd rfl (33 + (1 + m)) (yi_wn (by omega) (by omega)) ?_
            refine yi_G_run 2 (70, [(4, .inl (1 + m)), (3, .inl (1 + m)), (0, .inr (.inr (some 82))), (1, .inl m), (2, .inl bk)], [.inl (1 + m), .inl 33, .inl (33 + (1 + m)), .inr (.inr (some 82))], ((ym_cp I1 (1 + m) (1 + m)), L146, X), 0, 0) (fun _ => rfl) ?_
            refine yi_G_iadd rfl (33 + (1 + m)) (yi_wn (by omega) (by omega)) ?_
            generalize wI150 : ym_cp I1 (1 + m) (1 + m) = I150
            have fI150 : ∀ p k, p ≠ 100 → I150 p k = I1 p k := fun p k hp => by rw [← wI150]; exact ym_cp_p hp
            have stI150 : ym_ST I150 := by rw [← wI150]; exact ym_ST_cp stm sbfr (by omega) (by omega)
            have sbI150 : ym_SB I150 (1 + m) := by rw [← wI150]; exact False.elim (by omega)
            have r151 : I150 82 25 = I 82 25 := by rw [fI150 82 (25) (by omega), ← w2, yi_u_ne _ _ (by omega)]
            refine yi_G_callv rfl rfl (ym_rcv hS) rfl (w_copiesRow (by omega) hS (by omega) (by omega) (by omega) (by omega) (by rw [r151]; omega) (by rw [r151]; omega)) ?_
            rintro _ ⟨L152, rfl, f153⟩
            show yi_G zi_Ms d zi_m82 (74, [(4, .inl (1 + m)), (3, .inl (1 + m)), (0, .inr (.inr (some 82))), (1, .inl m), (2, .inl bk)], [], (I150, L152, X), 0, 0) _
            refine yi_G_run 1 (75, [(4, .inl (1 + m)), (3, .inl (1 + m)), (0, .inr (.inr (some 82))), (1, .inl m), (2, .inl bk)], [.inr (.inr (some 82))], (I150, L152, X), 0, 0) (fun _ => rfl) ?_
            refine yi_G_get (78, [(4, .inl (1 + m)), (3, .inl (1 + m)), (0, .inr (.inr (some 82))), (1, .inl m), (2, .inl bk)], [.inr (.inr (some 102))], (I150, L152, X), 0, 0) rfl (ym_gr hS 19 rfl rfl rfl) ?_
            refine yi_G_run 2 (81, [(4, .inl (1 + m)), (3, .inl (1 + m)), (0, .inr (.inr (some 82))), (1, .inl m), (2, .inl bk)], [.inr (.inr (some 82)), .inl (1 + m), .inr (.inr (some 102))], (I150, L152, X), 0, 0) (fun _ => rfl) ?_
            refine yi_G_get (84, [(4, .inl (1 + m)), (3, .inl (1 + m)), (0, .inr (.inr (some 82))), (1, .inl m), (2, .inl bk)], [.inr (.inr (some 102)), .inl (1 + m), .inr (.inr (some 102))], (I150, L152, X), 0, 0) rfl (ym_gr hS 19 rfl rfl rfl) ?_
            refine yi_G_run 1 (85, [(4, .inl (1 + m)), (3, .inl (1 + m)), (0, .inr (.inr (some 82))), (1, .inl m), (2, .inl bk)], [.inl (1 + m), .inr (.inr (some 102)), .inl (1 + m), .inr (.inr (some 102))], (I150, L152, X), 0, 0) (fun _ => rfl) ?_
            have r154 : I150 102 ((1 + m).toNat) = I 102 ((1 + m).toNat) := by rw [fI150 102 ((1 + m).toNat) (by omega), ← w2, yi_u_ne _ _ (by omega)]
            refine yi_G_bald (86, [(4, .inl (1 + m)), (3, .inl (1 + m)), (0, .inr (.inr (some 82))), (1, .inl m), (2, .inl bk)], [.inl (I 102 ((1 + m).toNat)), .inl (1 + m), .inr (.inr (some 102))], (I150, L152, X), 0, 0) rfl (ym_lb hS 19 rfl (by omega) (by omega) r154) ?_
            have hb9 := (hST.2.2 (1 + m) (by omega) (by omega)).2.1
            refine yi_G_bast (87, [(4, .inl (1 + m)), (3, .inl (1 + m)), (0, .inr (.inr (some 82))), (1, .inl m), (2, .inl bk)], [], ((yi_u I150 102 ((1 + m).toNat) (I 102 ((1 + m).toNat))), L152, X), 0, 0) rfl (ym_sb hS 19 rfl (by omega) (by omega) (by omega)) ?_
            generalize w156 : yi_u I150 102 ((1 + m).toNat) (I 102 ((1 + m).toNat)) = I155
            refine yi_G_run 1 (88, [(4, .inl (1 + m)), (3, .inl (1 + m)), (0, .inr (.inr (some 82))), (1, .inl m), (2, .inl bk)], [.inr (.inr (some 82))], (I155, L152, X), 0, 0) (fun _ => rfl) ?_
            refine yi_G_get (91, [(4, .inl (1 + m)), (3, .inl (1 + m)), (0, .inr (.inr (some 82))), (1, .inl m), (2, .inl bk)], [.inr (.inr (some 101))], (I155, L152, X), 0, 0) rfl (ym_gr hS 18 rfl rfl rfl) ?_
            refine yi_G_run 2 (93, [(4, .inl (1 + m)), (3, .inl (1 + m)), (0, .inr (.inr (some 82))), (1, .inl m), (2, .inl bk)], [.inl 1, .inl m, .inr (.inr (some 101))], (I155, L152, X), 0, 0) (fun _ => rfl) ?_
            refine yi_G_bast (94, [(4, .inl (1 + m)), (3, .inl (1 + m)), (0, .inr (.inr (some 82))), (1, .inl m), (2, .inl bk)], [], ((yi_u I155 101 (m.toNat) 1), L152, X), 0, 0) rfl (ym_sb hS 18 rfl (by omega) (by omega) (by omega)) ?_
            generalize w158 : yi_u I155 101 (m.toNat) 1 = I157
            refine yi_G_run 2 (96, [(4, .inl (1 + m)), (3, .inl (1 + m)), (0, .inr (.inr (some 82))), (1, .inl m), (2, .inl bk)], [.inl bk, .inr (.inr (some 82))], (I157, L152, X), 0, 0) (fun _ => rfl) ?_
            by_cases h159 : bk = 0
            · refine yi_G_if1 true rfl (yi_eq_t h159) ?_
              refine yi_G_run 1 (104, [(4, .inl (1 + m)), (3, .inl (1 + m)), (0, .inr (.inr (some 82))), (1, .inl m), (2, .inl bk)], [.inr (.inr (some 82)), .inr (.inr (some 82))], (I157, L152, X), 0, 0) (fun _ => rfl) ?_
              have r160 : I157 82 30 = I 82 30 := by rw [← w158, yi_u_ne _ _ (by omega), ← w156, yi_u_ne _ _ (by omega), fI150 82 (30) (by omega), ← w2, yi_u_ne _ _ (by omega)]
              refine yi_G_get (107, [(4, .inl (1 + m)), (3, .inl (1 + m)), (0, .inr (.inr (some 82))), (1, .inl m), (2, .inl bk)], [.inl (I 82 30), .inr (.inr (some 82))], (I157, L152, X), 0, 0) rfl (ym_gi hS rfl rfl r160) ?_
              have r161 : I157 82 30 = I 82 30 := by rw [← w158, yi_u_ne _ _ (by omega), ← w156, yi_u_ne _ _ (by omega), fI150 82 (30) (by omega), ← w2, yi_u_ne _ _ (by omega)]
              have ub9 := hST.2.1.1
              refine yi_G_put (110, [(4, .inl (1 + m)), (3, .inl (1 + m)), (0, .inr (.inr (some 82))), (1, .inl m), (2, .inl bk)], [], ((yi_u I157 82 30 (I 82 30)), L152, X), 0, 0) rfl (ym_pi hS rfl rfl) ?_
              generalize w163 : yi_u I157 82 30 (I 82 30) = I162
              refine yi_G_run 1 (111, [(4, .inl (1 + m)), (3, .inl (1 + m)), (0, .inr (.inr (some 82))), (1, .inl m), (2, .inl bk)], [.inl 1], (I162, L152, X), 0, 0) (fun _ => rfl) ?_
              exact yi_G_retb rfl rfl (by decide) (⟨_, _, _, rfl, (fun p k hp => by rw [← w163, yi_u_ne _ _ (fun z => by omega), ← w158, yi_u_ne _ _ (fun z => by omega), ← w156, yi_u_ne _ _ (fun z => by omega), fI150 p k (by omega), ← w2, yi_u_ne _ _ (fun z => by omega)]), (fun p k hp => by rw [f153 p k (by omega), f147 p k (by omega)]), (by rw [← w163]; exact ym_ST_30 (by rw [← w158]; exact ym_ST_101 (by rw [← w156]; exact ym_ST_102 stI150 (by omega)) (by omega) (ym_SB_t (by omega) (fun k => by rw [← w156, yi_u_ne _ _ (by omega)]) sbI150)) (by omega) (by omega))⟩)
            · refine yi_G_if1 false rfl (yi_eq_f h159) ?_
              refine yi_G_run 2 (107, [(4, .inl (1 + m)), (3, .inl (1 + m)), (0, .inr (.inr (some 82))), (1, .inl m), (2, .inl bk)], [.inl 0, .inr (.inr (some 82))], (I157, L152, X), 0, 0) (fun _ => rfl) ?_
              have r164 : I157 82 30 = I 82 30 := by rw [← w158, yi_u_ne _ _ (by omega), ← w156, yi_u_ne _ _ (by omega), fI150 82 (30) (by omega), ← w2, yi_u_ne _ _ (by omega)]
              have ub9 := hST.2.1.1
              refine yi_G_put (110, [(4, .inl (1 + m)), (3, .inl (1 + m)), (0, .inr (.inr (some 82))), (1, .inl m), (2, .inl bk)], [], ((yi_u I157 82 30 0), L152, X), 0, 0) rfl (ym_pi hS rfl rfl) ?_
              generalize w166 : yi_u I157 82 30 0 = I165
              refine yi_G_run 1 (111, [(4, .inl (1 + m)), (3, .inl (1 + m)), (0, .inr (.inr (some 82))), (1, .inl m), (2, .inl bk)], [.inl 1], (I165, L152, X), 0, 0) (fun _ => rfl) ?_
              exact yi_G_retb rfl rfl (by decide) (⟨_, _, _, rfl, (fun p k hp => by rw [← w166, yi_u_ne _ _ (fun z => by omega), ← w158, yi_u_ne _ _ (fun z => by omega), ← w156, yi_u_ne _ _ (fun z => by omega), fI150 p k (by omega), ← w2, yi_u_ne _ _ (fun z => by omega)]), (fun p k hp => by rw [f153 p k (by omega), f147 p k (by omega)]), (by rw [← w166]; exact ym_ST_30 (by rw [← w158]; exact ym_ST_101 (by rw [← w156]; exact ym_ST_102 stI150 (by omega)) (by omega) (ym_SB_t (by omega) (fun k => by rw [← w156, yi_u_ne _ _ (by omega)]) sbI150)) (by omega) (by omega))⟩)
          · refine yi_G_if1 false rfl (yi_eq_f h144) ?_
            refine yi_G_run 6 (58, [(4, .inl 0), (3, .inl (1 + m)), (0, .inr (.inr (some 82))), (1, .inl m), (2, .inl bk)], [.inl 0, .inl (1 + m), .inr (.inr (some 82))], (I1, L, X), 0, 0) (fun _ => rfl) ?_
            have stm : ym_ST I1 := (ym_ST_t (fun k => by rw [← w2, yi_u_ne _ _ (by omega)]) (by rw [← w2, yi_u_ne _ _ (by omega)]) (fun k => by rw [← w2, yi_u_ne _ _ (by omega)]) (fun k => by rw [← w2, yi_u_ne _ _ (by omega)]) hST)
            have r167 : I1 101 (m.toNat) = I 101 (m.toNat) := by rw [← w2, yi_u_ne _ _ (by omega)]
            have sbfr : ym_SB I1 (1 + m) := ((stm.2.2 m (by omega) (by omega)).2.2 (by omega) (by omega))
            have r171 : I1 82 25 = I 82 25 := by rw [← w2, yi_u_ne _ _ (by omega)]
            refine yi_G_callv rfl rfl (ym_rcv hS) rfl (c_copies (fr := 1 + m) (to := 0) d (by omega) hS (by omega) (by omega) (by omega) (by omega) (ym_SB_0 sbfr) ⟨(by rw [r171]; omega), (by rw [r171]; omega)⟩) ?_
            rintro _ ⟨L168, rfl, f169⟩
            show yi_G zi_Ms d zi_m82 (61, [(4, .inl 0), (3, .inl (1 + m)), (0, .inr (.inr (some 82))), (1, .inl m), (2, .inl bk)], [], ((ym_cp I1 (1 + m) 0), L168, X), 0, 0) _
            refine yi_G_run 3 (65, [(4, .inl 0), (3, .inl (1 + m)), (0, .inr (.inr (some 82))), (1, .inl m), (2, .inl bk)], [.inl (1 + m), .inl 33, .inr (.inr (some 82))], ((ym_cp I1 (1 + m) 0), L168, X), 0, 0) (fun _ => rfl) ?_
            refine yi_G_iadd rfl (33 + (1 + m)) (yi_wn (by omega) (by omega)) ?_
            refine yi_G_run 2 (70, [(4, .inl 0), (3, .inl (1 + m)), (0, .inr (.inr (some 82))), (1, .inl m), (2, .inl bk)], [.inl 0, .inl 33, .inl (33 + (1 + m)), .inr (.inr (some 82))], ((ym_cp I1 (1 + m) 0), L168, X), 0, 0) (fun _ => rfl) ?_
            refine yi_G_iadd rfl (33) (by decide) ?_
            generalize wI172 : ym_cp I1 (1 + m) 0 = I172
            have fI172 : ∀ p k, p ≠ 100 → I172 p k = I1 p k := fun p k hp => by rw [← wI172]; exact ym_cp_p hp
            have stI172 : ym_ST I172 := by rw [← wI172]; exact ym_ST_cp stm sbfr (by omega) (by omega)
            have sbI172 : ym_SB I172 (1 + m) := by rw [← wI172]; exact ym_cp_ne (by omega) (by omega) (by omega) sbfr
            have r173 : I172 82 25 = I 82 25 := by rw [fI172 82 (25) (by omega), ← w2, yi_u_ne _ _ (by omega)]
            refine yi_G_callv rfl rfl (ym_rcv hS) rfl (w_copiesRow (by omega) hS (by omega) (by omega) (by omega) (by omega) (by rw [r173]; omega) (by rw [r173]; omega)) ?_
            rintro _ ⟨L174, rfl, f175⟩
            show yi_G zi_Ms d zi_m82 (74, [(4, .inl 0), (3, .inl (1 + m)), (0, .inr (.inr (some 82))), (1, .inl m), (2, .inl bk)], [], (I172, L174, X), 0, 0) _
            refine yi_G_run 1 (75, [(4, .inl 0), (3, .inl (1 + m)), (0, .inr (.inr (some 82))), (1, .inl m), (2, .inl bk)], [.inr (.inr (some 82))], (I172, L174, X), 0, 0) (fun _ => rfl) ?_
            refine yi_G_get (78, [(4, .inl 0), (3, .inl (1 + m)), (0, .inr (.inr (some 82))), (1, .inl m), (2, .inl bk)], [.inr (.inr (some 102))], (I172, L174, X), 0, 0) rfl (ym_gr hS 19 rfl rfl rfl) ?_
            refine yi_G_run 2 (81, [(4, .inl 0), (3, .inl (1 + m)), (0, .inr (.inr (some 82))), (1, .inl m), (2, .inl bk)], [.inr (.inr (some 82)), .inl 0, .inr (.inr (some 102))], (I172, L174, X), 0, 0) (fun _ => rfl) ?_
            refine yi_G_get (84, [(4, .inl 0), (3, .inl (1 + m)), (0, .inr (.inr (some 82))), (1, .inl m), (2, .inl bk)], [.inr (.inr (some 102)), .inl 0, .inr (.inr (some 102))], (I172, L174, X), 0, 0) rfl (ym_gr hS 19 rfl rfl rfl) ?_
            refine yi_G_run 1 (85, [(4, .inl 0), (3, .inl (1 + m)), (0, .inr (.inr (some 82))), (1, .inl m), (2, .inl bk)], [.inl (1 + m), .inr (.inr (some 102)), .inl 0, .inr (.inr (some 102))], (I172, L174, X), 0, 0) (fun _ => rfl) ?_
            have r176 : I172 102 ((1 + m).toNat) = I 102 ((1 + m).toNat) := by rw [fI172 102 ((1 + m).toNat) (by omega), ← w2, yi_u_ne _ _ (by omega)]
            refine yi_G_bald (86, [(4, .inl 0), (3, .inl (1 + m)), (0, .inr (.inr (some 82))), (1, .inl m), (2, .inl bk)], [.inl (I 102 ((1 + m).toNat)), .inl 0, .inr (.inr (some 102))], (I172, L174, X), 0, 0) rfl (ym_lb hS 19 rfl (by omega) (by omega) r176) ?_
            have hb9 := (hST.2.2 (1 + m) (by omega) (by omega)).2.1
            refine yi_G_bast (87, [(4, .inl 0), (3, .inl (1 + m)), (0, .inr (.inr (some 82))), (1, .inl m), (2, .inl bk)], [], ((yi_u I172 102 0 (I 102 ((1 + m).toNat))), L174, X), 0, 0) rfl (ym_sb hS 19 rfl (by omega) (by omega) (by omega)) ?_
            generalize w178 : yi_u I172 102 0 (I 102 ((1 + m).toNat)) = I177
            refine yi_G_run 1 (88, [(4, .inl 0), (3, .inl (1 + m)), (0, .inr (.inr (some 82))), (1, .inl m), (2, .inl bk)], [.inr (.inr (some 82))], (I177, L174, X), 0, 0) (fun _ => rfl) ?_
            refine yi_G_get (91, [(4, .inl 0), (3, .inl (1 + m)), (0, .inr (.inr (some 82))), (1, .inl m), (2, .inl bk)], [.inr (.inr (some 101))], (I177, L174, X), 0, 0) rfl (ym_gr hS 18 rfl rfl rfl) ?_
            refine yi_G_run 2 (93, [(4, .inl 0), (3, .inl (1 + m)), (0, .inr (.inr (some 82))), (1, .inl m), (2, .inl bk)], [.inl 1, .inl m, .inr (.inr (some 101))], (I177, L174, X), 0, 0) (fun _ => rfl) ?_
            refine yi_G_bast (94, [(4, .inl 0), (3, .inl (1 + m)), (0, .inr (.inr (some 82))), (1, .inl m), (2, .inl bk)], [], ((yi_u I177 101 (m.toNat) 1), L174, X), 0, 0) rfl (ym_sb hS 18 rfl (by omega) (by omega) (by omega)) ?_
            generalize w180 : yi_u I177 101 (m.toNat) 1 = I179
            refine yi_G_run 2 (96, [(4, .inl 0), (3, .inl (1 + m)), (0, .inr (.inr (some 82))), (1, .inl m), (2, .inl bk)], [.inl bk, .inr (.inr (some 82))], (I179, L174, X), 0, 0) (fun _ => rfl) ?_
            by_cases h181 : bk = 0
            · refine yi_G_if1 true rfl (yi_eq_t h181) ?_
              refine yi_G_run 1 (104, [(4, .inl 0), (3, .inl (1 + m)), (0, .inr (.inr (some 82))), (1, .inl m), (2, .inl bk)], [.inr (.inr (some 82)), .inr (.inr (some 82))], (I179, L174, X), 0, 0) (fun _ => rfl) ?_
              have r182 : I179 82 30 = I 82 30 := by rw [← w180, yi_u_ne _ _ (by omega), ← w178, yi_u_ne _ _ (by omega), fI172 82 (30) (by omega), ← w2, yi_u_ne _ _ (by omega)]
              refine yi_G_get (107, [(4, .inl 0), (3, .inl (1 + m)), (0, .inr (.inr (some 82))), (1, .inl m), (2, .inl bk)], [.inl (I 82 30), .inr (.inr (some 82))], (I179, L174, X), 0, 0) rfl (ym_gi hS rfl rfl r182) ?_
              have r183 : I179 82 30 = I 82 30 := by rw [← w180, yi_u_ne _ _ (by omega), ← w178, yi_u_ne _ _ (by omega), fI172 82 (30) (by omega), ← w2, yi_u_ne _ _ (by omega)]
              have ub9 := hST.2.1.1
              refine yi_G_put (110, [(4, .inl 0), (3, .inl (1 + m)), (0, .inr (.inr (some 82))), (1, .inl m), (2, .inl bk)], [], ((yi_u I179 82 30 (I 82 30)), L174, X), 0, 0) rfl (ym_pi hS rfl rfl) ?_
              generalize w185 : yi_u I179 82 30 (I 82 30) = I184
              refine yi_G_run 1 (111, [(4, .inl 0), (3, .inl (1 + m)), (0, .inr (.inr (some 82))), (1, .inl m), (2, .inl bk)], [.inl 1], (I184, L174, X), 0, 0) (fun _ => rfl) ?_
              exact yi_G_retb rfl rfl (by decide) (⟨_, _, _, rfl, (fun p k hp => by rw [← w185, yi_u_ne _ _ (fun z => by omega), ← w180, yi_u_ne _ _ (fun z => by omega), ← w178, yi_u_ne _ _ (fun z => by omega), fI172 p k (by omega), ← w2, yi_u_ne _ _ (fun z => by omega)]), (fun p k hp => by rw [f175 p k (by omega), f169 p k (by omega)]), (by rw [← w185]; exact ym_ST_30 (by rw [← w180]; exact ym_ST_101 (by rw [← w178]; exact ym_ST_102 stI172 (by omega)) (by omega) (ym_SB_t (by omega) (fun k => by rw [← w178, yi_u_ne _ _ (by omega)]) sbI172)) (by omega) (by omega))⟩)
            · refine yi_G_if1 false rfl (yi_eq_f h181) ?_
              refine yi_G_run 2 (107, [(4, .inl 0), (3, .inl (1 + m)), (0, .inr (.inr (some 82))), (1, .inl m), (2, .inl bk)], [.inl 0, .inr (.inr (some 82))], (I179, L174, X), 0, 0) (fun _ => rfl) ?_
              have r186 : I179 82 30 = I 82 30 := by rw [← w180, yi_u_ne _ _ (by omega), ← w178, yi_u_ne _ _ (by omega), fI172 82 (30) (by omega), ← w2, yi_u_ne _ _ (by omega)]
              have ub9 := hST.2.1.1
              refine yi_G_put (110, [(4, .inl 0), (3, .inl (1 + m)), (0, .inr (.inr (some 82))), (1, .inl m), (2, .inl bk)], [], ((yi_u I179 82 30 0), L174, X), 0, 0) rfl (ym_pi hS rfl rfl) ?_
              generalize w188 : yi_u I179 82 30 0 = I187
              refine yi_G_run 1 (111, [(4, .inl 0), (3, .inl (1 + m)), (0, .inr (.inr (some 82))), (1, .inl m), (2, .inl bk)], [.inl 1], (I187, L174, X), 0, 0) (fun _ => rfl) ?_
              exact yi_G_retb rfl rfl (by decide) (⟨_, _, _, rfl, (fun p k hp => by rw [← w188, yi_u_ne _ _ (fun z => by omega), ← w180, yi_u_ne _ _ (fun z => by omega), ← w178, yi_u_ne _ _ (fun z => by omega), fI172 p k (by omega), ← w2, yi_u_ne _ _ (fun z => by omega)]), (fun p k hp => by rw [f175 p k (by omega), f169 p k (by omega)]), (by rw [← w188]; exact ym_ST_30 (by rw [← w180]; exact ym_ST_101 (by rw [← w178]; exact ym_ST_102 stI172 (by omega)) (by omega) (ym_SB_t (by omega) (fun k => by rw [← w178, yi_u_ne _ _ (by omega)]) sbI172)) (by omega) (by omega))⟩)
  · show yi_G zi_Ms d zi_m82 (11, [(0, .inr (.inr (some 82))), (1, .inl m), (2, .inl bk)], [.inl 0], (I1, L, X), 0, 0) _
    refine yi_G_if1 true rfl (by decide) ?_
    refine yi_G_run 1 (28, [(0, .inr (.inr (some 82))), (1, .inl m), (2, .inl bk)], [.inl 0], (I1, L, X), 0, 0) (fun _ => rfl) ?_
    exact yi_G_retb rfl rfl (by decide) (⟨_, _, _, rfl, (fun p k hp => by rw [← w2, yi_u_ne _ _ (fun z => by omega)]), (fun _ _ _ => rfl), (ym_ST_t (fun k => by rw [← w2, yi_u_ne _ _ (by omega)]) (by rw [← w2, yi_u_ne _ _ (by omega)]) (fun k => by rw [← w2, yi_u_ne _ _ (by omega)]) (fun k => by rw [← w2, yi_u_ne _ _ (by omega)]) hST)⟩)
theorem c_ask (D : Nat) (hD : 27 ≤ D) {I L : Nat → Nat → Int} {X : ym_X} (hS : ym_S X) (hLR : ym_LR I) (hST : ym_ST I) (hl : 0 ≤ I 82 25 ∧ I 82 25 ≤ 512) (hPW : ym_PW I) (hPK : ym_PK I) (hF : 1 ≤ I 82 24 ∧ I 82 24 ≤ 32768) (t9 : 0 ≤ I 82 2 ∧ I 82 2 ≤ 1000) (n0 : 0 ≤ I 82 18 ∧ I 82 18 ≤ 13) (n1 : 0 ≤ I 82 19 ∧ I 82 19 ≤ 13) : yi_E zi_Ms D 1 [.inr (.inr (some 82))] (I, L, X) (fun r => ∃ z I' L', r = (some (.inl z), (I', L', X), 0, 0) ∧ (∀ p k, ¬ (p = 82 ∧ k = 0) ∧ ¬ (p = 82 ∧ k = 2) ∧ ¬ (p = 82 ∧ k = 3) ∧ ¬ (p = 82 ∧ k = 7) ∧ ¬ (p = 82 ∧ k = 8) ∧ ¬ (p = 82 ∧ k = 13) ∧ ¬ (p = 82 ∧ k = 20) ∧ ¬ (p = 82 ∧ k = 28) ∧ ¬ (p = 82 ∧ k = 30) ∧ ¬ (p = 82 ∧ k = 33) ∧ p ≠ 84 ∧ p ≠ 85 ∧ p ≠ 89 ∧ p ≠ 90 ∧ p ≠ 95 ∧ p ≠ 96 ∧ p ≠ 99 ∧ p ≠ 100 ∧ p ≠ 102 → I' p k = I p k) ∧ (∀ p k, p ≠ 86 ∧ p ≠ 97 → L' p k = L p k) ∧ I' 82 2 = 0 ∧ ym_LW I I' 0 ∧ ym_ST I') := by
  obtain ⟨d, rfl⟩ : ∃ d, D = d + 1 := ⟨D - 1, by omega⟩
  refine yi_E_of (M := zi_m1) rfl rfl ?_
  obtain ⟨l0, l1, l2, l3, l4, l5⟩ := id hLR
  have hS0 := hST.1
  obtain ⟨t0, t1, t2, t3, t4⟩ := id hS0
  show yi_G zi_Ms d zi_m1 (0, [(0, .inr (.inr (some 82)))], [], (I, L, X), 0, 0) _
  refine yi_G_run 2 (2, [(0, .inr (.inr (some 82)))], [.inl 0, .inr (.inr (some 82))], (I, L, X), 0, 0) (fun _ => rfl) ?_
  refine yi_G_put (5, [(0, .inr (.inr (some 82)))], [], ((yi_u I 82 0 0), L, X), 0, 0) rfl (ym_pi hS rfl rfl) ?_
  generalize w2 : yi_u I 82 0 0 = I1
  refine yi_G_run 2 (7, [(0, .inr (.inr (some 82)))], [.inl 0, .inr (.inr (some 82))], (I1, L, X), 0, 0) (fun _ => rfl) ?_
  have r3 : I1 82 2 = I 82 2 := by rw [← w2, yi_u_ne _ _ (by omega)]
  have r4 : I1 82 18 = I 82 18 := by rw [← w2, yi_u_ne _ _ (by omega)]
  have r5 : I1 82 19 = I 82 19 := by rw [← w2, yi_u_ne _ _ (by omega)]
  have r10 : I1 82 18 = I 82 18 := by rw [← w2, yi_u_ne _ _ (by omega)]
  have r11 : I1 82 19 = I 82 19 := by rw [← w2, yi_u_ne _ _ (by omega)]
  refine yi_G_callv rfl rfl (ym_rcv hS) rfl (c_readAll d (by omega) hS (by decide) (ym_LR_t (fun k => by rw [← w2, yi_u_ne _ _ (fun z => absurd z.1 (by decide))]) hLR) ⟨by omega, by omega⟩ ⟨(by rw [r10]; omega), (by rw [r10]; omega)⟩ ⟨(by rw [r11]; omega), (by rw [r11]; omega)⟩) ?_
  rintro _ ⟨I6, L8, rfl, f7, f9, ra8, ra2, raw, rap⟩
  show yi_G zi_Ms d zi_m1 (10, [(0, .inr (.inr (some 82)))], [.inl 1100], (I6, L8, X), 0, 0) _
  refine yi_G_run 2 (12, [(1, .inl 1100), (0, .inr (.inr (some 82)))], [.inr (.inr (some 82))], (I6, L8, X), 0, 0) (fun _ => rfl) ?_
  refine yi_G_get (15, [(1, .inl 1100), (0, .inr (.inr (some 82)))], [.inl (I6 82 8)], (I6, L8, X), 0, 0) rfl (ym_gi hS rfl rfl rfl) ?_
  by_cases h12 : (I6 82 8) ≤ 0
  · refine yi_G_if1 true rfl (yi_le_t h12) ?_
    refine yi_G_run 4 (28, [(1, .inl 1100), (0, .inr (.inr (some 82)))], [.inl 0, .inl 1100, .inl 33, .inr (.inr (some 82))], (I6, L8, X), 0, 0) (fun _ => rfl) ?_
    obtain ⟨⟨ee, hpe⟩, htl⟩ := rap (by omega)
    have r17 : I6 82 24 = I 82 24 := by rw [f7 82 (24) (by omega), ← w2, yi_u_ne _ _ (by omega)]
    have r18 : I6 82 25 = I 82 25 := by rw [f7 82 (25) (by omega), ← w2, yi_u_ne _ _ (by omega)]
    refine yi_G_callv rfl rfl (ym_rcv hS) rfl (c_laysFormula d (by omega) hS (ym_LR_t (fun k => by rw [f7 88 k (by omega), ← w2, yi_u_ne _ _ (fun z => absurd z.1 (by decide))]) hLR) (ym_PW_t (fun k => by rw [f7 88 k (by omega), ← w2, yi_u_ne _ _ (fun z => absurd z.1 (by decide))]) (fun k => by rw [f7 98 k (by omega), ← w2, yi_u_ne _ _ (fun z => absurd z.1 (by decide))]) hPW) hpe (by omega) (by omega) ⟨(by rw [r17]; omega), (by rw [r17]; omega)⟩ ⟨(by rw [r18]; omega), (by rw [r18]; omega)⟩) ?_
    rintro _ ⟨I13, L15, rfl, f14, f16⟩
    show yi_G zi_Ms d zi_m1 (31, [(1, .inl 1100), (0, .inr (.inr (some 82)))], [], (I13, L15, X), 0, 0) _
    refine yi_G_run 1 (32, [(1, .inl 1100), (0, .inr (.inr (some 82)))], [.inr (.inr (some 82))], (I13, L15, X), 0, 0) (fun _ => rfl) ?_
    refine yi_G_get (35, [(1, .inl 1100), (0, .inr (.inr (some 82)))], [.inr (.inr (some 102))], (I13, L15, X), 0, 0) rfl (ym_gr hS 19 rfl rfl rfl) ?_
    refine yi_G_run 2 (37, [(1, .inl 1100), (0, .inr (.inr (some 82)))], [.inl 1, .inl 0, .inr (.inr (some 102))], (I13, L15, X), 0, 0) (fun _ => rfl) ?_
    refine yi_G_bast (38, [(1, .inl 1100), (0, .inr (.inr (some 82)))], [], ((yi_u I13 102 0 1), L15, X), 0, 0) rfl (ym_sb hS 19 rfl (by omega) (by omega) (by omega)) ?_
    generalize w20 : yi_u I13 102 0 1 = I19
    refine yi_G_run 1 (39, [(1, .inl 1100), (0, .inr (.inr (some 82)))], [.inl 0], (I19, L15, X), 0, 0) (fun _ => rfl) ?_
    have r21 : I19 82 2 = 0 := by rw [← w20, yi_u_ne _ _ (by omega), f14 82 (2) (by omega), ra2]
    exact yi_G_reti rfl rfl (⟨_, _, _, rfl, (fun p k hp => by rw [← w20, yi_u_ne _ _ (fun z => by omega), f14 p k (by omega), f7 p k (by omega), ← w2, yi_u_ne _ _ (fun z => by omega)]), (fun p k hp => by rw [f16 p k (by omega), f9 p k (by omega)]), by omega, (ym_LW_f (ym_LW_g raw (fun k => by rw [← w2, yi_u_ne _ _ (fun z => absurd z.1 (by decide))]) (fun k => by rw [← w2, yi_u_ne _ _ (fun z => absurd z.1 (by decide))])) (fun k => by rw [← w20, yi_u_ne _ _ (fun z => absurd z.1 (by decide)), f14 89 k (by omega)]) (fun k => by rw [← w20, yi_u_ne _ _ (fun z => absurd z.1 (by decide)), f14 90 k (by omega)])), (by rw [← w20]; exact ym_ST_102 (ym_ST_t (fun k => f14 100 k (by omega)) (f14 82 30 (by omega)) (fun k => f14 101 k (by omega)) (fun k => f14 102 k (by omega)) (ym_ST_t (fun k => f7 100 k (by omega)) (f7 82 30 (by omega)) (fun k => f7 101 k (by omega)) (fun k => f7 102 k (by omega)) (ym_ST_t (fun k => by rw [← w2, yi_u_ne _ _ (by omega)]) (by rw [← w2, yi_u_ne _ _ (by omega)]) (fun k => by rw [← w2, yi_u_ne _ _ (by omega)]) (fun k => by rw [← w2, yi_u_ne _ _ (by omega)]) hST))) (by omega))⟩)
  · refine yi_G_if1 false rfl (yi_le_f h12) ?_
    refine yi_G_run 1 (19, [(1, .inl 1100), (0, .inr (.inr (some 82)))], [.inr (.inr (some 82))], (I6, L8, X), 0, 0) (fun _ => rfl) ?_
    refine yi_G_get (22, [(1, .inl 1100), (0, .inr (.inr (some 82)))], [.inl (I6 82 8)], (I6, L8, X), 0, 0) rfl (ym_gi hS rfl rfl rfl) ?_
    have r22 : I6 82 2 = 0 := by rw [ra2]
    exact yi_G_reti rfl rfl (⟨_, _, _, rfl, (fun p k hp => by rw [f7 p k (by omega), ← w2, yi_u_ne _ _ (fun z => by omega)]), (fun p k hp => by rw [f9 p k (by omega)]), by omega, (ym_LW_g raw (fun k => by rw [← w2, yi_u_ne _ _ (fun z => absurd z.1 (by decide))]) (fun k => by rw [← w2, yi_u_ne _ _ (fun z => absurd z.1 (by decide))])), (ym_ST_t (fun k => f7 100 k (by omega)) (f7 82 30 (by omega)) (fun k => f7 101 k (by omega)) (fun k => f7 102 k (by omega)) (ym_ST_t (fun k => by rw [← w2, yi_u_ne _ _ (by omega)]) (by rw [← w2, yi_u_ne _ _ (by omega)]) (fun k => by rw [← w2, yi_u_ne _ _ (by omega)]) (fun k => by rw [← w2, yi_u_ne _ _ (by omega)]) hST))⟩)
theorem c_tell (D : Nat) (hD : 27 ≤ D) {I L : Nat → Nat → Int} {X : ym_X} (hS : ym_S X) (hLR : ym_LR I) (hST : ym_ST I) (hl : 0 ≤ I 82 25 ∧ I 82 25 ≤ 512) (hPW : ym_PW I) (hPK : ym_PK I) (hF : 1 ≤ I 82 24 ∧ I 82 24 ≤ 32768) (t9 : 0 ≤ I 82 2 ∧ I 82 2 ≤ 1000) (n0 : 0 ≤ I 82 18 ∧ I 82 18 ≤ 13) (n1 : 0 ≤ I 82 19 ∧ I 82 19 ≤ 13) : yi_E zi_Ms D 122 [.inr (.inr (some 82))] (I, L, X) (fun r => ∃ z I' L', r = (some (.inl z), (I', L', X), 0, 0) ∧ (∀ p k, ¬ (p = 82 ∧ k = 0) ∧ ¬ (p = 82 ∧ k = 2) ∧ ¬ (p = 82 ∧ k = 3) ∧ ¬ (p = 82 ∧ k = 7) ∧ ¬ (p = 82 ∧ k = 8) ∧ ¬ (p = 82 ∧ k = 13) ∧ ¬ (p = 82 ∧ k = 20) ∧ ¬ (p = 82 ∧ k = 28) ∧ ¬ (p = 82 ∧ k = 30) ∧ ¬ (p = 82 ∧ k = 33) ∧ p ≠ 84 ∧ p ≠ 85 ∧ p ≠ 89 ∧ p ≠ 90 ∧ p ≠ 95 ∧ p ≠ 96 ∧ p ≠ 99 ∧ p ≠ 100 ∧ p ≠ 102 → I' p k = I p k) ∧ (∀ p k, p ≠ 86 ∧ p ≠ 97 → L' p k = L p k) ∧ I' 82 2 = 0 ∧ ym_LW I I' 0 ∧ ym_ST I') := by
  obtain ⟨d, rfl⟩ : ∃ d, D = d + 1 := ⟨D - 1, by omega⟩
  refine yi_E_of (M := zi_m122) rfl rfl ?_
  obtain ⟨l0, l1, l2, l3, l4, l5⟩ := id hLR
  have hS0 := hST.1
  obtain ⟨t0, t1, t2, t3, t4⟩ := id hS0
  show yi_G zi_Ms d zi_m122 (0, [(0, .inr (.inr (some 82)))], [], (I, L, X), 0, 0) _
  refine yi_G_run 2 (2, [(0, .inr (.inr (some 82)))], [.inl 0, .inr (.inr (some 82))], (I, L, X), 0, 0) (fun _ => rfl) ?_
  refine yi_G_put (5, [(0, .inr (.inr (some 82)))], [], ((yi_u I 82 0 0), L, X), 0, 0) rfl (ym_pi hS rfl rfl) ?_
  generalize w2 : yi_u I 82 0 0 = I1
  refine yi_G_run 2 (7, [(0, .inr (.inr (some 82)))], [.inl 1, .inr (.inr (some 82))], (I1, L, X), 0, 0) (fun _ => rfl) ?_
  have r3 : I1 82 2 = I 82 2 := by rw [← w2, yi_u_ne _ _ (by omega)]
  have r4 : I1 82 18 = I 82 18 := by rw [← w2, yi_u_ne _ _ (by omega)]
  have r5 : I1 82 19 = I 82 19 := by rw [← w2, yi_u_ne _ _ (by omega)]
  have r10 : I1 82 18 = I 82 18 := by rw [← w2, yi_u_ne _ _ (by omega)]
  have r11 : I1 82 19 = I 82 19 := by rw [← w2, yi_u_ne _ _ (by omega)]
  refine yi_G_callv rfl rfl (ym_rcv hS) rfl (c_readAll d (by omega) hS (by decide) (ym_LR_t (fun k => by rw [← w2, yi_u_ne _ _ (fun z => absurd z.1 (by decide))]) hLR) ⟨by omega, by omega⟩ ⟨(by rw [r10]; omega), (by rw [r10]; omega)⟩ ⟨(by rw [r11]; omega), (by rw [r11]; omega)⟩) ?_
  rintro _ ⟨I6, L8, rfl, f7, f9, ra8, ra2, raw, rap⟩
  show yi_G zi_Ms d zi_m122 (10, [(0, .inr (.inr (some 82)))], [.inl 1100], (I6, L8, X), 0, 0) _
  refine yi_G_run 2 (12, [(1, .inl 1100), (0, .inr (.inr (some 82)))], [.inr (.inr (some 82))], (I6, L8, X), 0, 0) (fun _ => rfl) ?_
  refine yi_G_get (15, [(1, .inl 1100), (0, .inr (.inr (some 82)))], [.inl (I6 82 8)], (I6, L8, X), 0, 0) rfl (ym_gi hS rfl rfl rfl) ?_
  by_cases h12 : (I6 82 8) ≤ 0
  · refine yi_G_if1 true rfl (yi_le_t h12) ?_
    refine yi_G_run 1 (24, [(1, .inl 1100), (0, .inr (.inr (some 82)))], [.inr (.inr (some 82))], (I6, L8, X), 0, 0) (fun _ => rfl) ?_
    refine yi_G_get (27, [(1, .inl 1100), (0, .inr (.inr (some 82)))], [.inr (.inr (some 100))], (I6, L8, X), 0, 0) rfl (ym_gr hS 17 rfl rfl rfl) ?_
    refine yi_G_run 1 (28, [(1, .inl 1100), (0, .inr (.inr (some 82)))], [.inl 0, .inr (.inr (some 100))], (I6, L8, X), 0, 0) (fun _ => rfl) ?_
    have r13 : I6 100 0 = I 100 0 := by rw [f7 100 (0) (by omega), ← w2, yi_u_ne _ _ (by omega)]
    refine yi_G_iald (29, [(1, .inl 1100), (0, .inr (.inr (some 82)))], [.inl (I 100 0)], (I6, L8, X), 0, 0) rfl (ym_li hS 17 rfl (by omega) (by omega) r13) ?_
    refine yi_G_run 1 (31, [(1, .inl 1100), (0, .inr (.inr (some 82)))], [.inl 12, .inl (I 100 0)], (I6, L8, X), 0, 0) (fun _ => rfl) ?_
    by_cases h14 : (I 100 0) = 12
    · refine yi_G_if2 false rfl (yi_ne_f h14) ?_
      refine yi_G_run 1 (36, [(1, .inl 1100), (0, .inr (.inr (some 82)))], [.inl (-3)], (I6, L8, X), 0, 0) (fun _ => rfl) ?_
      have r15 : I6 82 2 = 0 := by rw [ra2]
      exact yi_G_reti rfl rfl (⟨_, _, _, rfl, (fun p k hp => by rw [f7 p k (by omega), ← w2, yi_u_ne _ _ (fun z => by omega)]), (fun p k hp => by rw [f9 p k (by omega)]), by omega, (ym_LW_g raw (fun k => by rw [← w2, yi_u_ne _ _ (fun z => absurd z.1 (by decide))]) (fun k => by rw [← w2, yi_u_ne _ _ (fun z => absurd z.1 (by decide))])), (ym_ST_t (fun k => f7 100 k (by omega)) (f7 82 30 (by omega)) (fun k => f7 101 k (by omega)) (fun k => f7 102 k (by omega)) (ym_ST_t (fun k => by rw [← w2, yi_u_ne _ _ (by omega)]) (by rw [← w2, yi_u_ne _ _ (by omega)]) (fun k => by rw [← w2, yi_u_ne _ _ (by omega)]) (fun k => by rw [← w2, yi_u_ne _ _ (by omega)]) hST))⟩)
    · refine yi_G_if2 true rfl (yi_ne_t h14) ?_
      refine yi_G_run 2 (39, [(1, .inl 1100), (0, .inr (.inr (some 82)))], [.inr (.inr (some 82)), .inr (.inr (some 82))], (I6, L8, X), 0, 0) (fun _ => rfl) ?_
      refine yi_G_get (42, [(1, .inl 1100), (0, .inr (.inr (some 82)))], [.inl (I6 82 33), .inr (.inr (some 82))], (I6, L8, X), 0, 0) rfl (ym_gi hS rfl rfl rfl) ?_
      obtain ⟨⟨ee, hpe⟩, htl⟩ := rap (by omega)
      replace htl := htl rfl
      refine yi_G_callv rfl rfl (ym_rcv hS) rfl (c_kindOf d (by omega) hS (by omega) (by omega)) ?_
      rintro _ rfl
      show yi_G zi_Ms d zi_m122 (45, [(1, .inl 1100), (0, .inr (.inr (some 82)))], [.inl (I6 88 (11 + 2 * (I6 82 33)).toNat)], (I6, L8, X), 0, 0) _
      refine yi_G_run 1 (46, [(1, .inl 1100), (0, .inr (.inr (some 82)))], [.inl 4, .inl (I6 88 (11 + 2 * (I6 82 33)).toNat)], (I6, L8, X), 0, 0) (fun _ => rfl) ?_
      by_cases h16 : (I6 88 (11 + 2 * (I6 82 33)).toNat) = 4
      · refine yi_G_if2 false rfl (yi_ne_f h16) ?_
        refine yi_G_run 2 (51, [(1, .inl 1100), (0, .inr (.inr (some 82)))], [.inl 1100, .inr (.inr (some 82))], (I6, L8, X), 0, 0) (fun _ => rfl) ?_
        skip
        refine yi_G_callv rfl rfl (ym_rcv hS) rfl (c_isNaming d (by omega) hS (ym_LR_t (fun k => by rw [f7 88 k (by omega), ← w2, yi_u_ne _ _ (fun z => absurd z.1 (by decide))]) hLR) hpe) ?_
        rintro _ (rfl | rfl)
        · show yi_G zi_Ms d zi_m122 (54, [(1, .inl 1100), (0, .inr (.inr (some 82)))], [.inl 1], (I6, L8, X), 0, 0) _
          refine yi_G_if1 false rfl (by decide) ?_
          refine yi_G_run 1 (59, [(1, .inl 1100), (0, .inr (.inr (some 82)))], [.inl (-2)], (I6, L8, X), 0, 0) (fun _ => rfl) ?_
          have r17 : I6 82 2 = 0 := by rw [ra2]
          exact yi_G_reti rfl rfl (⟨_, _, _, rfl, (fun p k hp => by rw [f7 p k (by omega), ← w2, yi_u_ne _ _ (fun z => by omega)]), (fun p k hp => by rw [f9 p k (by omega)]), by omega, (ym_LW_g raw (fun k => by rw [← w2, yi_u_ne _ _ (fun z => absurd z.1 (by decide))]) (fun k => by rw [← w2, yi_u_ne _ _ (fun z => absurd z.1 (by decide))])), (ym_ST_t (fun k => f7 100 k (by omega)) (f7 82 30 (by omega)) (fun k => f7 101 k (by omega)) (fun k => f7 102 k (by omega)) (ym_ST_t (fun k => by rw [← w2, yi_u_ne _ _ (by omega)]) (by rw [← w2, yi_u_ne _ _ (by omega)]) (fun k => by rw [← w2, yi_u_ne _ _ (by omega)]) (fun k => by rw [← w2, yi_u_ne _ _ (by omega)]) hST))⟩)
        · show yi_G zi_Ms d zi_m122 (54, [(1, .inl 1100), (0, .inr (.inr (some 82)))], [.inl 0], (I6, L8, X), 0, 0) _
          refine yi_G_if1 true rfl (by decide) ?_
          refine yi_G_run 1 (61, [(1, .inl 1100), (0, .inr (.inr (some 82)))], [.inr (.inr (some 82))], (I6, L8, X), 0, 0) (fun _ => rfl) ?_
          have r21 : I6 82 25 = I 82 25 := by rw [f7 82 (25) (by omega), ← w2, yi_u_ne _ _ (by omega)]
          refine yi_G_callv rfl rfl (ym_rcv hS) rfl (c_findLeft d (by omega) hS (ym_LR_t (fun k => by rw [f7 88 k (by omega), ← w2, yi_u_ne _ _ (fun z => absurd z.1 (by decide))]) hLR) (ym_S0_t (fun k => by rw [f7 100 k (by omega), ← w2, yi_u_ne _ _ (fun z => absurd z.1 (by decide))]) hS0) ⟨(by rw [r21]; omega), (by rw [r21]; omega)⟩) ?_
          rintro _ ⟨z20, L18, rfl, f19⟩
          show yi_G zi_Ms d zi_m122 (64, [(1, .inl 1100), (0, .inr (.inr (some 82)))], [.inl z20], (I6, L18, X), 0, 0) _
          refine yi_G_run 6 (71, [(2, .inl z20), (1, .inl 1100), (0, .inr (.inr (some 82)))], [.inr (.inr (some 82)), .inr (.inr (some 82)), .inl 1100, .inl 38, .inr (.inr (some 82))], (I6, L18, X), 0, 0) (fun _ => rfl) ?_
          refine yi_G_get (74, [(2, .inl z20), (1, .inl 1100), (0, .inr (.inr (some 82)))], [.inl (I6 82 33), .inr (.inr (some 82)), .inl 1100, .inl 38, .inr (.inr (some 82))], (I6, L18, X), 0, 0) rfl (ym_gi hS rfl rfl rfl) ?_
          refine yi_G_callv rfl rfl (ym_rcv hS) rfl (c_kindOf d (by omega) hS (by omega) (by omega)) ?_
          rintro _ rfl
          show yi_G zi_Ms d zi_m122 (77, [(2, .inl z20), (1, .inl 1100), (0, .inr (.inr (some 82)))], [.inl (I6 88 (11 + 2 * (I6 82 33)).toNat), .inl 1100, .inl 38, .inr (.inr (some 82))], (I6, L18, X), 0, 0) _
          skip
          have r26 : I6 82 24 = I 82 24 := by rw [f7 82 (24) (by omega), ← w2, yi_u_ne _ _ (by omega)]
          have r27 : I6 82 25 = I 82 25 := by rw [f7 82 (25) (by omega), ← w2, yi_u_ne _ _ (by omega)]
          refine yi_G_callv rfl rfl (ym_rcv hS) rfl (c_laysFormula d (by omega) hS (ym_LR_t (fun k => by rw [f7 88 k (by omega), ← w2, yi_u_ne _ _ (fun z => absurd z.1 (by decide))]) hLR) (ym_PW_t (fun k => by rw [f7 88 k (by omega), ← w2, yi_u_ne _ _ (fun z => absurd z.1 (by decide))]) (fun k => by rw [f7 98 k (by omega), ← w2, yi_u_ne _ _ (fun z => absurd z.1 (by decide))]) hPW) hpe (by omega) (by omega) ⟨(by rw [r26]; omega), (by rw [r26]; omega)⟩ ⟨(by rw [r27]; omega), (by rw [r27]; omega)⟩) ?_
          rintro _ ⟨I22, L24, rfl, f23, f25⟩
          show yi_G zi_Ms d zi_m122 (80, [(2, .inl z20), (1, .inl 1100), (0, .inr (.inr (some 82)))], [], (I22, L24, X), 0, 0) _
          refine yi_G_run 3 (85, [(2, .inl z20), (1, .inl 1100), (0, .inr (.inr (some 82)))], [.inl 38, .inl 39, .inr (.inr (some 82))], (I22, L24, X), 0, 0) (fun _ => rfl) ?_
          have r28 : I22 82 25 = I 82 25 := by rw [f23 82 (25) (by omega), f7 82 (25) (by omega), ← w2, yi_u_ne _ _ (by omega)]
          refine yi_G_callv rfl rfl (ym_rcv hS) rfl (w_manyBoth (by omega) hS (by omega) (by omega) (by omega) (by omega) (by rw [r28]; omega) (by rw [r28]; omega)) ?_
          rintro _ ⟨z29, rfl⟩
          show yi_G zi_Ms d zi_m122 (88, [(2, .inl z20), (1, .inl 1100), (0, .inr (.inr (some 82)))], [.inl z29], (I22, L24, X), 0, 0) _
          refine yi_G_run 2 (90, [(3, .inl z29), (2, .inl z20), (1, .inl 1100), (0, .inr (.inr (some 82)))], [.inl z29], (I22, L24, X), 0, 0) (fun _ => rfl) ?_
          by_cases h30 : z29 = 0
          · refine yi_G_if1 false rfl (yi_ne_f h30) ?_
            refine yi_G_run 1 (94, [(3, .inl z29), (2, .inl z20), (1, .inl 1100), (0, .inr (.inr (some 82)))], [.inl (-1)], (I22, L24, X), 0, 0) (fun _ => rfl) ?_
            have r31 : I22 82 2 = 0 := by rw [f23 82 (2) (by omega), ra2]
            exact yi_G_reti rfl rfl (⟨_, _, _, rfl, (fun p k hp => by rw [f23 p k (by omega), f7 p k (by omega), ← w2, yi_u_ne _ _ (fun z => by omega)]), (fun p k hp => by rw [f25 p k (by omega), f19 p k (by omega), f9 p k (by omega)]), by omega, (ym_LW_f (ym_LW_g raw (fun k => by rw [← w2, yi_u_ne _ _ (fun z => absurd z.1 (by decide))]) (fun k => by rw [← w2, yi_u_ne _ _ (fun z => absurd z.1 (by decide))])) (fun k => by rw [f23 89 k (by omega)]) (fun k => by rw [f23 90 k (by omega)])), (ym_ST_t (fun k => f23 100 k (by omega)) (f23 82 30 (by omega)) (fun k => f23 101 k (by omega)) (fun k => f23 102 k (by omega)) (ym_ST_t (fun k => f7 100 k (by omega)) (f7 82 30 (by omega)) (fun k => f7 101 k (by omega)) (fun k => f7 102 k (by omega)) (ym_ST_t (fun k => by rw [← w2, yi_u_ne _ _ (by omega)]) (by rw [← w2, yi_u_ne _ _ (by omega)]) (fun k => by rw [← w2, yi_u_ne _ _ (by omega)]) (fun k => by rw [← w2, yi_u_ne _ _ (by omega)]) hST)))⟩)
          · refine yi_G_if1 true rfl (yi_ne_t h30) ?_
            refine yi_G_run 1 (96, [(3, .inl z29), (2, .inl z20), (1, .inl 1100), (0, .inr (.inr (some 82)))], [.inr (.inr (some 82))], (I22, L24, X), 0, 0) (fun _ => rfl) ?_
            have r32 : I22 82 25 = I 82 25 := by rw [f23 82 (25) (by omega), f7 82 (25) (by omega), ← w2, yi_u_ne _ _ (by omega)]
            have stb : ym_ST I22 := (ym_ST_t (fun k => f23 100 k (by omega)) (f23 82 30 (by omega)) (fun k => f23 101 k (by omega)) (fun k => f23 102 k (by omega)) (ym_ST_t (fun k => f7 100 k (by omega)) (f7 82 30 (by omega)) (fun k => f7 101 k (by omega)) (fun k => f7 102 k (by omega)) (ym_ST_t (fun k => by rw [← w2, yi_u_ne _ _ (by omega)]) (by rw [← w2, yi_u_ne _ _ (by omega)]) (fun k => by rw [← w2, yi_u_ne _ _ (by omega)]) (fun k => by rw [← w2, yi_u_ne _ _ (by omega)]) hST)))
            refine yi_G_callv rfl rfl (ym_rcv hS) rfl (c_keeps d (by omega) hS stb.2.1 ((ym_S0_iff _).mp stb.1) ⟨(by rw [r32]; omega), (by rw [r32]; omega)⟩) ?_
            rintro _ ⟨I33, L35, rfl, f34, f36, ubk, lok⟩
            have stI33 : ym_ST I33 := ym_ST_k stb ubk lok (fun k => f34 101 k (by omega)) (fun k => f34 102 k (by omega))
            show yi_G zi_Ms d zi_m122 (99, [(3, .inl z29), (2, .inl z20), (1, .inl 1100), (0, .inr (.inr (some 82)))], [], (I33, L35, X), 0, 0) _
            have pt119 : ∀ (Jp : Nat → Nat → Int), (∀ p k, p ≠ 95 → Jp p k = I33 p k) → yi_G zi_Ms d zi_m122 (119, [(3, .inl z29), (2, .inl z20), (1, .inl 1100), (0, .inr (.inr (some 82)))], [], (Jp, L35, X), 0, 0) (fun r => ∃ z I' L', r = (some (.inl z), (I', L', X), 0, 0) ∧ (∀ p k, ¬ (p = 82 ∧ k = 0) ∧ ¬ (p = 82 ∧ k = 2) ∧ ¬ (p = 82 ∧ k = 3) ∧ ¬ (p = 82 ∧ k = 7) ∧ ¬ (p = 82 ∧ k = 8) ∧ ¬ (p = 82 ∧ k = 13) ∧ ¬ (p = 82 ∧ k = 20) ∧ ¬ (p = 82 ∧ k = 28) ∧ ¬ (p = 82 ∧ k = 30) ∧ ¬ (p = 82 ∧ k = 33) ∧ p ≠ 84 ∧ p ≠ 85 ∧ p ≠ 89 ∧ p ≠ 90 ∧ p ≠ 95 ∧ p ≠ 96 ∧ p ≠ 99 ∧ p ≠ 100 ∧ p ≠ 102 → I' p k = I p k) ∧ (∀ p k, p ≠ 86 ∧ p ≠ 97 → L' p k = L p k) ∧ I' 82 2 = 0 ∧ ym_LW I I' 0 ∧ ym_ST I') := by
              intro Jp fJp 
              have pt139 : ∀ (Jq : Nat → Nat → Int), (∀ p k, p ≠ 95 → Jq p k = Jp p k) → yi_G zi_Ms d zi_m122 (139, [(3, .inl z29), (2, .inl z20), (1, .inl 1100), (0, .inr (.inr (some 82)))], [], (Jq, L35, X), 0, 0) (fun r => ∃ z I' L', r = (some (.inl z), (I', L', X), 0, 0) ∧ (∀ p k, ¬ (p = 82 ∧ k = 0) ∧ ¬ (p = 82 ∧ k = 2) ∧ ¬ (p = 82 ∧ k = 3) ∧ ¬ (p = 82 ∧ k = 7) ∧ ¬ (p = 82 ∧ k = 8) ∧ ¬ (p = 82 ∧ k = 13) ∧ ¬ (p = 82 ∧ k = 20) ∧ ¬ (p = 82 ∧ k = 28) ∧ ¬ (p = 82 ∧ k = 30) ∧ ¬ (p = 82 ∧ k = 33) ∧ p ≠ 84 ∧ p ≠ 85 ∧ p ≠ 89 ∧ p ≠ 90 ∧ p ≠ 95 ∧ p ≠ 96 ∧ p ≠ 99 ∧ p ≠ 100 ∧ p ≠ 102 → I' p k = I p k) ∧ (∀ p k, p ≠ 86 ∧ p ≠ 97 → L' p k = L p k) ∧ I' 82 2 = 0 ∧ ym_LW I I' 0 ∧ ym_ST I') := by
                intro Jq fJq 
                have pt178 : ∀ (pr : Int) (Jr : Nat → Nat → Int), (∀ p k, p ≠ 95 ∧ p ≠ 96 → Jr p k = Jq p k) → (Jr 100 0 = I 100 0) → yi_G zi_Ms d zi_m122 (178, [(3, .inl z29), (2, .inl z20), (1, .inl 1100), (0, .inr (.inr (some 82))), (4, .inl pr)], [], (Jr, L35, X), 0, 0) (fun r => ∃ z I' L', r = (some (.inl z), (I', L', X), 0, 0) ∧ (∀ p k, ¬ (p = 82 ∧ k = 0) ∧ ¬ (p = 82 ∧ k = 2) ∧ ¬ (p = 82 ∧ k = 3) ∧ ¬ (p = 82 ∧ k = 7) ∧ ¬ (p = 82 ∧ k = 8) ∧ ¬ (p = 82 ∧ k = 13) ∧ ¬ (p = 82 ∧ k = 20) ∧ ¬ (p = 82 ∧ k = 28) ∧ ¬ (p = 82 ∧ k = 30) ∧ ¬ (p = 82 ∧ k = 33) ∧ p ≠ 84 ∧ p ≠ 85 ∧ p ≠ 89 ∧ p ≠ 90 ∧ p ≠ 95 ∧ p ≠ 96 ∧ p ≠ 99 ∧ p ≠ 100 ∧ p ≠ 102 → I' p k = I p k) ∧ (∀ p k, p ≠ 86 ∧ p ≠ 97 → L' p k = L p k) ∧ I' 82 2 = 0 ∧ ym_LW I I' 0 ∧ ym_ST I') := by
                  intro pr Jr fJr jr0 
                  have pt203 : ∀ (pq : Int), yi_G zi_Ms d zi_m122 (203, [(3, .inl z29), (2, .inl z20), (1, .inl 1100), (0, .inr (.inr (some 82))), (4, .inl pq)], [], (Jr, L35, X), 0, 0) (fun r => ∃ z I' L', r = (some (.inl z), (I', L', X), 0, 0) ∧ (∀ p k, ¬ (p = 82 ∧ k = 0) ∧ ¬ (p = 82 ∧ k = 2) ∧ ¬ (p = 82 ∧ k = 3) ∧ ¬ (p = 82 ∧ k = 7) ∧ ¬ (p = 82 ∧ k = 8) ∧ ¬ (p = 82 ∧ k = 13) ∧ ¬ (p = 82 ∧ k = 20) ∧ ¬ (p = 82 ∧ k = 28) ∧ ¬ (p = 82 ∧ k = 30) ∧ ¬ (p = 82 ∧ k = 33) ∧ p ≠ 84 ∧ p ≠ 85 ∧ p ≠ 89 ∧ p ≠ 90 ∧ p ≠ 95 ∧ p ≠ 96 ∧ p ≠ 99 ∧ p ≠ 100 ∧ p ≠ 102 → I' p k = I p k) ∧ (∀ p k, p ≠ 86 ∧ p ≠ 97 → L' p k = L p k) ∧ I' 82 2 = 0 ∧ ym_LW I I' 0 ∧ ym_ST I') := by
                    intro pq  
                    refine yi_G_run 4 (209, [(3, .inl z29), (2, .inl z20), (1, .inl 1100), (0, .inr (.inr (some 82))), (4, .inl pq)], [.inr (.inr (some 82)), .inl 60, .inl 38, .inr (.inr (some 82))], (Jr, L35, X), 0, 0) (fun _ => rfl) ?_
                    refine yi_G_get (212, [(3, .inl z29), (2, .inl z20), (1, .inl 1100), (0, .inr (.inr (some 82))), (4, .inl pq)], [.inr (.inr (some 100)), .inl 60, .inl 38, .inr (.inr (some 82))], (Jr, L35, X), 0, 0) rfl (ym_gr hS 17 rfl rfl rfl) ?_
                    refine yi_G_run 1 (213, [(3, .inl z29), (2, .inl z20), (1, .inl 1100), (0, .inr (.inr (some 82))), (4, .inl pq)], [.inl 0, .inr (.inr (some 100)), .inl 60, .inl 38, .inr (.inr (some 82))], (Jr, L35, X), 0, 0) (fun _ => rfl) ?_
                    have r37 : Jr 100 0 = I33 100 0 := by rw [fJr 100 (0) (by omega), fJq 100 (0) (by omega), fJp 100 (0) (by omega)]
                    refine yi_G_iald (214, [(3, .inl z29), (2, .inl z20), (1, .inl 1100), (0, .inr (.inr (some 82))), (4, .inl pq)], [.inl (I33 100 0), .inl 60, .inl 38, .inr (.inr (some 82))], (Jr, L35, X), 0, 0) rfl (ym_li hS 17 rfl (by omega) (by omega) r37) ?_
                    refine yi_G_iadd rfl (60 + (I33 100 0)) (yi_wn (by omega) (by omega)) ?_
                    have r38 : Jr 82 25 = I 82 25 := by rw [fJr 82 (25) (by omega), fJq 82 (25) (by omega), fJp 82 (25) (by omega), f34 82 (25) (by omega), f23 82 (25) (by omega), f7 82 (25) (by omega), ← w2, yi_u_ne _ _ (by omega)]
                    refine yi_G_callv rfl rfl (ym_rcv hS) rfl (w_copiesRow (by omega) hS (by omega) (by omega) (by omega) (by omega) (by rw [r38]; omega) (by rw [r38]; omega)) ?_
                    rintro _ ⟨L39, rfl, f40⟩
                    show yi_G zi_Ms d zi_m122 (218, [(3, .inl z29), (2, .inl z20), (1, .inl 1100), (0, .inr (.inr (some 82))), (4, .inl pq)], [], (Jr, L39, X), 0, 0) _
                    refine yi_G_run 3 (222, [(3, .inl z29), (2, .inl z20), (1, .inl 1100), (0, .inr (.inr (some 82))), (4, .inl pq)], [.inr (.inr (some 82)), .inl 3, .inl 8], (Jr, L39, X), 0, 0) (fun _ => rfl) ?_
                    refine yi_G_get (225, [(3, .inl z29), (2, .inl z20), (1, .inl 1100), (0, .inr (.inr (some 82))), (4, .inl pq)], [.inr (.inr (some 100)), .inl 3, .inl 8], (Jr, L39, X), 0, 0) rfl (ym_gr hS 17 rfl rfl rfl) ?_
                    refine yi_G_run 1 (226, [(3, .inl z29), (2, .inl z20), (1, .inl 1100), (0, .inr (.inr (some 82))), (4, .inl pq)], [.inl 0, .inr (.inr (some 100)), .inl 3, .inl 8], (Jr, L39, X), 0, 0) (fun _ => rfl) ?_
                    have r41 : Jr 100 0 = I33 100 0 := by rw [fJr 100 (0) (by omega), fJq 100 (0) (by omega), fJp 100 (0) (by omega)]
                    refine yi_G_iald (227, [(3, .inl z29), (2, .inl z20), (1, .inl 1100), (0, .inr (.inr (some 82))), (4, .inl pq)], [.inl (I33 100 0), .inl 3, .inl 8], (Jr, L39, X), 0, 0) rfl (ym_li hS 17 rfl (by omega) (by omega) r41) ?_
                    refine yi_G_imul rfl (3 * (I33 100 0)) (yi_wn (by omega) (by omega)) ?_
                    refine yi_G_iadd rfl (8 + (3 * (I33 100 0))) (yi_wn (by omega) (by omega)) ?_
                    refine yi_G_run 2 (232, [(5, .inl (8 + (3 * (I33 100 0)))), (3, .inl z29), (2, .inl z20), (1, .inl 1100), (0, .inr (.inr (some 82))), (4, .inl pq)], [.inr (.inr (some 82))], (Jr, L39, X), 0, 0) (fun _ => rfl) ?_
                    refine yi_G_get (235, [(5, .inl (8 + (3 * (I33 100 0)))), (3, .inl z29), (2, .inl z20), (1, .inl 1100), (0, .inr (.inr (some 82))), (4, .inl pq)], [.inr (.inr (some 100))], (Jr, L39, X), 0, 0) rfl (ym_gr hS 17 rfl rfl rfl) ?_
                    refine yi_G_run 2 (238, [(5, .inl (8 + (3 * (I33 100 0)))), (3, .inl z29), (2, .inl z20), (1, .inl 1100), (0, .inr (.inr (some 82))), (4, .inl pq)], [.inr (.inr (some 82)), .inl (8 + (3 * (I33 100 0))), .inr (.inr (some 100))], (Jr, L39, X), 0, 0) (fun _ => rfl) ?_
                    have r42 : Jr 82 33 = I6 82 33 := by rw [fJr 82 (33) (by omega), fJq 82 (33) (by omega), fJp 82 (33) (by omega), f34 82 (33) (by omega), f23 82 (33) (by omega)]
                    refine yi_G_get (241, [(5, .inl (8 + (3 * (I33 100 0)))), (3, .inl z29), (2, .inl z20), (1, .inl 1100), (0, .inr (.inr (some 82))), (4, .inl pq)], [.inl (I6 82 33), .inl (8 + (3 * (I33 100 0))), .inr (.inr (some 100))], (Jr, L39, X), 0, 0) rfl (ym_gi hS rfl rfl r42) ?_
                    refine yi_G_iast (242, [(5, .inl (8 + (3 * (I33 100 0)))), (3, .inl z29), (2, .inl z20), (1, .inl 1100), (0, .inr (.inr (some 82))), (4, .inl pq)], [], ((yi_u Jr 100 ((8 + (3 * (I33 100 0))).toNat) (I6 82 33)), L39, X), 0, 0) rfl (ym_si hS 17 rfl (by omega) (by omega)) ?_
                    generalize w44 : yi_u Jr 100 ((8 + (3 * (I33 100 0))).toNat) (I6 82 33) = I43
                    refine yi_G_run 1 (243, [(5, .inl (8 + (3 * (I33 100 0)))), (3, .inl z29), (2, .inl z20), (1, .inl 1100), (0, .inr (.inr (some 82))), (4, .inl pq)], [.inr (.inr (some 82))], (I43, L39, X), 0, 0) (fun _ => rfl) ?_
                    refine yi_G_get (246, [(5, .inl (8 + (3 * (I33 100 0)))), (3, .inl z29), (2, .inl z20), (1, .inl 1100), (0, .inr (.inr (some 82))), (4, .inl pq)], [.inr (.inr (some 100))], (I43, L39, X), 0, 0) rfl (ym_gr hS 17 rfl rfl rfl) ?_
                    refine yi_G_run 2 (249, [(5, .inl (8 + (3 * (I33 100 0)))), (3, .inl z29), (2, .inl z20), (1, .inl 1100), (0, .inr (.inr (some 82))), (4, .inl pq)], [.inl 1, .inl (8 + (3 * (I33 100 0))), .inr (.inr (some 100))], (I43, L39, X), 0, 0) (fun _ => rfl) ?_
                    refine yi_G_iadd rfl ((8 + (3 * (I33 100 0))) + 1) (yi_wn (by omega) (by omega)) ?_
                    refine yi_G_run 1 (252, [(5, .inl (8 + (3 * (I33 100 0)))), (3, .inl z29), (2, .inl z20), (1, .inl 1100), (0, .inr (.inr (some 82))), (4, .inl pq)], [.inl pq, .inl ((8 + (3 * (I33 100 0))) + 1), .inr (.inr (some 100))], (I43, L39, X), 0, 0) (fun _ => rfl) ?_
                    refine yi_G_iast (253, [(5, .inl (8 + (3 * (I33 100 0)))), (3, .inl z29), (2, .inl z20), (1, .inl 1100), (0, .inr (.inr (some 82))), (4, .inl pq)], [], ((yi_u I43 100 (((8 + (3 * (I33 100 0))) + 1).toNat) pq), L39, X), 0, 0) rfl (ym_si hS 17 rfl (by omega) (by omega)) ?_
                    generalize w46 : yi_u I43 100 (((8 + (3 * (I33 100 0))) + 1).toNat) pq = I45
                    refine yi_G_run 1 (254, [(5, .inl (8 + (3 * (I33 100 0)))), (3, .inl z29), (2, .inl z20), (1, .inl 1100), (0, .inr (.inr (some 82))), (4, .inl pq)], [.inr (.inr (some 82))], (I45, L39, X), 0, 0) (fun _ => rfl) ?_
                    refine yi_G_get (257, [(5, .inl (8 + (3 * (I33 100 0)))), (3, .inl z29), (2, .inl z20), (1, .inl 1100), (0, .inr (.inr (some 82))), (4, .inl pq)], [.inr (.inr (some 100))], (I45, L39, X), 0, 0) rfl (ym_gr hS 17 rfl rfl rfl) ?_
                    refine yi_G_run 2 (260, [(5, .inl (8 + (3 * (I33 100 0)))), (3, .inl z29), (2, .inl z20), (1, .inl 1100), (0, .inr (.inr (some 82))), (4, .inl pq)], [.inl 2, .inl (8 + (3 * (I33 100 0))), .inr (.inr (some 100))], (I45, L39, X), 0, 0) (fun _ => rfl) ?_
                    refine yi_G_iadd rfl ((8 + (3 * (I33 100 0))) + 2) (yi_wn (by omega) (by omega)) ?_
                    refine yi_G_run 1 (262, [(5, .inl (8 + (3 * (I33 100 0)))), (3, .inl z29), (2, .inl z20), (1, .inl 1100), (0, .inr (.inr (some 82))), (4, .inl pq)], [.inl z29, .inl ((8 + (3 * (I33 100 0))) + 2), .inr (.inr (some 100))], (I45, L39, X), 0, 0) (fun _ => rfl) ?_
                    refine yi_G_iast (263, [(5, .inl (8 + (3 * (I33 100 0)))), (3, .inl z29), (2, .inl z20), (1, .inl 1100), (0, .inr (.inr (some 82))), (4, .inl pq)], [], ((yi_u I45 100 (((8 + (3 * (I33 100 0))) + 2).toNat) z29), L39, X), 0, 0) rfl (ym_si hS 17 rfl (by omega) (by omega)) ?_
                    generalize w48 : yi_u I45 100 (((8 + (3 * (I33 100 0))) + 2).toNat) z29 = I47
                    refine yi_G_run 1 (264, [(5, .inl (8 + (3 * (I33 100 0)))), (3, .inl z29), (2, .inl z20), (1, .inl 1100), (0, .inr (.inr (some 82))), (4, .inl pq)], [.inr (.inr (some 82))], (I47, L39, X), 0, 0) (fun _ => rfl) ?_
                    refine yi_G_get (267, [(5, .inl (8 + (3 * (I33 100 0)))), (3, .inl z29), (2, .inl z20), (1, .inl 1100), (0, .inr (.inr (some 82))), (4, .inl pq)], [.inr (.inr (some 100))], (I47, L39, X), 0, 0) rfl (ym_gr hS 17 rfl rfl rfl) ?_
                    refine yi_G_run 2 (269, [(5, .inl (8 + (3 * (I33 100 0)))), (3, .inl z29), (2, .inl z20), (1, .inl 1100), (0, .inr (.inr (some 82))), (4, .inl pq)], [.inl 0, .inr (.inr (some 100)), .inl 0, .inr (.inr (some 100))], (I47, L39, X), 0, 0) (fun _ => rfl) ?_
                    have q9 : I47 100 0 = I 100 0 := by rw [← w48, yi_u_ne _ _ (by omega), ← w46, yi_u_ne _ _ (by omega), ← w44, yi_u_ne _ _ (by omega), jr0]
                    refine yi_G_iald (270, [(5, .inl (8 + (3 * (I33 100 0)))), (3, .inl z29), (2, .inl z20), (1, .inl 1100), (0, .inr (.inr (some 82))), (4, .inl pq)], [.inl (I47 100 0), .inl 0, .inr (.inr (some 100))], (I47, L39, X), 0, 0) rfl (ym_li hS 17 rfl (by omega) (by omega) rfl) ?_
                    refine yi_G_run 1 (271, [(5, .inl (8 + (3 * (I33 100 0)))), (3, .inl z29), (2, .inl z20), (1, .inl 1100), (0, .inr (.inr (some 82))), (4, .inl pq)], [.inl 1, .inl (I47 100 0), .inl 0, .inr (.inr (some 100))], (I47, L39, X), 0, 0) (fun _ => rfl) ?_
                    refine yi_G_iadd rfl ((I47 100 0) + 1) (yi_wn (by omega) (by omega)) ?_
                    refine yi_G_iast (273, [(5, .inl (8 + (3 * (I33 100 0)))), (3, .inl z29), (2, .inl z20), (1, .inl 1100), (0, .inr (.inr (some 82))), (4, .inl pq)], [], ((yi_u I47 100 0 ((I47 100 0) + 1)), L39, X), 0, 0) rfl (ym_si hS 17 rfl (by omega) (by omega)) ?_
                    generalize w50 : yi_u I47 100 0 ((I47 100 0) + 1) = I49
                    refine yi_G_run 1 (274, [(5, .inl (8 + (3 * (I33 100 0)))), (3, .inl z29), (2, .inl z20), (1, .inl 1100), (0, .inr (.inr (some 82))), (4, .inl pq)], [.inr (.inr (some 82))], (I49, L39, X), 0, 0) (fun _ => rfl) ?_
                    refine yi_G_get (277, [(5, .inl (8 + (3 * (I33 100 0)))), (3, .inl z29), (2, .inl z20), (1, .inl 1100), (0, .inr (.inr (some 82))), (4, .inl pq)], [.inr (.inr (some 100))], (I49, L39, X), 0, 0) rfl (ym_gr hS 17 rfl rfl rfl) ?_
                    refine yi_G_run 2 (279, [(5, .inl (8 + (3 * (I33 100 0)))), (3, .inl z29), (2, .inl z20), (1, .inl 1100), (0, .inr (.inr (some 82))), (4, .inl pq)], [.inr (.inr (some 82)), .inl 3, .inr (.inr (some 100))], (I49, L39, X), 0, 0) (fun _ => rfl) ?_
                    have r51 : I49 82 33 = I6 82 33 := by rw [← w50, yi_u_ne _ _ (by omega), ← w48, yi_u_ne _ _ (by omega), ← w46, yi_u_ne _ _ (by omega), ← w44, yi_u_ne _ _ (by omega), fJr 82 (33) (by omega), fJq 82 (33) (by omega), fJp 82 (33) (by omega), f34 82 (33) (by omega), f23 82 (33) (by omega)]
                    refine yi_G_get (282, [(5, .inl (8 + (3 * (I33 100 0)))), (3, .inl z29), (2, .inl z20), (1, .inl 1100), (0, .inr (.inr (some 82))), (4, .inl pq)], [.inl (I6 82 33), .inl 3, .inr (.inr (some 100))], (I49, L39, X), 0, 0) rfl (ym_gi hS rfl rfl r51) ?_
                    refine yi_G_iadd rfl (3 + (I6 82 33)) (yi_wn (by omega) (by omega)) ?_
                    refine yi_G_iald (284, [(5, .inl (8 + (3 * (I33 100 0)))), (3, .inl z29), (2, .inl z20), (1, .inl 1100), (0, .inr (.inr (some 82))), (4, .inl pq)], [.inl (I49 100 ((3 + (I6 82 33)).toNat))], (I49, L39, X), 0, 0) rfl (ym_li hS 17 rfl (by omega) (by omega) rfl) ?_
                    refine yi_G_run 4 (290, [(6, .inl (yi_w ((I49 100 ((3 + (I6 82 33)).toNat)) + pq))), (5, .inl (8 + (3 * (I33 100 0)))), (3, .inl z29), (2, .inl z20), (1, .inl 1100), (0, .inr (.inr (some 82))), (4, .inl pq)], [.inr (.inr (some 82))], (I49, L39, X), 0, 0) (fun _ => rfl) ?_
                    refine yi_G_get (293, [(6, .inl (yi_w ((I49 100 ((3 + (I6 82 33)).toNat)) + pq))), (5, .inl (8 + (3 * (I33 100 0)))), (3, .inl z29), (2, .inl z20), (1, .inl 1100), (0, .inr (.inr (some 82))), (4, .inl pq)], [.inr (.inr (some 100))], (I49, L39, X), 0, 0) rfl (ym_gr hS 17 rfl rfl rfl) ?_
                    refine yi_G_run 2 (295, [(6, .inl (yi_w ((I49 100 ((3 + (I6 82 33)).toNat)) + pq))), (5, .inl (8 + (3 * (I33 100 0)))), (3, .inl z29), (2, .inl z20), (1, .inl 1100), (0, .inr (.inr (some 82))), (4, .inl pq)], [.inr (.inr (some 82)), .inl 3, .inr (.inr (some 100))], (I49, L39, X), 0, 0) (fun _ => rfl) ?_
                    have r52 : I49 82 33 = I6 82 33 := by rw [← w50, yi_u_ne _ _ (by omega), ← w48, yi_u_ne _ _ (by omega), ← w46, yi_u_ne _ _ (by omega), ← w44, yi_u_ne _ _ (by omega), fJr 82 (33) (by omega), fJq 82 (33) (by omega), fJp 82 (33) (by omega), f34 82 (33) (by omega), f23 82 (33) (by omega)]
                    refine yi_G_get (298, [(6, .inl (yi_w ((I49 100 ((3 + (I6 82 33)).toNat)) + pq))), (5, .inl (8 + (3 * (I33 100 0)))), (3, .inl z29), (2, .inl z20), (1, .inl 1100), (0, .inr (.inr (some 82))), (4, .inl pq)], [.inl (I6 82 33), .inl 3, .inr (.inr (some 100))], (I49, L39, X), 0, 0) rfl (ym_gi hS rfl rfl r52) ?_
                    refine yi_G_iadd rfl (3 + (I6 82 33)) (yi_wn (by omega) (by omega)) ?_
                    refine yi_G_run 1 (301, [(6, .inl (yi_w ((I49 100 ((3 + (I6 82 33)).toNat)) + pq))), (5, .inl (8 + (3 * (I33 100 0)))), (3, .inl z29), (2, .inl z20), (1, .inl 1100), (0, .inr (.inr (some 82))), (4, .inl pq)], [.inl (yi_w ((I49 100 ((3 + (I6 82 33)).toNat)) + pq)), .inl (3 + (I6 82 33)), .inr (.inr (some 100))], (I49, L39, X), 0, 0) (fun _ => rfl) ?_
                    refine yi_G_ldcw (99999) rfl (by decide +kernel) ?_
                    by_cases h53 : (yi_w ((I49 100 ((3 + (I6 82 33)).toNat)) + pq)) ≤ 99999
                    · refine yi_G_if2 true rfl (yi_le_t h53) ?_
                      refine yi_G_run 1 (315, [(6, .inl (yi_w ((I49 100 ((3 + (I6 82 33)).toNat)) + pq))), (5, .inl (8 + (3 * (I33 100 0)))), (3, .inl z29), (2, .inl z20), (1, .inl 1100), (0, .inr (.inr (some 82))), (4, .inl pq)], [.inl (yi_w ((I49 100 ((3 + (I6 82 33)).toNat)) + pq)), .inl (3 + (I6 82 33)), .inr (.inr (some 100))], (I49, L39, X), 0, 0) (fun _ => rfl) ?_
                      refine yi_G_iast (316, [(6, .inl (yi_w ((I49 100 ((3 + (I6 82 33)).toNat)) + pq))), (5, .inl (8 + (3 * (I33 100 0)))), (3, .inl z29), (2, .inl z20), (1, .inl 1100), (0, .inr (.inr (some 82))), (4, .inl pq)], [], ((yi_u I49 100 ((3 + (I6 82 33)).toNat) (yi_w ((I49 100 ((3 + (I6 82 33)).toNat)) + pq))), L39, X), 0, 0) rfl (ym_si hS 17 rfl (by omega) (by omega)) ?_
                      generalize w55 : yi_u I49 100 ((3 + (I6 82 33)).toNat) (yi_w ((I49 100 ((3 + (I6 82 33)).toNat)) + pq)) = I54
                      refine yi_G_run 1 (317, [(6, .inl (yi_w ((I49 100 ((3 + (I6 82 33)).toNat)) + pq))), (5, .inl (8 + (3 * (I33 100 0)))), (3, .inl z29), (2, .inl z20), (1, .inl 1100), (0, .inr (.inr (some 82))), (4, .inl pq)], [.inl 0], (I54, L39, X), 0, 0) (fun _ => rfl) ?_
                      have r56 : I54 82 2 = 0 := by rw [← w55, yi_u_ne _ _ (by omega), ← w50, yi_u_ne _ _ (by omega), ← w48, yi_u_ne _ _ (by omega), ← w46, yi_u_ne _ _ (by omega), ← w44, yi_u_ne _ _ (by omega), fJr 82 (2) (by omega), fJq 82 (2) (by omega), fJp 82 (2) (by omega), f34 82 (2) (by omega), f23 82 (2) (by omega), ra2]
                      exact yi_G_reti rfl rfl (⟨_, _, _, rfl, (fun p k hp => by rw [← w55, yi_u_ne _ _ (fun z => by omega), ← w50, yi_u_ne _ _ (fun z => by omega), ← w48, yi_u_ne _ _ (fun z => by omega), ← w46, yi_u_ne _ _ (fun z => by omega), ← w44, yi_u_ne _ _ (fun z => by omega), fJr p k (by omega), fJq p k (by omega), fJp p k (by omega), f34 p k (by omega), f23 p k (by omega), f7 p k (by omega), ← w2, yi_u_ne _ _ (fun z => by omega)]), (fun p k hp => by rw [f40 p k (by omega), f36 p k (by omega), f25 p k (by omega), f19 p k (by omega), f9 p k (by omega)]), by omega, (ym_LW_f (ym_LW_g raw (fun k => by rw [← w2, yi_u_ne _ _ (fun z => absurd z.1 (by decide))]) (fun k => by rw [← w2, yi_u_ne _ _ (fun z => absurd z.1 (by decide))])) (fun k => by rw [← w55, yi_u_ne _ _ (fun z => absurd z.1 (by decide)), ← w50, yi_u_ne _ _ (fun z => absurd z.1 (by decide)), ← w48, yi_u_ne _ _ (fun z => absurd z.1 (by decide)), ← w46, yi_u_ne _ _ (fun z => absurd z.1 (by decide)), ← w44, yi_u_ne _ _ (fun z => absurd z.1 (by decide)), fJr 89 k (by omega), fJq 89 k (by omega), fJp 89 k (by omega), f34 89 k (by omega), f23 89 k (by omega)]) (fun k => by rw [← w55, yi_u_ne _ _ (fun z => absurd z.1 (by decide)), ← w50, yi_u_ne _ _ (fun z => absurd z.1 (by decide)), ← w48, yi_u_ne _ _ (fun z => absurd z.1 (by decide)), ← w46, yi_u_ne _ _ (fun z => absurd z.1 (by decide)), ← w44, yi_u_ne _ _ (fun z => absurd z.1 (by decide)), fJr 90 k (by omega), fJq 90 k (by omega), fJp 90 k (by omega), f34 90 k (by omega), f23 90 k (by omega)])), (by rw [← w55]; exact ym_ST_u (by rw [← w50]; exact ym_ST_u (by rw [← w48]; exact ym_ST_u (by rw [← w46]; exact ym_ST_u (by rw [← w44]; exact ym_ST_u (ym_ST_t (fun k => fJr 100 k (by omega)) (fJr 82 30 (by omega)) (fun k => fJr 101 k (by omega)) (fun k => fJr 102 k (by omega)) (ym_ST_t (fun k => fJq 100 k (by omega)) (fJq 82 30 (by omega)) (fun k => fJq 101 k (by omega)) (fun k => fJq 102 k (by omega)) (ym_ST_t (fun k => fJp 100 k (by omega)) (fJp 82 30 (by omega)) (fun k => fJp 101 k (by omega)) (fun k => fJp 102 k (by omega)) stI33))) (by omega) (by omega) (by omega) (by omega) (by omega) (by omega)) (by omega) (by omega) (by omega) (by omega) (by omega) (by omega)) (by omega) (by omega) (by omega) (by omega) (by omega) (by omega)) (by omega) (by omega) (by omega) (by omega) (by omega) (by omega)) (by omega) (by omega) (by omega) (by omega) (by omega) (by omega))⟩)
                    · refine yi_G_if2 false rfl (yi_le_f h53) ?_
                      refine yi_G_ldcw (99999) rfl (by decide +kernel) ?_
                      refine yi_G_run 1 (315, [(6, .inl (yi_w ((I49 100 ((3 + (I6 82 33)).toNat)) + pq))), (5, .inl (8 + (3 * (I33 100 0)))), (3, .inl z29), (2, .inl z20), (1, .inl 1100), (0, .inr (.inr (some 82))), (4, .inl pq)], [.inl 99999, .inl (3 + (I6 82 33)), .inr (.inr (some 100))], (I49, L39, X), 0, 0) (fun _ => rfl) ?_
                      refine yi_G_iast (316, [(6, .inl (yi_w ((I49 100 ((3 + (I6 82 33)).toNat)) + pq))), (5, .inl (8 + (3 * (I33 100 0)))), (3, .inl z29), (2, .inl z20), (1, .inl 1100), (0, .inr (.inr (some 82))), (4, .inl pq)], [], ((yi_u I49 100 ((3 + (I6 82 33)).toNat) 99999), L39, X), 0, 0) rfl (ym_si hS 17 rfl (by omega) (by omega)) ?_
                      generalize w58 : yi_u I49 100 ((3 + (I6 82 33)).toNat) 99999 = I57
                      refine yi_G_run 1 (317, [(6, .inl (yi_w ((I49 100 ((3 + (I6 82 33)).toNat)) + pq))), (5, .inl (8 + (3 * (I33 100 0)))), (3, .inl z29), (2, .inl z20), (1, .inl 1100), (0, .inr (.inr (some 82))), (4, .inl pq)], [.inl 0], (I57, L39, X), 0, 0) (fun _ => rfl) ?_
                      have r59 : I57 82 2 = 0 := by rw [← w58, yi_u_ne _ _ (by omega), ← w50, yi_u_ne _ _ (by omega), ← w48, yi_u_ne _ _ (by omega), ← w46, yi_u_ne _ _ (by omega), ← w44, yi_u_ne _ _ (by omega), fJr 82 (2) (by omega), fJq 82 (2) (by omega), fJp 82 (2) (by omega), f34 82 (2) (by omega), f23 82 (2) (by omega), ra2]
                      exact yi_G_reti rfl rfl (⟨_, _, _, rfl, (fun p k hp => by rw [← w58, yi_u_ne _ _ (fun z => by omega), ← w50, yi_u_ne _ _ (fun z => by omega), ← w48, yi_u_ne _ _ (fun z => by omega), ← w46, yi_u_ne _ _ (fun z => by omega), ← w44, yi_u_ne _ _ (fun z => by omega), fJr p k (by omega), fJq p k (by omega), fJp p k (by omega), f34 p k (by omega), f23 p k (by omega), f7 p k (by omega), ← w2, yi_u_ne _ _ (fun z => by omega)]), (fun p k hp => by rw [f40 p k (by omega), f36 p k (by omega), f25 p k (by omega), f19 p k (by omega), f9 p k (by omega)]), by omega, (ym_LW_f (ym_LW_g raw (fun k => by rw [← w2, yi_u_ne _ _ (fun z => absurd z.1 (by decide))]) (fun k => by rw [← w2, yi_u_ne _ _ (fun z => absurd z.1 (by decide))])) (fun k => by rw [← w58, yi_u_ne _ _ (fun z => absurd z.1 (by decide)), ← w50, yi_u_ne _ _ (fun z => absurd z.1 (by decide)), ← w48, yi_u_ne _ _ (fun z => absurd z.1 (by decide)), ← w46, yi_u_ne _ _ (fun z => absurd z.1 (by decide)), ← w44, yi_u_ne _ _ (fun z => absurd z.1 (by decide)), fJr 89 k (by omega), fJq 89 k (by omega), fJp 89 k (by omega), f34 89 k (by omega), f23 89 k (by omega)]) (fun k => by rw [← w58, yi_u_ne _ _ (fun z => absurd z.1 (by decide)), ← w50, yi_u_ne _ _ (fun z => absurd z.1 (by decide)), ← w48, yi_u_ne _ _ (fun z => absurd z.1 (by decide)), ← w46, yi_u_ne _ _ (fun z => absurd z.1 (by decide)), ← w44, yi_u_ne _ _ (fun z => absurd z.1 (by decide)), fJr 90 k (by omega), fJq 90 k (by omega), fJp 90 k (by omega), f34 90 k (by omega), f23 90 k (by omega)])), (by rw [← w58]; exact ym_ST_u (by rw [← w50]; exact ym_ST_u (by rw [← w48]; exact ym_ST_u (by rw [← w46]; exact ym_ST_u (by rw [← w44]; exact ym_ST_u (ym_ST_t (fun k => fJr 100 k (by omega)) (fJr 82 30 (by omega)) (fun k => fJr 101 k (by omega)) (fun k => fJr 102 k (by omega)) (ym_ST_t (fun k => fJq 100 k (by omega)) (fJq 82 30 (by omega)) (fun k => fJq 101 k (by omega)) (fun k => fJq 102 k (by omega)) (ym_ST_t (fun k => fJp 100 k (by omega)) (fJp 82 30 (by omega)) (fun k => fJp 101 k (by omega)) (fun k => fJp 102 k (by omega)) stI33))) (by omega) (by omega) (by omega) (by omega) (by omega) (by omega)) (by omega) (by omega) (by omega) (by omega) (by omega) (by omega)) (by omega) (by omega) (by omega) (by omega) (by omega) (by omega)) (by omega) (by omega) (by omega) (by omega) (by omega) (by omega)) (by omega) (by omega) (by omega) (by omega) (by omega) (by omega))⟩)
                  refine yi_G_run 1 (180, [(3, .inl z29), (2, .inl z20), (1, .inl 1100), (0, .inr (.inr (some 82))), (4, .inl pr)], [.inl pr], (Jr, L35, X), 0, 0) (fun _ => rfl) ?_
                  by_cases h60 : 0 ≤ pr
                  · refine yi_G_if1 true rfl (yi_ge_t h60) ?_
                    refine yi_G_run 2 (191, [(3, .inl z29), (2, .inl z20), (1, .inl 1100), (0, .inr (.inr (some 82))), (4, .inl pr)], [.inl 99, .inl pr], (Jr, L35, X), 0, 0) (fun _ => rfl) ?_
                    by_cases h61 : pr ≤ 99
                    · refine yi_G_if2 true rfl (yi_le_t h61) ?_
                      refine yi_G_run 2 (203, [(4, .inl pr), (3, .inl z29), (2, .inl z20), (1, .inl 1100), (0, .inr (.inr (some 82)))], [], (Jr, L35, X), 0, 0) (fun _ => rfl) ?_
                      refine yi_G_al (al := [(3, .inl z29), (2, .inl z20), (1, .inl 1100), (0, .inr (.inr (some 82))), (4, .inl pr)]) (show ([3, 2, 1, 0, 4] : List Nat).Nodup by decide) (show ([4, 3, 2, 1, 0] : List Nat).Nodup by decide) (yi_mc (List.mem_of_getElem? (i := 1) rfl) (yi_mc (List.mem_of_getElem? (i := 2) rfl) (yi_mc (List.mem_of_getElem? (i := 3) rfl) (yi_mc (List.mem_of_getElem? (i := 4) rfl) (yi_mc (List.mem_of_getElem? (i := 0) rfl) yi_mn))))) ?_
                      exact pt203 pr 
                    · refine yi_G_if2 false rfl (yi_le_f h61) ?_
                      refine yi_G_run 3 (203, [(4, .inl 99), (3, .inl z29), (2, .inl z20), (1, .inl 1100), (0, .inr (.inr (some 82)))], [], (Jr, L35, X), 0, 0) (fun _ => rfl) ?_
                      refine yi_G_al (al := [(3, .inl z29), (2, .inl z20), (1, .inl 1100), (0, .inr (.inr (some 82))), (4, .inl 99)]) (show ([3, 2, 1, 0, 4] : List Nat).Nodup by decide) (show ([4, 3, 2, 1, 0] : List Nat).Nodup by decide) (yi_mc (List.mem_of_getElem? (i := 1) rfl) (yi_mc (List.mem_of_getElem? (i := 2) rfl) (yi_mc (List.mem_of_getElem? (i := 3) rfl) (yi_mc (List.mem_of_getElem? (i := 4) rfl) (yi_mc (List.mem_of_getElem? (i := 0) rfl) yi_mn))))) ?_
                      exact pt203 99 
                  · refine yi_G_if1 false rfl (yi_ge_f h60) ?_
                    refine yi_G_run 3 (203, [(4, .inl 0), (3, .inl z29), (2, .inl z20), (1, .inl 1100), (0, .inr (.inr (some 82)))], [], (Jr, L35, X), 0, 0) (fun _ => rfl) ?_
                    refine yi_G_al (al := [(3, .inl z29), (2, .inl z20), (1, .inl 1100), (0, .inr (.inr (some 82))), (4, .inl 0)]) (show ([3, 2, 1, 0, 4] : List Nat).Nodup by decide) (show ([4, 3, 2, 1, 0] : List Nat).Nodup by decide) (yi_mc (List.mem_of_getElem? (i := 1) rfl) (yi_mc (List.mem_of_getElem? (i := 2) rfl) (yi_mc (List.mem_of_getElem? (i := 3) rfl) (yi_mc (List.mem_of_getElem? (i := 4) rfl) (yi_mc (List.mem_of_getElem? (i := 0) rfl) yi_mn))))) ?_
                    exact pt203 0 
                refine yi_G_run 1 (140, [(3, .inl z29), (2, .inl z20), (1, .inl 1100), (0, .inr (.inr (some 82)))], [.inr (.inr (some 82))], (Jq, L35, X), 0, 0) (fun _ => rfl) ?_
                refine yi_G_get (143, [(3, .inl z29), (2, .inl z20), (1, .inl 1100), (0, .inr (.inr (some 82)))], [.inr (.inr (some 95))], (Jq, L35, X), 0, 0) rfl (ym_gr hS 12 rfl rfl rfl) ?_
                refine yi_G_run 2 (145, [(3, .inl z29), (2, .inl z20), (1, .inl 1100), (0, .inr (.inr (some 82)))], [.inr (.inr (some 82)), .inl 2, .inr (.inr (some 95))], (Jq, L35, X), 0, 0) (fun _ => rfl) ?_
                refine yi_G_get (148, [(3, .inl z29), (2, .inl z20), (1, .inl 1100), (0, .inr (.inr (some 82)))], [.inr (.inr (some 100)), .inl 2, .inr (.inr (some 95))], (Jq, L35, X), 0, 0) rfl (ym_gr hS 17 rfl rfl rfl) ?_
                refine yi_G_run 1 (149, [(3, .inl z29), (2, .inl z20), (1, .inl 1100), (0, .inr (.inr (some 82)))], [.inl 0, .inr (.inr (some 100)), .inl 2, .inr (.inr (some 95))], (Jq, L35, X), 0, 0) (fun _ => rfl) ?_
                have r62 : Jq 100 0 = I33 100 0 := by rw [fJq 100 (0) (by omega), fJp 100 (0) (by omega)]
                refine yi_G_iald (150, [(3, .inl z29), (2, .inl z20), (1, .inl 1100), (0, .inr (.inr (some 82)))], [.inl (I33 100 0), .inl 2, .inr (.inr (some 95))], (Jq, L35, X), 0, 0) rfl (ym_li hS 17 rfl (by omega) (by omega) r62) ?_
                refine yi_G_iast (151, [(3, .inl z29), (2, .inl z20), (1, .inl 1100), (0, .inr (.inr (some 82)))], [], ((yi_u Jq 95 2 (I33 100 0)), L35, X), 0, 0) rfl (ym_si hS 12 rfl (by omega) (by omega)) ?_
                generalize w64 : yi_u Jq 95 2 (I33 100 0) = I63
                refine yi_G_run 1 (152, [(3, .inl z29), (2, .inl z20), (1, .inl 1100), (0, .inr (.inr (some 82)))], [.inr (.inr (some 82))], (I63, L35, X), 0, 0) (fun _ => rfl) ?_
                refine yi_G_get (155, [(3, .inl z29), (2, .inl z20), (1, .inl 1100), (0, .inr (.inr (some 82)))], [.inr (.inr (some 88))], (I63, L35, X), 0, 0) rfl (ym_gr hS 5 rfl rfl rfl) ?_
                refine yi_G_run 1 (157, [(3, .inl z29), (2, .inl z20), (1, .inl 1100), (0, .inr (.inr (some 82)))], [.inl 6, .inr (.inr (some 88))], (I63, L35, X), 0, 0) (fun _ => rfl) ?_
                have r65 : I63 88 6 = I 88 6 := by rw [← w64, yi_u_ne _ _ (by omega), fJq 88 (6) (by omega), fJp 88 (6) (by omega), f34 88 (6) (by omega), f23 88 (6) (by omega), f7 88 (6) (by omega), ← w2, yi_u_ne _ _ (by omega)]
                refine yi_G_iald (158, [(3, .inl z29), (2, .inl z20), (1, .inl 1100), (0, .inr (.inr (some 82)))], [.inl (I 88 6)], (I63, L35, X), 0, 0) rfl (ym_li hS 5 rfl (by omega) (by omega) r65) ?_
                by_cases h66 : 0 ≤ (I 88 6)
                · refine yi_G_if1 true rfl (yi_ge_t h66) ?_
                  refine yi_G_run 2 (167, [(3, .inl z29), (2, .inl z20), (1, .inl 1100), (0, .inr (.inr (some 82)))], [.inr (.inr (some 82)), .inr (.inr (some 82))], (I63, L35, X), 0, 0) (fun _ => rfl) ?_
                  refine yi_G_get (170, [(3, .inl z29), (2, .inl z20), (1, .inl 1100), (0, .inr (.inr (some 82)))], [.inr (.inr (some 88)), .inr (.inr (some 82))], (I63, L35, X), 0, 0) rfl (ym_gr hS 5 rfl rfl rfl) ?_
                  refine yi_G_run 1 (172, [(3, .inl z29), (2, .inl z20), (1, .inl 1100), (0, .inr (.inr (some 82)))], [.inl 6, .inr (.inr (some 88)), .inr (.inr (some 82))], (I63, L35, X), 0, 0) (fun _ => rfl) ?_
                  have r67 : I63 88 6 = I 88 6 := by rw [← w64, yi_u_ne _ _ (by omega), fJq 88 (6) (by omega), fJp 88 (6) (by omega), f34 88 (6) (by omega), f23 88 (6) (by omega), f7 88 (6) (by omega), ← w2, yi_u_ne _ _ (by omega)]
                  refine yi_G_iald (173, [(3, .inl z29), (2, .inl z20), (1, .inl 1100), (0, .inr (.inr (some 82)))], [.inl (I 88 6), .inr (.inr (some 82))], (I63, L35, X), 0, 0) rfl (ym_li hS 5 rfl (by omega) (by omega) r67) ?_
                  obtain ⟨ep, hpr⟩ : ∃ e, e ≤ 1099 ∧ ym_PG I (I 88 6) e := hPK.2.2.resolve_left (by omega)
                  have hpr2 : ym_PG I6 (I 88 6) ep := ym_PG_lw hpr.2 hpr.1 (ym_LW_g raw (fun k => by rw [← w2, yi_u_ne _ _ (fun z => absurd z.1 (by decide))]) (fun k => by rw [← w2, yi_u_ne _ _ (fun z => absurd z.1 (by decide))]))
                  refine yi_G_callv rfl rfl (ym_rcv hS) rfl (c_worthAt d (by omega) hS (ym_LR_t (fun k => by rw [← w64, yi_u_ne _ _ (fun z => absurd z.1 (by decide)), fJq 88 k (by omega), fJp 88 k (by omega), f34 88 k (by omega), f23 88 k (by omega), f7 88 k (by omega), ← w2, yi_u_ne _ _ (fun z => absurd z.1 (by decide))]) hLR) (ym_PG_t (fun k => by rw [← w64, yi_u_ne _ _ (fun z => absurd z.1 (by decide)), fJq 89 k (by omega), fJp 89 k (by omega), f34 89 k (by omega), f23 89 k (by omega)]) (fun k => by rw [← w64, yi_u_ne _ _ (fun z => absurd z.1 (by decide)), fJq 90 k (by omega), fJp 90 k (by omega), f34 90 k (by omega), f23 90 k (by omega)]) hpr2)) ?_
                  rintro _ ⟨z68, I69, rfl, f70⟩
                  show yi_G zi_Ms d zi_m122 (176, [(3, .inl z29), (2, .inl z20), (1, .inl 1100), (0, .inr (.inr (some 82)))], [.inl z68], (I69, L35, X), 0, 0) _
                  refine yi_G_run 1 (178, [(4, .inl z68), (3, .inl z29), (2, .inl z20), (1, .inl 1100), (0, .inr (.inr (some 82)))], [], (I69, L35, X), 0, 0) (fun _ => rfl) ?_
                  refine yi_G_al (al := [(3, .inl z29), (2, .inl z20), (1, .inl 1100), (0, .inr (.inr (some 82))), (4, .inl z68)]) (show ([3, 2, 1, 0, 4] : List Nat).Nodup by decide) (show ([4, 3, 2, 1, 0] : List Nat).Nodup by decide) (yi_mc (List.mem_of_getElem? (i := 1) rfl) (yi_mc (List.mem_of_getElem? (i := 2) rfl) (yi_mc (List.mem_of_getElem? (i := 3) rfl) (yi_mc (List.mem_of_getElem? (i := 4) rfl) (yi_mc (List.mem_of_getElem? (i := 0) rfl) yi_mn))))) ?_
                  exact pt178 z68 I69 (fun p k hp => by rw [f70 p k (by omega), ← w64, yi_u_ne _ _ (fun z => by omega)]) (by rw [f70 100 0 (by omega), ← w64, yi_u_ne _ _ (by omega), fJq 100 0 (by omega), fJp 100 0 (by omega), lok _ (by omega), f23 100 0 (by omega), f7 100 0 (by omega), ← w2, yi_u_ne _ _ (by omega)])
                · refine yi_G_if1 false rfl (yi_ge_f h66) ?_
                  refine yi_G_run 3 (178, [(4, .inl 1), (3, .inl z29), (2, .inl z20), (1, .inl 1100), (0, .inr (.inr (some 82)))], [], (I63, L35, X), 0, 0) (fun _ => rfl) ?_
                  refine yi_G_al (al := [(3, .inl z29), (2, .inl z20), (1, .inl 1100), (0, .inr (.inr (some 82))), (4, .inl 1)]) (show ([3, 2, 1, 0, 4] : List Nat).Nodup by decide) (show ([4, 3, 2, 1, 0] : List Nat).Nodup by decide) (yi_mc (List.mem_of_getElem? (i := 1) rfl) (yi_mc (List.mem_of_getElem? (i := 2) rfl) (yi_mc (List.mem_of_getElem? (i := 3) rfl) (yi_mc (List.mem_of_getElem? (i := 4) rfl) (yi_mc (List.mem_of_getElem? (i := 0) rfl) yi_mn))))) ?_
                  exact pt178 1 I63 (fun p k hp => by rw [← w64, yi_u_ne _ _ (fun z => by omega)]) (by rw [← w64, yi_u_ne _ _ (by omega), fJq 100 0 (by omega), fJp 100 0 (by omega), lok _ (by omega), f23 100 0 (by omega), f7 100 0 (by omega), ← w2, yi_u_ne _ _ (by omega)])
              refine yi_G_run 1 (120, [(3, .inl z29), (2, .inl z20), (1, .inl 1100), (0, .inr (.inr (some 82)))], [.inr (.inr (some 82))], (Jp, L35, X), 0, 0) (fun _ => rfl) ?_
              refine yi_G_get (123, [(3, .inl z29), (2, .inl z20), (1, .inl 1100), (0, .inr (.inr (some 82)))], [.inr (.inr (some 95))], (Jp, L35, X), 0, 0) rfl (ym_gr hS 12 rfl rfl rfl) ?_
              refine yi_G_run 3 (128, [(3, .inl z29), (2, .inl z20), (1, .inl 1100), (0, .inr (.inr (some 82)))], [.inl 9999, .inl z29, .inl 1, .inr (.inr (some 95))], (Jp, L35, X), 0, 0) (fun _ => rfl) ?_
              by_cases h71 : z29 ≤ 9999
              · refine yi_G_if2 true rfl (yi_le_t h71) ?_
                refine yi_G_run 1 (138, [(3, .inl z29), (2, .inl z20), (1, .inl 1100), (0, .inr (.inr (some 82)))], [.inl z29, .inl 1, .inr (.inr (some 95))], (Jp, L35, X), 0, 0) (fun _ => rfl) ?_
                refine yi_G_iast (139, [(3, .inl z29), (2, .inl z20), (1, .inl 1100), (0, .inr (.inr (some 82)))], [], ((yi_u Jp 95 1 z29), L35, X), 0, 0) rfl (ym_si hS 12 rfl (by omega) (by omega)) ?_
                generalize w73 : yi_u Jp 95 1 z29 = I72
                exact pt139 I72 (fun p k hp => by rw [← w73, yi_u_ne _ _ (fun z => by omega)])
              · refine yi_G_if2 false rfl (yi_le_f h71) ?_
                refine yi_G_run 2 (138, [(3, .inl z29), (2, .inl z20), (1, .inl 1100), (0, .inr (.inr (some 82)))], [.inl 9999, .inl 1, .inr (.inr (some 95))], (Jp, L35, X), 0, 0) (fun _ => rfl) ?_
                refine yi_G_iast (139, [(3, .inl z29), (2, .inl z20), (1, .inl 1100), (0, .inr (.inr (some 82)))], [], ((yi_u Jp 95 1 9999), L35, X), 0, 0) rfl (ym_si hS 12 rfl (by omega) (by omega)) ?_
                generalize w75 : yi_u Jp 95 1 9999 = I74
                exact pt139 I74 (fun p k hp => by rw [← w75, yi_u_ne _ _ (fun z => by omega)])
            refine yi_G_run 1 (100, [(3, .inl z29), (2, .inl z20), (1, .inl 1100), (0, .inr (.inr (some 82)))], [.inr (.inr (some 82))], (I33, L35, X), 0, 0) (fun _ => rfl) ?_
            refine yi_G_get (103, [(3, .inl z29), (2, .inl z20), (1, .inl 1100), (0, .inr (.inr (some 82)))], [.inr (.inr (some 95))], (I33, L35, X), 0, 0) rfl (ym_gr hS 12 rfl rfl rfl) ?_
            refine yi_G_run 3 (108, [(3, .inl z29), (2, .inl z20), (1, .inl 1100), (0, .inr (.inr (some 82)))], [.inl 9999, .inl z20, .inl 0, .inr (.inr (some 95))], (I33, L35, X), 0, 0) (fun _ => rfl) ?_
            by_cases h76 : z20 ≤ 9999
            · refine yi_G_if2 true rfl (yi_le_t h76) ?_
              refine yi_G_run 1 (118, [(3, .inl z29), (2, .inl z20), (1, .inl 1100), (0, .inr (.inr (some 82)))], [.inl z20, .inl 0, .inr (.inr (some 95))], (I33, L35, X), 0, 0) (fun _ => rfl) ?_
              refine yi_G_iast (119, [(3, .inl z29), (2, .inl z20), (1, .inl 1100), (0, .inr (.inr (some 82)))], [], ((yi_u I33 95 0 z20), L35, X), 0, 0) rfl (ym_si hS 12 rfl (by omega) (by omega)) ?_
              generalize w78 : yi_u I33 95 0 z20 = I77
              exact pt119 I77 (fun p k hp => by rw [← w78, yi_u_ne _ _ (fun z => by omega)])
            · refine yi_G_if2 false rfl (yi_le_f h76) ?_
              refine yi_G_run 2 (118, [(3, .inl z29), (2, .inl z20), (1, .inl 1100), (0, .inr (.inr (some 82)))], [.inl 9999, .inl 0, .inr (.inr (some 95))], (I33, L35, X), 0, 0) (fun _ => rfl) ?_
              refine yi_G_iast (119, [(3, .inl z29), (2, .inl z20), (1, .inl 1100), (0, .inr (.inr (some 82)))], [], ((yi_u I33 95 0 9999), L35, X), 0, 0) rfl (ym_si hS 12 rfl (by omega) (by omega)) ?_
              generalize w80 : yi_u I33 95 0 9999 = I79
              exact pt119 I79 (fun p k hp => by rw [← w80, yi_u_ne _ _ (fun z => by omega)])
      · refine yi_G_if2 true rfl (yi_ne_t h16) ?_
        refine yi_G_run 1 (61, [(1, .inl 1100), (0, .inr (.inr (some 82)))], [.inr (.inr (some 82))], (I6, L8, X), 0, 0) (fun _ => rfl) ?_
        have r84 : I6 82 25 = I 82 25 := by rw [f7 82 (25) (by omega), ← w2, yi_u_ne _ _ (by omega)]
        refine yi_G_callv rfl rfl (ym_rcv hS) rfl (c_findLeft d (by omega) hS (ym_LR_t (fun k => by rw [f7 88 k (by omega), ← w2, yi_u_ne _ _ (fun z => absurd z.1 (by decide))]) hLR) (ym_S0_t (fun k => by rw [f7 100 k (by omega), ← w2, yi_u_ne _ _ (fun z => absurd z.1 (by decide))]) hS0) ⟨(by rw [r84]; omega), (by rw [r84]; omega)⟩) ?_
        rintro _ ⟨z83, L81, rfl, f82⟩
        show yi_G zi_Ms d zi_m122 (64, [(1, .inl 1100), (0, .inr (.inr (some 82)))], [.inl z83], (I6, L81, X), 0, 0) _
        refine yi_G_run 6 (71, [(2, .inl z83), (1, .inl 1100), (0, .inr (.inr (some 82)))], [.inr (.inr (some 82)), .inr (.inr (some 82)), .inl 1100, .inl 38, .inr (.inr (some 82))], (I6, L81, X), 0, 0) (fun _ => rfl) ?_
        refine yi_G_get (74, [(2, .inl z83), (1, .inl 1100), (0, .inr (.inr (some 82)))], [.inl (I6 82 33), .inr (.inr (some 82)), .inl 1100, .inl 38, .inr (.inr (some 82))], (I6, L81, X), 0, 0) rfl (ym_gi hS rfl rfl rfl) ?_
        refine yi_G_callv rfl rfl (ym_rcv hS) rfl (c_kindOf d (by omega) hS (by omega) (by omega)) ?_
        rintro _ rfl
        show yi_G zi_Ms d zi_m122 (77, [(2, .inl z83), (1, .inl 1100), (0, .inr (.inr (some 82)))], [.inl (I6 88 (11 + 2 * (I6 82 33)).toNat), .inl 1100, .inl 38, .inr (.inr (some 82))], (I6, L81, X), 0, 0) _
        skip
        have r89 : I6 82 24 = I 82 24 := by rw [f7 82 (24) (by omega), ← w2, yi_u_ne _ _ (by omega)]
        have r90 : I6 82 25 = I 82 25 := by rw [f7 82 (25) (by omega), ← w2, yi_u_ne _ _ (by omega)]
        refine yi_G_callv rfl rfl (ym_rcv hS) rfl (c_laysFormula d (by omega) hS (ym_LR_t (fun k => by rw [f7 88 k (by omega), ← w2, yi_u_ne _ _ (fun z => absurd z.1 (by decide))]) hLR) (ym_PW_t (fun k => by rw [f7 88 k (by omega), ← w2, yi_u_ne _ _ (fun z => absurd z.1 (by decide))]) (fun k => by rw [f7 98 k (by omega), ← w2, yi_u_ne _ _ (fun z => absurd z.1 (by decide))]) hPW) hpe (by omega) (by omega) ⟨(by rw [r89]; omega), (by rw [r89]; omega)⟩ ⟨(by rw [r90]; omega), (by rw [r90]; omega)⟩) ?_
        rintro _ ⟨I85, L87, rfl, f86, f88⟩
        show yi_G zi_Ms d zi_m122 (80, [(2, .inl z83), (1, .inl 1100), (0, .inr (.inr (some 82)))], [], (I85, L87, X), 0, 0) _
        refine yi_G_run 3 (85, [(2, .inl z83), (1, .inl 1100), (0, .inr (.inr (some 82)))], [.inl 38, .inl 39, .inr (.inr (some 82))], (I85, L87, X), 0, 0) (fun _ => rfl) ?_
        have r91 : I85 82 25 = I 82 25 := by rw [f86 82 (25) (by omega), f7 82 (25) (by omega), ← w2, yi_u_ne _ _ (by omega)]
        refine yi_G_callv rfl rfl (ym_rcv hS) rfl (w_manyBoth (by omega) hS (by omega) (by omega) (by omega) (by omega) (by rw [r91]; omega) (by rw [r91]; omega)) ?_
        rintro _ ⟨z92, rfl⟩
        show yi_G zi_Ms d zi_m122 (88, [(2, .inl z83), (1, .inl 1100), (0, .inr (.inr (some 82)))], [.inl z92], (I85, L87, X), 0, 0) _
        refine yi_G_run 2 (90, [(3, .inl z92), (2, .inl z83), (1, .inl 1100), (0, .inr (.inr (some 82)))], [.inl z92], (I85, L87, X), 0, 0) (fun _ => rfl) ?_
        by_cases h93 : z92 = 0
        · refine yi_G_if1 false rfl (yi_ne_f h93) ?_
          refine yi_G_run 1 (94, [(3, .inl z92), (2, .inl z83), (1, .inl 1100), (0, .inr (.inr (some 82)))], [.inl (-1)], (I85, L87, X), 0, 0) (fun _ => rfl) ?_
          have r94 : I85 82 2 = 0 := by rw [f86 82 (2) (by omega), ra2]
          exact yi_G_reti rfl rfl (⟨_, _, _, rfl, (fun p k hp => by rw [f86 p k (by omega), f7 p k (by omega), ← w2, yi_u_ne _ _ (fun z => by omega)]), (fun p k hp => by rw [f88 p k (by omega), f82 p k (by omega), f9 p k (by omega)]), by omega, (ym_LW_f (ym_LW_g raw (fun k => by rw [← w2, yi_u_ne _ _ (fun z => absurd z.1 (by decide))]) (fun k => by rw [← w2, yi_u_ne _ _ (fun z => absurd z.1 (by decide))])) (fun k => by rw [f86 89 k (by omega)]) (fun k => by rw [f86 90 k (by omega)])), (ym_ST_t (fun k => f86 100 k (by omega)) (f86 82 30 (by omega)) (fun k => f86 101 k (by omega)) (fun k => f86 102 k (by omega)) (ym_ST_t (fun k => f7 100 k (by omega)) (f7 82 30 (by omega)) (fun k => f7 101 k (by omega)) (fun k => f7 102 k (by omega)) (ym_ST_t (fun k => by rw [← w2, yi_u_ne _ _ (by omega)]) (by rw [← w2, yi_u_ne _ _ (by omega)]) (fun k => by rw [← w2, yi_u_ne _ _ (by omega)]) (fun k => by rw [← w2, yi_u_ne _ _ (by omega)]) hST)))⟩)
        · refine yi_G_if1 true rfl (yi_ne_t h93) ?_
          refine yi_G_run 1 (96, [(3, .inl z92), (2, .inl z83), (1, .inl 1100), (0, .inr (.inr (some 82)))], [.inr (.inr (some 82))], (I85, L87, X), 0, 0) (fun _ => rfl) ?_
          have r95 : I85 82 25 = I 82 25 := by rw [f86 82 (25) (by omega), f7 82 (25) (by omega), ← w2, yi_u_ne _ _ (by omega)]
          have stb : ym_ST I85 := (ym_ST_t (fun k => f86 100 k (by omega)) (f86 82 30 (by omega)) (fun k => f86 101 k (by omega)) (fun k => f86 102 k (by omega)) (ym_ST_t (fun k => f7 100 k (by omega)) (f7 82 30 (by omega)) (fun k => f7 101 k (by omega)) (fun k => f7 102 k (by omega)) (ym_ST_t (fun k => by rw [← w2, yi_u_ne _ _ (by omega)]) (by rw [← w2, yi_u_ne _ _ (by omega)]) (fun k => by rw [← w2, yi_u_ne _ _ (by omega)]) (fun k => by rw [← w2, yi_u_ne _ _ (by omega)]) hST)))
          refine yi_G_callv rfl rfl (ym_rcv hS) rfl (c_keeps d (by omega) hS stb.2.1 ((ym_S0_iff _).mp stb.1) ⟨(by rw [r95]; omega), (by rw [r95]; omega)⟩) ?_
          rintro _ ⟨I96, L98, rfl, f97, f99, ubk, lok⟩
          have stI96 : ym_ST I96 := ym_ST_k stb ubk lok (fun k => f97 101 k (by omega)) (fun k => f97 102 k (by omega))
          show yi_G zi_Ms d zi_m122 (99, [(3, .inl z92), (2, .inl z83), (1, .inl 1100), (0, .inr (.inr (some 82)))], [], (I96, L98, X), 0, 0) _
          have pt119 : ∀ (Jp : Nat → Nat → Int), (∀ p k, p ≠ 95 → Jp p k = I96 p k) → yi_G zi_Ms d zi_m122 (119, [(3, .inl z92), (2, .inl z83), (1, .inl 1100), (0, .inr (.inr (some 82)))], [], (Jp, L98, X), 0, 0) (fun r => ∃ z I' L', r = (some (.inl z), (I', L', X), 0, 0) ∧ (∀ p k, ¬ (p = 82 ∧ k = 0) ∧ ¬ (p = 82 ∧ k = 2) ∧ ¬ (p = 82 ∧ k = 3) ∧ ¬ (p = 82 ∧ k = 7) ∧ ¬ (p = 82 ∧ k = 8) ∧ ¬ (p = 82 ∧ k = 13) ∧ ¬ (p = 82 ∧ k = 20) ∧ ¬ (p = 82 ∧ k = 28) ∧ ¬ (p = 82 ∧ k = 30) ∧ ¬ (p = 82 ∧ k = 33) ∧ p ≠ 84 ∧ p ≠ 85 ∧ p ≠ 89 ∧ p ≠ 90 ∧ p ≠ 95 ∧ p ≠ 96 ∧ p ≠ 99 ∧ p ≠ 100 ∧ p ≠ 102 → I' p k = I p k) ∧ (∀ p k, p ≠ 86 ∧ p ≠ 97 → L' p k = L p k) ∧ I' 82 2 = 0 ∧ ym_LW I I' 0 ∧ ym_ST I') := by
            intro Jp fJp 
            have pt139 : ∀ (Jq : Nat → Nat → Int), (∀ p k, p ≠ 95 → Jq p k = Jp p k) → yi_G zi_Ms d zi_m122 (139, [(3, .inl z92), (2, .inl z83), (1, .inl 1100), (0, .inr (.inr (some 82)))], [], (Jq, L98, X), 0, 0) (fun r => ∃ z I' L', r = (some (.inl z), (I', L', X), 0, 0) ∧ (∀ p k, ¬ (p = 82 ∧ k = 0) ∧ ¬ (p = 82 ∧ k = 2) ∧ ¬ (p = 82 ∧ k = 3) ∧ ¬ (p = 82 ∧ k = 7) ∧ ¬ (p = 82 ∧ k = 8) ∧ ¬ (p = 82 ∧ k = 13) ∧ ¬ (p = 82 ∧ k = 20) ∧ ¬ (p = 82 ∧ k = 28) ∧ ¬ (p = 82 ∧ k = 30) ∧ ¬ (p = 82 ∧ k = 33) ∧ p ≠ 84 ∧ p ≠ 85 ∧ p ≠ 89 ∧ p ≠ 90 ∧ p ≠ 95 ∧ p ≠ 96 ∧ p ≠ 99 ∧ p ≠ 100 ∧ p ≠ 102 → I' p k = I p k) ∧ (∀ p k, p ≠ 86 ∧ p ≠ 97 → L' p k = L p k) ∧ I' 82 2 = 0 ∧ ym_LW I I' 0 ∧ ym_ST I') := by
              intro Jq fJq 
              have pt178 : ∀ (pr : Int) (Jr : Nat → Nat → Int), (∀ p k, p ≠ 95 ∧ p ≠ 96 → Jr p k = Jq p k) → (Jr 100 0 = I 100 0) → yi_G zi_Ms d zi_m122 (178, [(3, .inl z92), (2, .inl z83), (1, .inl 1100), (0, .inr (.inr (some 82))), (4, .inl pr)], [], (Jr, L98, X), 0, 0) (fun r => ∃ z I' L', r = (some (.inl z), (I', L', X), 0, 0) ∧ (∀ p k, ¬ (p = 82 ∧ k = 0) ∧ ¬ (p = 82 ∧ k = 2) ∧ ¬ (p = 82 ∧ k = 3) ∧ ¬ (p = 82 ∧ k = 7) ∧ ¬ (p = 82 ∧ k = 8) ∧ ¬ (p = 82 ∧ k = 13) ∧ ¬ (p = 82 ∧ k = 20) ∧ ¬ (p = 82 ∧ k = 28) ∧ ¬ (p = 82 ∧ k = 30) ∧ ¬ (p = 82 ∧ k = 33) ∧ p ≠ 84 ∧ p ≠ 85 ∧ p ≠ 89 ∧ p ≠ 90 ∧ p ≠ 95 ∧ p ≠ 96 ∧ p ≠ 99 ∧ p ≠ 100 ∧ p ≠ 102 → I' p k = I p k) ∧ (∀ p k, p ≠ 86 ∧ p ≠ 97 → L' p k = L p k) ∧ I' 82 2 = 0 ∧ ym_LW I I' 0 ∧ ym_ST I') := by
                intro pr Jr fJr jr0 
                have pt203 : ∀ (pq : Int), yi_G zi_Ms d zi_m122 (203, [(3, .inl z92), (2, .inl z83), (1, .inl 1100), (0, .inr (.inr (some 82))), (4, .inl pq)], [], (Jr, L98, X), 0, 0) (fun r => ∃ z I' L', r = (some (.inl z), (I', L', X), 0, 0) ∧ (∀ p k, ¬ (p = 82 ∧ k = 0) ∧ ¬ (p = 82 ∧ k = 2) ∧ ¬ (p = 82 ∧ k = 3) ∧ ¬ (p = 82 ∧ k = 7) ∧ ¬ (p = 82 ∧ k = 8) ∧ ¬ (p = 82 ∧ k = 13) ∧ ¬ (p = 82 ∧ k = 20) ∧ ¬ (p = 82 ∧ k = 28) ∧ ¬ (p = 82 ∧ k = 30) ∧ ¬ (p = 82 ∧ k = 33) ∧ p ≠ 84 ∧ p ≠ 85 ∧ p ≠ 89 ∧ p ≠ 90 ∧ p ≠ 95 ∧ p ≠ 96 ∧ p ≠ 99 ∧ p ≠ 100 ∧ p ≠ 102 → I' p k = I p k) ∧ (∀ p k, p ≠ 86 ∧ p ≠ 97 → L' p k = L p k) ∧ I' 82 2 = 0 ∧ ym_LW I I' 0 ∧ ym_ST I') := by
                  intro pq  
                  refine yi_G_run 4 (209, [(3, .inl z92), (2, .inl z83), (1, .inl 1100), (0, .inr (.inr (some 82))), (4, .inl pq)], [.inr (.inr (some 82)), .inl 60, .inl 38, .inr (.inr (some 82))], (Jr, L98, X), 0, 0) (fun _ => rfl) ?_
                  refine yi_G_get (212, [(3, .inl z92), (2, .inl z83), (1, .inl 1100), (0, .inr (.inr (some 82))), (4, .inl pq)], [.inr (.inr (some 100)), .inl 60, .inl 38, .inr (.inr (some 82))], (Jr, L98, X), 0, 0) rfl (ym_gr hS 17 rfl rfl rfl) ?_
                  refine yi_G_run 1 (213, [(3, .inl z92), (2, .inl z83), (1, .inl 1100), (0, .inr (.inr (some 82))), (4, .inl pq)], [.inl 0, .inr (.inr (some 100)), .inl 60, .inl 38, .inr (.inr (some 82))], (Jr, L98, X), 0, 0) (fun _ => rfl) ?_
                  have r100 : Jr 100 0 = I96 100 0 := by rw [fJr 100 (0) (by omega), fJq 100 (0) (by omega), fJp 100 (0) (by omega)]
                  refine yi_G_iald (214, [(3, .inl z92), (2, .inl z83), (1, .inl 1100), (0, .inr (.inr (some 82))), (4, .inl pq)], [.inl (I96 100 0), .inl 60, .inl 38, .inr (.inr (some 82))], (Jr, L98, X), 0, 0) rfl (ym_li hS 17 rfl (by omega) (by omega) r100) ?_
                  refine yi_G_iadd rfl (60 + (I96 100 0)) (yi_wn (by omega) (by omega)) ?_
                  have r101 : Jr 82 25 = I 82 25 := by rw [fJr 82 (25) (by omega), fJq 82 (25) (by omega), fJp 82 (25) (by omega), f97 82 (25) (by omega), f86 82 (25) (by omega), f7 82 (25) (by omega), ← w2, yi_u_ne _ _ (by omega)]
                  refine yi_G_callv rfl rfl (ym_rcv hS) rfl (w_copiesRow (by omega) hS (by omega) (by omega) (by omega) (by omega) (by rw [r101]; omega) (by rw [r101]; omega)) ?_
                  rintro _ ⟨L102, rfl, f103⟩
                  show yi_G zi_Ms d zi_m122 (218, [(3, .inl z92), (2, .inl z83), (1, .inl 1100), (0, .inr (.inr (some 82))), (4, .inl pq)], [], (Jr, L102, X), 0, 0) _
                  refine yi_G_run 3 (222, [(3, .inl z92), (2, .inl z83), (1, .inl 1100), (0, .inr (.inr (some 82))), (4, .inl pq)], [.inr (.inr (some 82)), .inl 3, .inl 8], (Jr, L102, X), 0, 0) (fun _ => rfl) ?_
                  refine yi_G_get (225, [(3, .inl z92), (2, .inl z83), (1, .inl 1100), (0, .inr (.inr (some 82))), (4, .inl pq)], [.inr (.inr (some 100)), .inl 3, .inl 8], (Jr, L102, X), 0, 0) rfl (ym_gr hS 17 rfl rfl rfl) ?_
                  refine yi_G_run 1 (226, [(3, .inl z92), (2, .inl z83), (1, .inl 1100), (0, .inr (.inr (some 82))), (4, .inl pq)], [.inl 0, .inr (.inr (some 100)), .inl 3, .inl 8], (Jr, L102, X), 0, 0) (fun _ => rfl) ?_
                  have r104 : Jr 100 0 = I96 100 0 := by rw [fJr 100 (0) (by omega), fJq 100 (0) (by omega), fJp 100 (0) (by omega)]
                  refine yi_G_iald (227, [(3, .inl z92), (2, .inl z83), (1, .inl 1100), (0, .inr (.inr (some 82))), (4, .inl pq)], [.inl (I96 100 0), .inl 3, .inl 8], (Jr, L102, X), 0, 0) rfl (ym_li hS 17 rfl (by omega) (by omega) r104) ?_
                  refine yi_G_imul rfl (3 * (I96 100 0)) (yi_wn (by omega) (by omega)) ?_
                  refine yi_G_iadd rfl (8 + (3 * (I96 100 0))) (yi_wn (by omega) (by omega)) ?_
                  refine yi_G_run 2 (232, [(5, .inl (8 + (3 * (I96 100 0)))), (3, .inl z92), (2, .inl z83), (1, .inl 1100), (0, .inr (.inr (some 82))), (4, .inl pq)], [.inr (.inr (some 82))], (Jr, L102, X), 0, 0) (fun _ => rfl) ?_
                  refine yi_G_get (235, [(5, .inl (8 + (3 * (I96 100 0)))), (3, .inl z92), (2, .inl z83), (1, .inl 1100), (0, .inr (.inr (some 82))), (4, .inl pq)], [.inr (.inr (some 100))], (Jr, L102, X), 0, 0) rfl (ym_gr hS 17 rfl rfl rfl) ?_
                  refine yi_G_run 2 (238, [(5, .inl (8 + (3 * (I96 100 0)))), (3, .inl z92), (2, .inl z83), (1, .inl 1100), (0, .inr (.inr (some 82))), (4, .inl pq)], [.inr (.inr (some 82)), .inl (8 + (3 * (I96 100 0))), .inr (.inr (some 100))], (Jr, L102, X), 0, 0) (fun _ => rfl) ?_
                  have r105 : Jr 82 33 = I6 82 33 := by rw [fJr 82 (33) (by omega), fJq 82 (33) (by omega), fJp 82 (33) (by omega), f97 82 (33) (by omega), f86 82 (33) (by omega)]
                  refine yi_G_get (241, [(5, .inl (8 + (3 * (I96 100 0)))), (3, .inl z92), (2, .inl z83), (1, .inl 1100), (0, .inr (.inr (some 82))), (4, .inl pq)], [.inl (I6 82 33), .inl (8 + (3 * (I96 100 0))), .inr (.inr (some 100))], (Jr, L102, X), 0, 0) rfl (ym_gi hS rfl rfl r105) ?_
                  refine yi_G_iast (242, [(5, .inl (8 + (3 * (I96 100 0)))), (3, .inl z92), (2, .inl z83), (1, .inl 1100), (0, .inr (.inr (some 82))), (4, .inl pq)], [], ((yi_u Jr 100 ((8 + (3 * (I96 100 0))).toNat) (I6 82 33)), L102, X), 0, 0) rfl (ym_si hS 17 rfl (by omega) (by omega)) ?_
                  generalize w107 : yi_u Jr 100 ((8 + (3 * (I96 100 0))).toNat) (I6 82 33) = I106
                  refine yi_G_run 1 (243, [(5, .inl (8 + (3 * (I96 100 0)))), (3, .inl z92), (2, .inl z83), (1, .inl 1100), (0, .inr (.inr (some 82))), (4, .inl pq)], [.inr (.inr (some 82))], (I106, L102, X), 0, 0) (fun _ => rfl) ?_
                  refine yi_G_get (246, [(5, .inl (8 + (3 * (I96 100 0)))), (3, .inl z92), (2, .inl z83), (1, .inl 1100), (0, .inr (.inr (some 82))), (4, .inl pq)], [.inr (.inr (some 100))], (I106, L102, X), 0, 0) rfl (ym_gr hS 17 rfl rfl rfl) ?_
                  refine yi_G_run 2 (249, [(5, .inl (8 + (3 * (I96 100 0)))), (3, .inl z92), (2, .inl z83), (1, .inl 1100), (0, .inr (.inr (some 82))), (4, .inl pq)], [.inl 1, .inl (8 + (3 * (I96 100 0))), .inr (.inr (some 100))], (I106, L102, X), 0, 0) (fun _ => rfl) ?_
                  refine yi_G_iadd rfl ((8 + (3 * (I96 100 0))) + 1) (yi_wn (by omega) (by omega)) ?_
                  refine yi_G_run 1 (252, [(5, .inl (8 + (3 * (I96 100 0)))), (3, .inl z92), (2, .inl z83), (1, .inl 1100), (0, .inr (.inr (some 82))), (4, .inl pq)], [.inl pq, .inl ((8 + (3 * (I96 100 0))) + 1), .inr (.inr (some 100))], (I106, L102, X), 0, 0) (fun _ => rfl) ?_
                  refine yi_G_iast (253, [(5, .inl (8 + (3 * (I96 100 0)))), (3, .inl z92), (2, .inl z83), (1, .inl 1100), (0, .inr (.inr (some 82))), (4, .inl pq)], [], ((yi_u I106 100 (((8 + (3 * (I96 100 0))) + 1).toNat) pq), L102, X), 0, 0) rfl (ym_si hS 17 rfl (by omega) (by omega)) ?_
                  generalize w109 : yi_u I106 100 (((8 + (3 * (I96 100 0))) + 1).toNat) pq = I108
                  refine yi_G_run 1 (254, [(5, .inl (8 + (3 * (I96 100 0)))), (3, .inl z92), (2, .inl z83), (1, .inl 1100), (0, .inr (.inr (some 82))), (4, .inl pq)], [.inr (.inr (some 82))], (I108, L102, X), 0, 0) (fun _ => rfl) ?_
                  refine yi_G_get (257, [(5, .inl (8 + (3 * (I96 100 0)))), (3, .inl z92), (2, .inl z83), (1, .inl 1100), (0, .inr (.inr (some 82))), (4, .inl pq)], [.inr (.inr (some 100))], (I108, L102, X), 0, 0) rfl (ym_gr hS 17 rfl rfl rfl) ?_
                  refine yi_G_run 2 (260, [(5, .inl (8 + (3 * (I96 100 0)))), (3, .inl z92), (2, .inl z83), (1, .inl 1100), (0, .inr (.inr (some 82))), (4, .inl pq)], [.inl 2, .inl (8 + (3 * (I96 100 0))), .inr (.inr (some 100))], (I108, L102, X), 0, 0) (fun _ => rfl) ?_
                  refine yi_G_iadd rfl ((8 + (3 * (I96 100 0))) + 2) (yi_wn (by omega) (by omega)) ?_
                  refine yi_G_run 1 (262, [(5, .inl (8 + (3 * (I96 100 0)))), (3, .inl z92), (2, .inl z83), (1, .inl 1100), (0, .inr (.inr (some 82))), (4, .inl pq)], [.inl z92, .inl ((8 + (3 * (I96 100 0))) + 2), .inr (.inr (some 100))], (I108, L102, X), 0, 0) (fun _ => rfl) ?_
                  refine yi_G_iast (263, [(5, .inl (8 + (3 * (I96 100 0)))), (3, .inl z92), (2, .inl z83), (1, .inl 1100), (0, .inr (.inr (some 82))), (4, .inl pq)], [], ((yi_u I108 100 (((8 + (3 * (I96 100 0))) + 2).toNat) z92), L102, X), 0, 0) rfl (ym_si hS 17 rfl (by omega) (by omega)) ?_
                  generalize w111 : yi_u I108 100 (((8 + (3 * (I96 100 0))) + 2).toNat) z92 = I110
                  refine yi_G_run 1 (264, [(5, .inl (8 + (3 * (I96 100 0)))), (3, .inl z92), (2, .inl z83), (1, .inl 1100), (0, .inr (.inr (some 82))), (4, .inl pq)], [.inr (.inr (some 82))], (I110, L102, X), 0, 0) (fun _ => rfl) ?_
                  refine yi_G_get (267, [(5, .inl (8 + (3 * (I96 100 0)))), (3, .inl z92), (2, .inl z83), (1, .inl 1100), (0, .inr (.inr (some 82))), (4, .inl pq)], [.inr (.inr (some 100))], (I110, L102, X), 0, 0) rfl (ym_gr hS 17 rfl rfl rfl) ?_
                  refine yi_G_run 2 (269, [(5, .inl (8 + (3 * (I96 100 0)))), (3, .inl z92), (2, .inl z83), (1, .inl 1100), (0, .inr (.inr (some 82))), (4, .inl pq)], [.inl 0, .inr (.inr (some 100)), .inl 0, .inr (.inr (some 100))], (I110, L102, X), 0, 0) (fun _ => rfl) ?_
                  have q9 : I110 100 0 = I 100 0 := by rw [← w111, yi_u_ne _ _ (by omega), ← w109, yi_u_ne _ _ (by omega), ← w107, yi_u_ne _ _ (by omega), jr0]
                  refine yi_G_iald (270, [(5, .inl (8 + (3 * (I96 100 0)))), (3, .inl z92), (2, .inl z83), (1, .inl 1100), (0, .inr (.inr (some 82))), (4, .inl pq)], [.inl (I110 100 0), .inl 0, .inr (.inr (some 100))], (I110, L102, X), 0, 0) rfl (ym_li hS 17 rfl (by omega) (by omega) rfl) ?_
                  refine yi_G_run 1 (271, [(5, .inl (8 + (3 * (I96 100 0)))), (3, .inl z92), (2, .inl z83), (1, .inl 1100), (0, .inr (.inr (some 82))), (4, .inl pq)], [.inl 1, .inl (I110 100 0), .inl 0, .inr (.inr (some 100))], (I110, L102, X), 0, 0) (fun _ => rfl) ?_
                  refine yi_G_iadd rfl ((I110 100 0) + 1) (yi_wn (by omega) (by omega)) ?_
                  refine yi_G_iast (273, [(5, .inl (8 + (3 * (I96 100 0)))), (3, .inl z92), (2, .inl z83), (1, .inl 1100), (0, .inr (.inr (some 82))), (4, .inl pq)], [], ((yi_u I110 100 0 ((I110 100 0) + 1)), L102, X), 0, 0) rfl (ym_si hS 17 rfl (by omega) (by omega)) ?_
                  generalize w113 : yi_u I110 100 0 ((I110 100 0) + 1) = I112
                  refine yi_G_run 1 (274, [(5, .inl (8 + (3 * (I96 100 0)))), (3, .inl z92), (2, .inl z83), (1, .inl 1100), (0, .inr (.inr (some 82))), (4, .inl pq)], [.inr (.inr (some 82))], (I112, L102, X), 0, 0) (fun _ => rfl) ?_
                  refine yi_G_get (277, [(5, .inl (8 + (3 * (I96 100 0)))), (3, .inl z92), (2, .inl z83), (1, .inl 1100), (0, .inr (.inr (some 82))), (4, .inl pq)], [.inr (.inr (some 100))], (I112, L102, X), 0, 0) rfl (ym_gr hS 17 rfl rfl rfl) ?_
                  refine yi_G_run 2 (279, [(5, .inl (8 + (3 * (I96 100 0)))), (3, .inl z92), (2, .inl z83), (1, .inl 1100), (0, .inr (.inr (some 82))), (4, .inl pq)], [.inr (.inr (some 82)), .inl 3, .inr (.inr (some 100))], (I112, L102, X), 0, 0) (fun _ => rfl) ?_
                  have r114 : I112 82 33 = I6 82 33 := by rw [← w113, yi_u_ne _ _ (by omega), ← w111, yi_u_ne _ _ (by omega), ← w109, yi_u_ne _ _ (by omega), ← w107, yi_u_ne _ _ (by omega), fJr 82 (33) (by omega), fJq 82 (33) (by omega), fJp 82 (33) (by omega), f97 82 (33) (by omega), f86 82 (33) (by omega)]
                  refine yi_G_get (282, [(5, .inl (8 + (3 * (I96 100 0)))), (3, .inl z92), (2, .inl z83), (1, .inl 1100), (0, .inr (.inr (some 82))), (4, .inl pq)], [.inl (I6 82 33), .inl 3, .inr (.inr (some 100))], (I112, L102, X), 0, 0) rfl (ym_gi hS rfl rfl r114) ?_
                  refine yi_G_iadd rfl (3 + (I6 82 33)) (yi_wn (by omega) (by omega)) ?_
                  refine yi_G_iald (284, [(5, .inl (8 + (3 * (I96 100 0)))), (3, .inl z92), (2, .inl z83), (1, .inl 1100), (0, .inr (.inr (some 82))), (4, .inl pq)], [.inl (I112 100 ((3 + (I6 82 33)).toNat))], (I112, L102, X), 0, 0) rfl (ym_li hS 17 rfl (by omega) (by omega) rfl) ?_
                  refine yi_G_run 4 (290, [(6, .inl (yi_w ((I112 100 ((3 + (I6 82 33)).toNat)) + pq))), (5, .inl (8 + (3 * (I96 100 0)))), (3, .inl z92), (2, .inl z83), (1, .inl 1100), (0, .inr (.inr (some 82))), (4, .inl pq)], [.inr (.inr (some 82))], (I112, L102, X), 0, 0) (fun _ => rfl) ?_
                  refine yi_G_get (293, [(6, .inl (yi_w ((I112 100 ((3 + (I6 82 33)).toNat)) + pq))), (5, .inl (8 + (3 * (I96 100 0)))), (3, .inl z92), (2, .inl z83), (1, .inl 1100), (0, .inr (.inr (some 82))), (4, .inl pq)], [.inr (.inr (some 100))], (I112, L102, X), 0, 0) rfl (ym_gr hS 17 rfl rfl rfl) ?_
                  refine yi_G_run 2 (295, [(6, .inl (yi_w ((I112 100 ((3 + (I6 82 33)).toNat)) + pq))), (5, .inl (8 + (3 * (I96 100 0)))), (3, .inl z92), (2, .inl z83), (1, .inl 1100), (0, .inr (.inr (some 82))), (4, .inl pq)], [.inr (.inr (some 82)), .inl 3, .inr (.inr (some 100))], (I112, L102, X), 0, 0) (fun _ => rfl) ?_
                  have r115 : I112 82 33 = I6 82 33 := by rw [← w113, yi_u_ne _ _ (by omega), ← w111, yi_u_ne _ _ (by omega), ← w109, yi_u_ne _ _ (by omega), ← w107, yi_u_ne _ _ (by omega), fJr 82 (33) (by omega), fJq 82 (33) (by omega), fJp 82 (33) (by omega), f97 82 (33) (by omega), f86 82 (33) (by omega)]
                  refine yi_G_get (298, [(6, .inl (yi_w ((I112 100 ((3 + (I6 82 33)).toNat)) + pq))), (5, .inl (8 + (3 * (I96 100 0)))), (3, .inl z92), (2, .inl z83), (1, .inl 1100), (0, .inr (.inr (some 82))), (4, .inl pq)], [.inl (I6 82 33), .inl 3, .inr (.inr (some 100))], (I112, L102, X), 0, 0) rfl (ym_gi hS rfl rfl r115) ?_
                  refine yi_G_iadd rfl (3 + (I6 82 33)) (yi_wn (by omega) (by omega)) ?_
                  refine yi_G_run 1 (301, [(6, .inl (yi_w ((I112 100 ((3 + (I6 82 33)).toNat)) + pq))), (5, .inl (8 + (3 * (I96 100 0)))), (3, .inl z92), (2, .inl z83), (1, .inl 1100), (0, .inr (.inr (some 82))), (4, .inl pq)], [.inl (yi_w ((I112 100 ((3 + (I6 82 33)).toNat)) + pq)), .inl (3 + (I6 82 33)), .inr (.inr (some 100))], (I112, L102, X), 0, 0) (fun _ => rfl) ?_
                  refine yi_G_ldcw (99999) rfl (by decide +kernel) ?_
                  by_cases h116 : (yi_w ((I112 100 ((3 + (I6 82 33)).toNat)) + pq)) ≤ 99999
                  · refine yi_G_if2 true rfl (yi_le_t h116) ?_
                    refine yi_G_run 1 (315, [(6, .inl (yi_w ((I112 100 ((3 + (I6 82 33)).toNat)) + pq))), (5, .inl (8 + (3 * (I96 100 0)))), (3, .inl z92), (2, .inl z83), (1, .inl 1100), (0, .inr (.inr (some 82))), (4, .inl pq)], [.inl (yi_w ((I112 100 ((3 + (I6 82 33)).toNat)) + pq)), .inl (3 + (I6 82 33)), .inr (.inr (some 100))], (I112, L102, X), 0, 0) (fun _ => rfl) ?_
                    refine yi_G_iast (316, [(6, .inl (yi_w ((I112 100 ((3 + (I6 82 33)).toNat)) + pq))), (5, .inl (8 + (3 * (I96 100 0)))), (3, .inl z92), (2, .inl z83), (1, .inl 1100), (0, .inr (.inr (some 82))), (4, .inl pq)], [], ((yi_u I112 100 ((3 + (I6 82 33)).toNat) (yi_w ((I112 100 ((3 + (I6 82 33)).toNat)) + pq))), L102, X), 0, 0) rfl (ym_si hS 17 rfl (by omega) (by omega)) ?_
                    generalize w118 : yi_u I112 100 ((3 + (I6 82 33)).toNat) (yi_w ((I112 100 ((3 + (I6 82 33)).toNat)) + pq)) = I117
                    refine yi_G_run 1 (317, [(6, .inl (yi_w ((I112 100 ((3 + (I6 82 33)).toNat)) + pq))), (5, .inl (8 + (3 * (I96 100 0)))), (3, .inl z92), (2, .inl z83), (1, .inl 1100), (0, .inr (.inr (some 82))), (4, .inl pq)], [.inl 0], (I117, L102, X), 0, 0) (fun _ => rfl) ?_
                    have r119 : I117 82 2 = 0 := by rw [← w118, yi_u_ne _ _ (by omega), ← w113, yi_u_ne _ _ (by omega), ← w111, yi_u_ne _ _ (by omega), ← w109, yi_u_ne _ _ (by omega), ← w107, yi_u_ne _ _ (by omega), fJr 82 (2) (by omega), fJq 82 (2) (by omega), fJp 82 (2) (by omega), f97 82 (2) (by omega), f86 82 (2) (by omega), ra2]
                    exact yi_G_reti rfl rfl (⟨_, _, _, rfl, (fun p k hp => by rw [← w118, yi_u_ne _ _ (fun z => by omega), ← w113, yi_u_ne _ _ (fun z => by omega), ← w111, yi_u_ne _ _ (fun z => by omega), ← w109, yi_u_ne _ _ (fun z => by omega), ← w107, yi_u_ne _ _ (fun z => by omega), fJr p k (by omega), fJq p k (by omega), fJp p k (by omega), f97 p k (by omega), f86 p k (by omega), f7 p k (by omega), ← w2, yi_u_ne _ _ (fun z => by omega)]), (fun p k hp => by rw [f103 p k (by omega), f99 p k (by omega), f88 p k (by omega), f82 p k (by omega), f9 p k (by omega)]), by omega, (ym_LW_f (ym_LW_g raw (fun k => by rw [← w2, yi_u_ne _ _ (fun z => absurd z.1 (by decide))]) (fun k => by rw [← w2, yi_u_ne _ _ (fun z => absurd z.1 (by decide))])) (fun k => by rw [← w118, yi_u_ne _ _ (fun z => absurd z.1 (by decide)), ← w113, yi_u_ne _ _ (fun z => absurd z.1 (by decide)), ← w111, yi_u_ne _ _ (fun z => absurd z.1 (by decide)), ← w109, yi_u_ne _ _ (fun z => absurd z.1 (by decide)), ← w107, yi_u_ne _ _ (fun z => absurd z.1 (by decide)), fJr 89 k (by omega), fJq 89 k (by omega), fJp 89 k (by omega), f97 89 k (by omega), f86 89 k (by omega)]) (fun k => by rw [← w118, yi_u_ne _ _ (fun z => absurd z.1 (by decide)), ← w113, yi_u_ne _ _ (fun z => absurd z.1 (by decide)), ← w111, yi_u_ne _ _ (fun z => absurd z.1 (by decide)), ← w109, yi_u_ne _ _ (fun z => absurd z.1 (by decide)), ← w107, yi_u_ne _ _ (fun z => absurd z.1 (by decide)), fJr 90 k (by omega), fJq 90 k (by omega), fJp 90 k (by omega), f97 90 k (by omega), f86 90 k (by omega)])), (by rw [← w118]; exact ym_ST_u (by rw [← w113]; exact ym_ST_u (by rw [← w111]; exact ym_ST_u (by rw [← w109]; exact ym_ST_u (by rw [← w107]; exact ym_ST_u (ym_ST_t (fun k => fJr 100 k (by omega)) (fJr 82 30 (by omega)) (fun k => fJr 101 k (by omega)) (fun k => fJr 102 k (by omega)) (ym_ST_t (fun k => fJq 100 k (by omega)) (fJq 82 30 (by omega)) (fun k => fJq 101 k (by omega)) (fun k => fJq 102 k (by omega)) (ym_ST_t (fun k => fJp 100 k (by omega)) (fJp 82 30 (by omega)) (fun k => fJp 101 k (by omega)) (fun k => fJp 102 k (by omega)) stI96))) (by omega) (by omega) (by omega) (by omega) (by omega) (by omega)) (by omega) (by omega) (by omega) (by omega) (by omega) (by omega)) (by omega) (by omega) (by omega) (by omega) (by omega) (by omega)) (by omega) (by omega) (by omega) (by omega) (by omega) (by omega)) (by omega) (by omega) (by omega) (by omega) (by omega) (by omega))⟩)
                  · refine yi_G_if2 false rfl (yi_le_f h116) ?_
                    refine yi_G_ldcw (99999) rfl (by decide +kernel) ?_
                    refine yi_G_run 1 (315, [(6, .inl (yi_w ((I112 100 ((3 + (I6 82 33)).toNat)) + pq))), (5, .inl (8 + (3 * (I96 100 0)))), (3, .inl z92), (2, .inl z83), (1, .inl 1100), (0, .inr (.inr (some 82))), (4, .inl pq)], [.inl 99999, .inl (3 + (I6 82 33)), .inr (.inr (some 100))], (I112, L102, X), 0, 0) (fun _ => rfl) ?_
                    refine yi_G_iast (316, [(6, .inl (yi_w ((I112 100 ((3 + (I6 82 33)).toNat)) + pq))), (5, .inl (8 + (3 * (I96 100 0)))), (3, .inl z92), (2, .inl z83), (1, .inl 1100), (0, .inr (.inr (some 82))), (4, .inl pq)], [], ((yi_u I112 100 ((3 + (I6 82 33)).toNat) 99999), L102, X), 0, 0) rfl (ym_si hS 17 rfl (by omega) (by omega)) ?_
                    generalize w121 : yi_u I112 100 ((3 + (I6 82 33)).toNat) 99999 = I120
                    refine yi_G_run 1 (317, [(6, .inl (yi_w ((I112 100 ((3 + (I6 82 33)).toNat)) + pq))), (5, .inl (8 + (3 * (I96 100 0)))), (3, .inl z92), (2, .inl z83), (1, .inl 1100), (0, .inr (.inr (some 82))), (4, .inl pq)], [.inl 0], (I120, L102, X), 0, 0) (fun _ => rfl) ?_
                    have r122 : I120 82 2 = 0 := by rw [← w121, yi_u_ne _ _ (by omega), ← w113, yi_u_ne _ _ (by omega), ← w111, yi_u_ne _ _ (by omega), ← w109, yi_u_ne _ _ (by omega), ← w107, yi_u_ne _ _ (by omega), fJr 82 (2) (by omega), fJq 82 (2) (by omega), fJp 82 (2) (by omega), f97 82 (2) (by omega), f86 82 (2) (by omega), ra2]
                    exact yi_G_reti rfl rfl (⟨_, _, _, rfl, (fun p k hp => by rw [← w121, yi_u_ne _ _ (fun z => by omega), ← w113, yi_u_ne _ _ (fun z => by omega), ← w111, yi_u_ne _ _ (fun z => by omega), ← w109, yi_u_ne _ _ (fun z => by omega), ← w107, yi_u_ne _ _ (fun z => by omega), fJr p k (by omega), fJq p k (by omega), fJp p k (by omega), f97 p k (by omega), f86 p k (by omega), f7 p k (by omega), ← w2, yi_u_ne _ _ (fun z => by omega)]), (fun p k hp => by rw [f103 p k (by omega), f99 p k (by omega), f88 p k (by omega), f82 p k (by omega), f9 p k (by omega)]), by omega, (ym_LW_f (ym_LW_g raw (fun k => by rw [← w2, yi_u_ne _ _ (fun z => absurd z.1 (by decide))]) (fun k => by rw [← w2, yi_u_ne _ _ (fun z => absurd z.1 (by decide))])) (fun k => by rw [← w121, yi_u_ne _ _ (fun z => absurd z.1 (by decide)), ← w113, yi_u_ne _ _ (fun z => absurd z.1 (by decide)), ← w111, yi_u_ne _ _ (fun z => absurd z.1 (by decide)), ← w109, yi_u_ne _ _ (fun z => absurd z.1 (by decide)), ← w107, yi_u_ne _ _ (fun z => absurd z.1 (by decide)), fJr 89 k (by omega), fJq 89 k (by omega), fJp 89 k (by omega), f97 89 k (by omega), f86 89 k (by omega)]) (fun k => by rw [← w121, yi_u_ne _ _ (fun z => absurd z.1 (by decide)), ← w113, yi_u_ne _ _ (fun z => absurd z.1 (by decide)), ← w111, yi_u_ne _ _ (fun z => absurd z.1 (by decide)), ← w109, yi_u_ne _ _ (fun z => absurd z.1 (by decide)), ← w107, yi_u_ne _ _ (fun z => absurd z.1 (by decide)), fJr 90 k (by omega), fJq 90 k (by omega), fJp 90 k (by omega), f97 90 k (by omega), f86 90 k (by omega)])), (by rw [← w121]; exact ym_ST_u (by rw [← w113]; exact ym_ST_u (by rw [← w111]; exact ym_ST_u (by rw [← w109]; exact ym_ST_u (by rw [← w107]; exact ym_ST_u (ym_ST_t (fun k => fJr 100 k (by omega)) (fJr 82 30 (by omega)) (fun k => fJr 101 k (by omega)) (fun k => fJr 102 k (by omega)) (ym_ST_t (fun k => fJq 100 k (by omega)) (fJq 82 30 (by omega)) (fun k => fJq 101 k (by omega)) (fun k => fJq 102 k (by omega)) (ym_ST_t (fun k => fJp 100 k (by omega)) (fJp 82 30 (by omega)) (fun k => fJp 101 k (by omega)) (fun k => fJp 102 k (by omega)) stI96))) (by omega) (by omega) (by omega) (by omega) (by omega) (by omega)) (by omega) (by omega) (by omega) (by omega) (by omega) (by omega)) (by omega) (by omega) (by omega) (by omega) (by omega) (by omega)) (by omega) (by omega) (by omega) (by omega) (by omega) (by omega)) (by omega) (by omega) (by omega) (by omega) (by omega) (by omega))⟩)
                refine yi_G_run 1 (180, [(3, .inl z92), (2, .inl z83), (1, .inl 1100), (0, .inr (.inr (some 82))), (4, .inl pr)], [.inl pr], (Jr, L98, X), 0, 0) (fun _ => rfl) ?_
                by_cases h123 : 0 ≤ pr
                · refine yi_G_if1 true rfl (yi_ge_t h123) ?_
                  refine yi_G_run 2 (191, [(3, .inl z92), (2, .inl z83), (1, .inl 1100), (0, .inr (.inr (some 82))), (4, .inl pr)], [.inl 99, .inl pr], (Jr, L98, X), 0, 0) (fun _ => rfl) ?_
                  by_cases h124 : pr ≤ 99
                  · refine yi_G_if2 true rfl (yi_le_t h124) ?_
                    refine yi_G_run 2 (203, [(4, .inl pr), (3, .inl z92), (2, .inl z83), (1, .inl 1100), (0, .inr (.inr (some 82)))], [], (Jr, L98, X), 0, 0) (fun _ => rfl) ?_
                    refine yi_G_al (al := [(3, .inl z92), (2, .inl z83), (1, .inl 1100), (0, .inr (.inr (some 82))), (4, .inl pr)]) (show ([3, 2, 1, 0, 4] : List Nat).Nodup by decide) (show ([4, 3, 2, 1, 0] : List Nat).Nodup by decide) (yi_mc (List.mem_of_getElem? (i := 1) rfl) (yi_mc (List.mem_of_getElem? (i := 2) rfl) (yi_mc (List.mem_of_getElem? (i := 3) rfl) (yi_mc (List.mem_of_getElem? (i := 4) rfl) (yi_mc (List.mem_of_getElem? (i := 0) rfl) yi_mn))))) ?_
                    exact pt203 pr 
                  · refine yi_G_if2 false rfl (yi_le_f h124) ?_
                    refine yi_G_run 3 (203, [(4, .inl 99), (3, .inl z92), (2, .inl z83), (1, .inl 1100), (0, .inr (.inr (some 82)))], [], (Jr, L98, X), 0, 0) (fun _ => rfl) ?_
                    refine yi_G_al (al := [(3, .inl z92), (2, .inl z83), (1, .inl 1100), (0, .inr (.inr (some 82))), (4, .inl 99)]) (show ([3, 2, 1, 0, 4] : List Nat).Nodup by decide) (show ([4, 3, 2, 1, 0] : List Nat).Nodup by decide) (yi_mc (List.mem_of_getElem? (i := 1) rfl) (yi_mc (List.mem_of_getElem? (i := 2) rfl) (yi_mc (List.mem_of_getElem? (i := 3) rfl) (yi_mc (List.mem_of_getElem? (i := 4) rfl) (yi_mc (List.mem_of_getElem? (i := 0) rfl) yi_mn))))) ?_
                    exact pt203 99 
                · refine yi_G_if1 false rfl (yi_ge_f h123) ?_
                  refine yi_G_run 3 (203, [(4, .inl 0), (3, .inl z92), (2, .inl z83), (1, .inl 1100), (0, .inr (.inr (some 82)))], [], (Jr, L98, X), 0, 0) (fun _ => rfl) ?_
                  refine yi_G_al (al := [(3, .inl z92), (2, .inl z83), (1, .inl 1100), (0, .inr (.inr (some 82))), (4, .inl 0)]) (show ([3, 2, 1, 0, 4] : List Nat).Nodup by decide) (show ([4, 3, 2, 1, 0] : List Nat).Nodup by decide) (yi_mc (List.mem_of_getElem? (i := 1) rfl) (yi_mc (List.mem_of_getElem? (i := 2) rfl) (yi_mc (List.mem_of_getElem? (i := 3) rfl) (yi_mc (List.mem_of_getElem? (i := 4) rfl) (yi_mc (List.mem_of_getElem? (i := 0) rfl) yi_mn))))) ?_
                  exact pt203 0 
              refine yi_G_run 1 (140, [(3, .inl z92), (2, .inl z83), (1, .inl 1100), (0, .inr (.inr (some 82)))], [.inr (.inr (some 82))], (Jq, L98, X), 0, 0) (fun _ => rfl) ?_
              refine yi_G_get (143, [(3, .inl z92), (2, .inl z83), (1, .inl 1100), (0, .inr (.inr (some 82)))], [.inr (.inr (some 95))], (Jq, L98, X), 0, 0) rfl (ym_gr hS 12 rfl rfl rfl) ?_
              refine yi_G_run 2 (145, [(3, .inl z92), (2, .inl z83), (1, .inl 1100), (0, .inr (.inr (some 82)))], [.inr (.inr (some 82)), .inl 2, .inr (.inr (some 95))], (Jq, L98, X), 0, 0) (fun _ => rfl) ?_
              refine yi_G_get (148, [(3, .inl z92), (2, .inl z83), (1, .inl 1100), (0, .inr (.inr (some 82)))], [.inr (.inr (some 100)), .inl 2, .inr (.inr (some 95))], (Jq, L98, X), 0, 0) rfl (ym_gr hS 17 rfl rfl rfl) ?_
              refine yi_G_run 1 (149, [(3, .inl z92), (2, .inl z83), (1, .inl 1100), (0, .inr (.inr (some 82)))], [.inl 0, .inr (.inr (some 100)), .inl 2, .inr (.inr (some 95))], (Jq, L98, X), 0, 0) (fun _ => rfl) ?_
              have r125 : Jq 100 0 = I96 100 0 := by rw [fJq 100 (0) (by omega), fJp 100 (0) (by omega)]
              refine yi_G_iald (150, [(3, .inl z92), (2, .inl z83), (1, .inl 1100), (0, .inr (.inr (some 82)))], [.inl (I96 100 0), .inl 2, .inr (.inr (some 95))], (Jq, L98, X), 0, 0) rfl (ym_li hS 17 rfl (by omega) (by omega) r125) ?_
              refine yi_G_iast (151, [(3, .inl z92), (2, .inl z83), (1, .inl 1100), (0, .inr (.inr (some 82)))], [], ((yi_u Jq 95 2 (I96 100 0)), L98, X), 0, 0) rfl (ym_si hS 12 rfl (by omega) (by omega)) ?_
              generalize w127 : yi_u Jq 95 2 (I96 100 0) = I126
              refine yi_G_run 1 (152, [(3, .inl z92), (2, .inl z83), (1, .inl 1100), (0, .inr (.inr (some 82)))], [.inr (.inr (some 82))], (I126, L98, X), 0, 0) (fun _ => rfl) ?_
              refine yi_G_get (155, [(3, .inl z92), (2, .inl z83), (1, .inl 1100), (0, .inr (.inr (some 82)))], [.inr (.inr (some 88))], (I126, L98, X), 0, 0) rfl (ym_gr hS 5 rfl rfl rfl) ?_
              refine yi_G_run 1 (157, [(3, .inl z92), (2, .inl z83), (1, .inl 1100), (0, .inr (.inr (some 82)))], [.inl 6, .inr (.inr (some 88))], (I126, L98, X), 0, 0) (fun _ => rfl) ?_
              have r128 : I126 88 6 = I 88 6 := by rw [← w127, yi_u_ne _ _ (by omega), fJq 88 (6) (by omega), fJp 88 (6) (by omega), f97 88 (6) (by omega), f86 88 (6) (by omega), f7 88 (6) (by omega), ← w2, yi_u_ne _ _ (by omega)]
              refine yi_G_iald (158, [(3, .inl z92), (2, .inl z83), (1, .inl 1100), (0, .inr (.inr (some 82)))], [.inl (I 88 6)], (I126, L98, X), 0, 0) rfl (ym_li hS 5 rfl (by omega) (by omega) r128) ?_
              by_cases h129 : 0 ≤ (I 88 6)
              · refine yi_G_if1 true rfl (yi_ge_t h129) ?_
                refine yi_G_run 2 (167, [(3, .inl z92), (2, .inl z83), (1, .inl 1100), (0, .inr (.inr (some 82)))], [.inr (.inr (some 82)), .inr (.inr (some 82))], (I126, L98, X), 0, 0) (fun _ => rfl) ?_
                refine yi_G_get (170, [(3, .inl z92), (2, .inl z83), (1, .inl 1100), (0, .inr (.inr (some 82)))], [.inr (.inr (some 88)), .inr (.inr (some 82))], (I126, L98, X), 0, 0) rfl (ym_gr hS 5 rfl rfl rfl) ?_
                refine yi_G_run 1 (172, [(3, .inl z92), (2, .inl z83), (1, .inl 1100), (0, .inr (.inr (some 82)))], [.inl 6, .inr (.inr (some 88)), .inr (.inr (some 82))], (I126, L98, X), 0, 0) (fun _ => rfl) ?_
                have r130 : I126 88 6 = I 88 6 := by rw [← w127, yi_u_ne _ _ (by omega), fJq 88 (6) (by omega), fJp 88 (6) (by omega), f97 88 (6) (by omega), f86 88 (6) (by omega), f7 88 (6) (by omega), ← w2, yi_u_ne _ _ (by omega)]
                refine yi_G_iald (173, [(3, .inl z92), (2, .inl z83), (1, .inl 1100), (0, .inr (.inr (some 82)))], [.inl (I 88 6), .inr (.inr (some 82))], (I126, L98, X), 0, 0) rfl (ym_li hS 5 rfl (by omega) (by omega) r130) ?_
                obtain ⟨ep, hpr⟩ : ∃ e, e ≤ 1099 ∧ ym_PG I (I 88 6) e := hPK.2.2.resolve_left (by omega)
                have hpr2 : ym_PG I6 (I 88 6) ep := ym_PG_lw hpr.2 hpr.1 (ym_LW_g raw (fun k => by rw [← w2, yi_u_ne _ _ (fun z => absurd z.1 (by decide))]) (fun k => by rw [← w2, yi_u_ne _ _ (fun z => absurd z.1 (by decide))]))
                refine yi_G_callv rfl rfl (ym_rcv hS) rfl (c_worthAt d (by omega) hS (ym_LR_t (fun k => by rw [← w127, yi_u_ne _ _ (fun z => absurd z.1 (by decide)), fJq 88 k (by omega), fJp 88 k (by omega), f97 88 k (by omega), f86 88 k (by omega), f7 88 k (by omega), ← w2, yi_u_ne _ _ (fun z => absurd z.1 (by decide))]) hLR) (ym_PG_t (fun k => by rw [← w127, yi_u_ne _ _ (fun z => absurd z.1 (by decide)), fJq 89 k (by omega), fJp 89 k (by omega), f97 89 k (by omega), f86 89 k (by omega)]) (fun k => by rw [← w127, yi_u_ne _ _ (fun z => absurd z.1 (by decide)), fJq 90 k (by omega), fJp 90 k (by omega), f97 90 k (by omega), f86 90 k (by omega)]) hpr2)) ?_
                rintro _ ⟨z131, I132, rfl, f133⟩
                show yi_G zi_Ms d zi_m122 (176, [(3, .inl z92), (2, .inl z83), (1, .inl 1100), (0, .inr (.inr (some 82)))], [.inl z131], (I132, L98, X), 0, 0) _
                refine yi_G_run 1 (178, [(4, .inl z131), (3, .inl z92), (2, .inl z83), (1, .inl 1100), (0, .inr (.inr (some 82)))], [], (I132, L98, X), 0, 0) (fun _ => rfl) ?_
                refine yi_G_al (al := [(3, .inl z92), (2, .inl z83), (1, .inl 1100), (0, .inr (.inr (some 82))), (4, .inl z131)]) (show ([3, 2, 1, 0, 4] : List Nat).Nodup by decide) (show ([4, 3, 2, 1, 0] : List Nat).Nodup by decide) (yi_mc (List.mem_of_getElem? (i := 1) rfl) (yi_mc (List.mem_of_getElem? (i := 2) rfl) (yi_mc (List.mem_of_getElem? (i := 3) rfl) (yi_mc (List.mem_of_getElem? (i := 4) rfl) (yi_mc (List.mem_of_getElem? (i := 0) rfl) yi_mn))))) ?_
                exact pt178 z131 I132 (fun p k hp => by rw [f133 p k (by omega), ← w127, yi_u_ne _ _ (fun z => by omega)]) (by rw [f133 100 0 (by omega), ← w127, yi_u_ne _ _ (by omega), fJq 100 0 (by omega), fJp 100 0 (by omega), lok _ (by omega), f86 100 0 (by omega), f7 100 0 (by omega), ← w2, yi_u_ne _ _ (by omega)])
              · refine yi_G_if1 false rfl (yi_ge_f h129) ?_
                refine yi_G_run 3 (178, [(4, .inl 1), (3, .inl z92), (2, .inl z83), (1, .inl 1100), (0, .inr (.inr (some 82)))], [], (I126, L98, X), 0, 0) (fun _ => rfl) ?_
                refine yi_G_al (al := [(3, .inl z92), (2, .inl z83), (1, .inl 1100), (0, .inr (.inr (some 82))), (4, .inl 1)]) (show ([3, 2, 1, 0, 4] : List Nat).Nodup by decide) (show ([4, 3, 2, 1, 0] : List Nat).Nodup by decide) (yi_mc (List.mem_of_getElem? (i := 1) rfl) (yi_mc (List.mem_of_getElem? (i := 2) rfl) (yi_mc (List.mem_of_getElem? (i := 3) rfl) (yi_mc (List.mem_of_getElem? (i := 4) rfl) (yi_mc (List.mem_of_getElem? (i := 0) rfl) yi_mn))))) ?_
                exact pt178 1 I126 (fun p k hp => by rw [← w127, yi_u_ne _ _ (fun z => by omega)]) (by rw [← w127, yi_u_ne _ _ (by omega), fJq 100 0 (by omega), fJp 100 0 (by omega), lok _ (by omega), f86 100 0 (by omega), f7 100 0 (by omega), ← w2, yi_u_ne _ _ (by omega)])
            refine yi_G_run 1 (120, [(3, .inl z92), (2, .inl z83), (1, .inl 1100), (0, .inr (.inr (some 82)))], [.inr (.inr (some 82))], (Jp, L98, X), 0, 0) (fun _ => rfl) ?_
            refine yi_G_get (123, [(3, .inl z92), (2, .inl z83), (1, .inl 1100), (0, .inr (.inr (some 82)))], [.inr (.inr (some 95))], (Jp, L98, X), 0, 0) rfl (ym_gr hS 12 rfl rfl rfl) ?_
            refine yi_G_run 3 (128, [(3, .inl z92), (2, .inl z83), (1, .inl 1100), (0, .inr (.inr (some 82)))], [.inl 9999, .inl z92, .inl 1, .inr (.inr (some 95))], (Jp, L98, X), 0, 0) (fun _ => rfl) ?_
            by_cases h134 : z92 ≤ 9999
            · refine yi_G_if2 true rfl (yi_le_t h134) ?_
              refine yi_G_run 1 (138, [(3, .inl z92), (2, .inl z83), (1, .inl 1100), (0, .inr (.inr (some 82)))], [.inl z92, .inl 1, .inr (.inr (some 95))], (Jp, L98, X), 0, 0) (fun _ => rfl) ?_
              refine yi_G_iast (139, [(3, .inl z92), (2, .inl z83), (1, .inl 1100), (0, .inr (.inr (some 82)))], [], ((yi_u Jp 95 1 z92), L98, X), 0, 0) rfl (ym_si hS 12 rfl (by omega) (by omega)) ?_
              generalize w136 : yi_u Jp 95 1 z92 = I135
              exact pt139 I135 (fun p k hp => by rw [← w136, yi_u_ne _ _ (fun z => by omega)])
            · refine yi_G_if2 false rfl (yi_le_f h134) ?_
              refine yi_G_run 2 (138, [(3, .inl z92), (2, .inl z83), (1, .inl 1100), (0, .inr (.inr (some 82)))], [.inl 9999, .inl 1, .inr (.inr (some 95))], (Jp, L98, X), 0, 0) (fun _ => rfl) ?_
              refine yi_G_iast (139, [(3, .inl z92), (2, .inl z83), (1, .inl 1100), (0, .inr (.inr (some 82)))], [], ((yi_u Jp 95 1 9999), L98, X), 0, 0) rfl (ym_si hS 12 rfl (by omega) (by omega)) ?_
              generalize w138 : yi_u Jp 95 1 9999 = I137
              exact pt139 I137 (fun p k hp => by rw [← w138, yi_u_ne _ _ (fun z => by omega)])
          refine yi_G_run 1 (100, [(3, .inl z92), (2, .inl z83), (1, .inl 1100), (0, .inr (.inr (some 82)))], [.inr (.inr (some 82))], (I96, L98, X), 0, 0) (fun _ => rfl) ?_
          refine yi_G_get (103, [(3, .inl z92), (2, .inl z83), (1, .inl 1100), (0, .inr (.inr (some 82)))], [.inr (.inr (some 95))], (I96, L98, X), 0, 0) rfl (ym_gr hS 12 rfl rfl rfl) ?_
          refine yi_G_run 3 (108, [(3, .inl z92), (2, .inl z83), (1, .inl 1100), (0, .inr (.inr (some 82)))], [.inl 9999, .inl z83, .inl 0, .inr (.inr (some 95))], (I96, L98, X), 0, 0) (fun _ => rfl) ?_
          by_cases h139 : z83 ≤ 9999
          · refine yi_G_if2 true rfl (yi_le_t h139) ?_
            refine yi_G_run 1 (118, [(3, .inl z92), (2, .inl z83), (1, .inl 1100), (0, .inr (.inr (some 82)))], [.inl z83, .inl 0, .inr (.inr (some 95))], (I96, L98, X), 0, 0) (fun _ => rfl) ?_
            refine yi_G_iast (119, [(3, .inl z92), (2, .inl z83), (1, .inl 1100), (0, .inr (.inr (some 82)))], [], ((yi_u I96 95 0 z83), L98, X), 0, 0) rfl (ym_si hS 12 rfl (by omega) (by omega)) ?_
            generalize w141 : yi_u I96 95 0 z83 = I140
            exact pt119 I140 (fun p k hp => by rw [← w141, yi_u_ne _ _ (fun z => by omega)])
          · refine yi_G_if2 false rfl (yi_le_f h139) ?_
            refine yi_G_run 2 (118, [(3, .inl z92), (2, .inl z83), (1, .inl 1100), (0, .inr (.inr (some 82)))], [.inl 9999, .inl 0, .inr (.inr (some 95))], (I96, L98, X), 0, 0) (fun _ => rfl) ?_
            refine yi_G_iast (119, [(3, .inl z92), (2, .inl z83), (1, .inl 1100), (0, .inr (.inr (some 82)))], [], ((yi_u I96 95 0 9999), L98, X), 0, 0) rfl (ym_si hS 12 rfl (by omega) (by omega)) ?_
            generalize w143 : yi_u I96 95 0 9999 = I142
            exact pt119 I142 (fun p k hp => by rw [← w143, yi_u_ne _ _ (fun z => by omega)])
  · refine yi_G_if1 false rfl (yi_le_f h12) ?_
    refine yi_G_run 1 (19, [(1, .inl 1100), (0, .inr (.inr (some 82)))], [.inr (.inr (some 82))], (I6, L8, X), 0, 0) (fun _ => rfl) ?_
    refine yi_G_get (22, [(1, .inl 1100), (0, .inr (.inr (some 82)))], [.inl (I6 82 8)], (I6, L8, X), 0, 0) rfl (ym_gi hS rfl rfl rfl) ?_
    have r144 : I6 82 2 = 0 := by rw [ra2]
    exact yi_G_reti rfl rfl (⟨_, _, _, rfl, (fun p k hp => by rw [f7 p k (by omega), ← w2, yi_u_ne _ _ (fun z => by omega)]), (fun p k hp => by rw [f9 p k (by omega)]), by omega, (ym_LW_g raw (fun k => by rw [← w2, yi_u_ne _ _ (fun z => absurd z.1 (by decide))]) (fun k => by rw [← w2, yi_u_ne _ _ (fun z => absurd z.1 (by decide))])), (ym_ST_t (fun k => f7 100 k (by omega)) (f7 82 30 (by omega)) (fun k => f7 101 k (by omega)) (fun k => f7 102 k (by omega)) (ym_ST_t (fun k => by rw [← w2, yi_u_ne _ _ (by omega)]) (by rw [← w2, yi_u_ne _ _ (by omega)]) (fun k => by rw [← w2, yi_u_ne _ _ (by omega)]) (fun k => by rw [← w2, yi_u_ne _ _ (by omega)]) hST))⟩)
