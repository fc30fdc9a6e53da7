/-! The reader. -/
theorem k_wrongR (D : Nat) (hD : 1 ≤ D) {E : List Nat} {I L : cl_I} {R : cl_Rr} {Y : cl_Y} (hC : cl_C E I L R Y) {x : Int} (hx : 1 ≤ x ∧ x ≤ 5) : yi_E zi_Ms D 272 [.inr (.inr (some 11)), .inl x] (I, L, R, Y) (fun r => ∃ I', r = (none, (I', L, R, Y), 0, 0) ∧ cl_P E I L R Y I' L R Y ∧ (I 11 3 ≤ I' 11 3) ∧ (I' 11 11 = 0 → I 11 11 = 0) ∧ (0 ≤ I 11 8 → 0 ≤ I' 11 8) ∧ (0 ≤ I 11 8 → ¬ I' 11 11 = 0)) := by
  obtain ⟨d, rfl⟩ : ∃ d, D = d + 1 := ⟨D - 1, by omega⟩
  refine yi_E_of (M := zi_m272) rfl rfl ?_
  have hP : cl_P E I L R Y I L R Y := cl_P_r hC
  show yi_G zi_Ms d zi_m272 (0, [(0, .inr (.inr (some 11))), (1, .inl x)], [], (I, L, R, Y), 0, 0) _
  refine yi_G_run 1 (1, [(0, .inr (.inr (some 11))), (1, .inl x)], [.inr (.inr (some 11))], (I, L, R, Y), 0, 0) (fun _ => rfl) ?_
  refine cl_G_gi rfl (cl_T_K (cl_11 hP.1)) rfl rfl rfl ?_
  by_cases h1 : (I 11 11) = 0
  · refine yi_G_if1 false rfl (yi_ne_f h1) ?_
    refine yi_G_run 1 (8, [(0, .inr (.inr (some 11))), (1, .inl x)], [.inr (.inr (some 11))], (I, L, R, Y), 0, 0) (fun _ => rfl) ?_
    have b2 := cl_rd hP.1 (cl_11 hP.1) (k := 8) (lo := -1) (hi := 1000) rfl
    refine cl_G_gi rfl (cl_T_K (cl_11 hP.1)) rfl rfl rfl ?_
    by_cases h3 : (I 11 8) < 0
    · refine yi_G_if1 true rfl (yi_lt_t h3) ?_
      exact yi_G_retv rfl rfl (⟨_, rfl, hP, by omega, by omega, by omega, by first | omega | (unfold yi_w at *; omega)⟩)
    · refine yi_G_if1 false rfl (yi_lt_f h3) ?_
      refine yi_G_run 1 (15, [(0, .inr (.inr (some 11))), (1, .inl x)], [.inr (.inr (some 11))], (I, L, R, Y), 0, 0) (fun _ => rfl) ?_
      have b4 := cl_rd hP.1 (cl_11 hP.1) (k := 8) (lo := -1) (hi := 1000) rfl
      refine cl_G_gi rfl (cl_T_K (cl_11 hP.1)) rfl rfl rfl ?_
      refine yi_G_run 1 (19, [(0, .inr (.inr (some 11))), (1, .inl x)], [.inr (.inr (some 11)), .inl (I 11 8)], (I, L, R, Y), 0, 0) (fun _ => rfl) ?_
      refine cl_G_gr rfl (cl_T_K (cl_11 hP.1)) rfl rfl rfl (hP.1.2.2.2.1.2.2.2.2.2.1) ?_
      obtain ⟨q5, e6, t7, n8⟩ := cl_rn hP.1 (cl_12 hP.1) (k := 2) (m := 1000) rfl
      refine cl_G_gr rfl (cl_T_K (cl_12 hP.1)) rfl rfl rfl e6 ?_
      refine cl_G_len rfl t7 (by omega) ?_
      by_cases h9 : ((Y.2.1 q5 : Int)) ≤ (I 11 8)
      · refine yi_G_if2 true rfl (yi_ge_t h9) ?_
        exact yi_G_retv rfl rfl (⟨_, rfl, hP, by omega, by omega, by omega, by first | omega | (unfold yi_w at *; omega)⟩)
      · refine yi_G_if2 false rfl (yi_ge_f h9) ?_
        refine yi_G_run 4 (34, [(0, .inr (.inr (some 11))), (1, .inl x)], [.inr (.inr (some 11)), .inl 16, .inl x, .inr (.inr (some 11))], (I, L, R, Y), 0, 0) (fun _ => rfl) ?_
        refine cl_G_gr rfl (cl_T_K (cl_11 hP.1)) rfl rfl rfl (hP.1.2.2.2.1.2.2.2.2.2.1) ?_
        refine cl_G_gr rfl (cl_T_K (cl_12 hP.1)) rfl rfl rfl e6 ?_
        refine yi_G_run 1 (41, [(0, .inr (.inr (some 11))), (1, .inl x)], [.inr (.inr (some 11)), .inr (.inr (some q5)), .inl 16, .inl x, .inr (.inr (some 11))], (I, L, R, Y), 0, 0) (fun _ => rfl) ?_
        have b10 := cl_rd hP.1 (cl_11 hP.1) (k := 8) (lo := -1) (hi := 1000) rfl
        refine cl_G_gi rfl (cl_T_K (cl_11 hP.1)) rfl rfl rfl ?_
        refine cl_G_iald rfl t7 (by omega) (by omega) ?_
        refine yi_G_run 2 (47, [(0, .inr (.inr (some 11))), (1, .inl x)], [.inl (yi_w (x + (yi_w (16 * (I q5 ((I 11 8).toNat)))))), .inr (.inr (some 11))], (I, L, R, Y), 0, 0) (fun _ => rfl) ?_
        refine cl_G_pi rfl (cl_T_K (cl_11 hP.1)) rfl rfl rfl ?_
        have hP11 := cl_P_uI (k := 11) (v := yi_w (x + (yi_w (16 * (I q5 ((I 11 8).toNat)))))) hP (cl_11 hP.1) (by decide) (cl_hv0 rfl)
        generalize w12 : yi_u I 11 11 (yi_w (x + (yi_w (16 * (I q5 ((I 11 8).toNat)))))) = I13 at hP11 ⊢
        have r14 : I13 11 3 = I 11 3 := by rw [← w12, yi_u_ne _ _ (fun z => absurd z.2 (by decide))]
        have r15 : I13 11 8 = I 11 8 := by rw [← w12, yi_u_ne _ _ (fun z => absurd z.2 (by decide))]
        have r16 : I13 11 11 = yi_w (x + (yi_w (16 * (I q5 ((I 11 8).toNat))))) := by rw [← w12, yi_u_eq]
        exact yi_G_retv rfl rfl (⟨_, rfl, hP11, by omega, by omega, by omega, by first | omega | (unfold yi_w at *; omega)⟩)
  · refine yi_G_if1 true rfl (yi_ne_t h1) ?_
    exact yi_G_retv rfl rfl (⟨_, rfl, hP, by omega, by omega, by omega, by first | omega | (unfold yi_w at *; omega)⟩)
theorem k_advanceR (D : Nat) (hD : 1 ≤ D) {E : List Nat} {I L : cl_I} {R : cl_Rr} {Y : cl_Y} (hC : cl_C E I L R Y) : yi_E zi_Ms D 247 [.inr (.inr (some 11))] (I, L, R, Y) (fun r => ∃ I', ∃ L', r = (none, (I', L', R, Y), 0, 0) ∧ cl_P E I L R Y I' L' R Y ∧ (I 11 3 ≤ I' 11 3) ∧ (I' 11 11 = 0 → I 11 11 = 0) ∧ (0 ≤ I 11 8 → 0 ≤ I' 11 8) ∧ (I' 11 11 = I 11 11) ∧ (I' 11 3 = I 11 3) ∧ (I 11 8 = -1 → I 11 11 = 0 → 1 ≤ I 12 6 → I' 11 8 = 0) ∧ (∀ q, R 12 1 = some q → I 11 8 = -1 → I 11 11 = 0 → 1 ≤ I 12 6 → I' 11 9 = I q 0)) := by
  obtain ⟨d, rfl⟩ : ∃ d, D = d + 1 := ⟨D - 1, by omega⟩
  refine yi_E_of (M := zi_m247) rfl rfl ?_
  have hP : cl_P E I L R Y I L R Y := cl_P_r hC
  show yi_G zi_Ms d zi_m247 (0, [(0, .inr (.inr (some 11)))], [], (I, L, R, Y), 0, 0) _
  refine yi_G_run 1 (1, [(0, .inr (.inr (some 11)))], [.inr (.inr (some 11))], (I, L, R, Y), 0, 0) (fun _ => rfl) ?_
  have b1 := cl_rd hP.1 (cl_11 hP.1) (k := 8) (lo := -1) (hi := 1000) rfl
  refine cl_G_gi rfl (cl_T_K (cl_11 hP.1)) rfl rfl rfl ?_
  refine yi_G_run 1 (5, [(0, .inr (.inr (some 11)))], [.inl 1, .inl (I 11 8)], (I, L, R, Y), 0, 0) (fun _ => rfl) ?_
  refine yi_G_iadd rfl ((I 11 8) + 1) (yi_wn (by omega) (by omega)) ?_
  refine yi_G_run 2 (8, [(1, .inl ((I 11 8) + 1)), (0, .inr (.inr (some 11)))], [.inr (.inr (some 11))], (I, L, R, Y), 0, 0) (fun _ => rfl) ?_
  refine cl_G_gi rfl (cl_T_K (cl_11 hP.1)) rfl rfl rfl ?_
  by_cases h2 : (I 11 11) = 0
  · refine yi_G_if1 false rfl (yi_ne_f h2) ?_
    refine yi_G_run 2 (16, [(1, .inl ((I 11 8) + 1)), (0, .inr (.inr (some 11)))], [.inr (.inr (some 11)), .inl ((I 11 8) + 1)], (I, L, R, Y), 0, 0) (fun _ => rfl) ?_
    refine cl_G_gr rfl (cl_T_K (cl_11 hP.1)) rfl rfl rfl (hP.1.2.2.2.1.2.2.2.2.2.1) ?_
    have b3 := cl_rd hP.1 (cl_12 hP.1) (k := 6) (lo := 0) (hi := 1001) rfl
    refine cl_G_gi rfl (cl_T_K (cl_12 hP.1)) rfl rfl rfl ?_
    by_cases h4 : (I 12 6) ≤ ((I 11 8) + 1)
    · refine yi_G_if2 true rfl (yi_ge_t h4) ?_
      exact yi_G_retv rfl rfl (⟨_, _, rfl, hP, by omega, by omega, by omega, by omega, by omega, by omega, (fun q hq h1 h2 h3 => False.elim (by omega))⟩)
    · refine yi_G_if2 false rfl (yi_ge_f h4) ?_
      refine yi_G_run 2 (27, [(1, .inl ((I 11 8) + 1)), (0, .inr (.inr (some 11)))], [.inr (.inr (some 11)), .inl ((I 11 8) + 1)], (I, L, R, Y), 0, 0) (fun _ => rfl) ?_
      refine cl_G_gr rfl (cl_T_K (cl_11 hP.1)) rfl rfl rfl (hP.1.2.2.2.1.2.2.2.2.2.1) ?_
      obtain ⟨q5, e6, t7, n8⟩ := cl_rn hP.1 (cl_12 hP.1) (k := 1) (m := 1000) rfl
      refine cl_G_gr rfl (cl_T_K (cl_12 hP.1)) rfl rfl rfl e6 ?_
      refine cl_G_len rfl t7 (by omega) ?_
      by_cases h9 : ((Y.2.1 q5 : Int)) ≤ ((I 11 8) + 1)
      · refine yi_G_if2 true rfl (yi_ge_t h9) ?_
        exact yi_G_retv rfl rfl (⟨_, _, rfl, hP, by omega, by omega, by omega, by omega, by omega, by omega, (fun q hq h1 h2 h3 => False.elim (by omega))⟩)
      · refine yi_G_if2 false rfl (yi_ge_f h9) ?_
        refine yi_G_run 2 (39, [(1, .inl ((I 11 8) + 1)), (0, .inr (.inr (some 11)))], [.inr (.inr (some 11)), .inl ((I 11 8) + 1)], (I, L, R, Y), 0, 0) (fun _ => rfl) ?_
        refine cl_G_gr rfl (cl_T_K (cl_11 hP.1)) rfl rfl rfl (hP.1.2.2.2.1.2.2.2.2.2.1) ?_
        obtain ⟨q10, e11, t12, n13⟩ := cl_rn hP.1 (cl_12 hP.1) (k := 3) (m := 1000) rfl
        refine cl_G_gr rfl (cl_T_K (cl_12 hP.1)) rfl rfl rfl e11 ?_
        refine cl_G_len rfl t12 (by omega) ?_
        by_cases h14 : ((Y.2.1 q10 : Int)) ≤ ((I 11 8) + 1)
        · refine yi_G_if2 true rfl (yi_ge_t h14) ?_
          exact yi_G_retv rfl rfl (⟨_, _, rfl, hP, by omega, by omega, by omega, by omega, by omega, by omega, (fun q hq h1 h2 h3 => False.elim (by omega))⟩)
        · refine yi_G_if2 false rfl (yi_ge_f h14) ?_
          refine yi_G_run 2 (51, [(1, .inl ((I 11 8) + 1)), (0, .inr (.inr (some 11)))], [.inl ((I 11 8) + 1), .inr (.inr (some 11))], (I, L, R, Y), 0, 0) (fun _ => rfl) ?_
          refine cl_G_pi rfl (cl_T_K (cl_11 hP.1)) rfl rfl rfl ?_
          have hP15 := cl_P_uI (k := 8) (v := (I 11 8) + 1) hP (cl_11 hP.1) (by decide) (cl_hv rfl (by omega) (by omega))
          generalize w16 : yi_u I 11 8 ((I 11 8) + 1) = I17 at hP15 ⊢
          refine yi_G_run 2 (56, [(1, .inl ((I 11 8) + 1)), (0, .inr (.inr (some 11)))], [.inr (.inr (some 11)), .inr (.inr (some 11))], (I17, L, R, Y), 0, 0) (fun _ => rfl) ?_
          refine cl_G_gr rfl (cl_T_K (cl_11 hP15.1)) rfl rfl rfl (hP15.1.2.2.2.1.2.2.2.2.2.1) ?_
          refine cl_G_gr rfl (cl_T_K (cl_12 hP15.1)) rfl rfl rfl e6 ?_
          refine yi_G_run 1 (63, [(1, .inl ((I 11 8) + 1)), (0, .inr (.inr (some 11)))], [.inl ((I 11 8) + 1), .inr (.inr (some q5)), .inr (.inr (some 11))], (I17, L, R, Y), 0, 0) (fun _ => rfl) ?_
          refine cl_G_iald rfl t7 (by omega) (by omega) ?_
          refine cl_G_pi rfl (cl_T_K (cl_11 hP15.1)) rfl rfl rfl ?_
          have hP18 := cl_P_uI (k := 9) (v := I17 q5 (((I 11 8) + 1).toNat)) hP15 (cl_11 hP15.1) (by decide) (cl_hv0 rfl)
          generalize w19 : yi_u I17 11 9 (I17 q5 (((I 11 8) + 1).toNat)) = I20 at hP18 ⊢
          refine yi_G_run 2 (69, [(1, .inl ((I 11 8) + 1)), (0, .inr (.inr (some 11)))], [.inr (.inr (some 11)), .inr (.inr (some 11))], (I20, L, R, Y), 0, 0) (fun _ => rfl) ?_
          refine cl_G_gr rfl (cl_T_K (cl_11 hP18.1)) rfl rfl rfl (hP18.1.2.2.2.1.2.2.2.2.2.1) ?_
          refine cl_G_gr rfl (cl_T_K (cl_12 hP18.1)) rfl rfl rfl e11 ?_
          refine yi_G_run 1 (76, [(1, .inl ((I 11 8) + 1)), (0, .inr (.inr (some 11)))], [.inl ((I 11 8) + 1), .inr (.inr (some q10)), .inr (.inr (some 11))], (I20, L, R, Y), 0, 0) (fun _ => rfl) ?_
          refine cl_G_lald rfl t12 (by omega) (by omega) ?_
          refine cl_G_pl rfl (cl_T_K (cl_11 hP18.1)) rfl rfl rfl ?_
          have hP21 := cl_P_uL (k := 10) (v := L q10 (((I 11 8) + 1).toNat)) hP18 (cl_11 hP18.1) (by omega)
          generalize w22 : yi_u L 11 10 (L q10 (((I 11 8) + 1).toNat)) = L23 at hP21 ⊢
          have r24 : I20 11 3 = I 11 3 := by rw [← w19, yi_u_ne _ _ (fun z => absurd z.2 (by decide)), ← w16, yi_u_ne _ _ (fun z => absurd z.2 (by decide))]
          have r25 : I20 11 8 = (I 11 8) + 1 := by rw [← w19, yi_u_ne _ _ (fun z => absurd z.2 (by decide)), ← w16, yi_u_eq]
          have r26 : I20 11 11 = I 11 11 := by rw [← w19, yi_u_ne _ _ (fun z => absurd z.2 (by decide)), ← w16, yi_u_ne _ _ (fun z => absurd z.2 (by decide))]
          exact yi_G_retv rfl rfl (⟨_, _, rfl, hP21, by omega, by omega, by omega, by omega, by omega, by omega, (fun q hq h1 h2 h3 => by have e_ := hq.symm.trans e6; cases e_; rw [← w19, yi_u_eq, ← w16, yi_u_ne _ _ (fun z => cl_ne t7 (cl_11 hP.1) (by decide) z.1), h1]; rfl)⟩)
  · refine yi_G_if1 true rfl (yi_ne_t h2) ?_
    exact yi_G_retv rfl rfl (⟨_, _, rfl, hP, by omega, by omega, by omega, by omega, by omega, by omega, (fun q hq h1 h2 h3 => False.elim (by omega))⟩)
theorem k_emitR (D : Nat) (hD : 1 ≤ D) {E : List Nat} {I L : cl_I} {R : cl_Rr} {Y : cl_Y} (hC : cl_C E I L R Y) {x : Int} : yi_E zi_Ms D 249 [.inr (.inr (some 11)), .inl x] (I, L, R, Y) (fun r => ∃ I', r = (none, (I', L, R, Y), 0, 0) ∧ cl_P E I L R Y I' L R Y ∧ (I 11 3 ≤ I' 11 3) ∧ (I' 11 11 = 0 → I 11 11 = 0) ∧ (0 ≤ I 11 8 → 0 ≤ I' 11 8)) := by
  obtain ⟨d, rfl⟩ : ∃ d, D = d + 1 := ⟨D - 1, by omega⟩
  refine yi_E_of (M := zi_m249) rfl rfl ?_
  have hP : cl_P E I L R Y I L R Y := cl_P_r hC
  show yi_G zi_Ms d zi_m249 (0, [(0, .inr (.inr (some 11))), (1, .inl x)], [], (I, L, R, Y), 0, 0) _
  refine yi_G_run 1 (1, [(0, .inr (.inr (some 11))), (1, .inl x)], [.inr (.inr (some 11))], (I, L, R, Y), 0, 0) (fun _ => rfl) ?_
  refine cl_G_gi rfl (cl_T_K (cl_11 hP.1)) rfl rfl rfl ?_
  by_cases h1 : (I 11 11) = 0
  · refine yi_G_if1 false rfl (yi_ne_f h1) ?_
    refine yi_G_run 1 (8, [(0, .inr (.inr (some 11))), (1, .inl x)], [.inr (.inr (some 11))], (I, L, R, Y), 0, 0) (fun _ => rfl) ?_
    have b2 := cl_rd hP.1 (cl_11 hP.1) (k := 3) (lo := 0) (hi := 1002) rfl
    refine cl_G_gi rfl (cl_T_K (cl_11 hP.1)) rfl rfl rfl ?_
    refine yi_G_run 1 (12, [(0, .inr (.inr (some 11))), (1, .inl x)], [.inr (.inr (some 11)), .inl (I 11 3)], (I, L, R, Y), 0, 0) (fun _ => rfl) ?_
    obtain ⟨q3, e4, t5, n6⟩ := cl_rn hP.1 (cl_11 hP.1) (k := 2) (m := 1001) rfl
    refine cl_G_gr rfl (cl_T_K (cl_11 hP.1)) rfl rfl rfl e4 ?_
    refine cl_G_len rfl t5 (by omega) ?_
    by_cases h7 : ((Y.2.1 q3 : Int)) ≤ (I 11 3)
    · refine yi_G_if2 true rfl (yi_ge_t h7) ?_
      exact yi_G_retv rfl rfl (⟨_, rfl, hP, by omega, by omega, by omega⟩)
    · refine yi_G_if2 false rfl (yi_ge_f h7) ?_
      refine yi_G_run 1 (20, [(0, .inr (.inr (some 11))), (1, .inl x)], [.inr (.inr (some 11))], (I, L, R, Y), 0, 0) (fun _ => rfl) ?_
      refine cl_G_gr rfl (cl_T_K (cl_11 hP.1)) rfl rfl rfl e4 ?_
      refine yi_G_run 1 (24, [(0, .inr (.inr (some 11))), (1, .inl x)], [.inr (.inr (some 11)), .inr (.inr (some q3))], (I, L, R, Y), 0, 0) (fun _ => rfl) ?_
      have b8 := cl_rd hP.1 (cl_11 hP.1) (k := 3) (lo := 0) (hi := 1002) rfl
      refine cl_G_gi rfl (cl_T_K (cl_11 hP.1)) rfl rfl rfl ?_
      refine yi_G_run 1 (28, [(0, .inr (.inr (some 11))), (1, .inl x)], [.inl x, .inl (I 11 3), .inr (.inr (some q3))], (I, L, R, Y), 0, 0) (fun _ => rfl) ?_
      refine cl_G_iast rfl t5 (by omega) (by omega) ?_
      have hP9 := cl_P_uI (k := ((I 11 3).toNat)) (v := x) hP t5 (by omega) (cl_hv0 rfl)
      generalize w10 : yi_u I q3 ((I 11 3).toNat) x = I11 at hP9 ⊢
      refine yi_G_run 2 (31, [(0, .inr (.inr (some 11))), (1, .inl x)], [.inr (.inr (some 11)), .inr (.inr (some 11))], (I11, L, R, Y), 0, 0) (fun _ => rfl) ?_
      have b12 := cl_rd hP9.1 (cl_11 hP9.1) (k := 3) (lo := 0) (hi := 1002) rfl
      have r13 : I11 11 3 = I 11 3 := by rw [← w10, yi_u_ne _ _ (fun z => cl_ne (cl_11 hP9.1) t5 (by decide) z.1)]
      refine cl_G_gi rfl (cl_T_K (cl_11 hP9.1)) rfl rfl rfl ?_
      refine yi_G_run 1 (35, [(0, .inr (.inr (some 11))), (1, .inl x)], [.inl 1, .inl (I11 11 3), .inr (.inr (some 11))], (I11, L, R, Y), 0, 0) (fun _ => rfl) ?_
      refine yi_G_iadd rfl ((I11 11 3) + 1) (yi_wn (by omega) (by omega)) ?_
      refine cl_G_pi rfl (cl_T_K (cl_11 hP9.1)) rfl rfl rfl ?_
      have hP14 := cl_P_uI (k := 3) (v := (I11 11 3) + 1) hP9 (cl_11 hP9.1) (by decide) (cl_hv rfl (by omega) (by omega))
      generalize w15 : yi_u I11 11 3 ((I11 11 3) + 1) = I16 at hP14 ⊢
      have r17 : I16 11 3 = (I11 11 3) + 1 := by rw [← w15, yi_u_eq]
      have r18 : I16 11 8 = I 11 8 := by rw [← w15, yi_u_ne _ _ (fun z => absurd z.2 (by decide)), ← w10, yi_u_ne _ _ (fun z => cl_ne (cl_11 hP14.1) t5 (by decide) z.1)]
      have r19 : I16 11 11 = I 11 11 := by rw [← w15, yi_u_ne _ _ (fun z => absurd z.2 (by decide)), ← w10, yi_u_ne _ _ (fun z => cl_ne (cl_11 hP14.1) t5 (by decide) z.1)]
      exact yi_G_retv rfl rfl (⟨_, rfl, hP14, by omega, by omega, by omega⟩)
  · refine yi_G_if1 true rfl (yi_ne_t h1) ?_
    exact yi_G_retv rfl rfl (⟨_, rfl, hP, by omega, by omega, by omega⟩)
theorem k_takeKindR (D : Nat) (hD : 2 ≤ D) {E : List Nat} {I L : cl_I} {R : cl_Rr} {Y : cl_Y} (hC : cl_C E I L R Y) {x : Int} : yi_E zi_Ms D 268 [.inr (.inr (some 11)), .inl x] (I, L, R, Y) (fun r => ∃ I', ∃ L', r = (none, (I', L', R, Y), 0, 0) ∧ cl_P E I L R Y I' L' R Y ∧ (I 11 3 ≤ I' 11 3) ∧ (I' 11 11 = 0 → I 11 11 = 0) ∧ (0 ≤ I 11 8 → 0 ≤ I' 11 8) ∧ (0 ≤ I 11 8 → I' 11 11 = 0 → I 11 9 = x)) := by
  obtain ⟨d, rfl⟩ : ∃ d, D = d + 1 := ⟨D - 1, by omega⟩
  refine yi_E_of (M := zi_m268) rfl rfl ?_
  have hP : cl_P E I L R Y I L R Y := cl_P_r hC
  show yi_G zi_Ms d zi_m268 (0, [(0, .inr (.inr (some 11))), (1, .inl x)], [], (I, L, R, Y), 0, 0) _
  have pt13 : ∀ (Ip13 : cl_I), (cl_P E I L R Y Ip13 L R Y) → (I 11 3 ≤ Ip13 11 3) → (Ip13 11 11 = 0 → I 11 11 = 0) → (0 ≤ I 11 8 → 0 ≤ Ip13 11 8) → (0 ≤ I 11 8 → Ip13 11 11 = 0 → I 11 9 = x) → yi_G zi_Ms d zi_m268 (13, [(0, .inr (.inr (some 11))), (1, .inl x)], [], (Ip13, L, R, Y), 0, 0) (fun r => ∃ I', ∃ L', r = (none, (I', L', R, Y), 0, 0) ∧ cl_P E I L R Y I' L' R Y ∧ (I 11 3 ≤ I' 11 3) ∧ (I' 11 11 = 0 → I 11 11 = 0) ∧ (0 ≤ I 11 8 → 0 ≤ I' 11 8) ∧ (0 ≤ I 11 8 → I' 11 11 = 0 → I 11 9 = x)) := by
    intro Ip13 hPp13 ua va wa ka
    refine yi_G_run 1 (14, [(0, .inr (.inr (some 11))), (1, .inl x)], [.inr (.inr (some 11))], (Ip13, L, R, Y), 0, 0) (fun _ => rfl) ?_
    refine yi_G_callv rfl rfl (cl_rcv (cl_11 hPp13.1) rfl) rfl (k_advanceR d (by omega) hPp13.1  ) ?_
    rintro _ ⟨I1, L1, rfl, hQ1, x1a, x1b, x1c, x1d, x1e, x1f, x1g⟩
    have hP1 := cl_P_t hPp13 hQ1
    show yi_G zi_Ms d zi_m268 (17, [(0, .inr (.inr (some 11))), (1, .inl x)], [], (I1, L1, R, Y), 0, 0) _
    exact yi_G_retv rfl rfl (⟨_, _, rfl, hP1, by omega, by omega, by omega, by omega⟩)
  refine yi_G_run 1 (1, [(0, .inr (.inr (some 11))), (1, .inl x)], [.inr (.inr (some 11))], (I, L, R, Y), 0, 0) (fun _ => rfl) ?_
  refine cl_G_gi rfl (cl_T_K (cl_11 hP.1)) rfl rfl rfl ?_
  refine yi_G_run 1 (5, [(0, .inr (.inr (some 11))), (1, .inl x)], [.inl x, .inl (I 11 9)], (I, L, R, Y), 0, 0) (fun _ => rfl) ?_
  by_cases h2 : (I 11 9) = x
  · refine yi_G_if2 true rfl (yi_eq_t h2) ?_
    exact pt13 I hP (by omega) (by omega) (by omega) (by omega)
  · refine yi_G_if2 false rfl (yi_eq_f h2) ?_
    refine yi_G_run 2 (10, [(0, .inr (.inr (some 11))), (1, .inl x)], [.inl 1, .inr (.inr (some 11))], (I, L, R, Y), 0, 0) (fun _ => rfl) ?_
    refine yi_G_callv rfl rfl (cl_rcv (cl_11 hP.1) rfl) rfl (k_wrongR d (by omega) hP.1  (by omega)) ?_
    rintro _ ⟨I3, rfl, hQ3, x3a, x3b, x3c, x3d⟩
    have hP3 := cl_P_t hP hQ3
    show yi_G zi_Ms d zi_m268 (13, [(0, .inr (.inr (some 11))), (1, .inl x)], [], (I3, L, R, Y), 0, 0) _
    exact pt13 I3 hP3 (by omega) (by omega) (by omega) (by omega)
theorem k_takeNumberR (D : Nat) (hD : 2 ≤ D) {E : List Nat} {I L : cl_I} {R : cl_Rr} {Y : cl_Y} (hC : cl_C E I L R Y) {x : Int} {y : Int} : yi_E zi_Ms D 271 [.inr (.inr (some 11)), .inl x, .inl y] (I, L, R, Y) (fun r => ∃ z, ∃ I', ∃ L', r = (some (.inl z), (I', L', R, Y), 0, 0) ∧ cl_P E I L R Y I' L' R Y ∧ (I 11 3 ≤ I' 11 3) ∧ (I' 11 11 = 0 → I 11 11 = 0) ∧ (0 ≤ I 11 8 → 0 ≤ I' 11 8) ∧ (0 ≤ I 11 8 → I' 11 11 = 0 → x ≤ z ∧ z ≤ y)) := by
  obtain ⟨d, rfl⟩ : ∃ d, D = d + 1 := ⟨D - 1, by omega⟩
  refine yi_E_of (M := zi_m271) rfl rfl ?_
  have hP : cl_P E I L R Y I L R Y := cl_P_r hC
  show yi_G zi_Ms d zi_m271 (0, [(0, .inr (.inr (some 11))), (1, .inl x), (2, .inl y)], [], (I, L, R, Y), 0, 0) _
  refine yi_G_run 1 (1, [(0, .inr (.inr (some 11))), (1, .inl x), (2, .inl y)], [.inr (.inr (some 11))], (I, L, R, Y), 0, 0) (fun _ => rfl) ?_
  refine cl_G_gl rfl (cl_T_K (cl_11 hP.1)) rfl rfl rfl ?_
  refine yi_G_run 2 (6, [(3, .inl (yi_w (L 11 10))), (0, .inr (.inr (some 11))), (1, .inl x), (2, .inl y)], [], (I, L, R, Y), 0, 0) (fun _ => rfl) ?_
  have pt37 : ∀ (Ip37 : cl_I), (cl_P E I L R Y Ip37 L R Y) → (I 11 3 ≤ Ip37 11 3) → (Ip37 11 11 = 0 → I 11 11 = 0) → (0 ≤ I 11 8 → 0 ≤ Ip37 11 8) → (0 ≤ I 11 8 → Ip37 11 11 = 0 → x ≤ yi_w (L 11 10) ∧ yi_w (L 11 10) ≤ y) → yi_G zi_Ms d zi_m271 (37, [(3, .inl (yi_w (L 11 10))), (0, .inr (.inr (some 11))), (1, .inl x), (2, .inl y)], [], (Ip37, L, R, Y), 0, 0) (fun r => ∃ z, ∃ I', ∃ L', r = (some (.inl z), (I', L', R, Y), 0, 0) ∧ cl_P E I L R Y I' L' R Y ∧ (I 11 3 ≤ I' 11 3) ∧ (I' 11 11 = 0 → I 11 11 = 0) ∧ (0 ≤ I 11 8 → 0 ≤ I' 11 8) ∧ (0 ≤ I 11 8 → I' 11 11 = 0 → x ≤ z ∧ z ≤ y)) := by
    intro Ip37 hPp37 ua va wa ka
    refine yi_G_run 1 (38, [(3, .inl (yi_w (L 11 10))), (0, .inr (.inr (some 11))), (1, .inl x), (2, .inl y)], [.inr (.inr (some 11))], (Ip37, L, R, Y), 0, 0) (fun _ => rfl) ?_
    refine yi_G_callv rfl rfl (cl_rcv (cl_11 hPp37.1) rfl) rfl (k_advanceR d (by omega) hPp37.1  ) ?_
    rintro _ ⟨I1, L1, rfl, hQ1, x1a, x1b, x1c, x1d, x1e, x1f, x1g⟩
    have hP1 := cl_P_t hPp37 hQ1
    show yi_G zi_Ms d zi_m271 (41, [(3, .inl (yi_w (L 11 10))), (0, .inr (.inr (some 11))), (1, .inl x), (2, .inl y)], [], (I1, L1, R, Y), 0, 0) _
    refine yi_G_run 1 (42, [(3, .inl (yi_w (L 11 10))), (0, .inr (.inr (some 11))), (1, .inl x), (2, .inl y)], [.inl (yi_w (L 11 10))], (I1, L1, R, Y), 0, 0) (fun _ => rfl) ?_
    exact yi_G_reti rfl rfl (⟨_, _, _, rfl, hP1, by omega, by omega, by omega, by omega⟩)
  refine yi_G_run 1 (7, [(3, .inl (yi_w (L 11 10))), (0, .inr (.inr (some 11))), (1, .inl x), (2, .inl y)], [.inr (.inr (some 11))], (I, L, R, Y), 0, 0) (fun _ => rfl) ?_
  refine cl_G_gi rfl (cl_T_K (cl_11 hP.1)) rfl rfl rfl ?_
  refine yi_G_run 1 (11, [(3, .inl (yi_w (L 11 10))), (0, .inr (.inr (some 11))), (1, .inl x), (2, .inl y)], [.inl 2, .inl (I 11 9)], (I, L, R, Y), 0, 0) (fun _ => rfl) ?_
  by_cases h2 : (I 11 9) = 2
  · refine yi_G_if2 true rfl (yi_eq_t h2) ?_
    refine yi_G_run 2 (24, [(3, .inl (yi_w (L 11 10))), (0, .inr (.inr (some 11))), (1, .inl x), (2, .inl y)], [.inl x, .inl (yi_w (L 11 10))], (I, L, R, Y), 0, 0) (fun _ => rfl) ?_
    by_cases h3 : (yi_w (L 11 10)) < x
    · refine yi_G_if2 true rfl (yi_lt_t h3) ?_
      refine yi_G_run 2 (34, [(3, .inl (yi_w (L 11 10))), (0, .inr (.inr (some 11))), (1, .inl x), (2, .inl y)], [.inl 4, .inr (.inr (some 11))], (I, L, R, Y), 0, 0) (fun _ => rfl) ?_
      refine yi_G_callv rfl rfl (cl_rcv (cl_11 hP.1) rfl) rfl (k_wrongR d (by omega) hP.1  (by omega)) ?_
      rintro _ ⟨I4, rfl, hQ4, x4a, x4b, x4c, x4d⟩
      have hP4 := cl_P_t hP hQ4
      show yi_G zi_Ms d zi_m271 (37, [(3, .inl (yi_w (L 11 10))), (0, .inr (.inr (some 11))), (1, .inl x), (2, .inl y)], [], (I4, L, R, Y), 0, 0) _
      exact pt37 I4 hP4 (by omega) (by omega) (by omega) (by omega)
    · refine yi_G_if2 false rfl (yi_lt_f h3) ?_
      refine yi_G_run 2 (29, [(3, .inl (yi_w (L 11 10))), (0, .inr (.inr (some 11))), (1, .inl x), (2, .inl y)], [.inl y, .inl (yi_w (L 11 10))], (I, L, R, Y), 0, 0) (fun _ => rfl) ?_
      by_cases h5 : (yi_w (L 11 10)) ≤ y
      · refine yi_G_if2 true rfl (yi_le_t h5) ?_
        exact pt37 I hP (by omega) (by omega) (by omega) (by omega)
      · refine yi_G_if2 false rfl (yi_le_f h5) ?_
        refine yi_G_run 2 (34, [(3, .inl (yi_w (L 11 10))), (0, .inr (.inr (some 11))), (1, .inl x), (2, .inl y)], [.inl 4, .inr (.inr (some 11))], (I, L, R, Y), 0, 0) (fun _ => rfl) ?_
        refine yi_G_callv rfl rfl (cl_rcv (cl_11 hP.1) rfl) rfl (k_wrongR d (by omega) hP.1  (by omega)) ?_
        rintro _ ⟨I6, rfl, hQ6, x6a, x6b, x6c, x6d⟩
        have hP6 := cl_P_t hP hQ6
        show yi_G zi_Ms d zi_m271 (37, [(3, .inl (yi_w (L 11 10))), (0, .inr (.inr (some 11))), (1, .inl x), (2, .inl y)], [], (I6, L, R, Y), 0, 0) _
        exact pt37 I6 hP6 (by omega) (by omega) (by omega) (by omega)
  · refine yi_G_if2 false rfl (yi_eq_f h2) ?_
    refine yi_G_run 2 (16, [(3, .inl (yi_w (L 11 10))), (0, .inr (.inr (some 11))), (1, .inl x), (2, .inl y)], [.inl 1, .inr (.inr (some 11))], (I, L, R, Y), 0, 0) (fun _ => rfl) ?_
    refine yi_G_callv rfl rfl (cl_rcv (cl_11 hP.1) rfl) rfl (k_wrongR d (by omega) hP.1  (by omega)) ?_
    rintro _ ⟨I7, rfl, hQ7, x7a, x7b, x7c, x7d⟩
    have hP7 := cl_P_t hP hQ7
    show yi_G zi_Ms d zi_m271 (19, [(3, .inl (yi_w (L 11 10))), (0, .inr (.inr (some 11))), (1, .inl x), (2, .inl y)], [], (I7, L, R, Y), 0, 0) _
    refine yi_G_run 1 (37, [(3, .inl (yi_w (L 11 10))), (0, .inr (.inr (some 11))), (1, .inl x), (2, .inl y)], [], (I7, L, R, Y), 0, 0) (fun _ => rfl) ?_
    exact pt37 I7 hP7 (by omega) (by omega) (by omega) (by omega)
theorem k_takeNameR (D : Nat) (hD : 2 ≤ D) {E : List Nat} {I L : cl_I} {R : cl_Rr} {Y : cl_Y} (hC : cl_C E I L R Y) {a : Nat} (ta : cl_T E Y a 21) {x : Int} : yi_E zi_Ms D 269 [.inr (.inr (some 11)), .inr (.inr (some a)), .inl x] (I, L, R, Y) (fun r => ∃ z, ∃ I', ∃ L', r = (some (.inl z), (I', L', R, Y), 0, 0) ∧ cl_P E I L R Y I' L' R Y ∧ (I 11 3 ≤ I' 11 3) ∧ (I' 11 11 = 0 → I 11 11 = 0) ∧ (0 ≤ I 11 8 → 0 ≤ I' 11 8)) := by
  obtain ⟨d, rfl⟩ : ∃ d, D = d + 1 := ⟨D - 1, by omega⟩
  refine yi_E_of (M := zi_m269) rfl rfl ?_
  have hP : cl_P E I L R Y I L R Y := cl_P_r hC
  show yi_G zi_Ms d zi_m269 (0, [(0, .inr (.inr (some 11))), (1, .inr (.inr (some a))), (2, .inl x)], [], (I, L, R, Y), 0, 0) _
  refine yi_G_run 1 (1, [(0, .inr (.inr (some 11))), (1, .inr (.inr (some a))), (2, .inl x)], [.inr (.inr (some 11))], (I, L, R, Y), 0, 0) (fun _ => rfl) ?_
  refine cl_G_gi rfl (cl_T_K (cl_11 hP.1)) rfl rfl rfl ?_
  refine yi_G_run 1 (5, [(0, .inr (.inr (some 11))), (1, .inr (.inr (some a))), (2, .inl x)], [.inl 3, .inl (I 11 9)], (I, L, R, Y), 0, 0) (fun _ => rfl) ?_
  by_cases h1 : (I 11 9) = 3
  · refine yi_G_if2 false rfl (yi_ne_f h1) ?_
    refine yi_G_run 3 (11, [(0, .inr (.inr (some 11))), (1, .inr (.inr (some a))), (2, .inl x)], [.inr (.inr (some 11)), .inl x, .inr (.inr (some a))], (I, L, R, Y), 0, 0) (fun _ => rfl) ?_
    refine cl_G_gl rfl (cl_T_K (cl_11 hP.1)) rfl rfl rfl ?_
    refine yi_G_calls rfl rfl (k_find d (by omega) hP.1 ta ) ?_
    rintro _ ⟨z2, rfl⟩
    show yi_G zi_Ms d zi_m269 (17, [(0, .inr (.inr (some 11))), (1, .inr (.inr (some a))), (2, .inl x)], [.inl z2], (I, L, R, Y), 0, 0) _
    refine yi_G_run 4 (24, [(3, .inl z2), (0, .inr (.inr (some 11))), (1, .inr (.inr (some a))), (2, .inl x)], [.inl (-1), .inl z2], (I, L, R, Y), 0, 0) (fun _ => rfl) ?_
    by_cases h3 : z2 = (-1)
    · refine yi_G_if2 false rfl (yi_ne_f h3) ?_
      refine yi_G_run 2 (29, [(3, .inl z2), (0, .inr (.inr (some 11))), (1, .inr (.inr (some a))), (2, .inl x)], [.inr (.inr (some 11)), .inr (.inr (some 11))], (I, L, R, Y), 0, 0) (fun _ => rfl) ?_
      refine cl_G_gi rfl (cl_T_K (cl_11 hP.1)) rfl rfl rfl ?_
      refine yi_G_run 1 (33, [(3, .inl z2), (0, .inr (.inr (some 11))), (1, .inr (.inr (some a))), (2, .inl x)], [.inl 3, .inl (I 11 9), .inr (.inr (some 11))], (I, L, R, Y), 0, 0) (fun _ => rfl) ?_
      by_cases h4 : (I 11 9) = 3
      · refine yi_G_if2 false rfl (yi_ne_f h4) ?_
        refine yi_G_run 2 (41, [(3, .inl z2), (0, .inr (.inr (some 11))), (1, .inr (.inr (some a))), (2, .inl x)], [.inl 2, .inr (.inr (some 11))], (I, L, R, Y), 0, 0) (fun _ => rfl) ?_
        refine yi_G_callv rfl rfl (cl_rcv (cl_11 hP.1) rfl) rfl (k_wrongR d (by omega) hP.1  (by omega)) ?_
        rintro _ ⟨I5, rfl, hQ5, x5a, x5b, x5c, x5d⟩
        have hP5 := cl_P_t hP hQ5
        show yi_G zi_Ms d zi_m269 (44, [(3, .inl z2), (0, .inr (.inr (some 11))), (1, .inr (.inr (some a))), (2, .inl x)], [], (I5, L, R, Y), 0, 0) _
        refine yi_G_run 1 (45, [(3, .inl z2), (0, .inr (.inr (some 11))), (1, .inr (.inr (some a))), (2, .inl x)], [.inr (.inr (some 11))], (I5, L, R, Y), 0, 0) (fun _ => rfl) ?_
        refine yi_G_callv rfl rfl (cl_rcv (cl_11 hP5.1) rfl) rfl (k_advanceR d (by omega) hP5.1  ) ?_
        rintro _ ⟨I6, L6, rfl, hQ6, x6a, x6b, x6c, x6d, x6e, x6f, x6g⟩
        have hP6 := cl_P_t hP5 hQ6
        show yi_G zi_Ms d zi_m269 (48, [(3, .inl z2), (0, .inr (.inr (some 11))), (1, .inr (.inr (some a))), (2, .inl x)], [], (I6, L6, R, Y), 0, 0) _
        refine yi_G_run 1 (49, [(3, .inl z2), (0, .inr (.inr (some 11))), (1, .inr (.inr (some a))), (2, .inl x)], [.inl z2], (I6, L6, R, Y), 0, 0) (fun _ => rfl) ?_
        exact yi_G_reti rfl rfl (⟨_, _, _, rfl, hP6, by omega, by omega, by omega⟩)
      · refine yi_G_if2 true rfl (yi_ne_t h4) ?_
        refine yi_G_run 1 (41, [(3, .inl z2), (0, .inr (.inr (some 11))), (1, .inr (.inr (some a))), (2, .inl x)], [.inl 1, .inr (.inr (some 11))], (I, L, R, Y), 0, 0) (fun _ => rfl) ?_
        refine yi_G_callv rfl rfl (cl_rcv (cl_11 hP.1) rfl) rfl (k_wrongR d (by omega) hP.1  (by omega)) ?_
        rintro _ ⟨I7, rfl, hQ7, x7a, x7b, x7c, x7d⟩
        have hP7 := cl_P_t hP hQ7
        show yi_G zi_Ms d zi_m269 (44, [(3, .inl z2), (0, .inr (.inr (some 11))), (1, .inr (.inr (some a))), (2, .inl x)], [], (I7, L, R, Y), 0, 0) _
        refine yi_G_run 1 (45, [(3, .inl z2), (0, .inr (.inr (some 11))), (1, .inr (.inr (some a))), (2, .inl x)], [.inr (.inr (some 11))], (I7, L, R, Y), 0, 0) (fun _ => rfl) ?_
        refine yi_G_callv rfl rfl (cl_rcv (cl_11 hP7.1) rfl) rfl (k_advanceR d (by omega) hP7.1  ) ?_
        rintro _ ⟨I8, L8, rfl, hQ8, x8a, x8b, x8c, x8d, x8e, x8f, x8g⟩
        have hP8 := cl_P_t hP7 hQ8
        show yi_G zi_Ms d zi_m269 (48, [(3, .inl z2), (0, .inr (.inr (some 11))), (1, .inr (.inr (some a))), (2, .inl x)], [], (I8, L8, R, Y), 0, 0) _
        refine yi_G_run 1 (49, [(3, .inl z2), (0, .inr (.inr (some 11))), (1, .inr (.inr (some a))), (2, .inl x)], [.inl z2], (I8, L8, R, Y), 0, 0) (fun _ => rfl) ?_
        exact yi_G_reti rfl rfl (⟨_, _, _, rfl, hP8, by omega, by omega, by omega⟩)
    · refine yi_G_if2 true rfl (yi_ne_t h3) ?_
      refine yi_G_run 1 (45, [(3, .inl z2), (0, .inr (.inr (some 11))), (1, .inr (.inr (some a))), (2, .inl x)], [.inr (.inr (some 11))], (I, L, R, Y), 0, 0) (fun _ => rfl) ?_
      refine yi_G_callv rfl rfl (cl_rcv (cl_11 hP.1) rfl) rfl (k_advanceR d (by omega) hP.1  ) ?_
      rintro _ ⟨I9, L9, rfl, hQ9, x9a, x9b, x9c, x9d, x9e, x9f, x9g⟩
      have hP9 := cl_P_t hP hQ9
      show yi_G zi_Ms d zi_m269 (48, [(3, .inl z2), (0, .inr (.inr (some 11))), (1, .inr (.inr (some a))), (2, .inl x)], [], (I9, L9, R, Y), 0, 0) _
      refine yi_G_run 1 (49, [(3, .inl z2), (0, .inr (.inr (some 11))), (1, .inr (.inr (some a))), (2, .inl x)], [.inl z2], (I9, L9, R, Y), 0, 0) (fun _ => rfl) ?_
      exact yi_G_reti rfl rfl (⟨_, _, _, rfl, hP9, by omega, by omega, by omega⟩)
  · refine yi_G_if2 true rfl (yi_ne_t h1) ?_
    refine yi_G_run 4 (24, [(3, .inl (-1)), (0, .inr (.inr (some 11))), (1, .inr (.inr (some a))), (2, .inl x)], [.inl (-1), .inl (-1)], (I, L, R, Y), 0, 0) (fun _ => rfl) ?_
    refine yi_G_if2 false rfl (by decide) ?_
    refine yi_G_run 2 (29, [(3, .inl (-1)), (0, .inr (.inr (some 11))), (1, .inr (.inr (some a))), (2, .inl x)], [.inr (.inr (some 11)), .inr (.inr (some 11))], (I, L, R, Y), 0, 0) (fun _ => rfl) ?_
    refine cl_G_gi rfl (cl_T_K (cl_11 hP.1)) rfl rfl rfl ?_
    refine yi_G_run 1 (33, [(3, .inl (-1)), (0, .inr (.inr (some 11))), (1, .inr (.inr (some a))), (2, .inl x)], [.inl 3, .inl (I 11 9), .inr (.inr (some 11))], (I, L, R, Y), 0, 0) (fun _ => rfl) ?_
    by_cases h10 : (I 11 9) = 3
    · refine yi_G_if2 false rfl (yi_ne_f h10) ?_
      refine yi_G_run 2 (41, [(3, .inl (-1)), (0, .inr (.inr (some 11))), (1, .inr (.inr (some a))), (2, .inl x)], [.inl 2, .inr (.inr (some 11))], (I, L, R, Y), 0, 0) (fun _ => rfl) ?_
      refine yi_G_callv rfl rfl (cl_rcv (cl_11 hP.1) rfl) rfl (k_wrongR d (by omega) hP.1  (by omega)) ?_
      rintro _ ⟨I11, rfl, hQ11, x11a, x11b, x11c, x11d⟩
      have hP11 := cl_P_t hP hQ11
      show yi_G zi_Ms d zi_m269 (44, [(3, .inl (-1)), (0, .inr (.inr (some 11))), (1, .inr (.inr (some a))), (2, .inl x)], [], (I11, L, R, Y), 0, 0) _
      refine yi_G_run 1 (45, [(3, .inl (-1)), (0, .inr (.inr (some 11))), (1, .inr (.inr (some a))), (2, .inl x)], [.inr (.inr (some 11))], (I11, L, R, Y), 0, 0) (fun _ => rfl) ?_
      refine yi_G_callv rfl rfl (cl_rcv (cl_11 hP11.1) rfl) rfl (k_advanceR d (by omega) hP11.1  ) ?_
      rintro _ ⟨I12, L12, rfl, hQ12, x12a, x12b, x12c, x12d, x12e, x12f, x12g⟩
      have hP12 := cl_P_t hP11 hQ12
      show yi_G zi_Ms d zi_m269 (48, [(3, .inl (-1)), (0, .inr (.inr (some 11))), (1, .inr (.inr (some a))), (2, .inl x)], [], (I12, L12, R, Y), 0, 0) _
      refine yi_G_run 1 (49, [(3, .inl (-1)), (0, .inr (.inr (some 11))), (1, .inr (.inr (some a))), (2, .inl x)], [.inl (-1)], (I12, L12, R, Y), 0, 0) (fun _ => rfl) ?_
      exact yi_G_reti rfl rfl (⟨_, _, _, rfl, hP12, by omega, by omega, by omega⟩)
    · refine yi_G_if2 true rfl (yi_ne_t h10) ?_
      refine yi_G_run 1 (41, [(3, .inl (-1)), (0, .inr (.inr (some 11))), (1, .inr (.inr (some a))), (2, .inl x)], [.inl 1, .inr (.inr (some 11))], (I, L, R, Y), 0, 0) (fun _ => rfl) ?_
      refine yi_G_callv rfl rfl (cl_rcv (cl_11 hP.1) rfl) rfl (k_wrongR d (by omega) hP.1  (by omega)) ?_
      rintro _ ⟨I13, rfl, hQ13, x13a, x13b, x13c, x13d⟩
      have hP13 := cl_P_t hP hQ13
      show yi_G zi_Ms d zi_m269 (44, [(3, .inl (-1)), (0, .inr (.inr (some 11))), (1, .inr (.inr (some a))), (2, .inl x)], [], (I13, L, R, Y), 0, 0) _
      refine yi_G_run 1 (45, [(3, .inl (-1)), (0, .inr (.inr (some 11))), (1, .inr (.inr (some a))), (2, .inl x)], [.inr (.inr (some 11))], (I13, L, R, Y), 0, 0) (fun _ => rfl) ?_
      refine yi_G_callv rfl rfl (cl_rcv (cl_11 hP13.1) rfl) rfl (k_advanceR d (by omega) hP13.1  ) ?_
      rintro _ ⟨I14, L14, rfl, hQ14, x14a, x14b, x14c, x14d, x14e, x14f, x14g⟩
      have hP14 := cl_P_t hP13 hQ14
      show yi_G zi_Ms d zi_m269 (48, [(3, .inl (-1)), (0, .inr (.inr (some 11))), (1, .inr (.inr (some a))), (2, .inl x)], [], (I14, L14, R, Y), 0, 0) _
      refine yi_G_run 1 (49, [(3, .inl (-1)), (0, .inr (.inr (some 11))), (1, .inr (.inr (some a))), (2, .inl x)], [.inl (-1)], (I14, L14, R, Y), 0, 0) (fun _ => rfl) ?_
      exact yi_G_reti rfl rfl (⟨_, _, _, rfl, hP14, by omega, by omega, by omega⟩)
theorem k_takeNewNameR (D : Nat) (hD : 4 ≤ D) {E : List Nat} {I L : cl_I} {R : cl_Rr} {Y : cl_Y} (hC : cl_C E I L R Y) : yi_E zi_Ms D 270 [.inr (.inr (some 11))] (I, L, R, Y) (fun r => ∃ z, ∃ I', ∃ L', r = (some (.inr (.inl z)), (I', L', R, Y), 0, 0) ∧ cl_P E I L R Y I' L' R Y ∧ (I 11 3 ≤ I' 11 3) ∧ (I' 11 11 = 0 → I 11 11 = 0) ∧ (0 ≤ I 11 8 → 0 ≤ I' 11 8)) := by
  obtain ⟨d, rfl⟩ : ∃ d, D = d + 1 := ⟨D - 1, by omega⟩
  refine yi_E_of (M := zi_m270) rfl rfl ?_
  have hP : cl_P E I L R Y I L R Y := cl_P_r hC
  show yi_G zi_Ms d zi_m270 (0, [(0, .inr (.inr (some 11)))], [], (I, L, R, Y), 0, 0) _
  refine yi_G_run 1 (1, [(0, .inr (.inr (some 11)))], [.inr (.inr (some 11))], (I, L, R, Y), 0, 0) (fun _ => rfl) ?_
  refine cl_G_gl rfl (cl_T_K (cl_11 hP.1)) rfl rfl rfl ?_
  refine yi_G_run 2 (6, [(1, .inr (.inl (L 11 10))), (0, .inr (.inr (some 11)))], [.inr (.inr (some 11))], (I, L, R, Y), 0, 0) (fun _ => rfl) ?_
  refine cl_G_gi rfl (cl_T_K (cl_11 hP.1)) rfl rfl rfl ?_
  refine yi_G_run 1 (10, [(1, .inr (.inl (L 11 10))), (0, .inr (.inr (some 11)))], [.inl 3, .inl (I 11 9)], (I, L, R, Y), 0, 0) (fun _ => rfl) ?_
  by_cases h1 : (I 11 9) = 3
  · refine yi_G_if2 true rfl (yi_eq_t h1) ?_
    refine yi_G_run 1 (22, [(1, .inr (.inl (L 11 10))), (0, .inr (.inr (some 11)))], [.inr (.inr (some 11))], (I, L, R, Y), 0, 0) (fun _ => rfl) ?_
    obtain ⟨q2, e3, t4⟩ := cl_rf hP.1 (cl_11 hP.1) (k := 6) rfl
    refine cl_G_gr rfl (cl_T_K (cl_11 hP.1)) rfl rfl rfl e3 ?_
    refine yi_G_run 1 (26, [(1, .inr (.inl (L 11 10))), (0, .inr (.inr (some 11)))], [.inr (.inl (L 11 10)), .inr (.inr (some q2))], (I, L, R, Y), 0, 0) (fun _ => rfl) ?_
    refine yi_G_callv rfl rfl (cl_rcv t4 rfl) rfl (k_isNamed d (by omega) hP.1 t4 ) ?_
    rintro _ ⟨z5, rfl, hz5⟩
    show yi_G zi_Ms d zi_m270 (29, [(1, .inr (.inl (L 11 10))), (0, .inr (.inr (some 11)))], [.inl z5], (I, L, R, Y), 0, 0) _
    by_cases h6 : z5 = 0
    · refine yi_G_if1 true rfl (yi_eq_t h6) ?_
      refine yi_G_run 1 (38, [(1, .inr (.inl (L 11 10))), (0, .inr (.inr (some 11)))], [.inr (.inr (some 11))], (I, L, R, Y), 0, 0) (fun _ => rfl) ?_
      refine yi_G_callv rfl rfl (cl_rcv (cl_11 hP.1) rfl) rfl (k_advanceR d (by omega) hP.1  ) ?_
      rintro _ ⟨I7, L7, rfl, hQ7, x7a, x7b, x7c, x7d, x7e, x7f, x7g⟩
      have hP7 := cl_P_t hP hQ7
      show yi_G zi_Ms d zi_m270 (41, [(1, .inr (.inl (L 11 10))), (0, .inr (.inr (some 11)))], [], (I7, L7, R, Y), 0, 0) _
      refine yi_G_run 1 (42, [(1, .inr (.inl (L 11 10))), (0, .inr (.inr (some 11)))], [.inr (.inl (L 11 10))], (I7, L7, R, Y), 0, 0) (fun _ => rfl) ?_
      exact yi_G_retl rfl rfl (⟨_, _, _, rfl, hP7, by omega, by omega, by omega⟩)
    · refine yi_G_if1 false rfl (yi_eq_f h6) ?_
      refine yi_G_run 2 (34, [(1, .inr (.inl (L 11 10))), (0, .inr (.inr (some 11)))], [.inl 3, .inr (.inr (some 11))], (I, L, R, Y), 0, 0) (fun _ => rfl) ?_
      refine yi_G_callv rfl rfl (cl_rcv (cl_11 hP.1) rfl) rfl (k_wrongR d (by omega) hP.1  (by omega)) ?_
      rintro _ ⟨I8, rfl, hQ8, x8a, x8b, x8c, x8d⟩
      have hP8 := cl_P_t hP hQ8
      show yi_G zi_Ms d zi_m270 (37, [(1, .inr (.inl (L 11 10))), (0, .inr (.inr (some 11)))], [], (I8, L, R, Y), 0, 0) _
      refine yi_G_run 1 (38, [(1, .inr (.inl (L 11 10))), (0, .inr (.inr (some 11)))], [.inr (.inr (some 11))], (I8, L, R, Y), 0, 0) (fun _ => rfl) ?_
      refine yi_G_callv rfl rfl (cl_rcv (cl_11 hP8.1) rfl) rfl (k_advanceR d (by omega) hP8.1  ) ?_
      rintro _ ⟨I9, L9, rfl, hQ9, x9a, x9b, x9c, x9d, x9e, x9f, x9g⟩
      have hP9 := cl_P_t hP8 hQ9
      show yi_G zi_Ms d zi_m270 (41, [(1, .inr (.inl (L 11 10))), (0, .inr (.inr (some 11)))], [], (I9, L9, R, Y), 0, 0) _
      refine yi_G_run 1 (42, [(1, .inr (.inl (L 11 10))), (0, .inr (.inr (some 11)))], [.inr (.inl (L 11 10))], (I9, L9, R, Y), 0, 0) (fun _ => rfl) ?_
      exact yi_G_retl rfl rfl (⟨_, _, _, rfl, hP9, by omega, by omega, by omega⟩)
  · refine yi_G_if2 false rfl (yi_eq_f h1) ?_
    refine yi_G_run 2 (15, [(1, .inr (.inl (L 11 10))), (0, .inr (.inr (some 11)))], [.inl 1, .inr (.inr (some 11))], (I, L, R, Y), 0, 0) (fun _ => rfl) ?_
    refine yi_G_callv rfl rfl (cl_rcv (cl_11 hP.1) rfl) rfl (k_wrongR d (by omega) hP.1  (by omega)) ?_
    rintro _ ⟨I10, rfl, hQ10, x10a, x10b, x10c, x10d⟩
    have hP10 := cl_P_t hP hQ10
    show yi_G zi_Ms d zi_m270 (18, [(1, .inr (.inl (L 11 10))), (0, .inr (.inr (some 11)))], [], (I10, L, R, Y), 0, 0) _
    refine yi_G_run 2 (38, [(1, .inr (.inl (L 11 10))), (0, .inr (.inr (some 11)))], [.inr (.inr (some 11))], (I10, L, R, Y), 0, 0) (fun _ => rfl) ?_
    refine yi_G_callv rfl rfl (cl_rcv (cl_11 hP10.1) rfl) rfl (k_advanceR d (by omega) hP10.1  ) ?_
    rintro _ ⟨I11, L11, rfl, hQ11, x11a, x11b, x11c, x11d, x11e, x11f, x11g⟩
    have hP11 := cl_P_t hP10 hQ11
    show yi_G zi_Ms d zi_m270 (41, [(1, .inr (.inl (L 11 10))), (0, .inr (.inr (some 11)))], [], (I11, L11, R, Y), 0, 0) _
    refine yi_G_run 1 (42, [(1, .inr (.inl (L 11 10))), (0, .inr (.inr (some 11)))], [.inr (.inl (L 11 10))], (I11, L11, R, Y), 0, 0) (fun _ => rfl) ?_
    exact yi_G_retl rfl rfl (⟨_, _, _, rfl, hP11, by omega, by omega, by omega⟩)
theorem k_emitWhenR (D : Nat) (hD : 3 ≤ D) {E : List Nat} {I L : cl_I} {R : cl_Rr} {Y : cl_Y} (hC : cl_C E I L R Y) {x : Int} {y : Int} {w : Int} {v : Int} : yi_E zi_Ms D 250 [.inr (.inr (some 11)), .inl x, .inl y, .inl w, .inl v] (I, L, R, Y) (fun r => ∃ I', r = (none, (I', L, R, Y), 0, 0) ∧ cl_P E I L R Y I' L R Y ∧ (I 11 3 ≤ I' 11 3) ∧ (I' 11 11 = 0 → I 11 11 = 0) ∧ (0 ≤ I 11 8 → 0 ≤ I' 11 8)) := by
  obtain ⟨d, rfl⟩ : ∃ d, D = d + 1 := ⟨D - 1, by omega⟩
  refine yi_E_of (M := zi_m250) rfl rfl ?_
  have hP : cl_P E I L R Y I L R Y := cl_P_r hC
  show yi_G zi_Ms d zi_m250 (0, [(0, .inr (.inr (some 11))), (1, .inl x), (2, .inl y), (3, .inl w), (4, .inl v)], [], (I, L, R, Y), 0, 0) _
  refine yi_G_run 2 (3, [(0, .inr (.inr (some 11))), (1, .inl x), (2, .inl y), (3, .inl w), (4, .inl v)], [.inl 23, .inl x], (I, L, R, Y), 0, 0) (fun _ => rfl) ?_
  by_cases h1 : x = 23
  · refine yi_G_if2 true rfl (yi_eq_t h1) ?_
    refine yi_G_run 6 (25, [(0, .inr (.inr (some 11))), (1, .inl x), (2, .inl y), (3, .inl w), (4, .inl v)], [.inl 23, .inl x, .inl w, .inl y, .inl 5, .inr (.inr (some 11))], (I, L, R, Y), 0, 0) (fun _ => rfl) ?_
    by_cases h2 : x = 23
    · refine yi_G_if2 false rfl (yi_ne_f h2) ?_
      refine yi_G_run 3 (36, [(0, .inr (.inr (some 11))), (1, .inl x), (2, .inl y), (3, .inl w), (4, .inl v)], [.inl v, .inl v, .inl w, .inl y, .inl 5, .inr (.inr (some 11))], (I, L, R, Y), 0, 0) (fun _ => rfl) ?_
      refine yi_G_calls rfl rfl (k_clauseCode d (by omega) hP.1  ) ?_
      rintro _ ⟨z3, rfl⟩
      show yi_G zi_Ms d zi_m250 (39, [(0, .inr (.inr (some 11))), (1, .inl x), (2, .inl y), (3, .inl w), (4, .inl v)], [.inl z3, .inr (.inr (some 11))], (I, L, R, Y), 0, 0) _
      refine yi_G_callv rfl rfl (cl_rcv (cl_11 hP.1) rfl) rfl (k_emitR d (by omega) hP.1  ) ?_
      rintro _ ⟨I4, rfl, hQ4, x4a, x4b, x4c⟩
      have hP4 := cl_P_t hP hQ4
      show yi_G zi_Ms d zi_m250 (42, [(0, .inr (.inr (some 11))), (1, .inl x), (2, .inl y), (3, .inl w), (4, .inl v)], [], (I4, L, R, Y), 0, 0) _
      exact yi_G_retv rfl rfl (⟨_, rfl, hP4, by omega, by omega, by omega⟩)
    · refine yi_G_if2 true rfl (yi_ne_t h2) ?_
      refine yi_G_run 2 (36, [(0, .inr (.inr (some 11))), (1, .inl x), (2, .inl y), (3, .inl w), (4, .inl v)], [.inl v, .inl 0, .inl w, .inl y, .inl 5, .inr (.inr (some 11))], (I, L, R, Y), 0, 0) (fun _ => rfl) ?_
      refine yi_G_calls rfl rfl (k_clauseCode d (by omega) hP.1  ) ?_
      rintro _ ⟨z5, rfl⟩
      show yi_G zi_Ms d zi_m250 (39, [(0, .inr (.inr (some 11))), (1, .inl x), (2, .inl y), (3, .inl w), (4, .inl v)], [.inl z5, .inr (.inr (some 11))], (I, L, R, Y), 0, 0) _
      refine yi_G_callv rfl rfl (cl_rcv (cl_11 hP.1) rfl) rfl (k_emitR d (by omega) hP.1  ) ?_
      rintro _ ⟨I6, rfl, hQ6, x6a, x6b, x6c⟩
      have hP6 := cl_P_t hP hQ6
      show yi_G zi_Ms d zi_m250 (42, [(0, .inr (.inr (some 11))), (1, .inl x), (2, .inl y), (3, .inl w), (4, .inl v)], [], (I6, L, R, Y), 0, 0) _
      exact yi_G_retv rfl rfl (⟨_, rfl, hP6, by omega, by omega, by omega⟩)
  · refine yi_G_if2 false rfl (yi_eq_f h1) ?_
    refine yi_G_run 2 (9, [(0, .inr (.inr (some 11))), (1, .inl x), (2, .inl y), (3, .inl w), (4, .inl v)], [.inl 24, .inl x], (I, L, R, Y), 0, 0) (fun _ => rfl) ?_
    by_cases h7 : x = 24
    · refine yi_G_if2 true rfl (yi_eq_t h7) ?_
      refine yi_G_run 6 (25, [(0, .inr (.inr (some 11))), (1, .inl x), (2, .inl y), (3, .inl w), (4, .inl v)], [.inl 23, .inl x, .inl w, .inl y, .inl 5, .inr (.inr (some 11))], (I, L, R, Y), 0, 0) (fun _ => rfl) ?_
      by_cases h8 : x = 23
      · refine yi_G_if2 false rfl (yi_ne_f h8) ?_
        refine yi_G_run 3 (36, [(0, .inr (.inr (some 11))), (1, .inl x), (2, .inl y), (3, .inl w), (4, .inl v)], [.inl v, .inl v, .inl w, .inl y, .inl 5, .inr (.inr (some 11))], (I, L, R, Y), 0, 0) (fun _ => rfl) ?_
        refine yi_G_calls rfl rfl (k_clauseCode d (by omega) hP.1  ) ?_
        rintro _ ⟨z9, rfl⟩
        show yi_G zi_Ms d zi_m250 (39, [(0, .inr (.inr (some 11))), (1, .inl x), (2, .inl y), (3, .inl w), (4, .inl v)], [.inl z9, .inr (.inr (some 11))], (I, L, R, Y), 0, 0) _
        refine yi_G_callv rfl rfl (cl_rcv (cl_11 hP.1) rfl) rfl (k_emitR d (by omega) hP.1  ) ?_
        rintro _ ⟨I10, rfl, hQ10, x10a, x10b, x10c⟩
        have hP10 := cl_P_t hP hQ10
        show yi_G zi_Ms d zi_m250 (42, [(0, .inr (.inr (some 11))), (1, .inl x), (2, .inl y), (3, .inl w), (4, .inl v)], [], (I10, L, R, Y), 0, 0) _
        exact yi_G_retv rfl rfl (⟨_, rfl, hP10, by omega, by omega, by omega⟩)
      · refine yi_G_if2 true rfl (yi_ne_t h8) ?_
        refine yi_G_run 2 (36, [(0, .inr (.inr (some 11))), (1, .inl x), (2, .inl y), (3, .inl w), (4, .inl v)], [.inl v, .inl 0, .inl w, .inl y, .inl 5, .inr (.inr (some 11))], (I, L, R, Y), 0, 0) (fun _ => rfl) ?_
        refine yi_G_calls rfl rfl (k_clauseCode d (by omega) hP.1  ) ?_
        rintro _ ⟨z11, rfl⟩
        show yi_G zi_Ms d zi_m250 (39, [(0, .inr (.inr (some 11))), (1, .inl x), (2, .inl y), (3, .inl w), (4, .inl v)], [.inl z11, .inr (.inr (some 11))], (I, L, R, Y), 0, 0) _
        refine yi_G_callv rfl rfl (cl_rcv (cl_11 hP.1) rfl) rfl (k_emitR d (by omega) hP.1  ) ?_
        rintro _ ⟨I12, rfl, hQ12, x12a, x12b, x12c⟩
        have hP12 := cl_P_t hP hQ12
        show yi_G zi_Ms d zi_m250 (42, [(0, .inr (.inr (some 11))), (1, .inl x), (2, .inl y), (3, .inl w), (4, .inl v)], [], (I12, L, R, Y), 0, 0) _
        exact yi_G_retv rfl rfl (⟨_, rfl, hP12, by omega, by omega, by omega⟩)
    · refine yi_G_if2 false rfl (yi_eq_f h7) ?_
      refine yi_G_run 2 (15, [(0, .inr (.inr (some 11))), (1, .inl x), (2, .inl y), (3, .inl w), (4, .inl v)], [.inl 22, .inl x], (I, L, R, Y), 0, 0) (fun _ => rfl) ?_
      by_cases h13 : x = 22
      · refine yi_G_if2 false rfl (yi_ne_f h13) ?_
        refine yi_G_run 6 (25, [(0, .inr (.inr (some 11))), (1, .inl x), (2, .inl y), (3, .inl w), (4, .inl v)], [.inl 23, .inl x, .inl w, .inl y, .inl 5, .inr (.inr (some 11))], (I, L, R, Y), 0, 0) (fun _ => rfl) ?_
        by_cases h14 : x = 23
        · refine yi_G_if2 false rfl (yi_ne_f h14) ?_
          refine yi_G_run 3 (36, [(0, .inr (.inr (some 11))), (1, .inl x), (2, .inl y), (3, .inl w), (4, .inl v)], [.inl v, .inl v, .inl w, .inl y, .inl 5, .inr (.inr (some 11))], (I, L, R, Y), 0, 0) (fun _ => rfl) ?_
          refine yi_G_calls rfl rfl (k_clauseCode d (by omega) hP.1  ) ?_
          rintro _ ⟨z15, rfl⟩
          show yi_G zi_Ms d zi_m250 (39, [(0, .inr (.inr (some 11))), (1, .inl x), (2, .inl y), (3, .inl w), (4, .inl v)], [.inl z15, .inr (.inr (some 11))], (I, L, R, Y), 0, 0) _
          refine yi_G_callv rfl rfl (cl_rcv (cl_11 hP.1) rfl) rfl (k_emitR d (by omega) hP.1  ) ?_
          rintro _ ⟨I16, rfl, hQ16, x16a, x16b, x16c⟩
          have hP16 := cl_P_t hP hQ16
          show yi_G zi_Ms d zi_m250 (42, [(0, .inr (.inr (some 11))), (1, .inl x), (2, .inl y), (3, .inl w), (4, .inl v)], [], (I16, L, R, Y), 0, 0) _
          exact yi_G_retv rfl rfl (⟨_, rfl, hP16, by omega, by omega, by omega⟩)
        · refine yi_G_if2 true rfl (yi_ne_t h14) ?_
          refine yi_G_run 2 (36, [(0, .inr (.inr (some 11))), (1, .inl x), (2, .inl y), (3, .inl w), (4, .inl v)], [.inl v, .inl 0, .inl w, .inl y, .inl 5, .inr (.inr (some 11))], (I, L, R, Y), 0, 0) (fun _ => rfl) ?_
          refine yi_G_calls rfl rfl (k_clauseCode d (by omega) hP.1  ) ?_
          rintro _ ⟨z17, rfl⟩
          show yi_G zi_Ms d zi_m250 (39, [(0, .inr (.inr (some 11))), (1, .inl x), (2, .inl y), (3, .inl w), (4, .inl v)], [.inl z17, .inr (.inr (some 11))], (I, L, R, Y), 0, 0) _
          refine yi_G_callv rfl rfl (cl_rcv (cl_11 hP.1) rfl) rfl (k_emitR d (by omega) hP.1  ) ?_
          rintro _ ⟨I18, rfl, hQ18, x18a, x18b, x18c⟩
          have hP18 := cl_P_t hP hQ18
          show yi_G zi_Ms d zi_m250 (42, [(0, .inr (.inr (some 11))), (1, .inl x), (2, .inl y), (3, .inl w), (4, .inl v)], [], (I18, L, R, Y), 0, 0) _
          exact yi_G_retv rfl rfl (⟨_, rfl, hP18, by omega, by omega, by omega⟩)
      · refine yi_G_if2 true rfl (yi_ne_t h13) ?_
        refine yi_G_run 2 (46, [(0, .inr (.inr (some 11))), (1, .inl x), (2, .inl y), (3, .inl w), (4, .inl v)], [.inl 19, .inl x], (I, L, R, Y), 0, 0) (fun _ => rfl) ?_
        by_cases h19 : x = 19
        · refine yi_G_if2 true rfl (yi_eq_t h19) ?_
          refine yi_G_run 5 (78, [(5, .inl 1), (0, .inr (.inr (some 11))), (1, .inl x), (2, .inl y), (3, .inl w), (4, .inl v)], [.inl 20, .inl x], (I, L, R, Y), 0, 0) (fun _ => rfl) ?_
          by_cases h20 : x = 20
          · refine yi_G_if2 true rfl (yi_eq_t h20) ?_
            refine yi_G_run 8 (100, [(6, .inl 1), (5, .inl 1), (0, .inr (.inr (some 11))), (1, .inl x), (2, .inl y), (3, .inl w), (4, .inl v)], [.inl 1, .inl w, .inl y, .inl 4, .inr (.inr (some 11))], (I, L, R, Y), 0, 0) (fun _ => rfl) ?_
            refine yi_G_if1 false rfl (by decide) ?_
            refine yi_G_run 3 (111, [(6, .inl 1), (5, .inl 1), (0, .inr (.inr (some 11))), (1, .inl x), (2, .inl y), (3, .inl w), (4, .inl v)], [.inl 1, .inl 1, .inl w, .inl y, .inl 4, .inr (.inr (some 11))], (I, L, R, Y), 0, 0) (fun _ => rfl) ?_
            refine yi_G_if1 false rfl (by decide) ?_
            refine yi_G_run 1 (115, [(6, .inl 1), (5, .inl 1), (0, .inr (.inr (some 11))), (1, .inl x), (2, .inl y), (3, .inl w), (4, .inl v)], [.inr (.inr (some 11)), .inl 1, .inl w, .inl y, .inl 4, .inr (.inr (some 11))], (I, L, R, Y), 0, 0) (fun _ => rfl) ?_
            obtain ⟨q21, e22, t23⟩ := cl_rf hP.1 (cl_11 hP.1) (k := 6) rfl
            refine cl_G_gr rfl (cl_T_K (cl_11 hP.1)) rfl rfl rfl e22 ?_
            have b24 := cl_rd hP.1 t23 (k := 14) (lo := 1) (hi := 6) rfl
            refine cl_G_gi rfl (cl_T_K t23) rfl rfl rfl ?_
            refine yi_G_run 1 (126, [(6, .inl 1), (5, .inl 1), (0, .inr (.inr (some 11))), (1, .inl x), (2, .inl y), (3, .inl w), (4, .inl v)], [.inl (I q21 14), .inl 1, .inl w, .inl y, .inl 4, .inr (.inr (some 11))], (I, L, R, Y), 0, 0) (fun _ => rfl) ?_
            refine yi_G_calls rfl rfl (k_clauseCode d (by omega) hP.1  ) ?_
            rintro _ ⟨z25, rfl⟩
            show yi_G zi_Ms d zi_m250 (129, [(6, .inl 1), (5, .inl 1), (0, .inr (.inr (some 11))), (1, .inl x), (2, .inl y), (3, .inl w), (4, .inl v)], [.inl z25, .inr (.inr (some 11))], (I, L, R, Y), 0, 0) _
            refine yi_G_callv rfl rfl (cl_rcv (cl_11 hP.1) rfl) rfl (k_emitR d (by omega) hP.1  ) ?_
            rintro _ ⟨I26, rfl, hQ26, x26a, x26b, x26c⟩
            have hP26 := cl_P_t hP hQ26
            show yi_G zi_Ms d zi_m250 (132, [(6, .inl 1), (5, .inl 1), (0, .inr (.inr (some 11))), (1, .inl x), (2, .inl y), (3, .inl w), (4, .inl v)], [], (I26, L, R, Y), 0, 0) _
            exact yi_G_retv rfl rfl (⟨_, rfl, hP26, by omega, by omega, by omega⟩)
          · refine yi_G_if2 false rfl (yi_eq_f h20) ?_
            refine yi_G_run 2 (84, [(5, .inl 1), (0, .inr (.inr (some 11))), (1, .inl x), (2, .inl y), (3, .inl w), (4, .inl v)], [.inl 21, .inl x], (I, L, R, Y), 0, 0) (fun _ => rfl) ?_
            by_cases h27 : x = 21
            · refine yi_G_if2 false rfl (yi_ne_f h27) ?_
              refine yi_G_run 8 (100, [(6, .inl 1), (5, .inl 1), (0, .inr (.inr (some 11))), (1, .inl x), (2, .inl y), (3, .inl w), (4, .inl v)], [.inl 1, .inl w, .inl y, .inl 4, .inr (.inr (some 11))], (I, L, R, Y), 0, 0) (fun _ => rfl) ?_
              refine yi_G_if1 false rfl (by decide) ?_
              refine yi_G_run 3 (111, [(6, .inl 1), (5, .inl 1), (0, .inr (.inr (some 11))), (1, .inl x), (2, .inl y), (3, .inl w), (4, .inl v)], [.inl 1, .inl 1, .inl w, .inl y, .inl 4, .inr (.inr (some 11))], (I, L, R, Y), 0, 0) (fun _ => rfl) ?_
              refine yi_G_if1 false rfl (by decide) ?_
              refine yi_G_run 1 (115, [(6, .inl 1), (5, .inl 1), (0, .inr (.inr (some 11))), (1, .inl x), (2, .inl y), (3, .inl w), (4, .inl v)], [.inr (.inr (some 11)), .inl 1, .inl w, .inl y, .inl 4, .inr (.inr (some 11))], (I, L, R, Y), 0, 0) (fun _ => rfl) ?_
              obtain ⟨q28, e29, t30⟩ := cl_rf hP.1 (cl_11 hP.1) (k := 6) rfl
              refine cl_G_gr rfl (cl_T_K (cl_11 hP.1)) rfl rfl rfl e29 ?_
              have b31 := cl_rd hP.1 t30 (k := 14) (lo := 1) (hi := 6) rfl
              refine cl_G_gi rfl (cl_T_K t30) rfl rfl rfl ?_
              refine yi_G_run 1 (126, [(6, .inl 1), (5, .inl 1), (0, .inr (.inr (some 11))), (1, .inl x), (2, .inl y), (3, .inl w), (4, .inl v)], [.inl (I q28 14), .inl 1, .inl w, .inl y, .inl 4, .inr (.inr (some 11))], (I, L, R, Y), 0, 0) (fun _ => rfl) ?_
              refine yi_G_calls rfl rfl (k_clauseCode d (by omega) hP.1  ) ?_
              rintro _ ⟨z32, rfl⟩
              show yi_G zi_Ms d zi_m250 (129, [(6, .inl 1), (5, .inl 1), (0, .inr (.inr (some 11))), (1, .inl x), (2, .inl y), (3, .inl w), (4, .inl v)], [.inl z32, .inr (.inr (some 11))], (I, L, R, Y), 0, 0) _
              refine yi_G_callv rfl rfl (cl_rcv (cl_11 hP.1) rfl) rfl (k_emitR d (by omega) hP.1  ) ?_
              rintro _ ⟨I33, rfl, hQ33, x33a, x33b, x33c⟩
              have hP33 := cl_P_t hP hQ33
              show yi_G zi_Ms d zi_m250 (132, [(6, .inl 1), (5, .inl 1), (0, .inr (.inr (some 11))), (1, .inl x), (2, .inl y), (3, .inl w), (4, .inl v)], [], (I33, L, R, Y), 0, 0) _
              exact yi_G_retv rfl rfl (⟨_, rfl, hP33, by omega, by omega, by omega⟩)
            · refine yi_G_if2 true rfl (yi_ne_t h27) ?_
              refine yi_G_run 7 (100, [(6, .inl 0), (5, .inl 1), (0, .inr (.inr (some 11))), (1, .inl x), (2, .inl y), (3, .inl w), (4, .inl v)], [.inl 1, .inl w, .inl y, .inl 4, .inr (.inr (some 11))], (I, L, R, Y), 0, 0) (fun _ => rfl) ?_
              refine yi_G_if1 false rfl (by decide) ?_
              refine yi_G_run 3 (111, [(6, .inl 0), (5, .inl 1), (0, .inr (.inr (some 11))), (1, .inl x), (2, .inl y), (3, .inl w), (4, .inl v)], [.inl 0, .inl 1, .inl w, .inl y, .inl 4, .inr (.inr (some 11))], (I, L, R, Y), 0, 0) (fun _ => rfl) ?_
              refine yi_G_if1 true rfl (by decide) ?_
              refine yi_G_run 1 (126, [(6, .inl 0), (5, .inl 1), (0, .inr (.inr (some 11))), (1, .inl x), (2, .inl y), (3, .inl w), (4, .inl v)], [.inl v, .inl 1, .inl w, .inl y, .inl 4, .inr (.inr (some 11))], (I, L, R, Y), 0, 0) (fun _ => rfl) ?_
              refine yi_G_calls rfl rfl (k_clauseCode d (by omega) hP.1  ) ?_
              rintro _ ⟨z34, rfl⟩
              show yi_G zi_Ms d zi_m250 (129, [(6, .inl 0), (5, .inl 1), (0, .inr (.inr (some 11))), (1, .inl x), (2, .inl y), (3, .inl w), (4, .inl v)], [.inl z34, .inr (.inr (some 11))], (I, L, R, Y), 0, 0) _
              refine yi_G_callv rfl rfl (cl_rcv (cl_11 hP.1) rfl) rfl (k_emitR d (by omega) hP.1  ) ?_
              rintro _ ⟨I35, rfl, hQ35, x35a, x35b, x35c⟩
              have hP35 := cl_P_t hP hQ35
              show yi_G zi_Ms d zi_m250 (132, [(6, .inl 0), (5, .inl 1), (0, .inr (.inr (some 11))), (1, .inl x), (2, .inl y), (3, .inl w), (4, .inl v)], [], (I35, L, R, Y), 0, 0) _
              exact yi_G_retv rfl rfl (⟨_, rfl, hP35, by omega, by omega, by omega⟩)
        · refine yi_G_if2 false rfl (yi_eq_f h19) ?_
          refine yi_G_run 2 (52, [(0, .inr (.inr (some 11))), (1, .inl x), (2, .inl y), (3, .inl w), (4, .inl v)], [.inl 21, .inl x], (I, L, R, Y), 0, 0) (fun _ => rfl) ?_
          by_cases h36 : x = 21
          · refine yi_G_if2 true rfl (yi_eq_t h36) ?_
            refine yi_G_run 5 (78, [(5, .inl 1), (0, .inr (.inr (some 11))), (1, .inl x), (2, .inl y), (3, .inl w), (4, .inl v)], [.inl 20, .inl x], (I, L, R, Y), 0, 0) (fun _ => rfl) ?_
            by_cases h37 : x = 20
            · refine yi_G_if2 true rfl (yi_eq_t h37) ?_
              refine yi_G_run 8 (100, [(6, .inl 1), (5, .inl 1), (0, .inr (.inr (some 11))), (1, .inl x), (2, .inl y), (3, .inl w), (4, .inl v)], [.inl 1, .inl w, .inl y, .inl 4, .inr (.inr (some 11))], (I, L, R, Y), 0, 0) (fun _ => rfl) ?_
              refine yi_G_if1 false rfl (by decide) ?_
              refine yi_G_run 3 (111, [(6, .inl 1), (5, .inl 1), (0, .inr (.inr (some 11))), (1, .inl x), (2, .inl y), (3, .inl w), (4, .inl v)], [.inl 1, .inl 1, .inl w, .inl y, .inl 4, .inr (.inr (some 11))], (I, L, R, Y), 0, 0) (fun _ => rfl) ?_
              refine yi_G_if1 false rfl (by decide) ?_
              refine yi_G_run 1 (115, [(6, .inl 1), (5, .inl 1), (0, .inr (.inr (some 11))), (1, .inl x), (2, .inl y), (3, .inl w), (4, .inl v)], [.inr (.inr (some 11)), .inl 1, .inl w, .inl y, .inl 4, .inr (.inr (some 11))], (I, L, R, Y), 0, 0) (fun _ => rfl) ?_
              obtain ⟨q38, e39, t40⟩ := cl_rf hP.1 (cl_11 hP.1) (k := 6) rfl
              refine cl_G_gr rfl (cl_T_K (cl_11 hP.1)) rfl rfl rfl e39 ?_
              have b41 := cl_rd hP.1 t40 (k := 14) (lo := 1) (hi := 6) rfl
              refine cl_G_gi rfl (cl_T_K t40) rfl rfl rfl ?_
              refine yi_G_run 1 (126, [(6, .inl 1), (5, .inl 1), (0, .inr (.inr (some 11))), (1, .inl x), (2, .inl y), (3, .inl w), (4, .inl v)], [.inl (I q38 14), .inl 1, .inl w, .inl y, .inl 4, .inr (.inr (some 11))], (I, L, R, Y), 0, 0) (fun _ => rfl) ?_
              refine yi_G_calls rfl rfl (k_clauseCode d (by omega) hP.1  ) ?_
              rintro _ ⟨z42, rfl⟩
              show yi_G zi_Ms d zi_m250 (129, [(6, .inl 1), (5, .inl 1), (0, .inr (.inr (some 11))), (1, .inl x), (2, .inl y), (3, .inl w), (4, .inl v)], [.inl z42, .inr (.inr (some 11))], (I, L, R, Y), 0, 0) _
              refine yi_G_callv rfl rfl (cl_rcv (cl_11 hP.1) rfl) rfl (k_emitR d (by omega) hP.1  ) ?_
              rintro _ ⟨I43, rfl, hQ43, x43a, x43b, x43c⟩
              have hP43 := cl_P_t hP hQ43
              show yi_G zi_Ms d zi_m250 (132, [(6, .inl 1), (5, .inl 1), (0, .inr (.inr (some 11))), (1, .inl x), (2, .inl y), (3, .inl w), (4, .inl v)], [], (I43, L, R, Y), 0, 0) _
              exact yi_G_retv rfl rfl (⟨_, rfl, hP43, by omega, by omega, by omega⟩)
            · refine yi_G_if2 false rfl (yi_eq_f h37) ?_
              refine yi_G_run 2 (84, [(5, .inl 1), (0, .inr (.inr (some 11))), (1, .inl x), (2, .inl y), (3, .inl w), (4, .inl v)], [.inl 21, .inl x], (I, L, R, Y), 0, 0) (fun _ => rfl) ?_
              by_cases h44 : x = 21
              · refine yi_G_if2 false rfl (yi_ne_f h44) ?_
                refine yi_G_run 8 (100, [(6, .inl 1), (5, .inl 1), (0, .inr (.inr (some 11))), (1, .inl x), (2, .inl y), (3, .inl w), (4, .inl v)], [.inl 1, .inl w, .inl y, .inl 4, .inr (.inr (some 11))], (I, L, R, Y), 0, 0) (fun _ => rfl) ?_
                refine yi_G_if1 false rfl (by decide) ?_
                refine yi_G_run 3 (111, [(6, .inl 1), (5, .inl 1), (0, .inr (.inr (some 11))), (1, .inl x), (2, .inl y), (3, .inl w), (4, .inl v)], [.inl 1, .inl 1, .inl w, .inl y, .inl 4, .inr (.inr (some 11))], (I, L, R, Y), 0, 0) (fun _ => rfl) ?_
                refine yi_G_if1 false rfl (by decide) ?_
                refine yi_G_run 1 (115, [(6, .inl 1), (5, .inl 1), (0, .inr (.inr (some 11))), (1, .inl x), (2, .inl y), (3, .inl w), (4, .inl v)], [.inr (.inr (some 11)), .inl 1, .inl w, .inl y, .inl 4, .inr (.inr (some 11))], (I, L, R, Y), 0, 0) (fun _ => rfl) ?_
                obtain ⟨q45, e46, t47⟩ := cl_rf hP.1 (cl_11 hP.1) (k := 6) rfl
                refine cl_G_gr rfl (cl_T_K (cl_11 hP.1)) rfl rfl rfl e46 ?_
                have b48 := cl_rd hP.1 t47 (k := 14) (lo := 1) (hi := 6) rfl
                refine cl_G_gi rfl (cl_T_K t47) rfl rfl rfl ?_
                refine yi_G_run 1 (126, [(6, .inl 1), (5, .inl 1), (0, .inr (.inr (some 11))), (1, .inl x), (2, .inl y), (3, .inl w), (4, .inl v)], [.inl (I q45 14), .inl 1, .inl w, .inl y, .inl 4, .inr (.inr (some 11))], (I, L, R, Y), 0, 0) (fun _ => rfl) ?_
                refine yi_G_calls rfl rfl (k_clauseCode d (by omega) hP.1  ) ?_
                rintro _ ⟨z49, rfl⟩
                show yi_G zi_Ms d zi_m250 (129, [(6, .inl 1), (5, .inl 1), (0, .inr (.inr (some 11))), (1, .inl x), (2, .inl y), (3, .inl w), (4, .inl v)], [.inl z49, .inr (.inr (some 11))], (I, L, R, Y), 0, 0) _
                refine yi_G_callv rfl rfl (cl_rcv (cl_11 hP.1) rfl) rfl (k_emitR d (by omega) hP.1  ) ?_
                rintro _ ⟨I50, rfl, hQ50, x50a, x50b, x50c⟩
                have hP50 := cl_P_t hP hQ50
                show yi_G zi_Ms d zi_m250 (132, [(6, .inl 1), (5, .inl 1), (0, .inr (.inr (some 11))), (1, .inl x), (2, .inl y), (3, .inl w), (4, .inl v)], [], (I50, L, R, Y), 0, 0) _
                exact yi_G_retv rfl rfl (⟨_, rfl, hP50, by omega, by omega, by omega⟩)
              · refine yi_G_if2 true rfl (yi_ne_t h44) ?_
                refine yi_G_run 7 (100, [(6, .inl 0), (5, .inl 1), (0, .inr (.inr (some 11))), (1, .inl x), (2, .inl y), (3, .inl w), (4, .inl v)], [.inl 1, .inl w, .inl y, .inl 4, .inr (.inr (some 11))], (I, L, R, Y), 0, 0) (fun _ => rfl) ?_
                refine yi_G_if1 false rfl (by decide) ?_
                refine yi_G_run 3 (111, [(6, .inl 0), (5, .inl 1), (0, .inr (.inr (some 11))), (1, .inl x), (2, .inl y), (3, .inl w), (4, .inl v)], [.inl 0, .inl 1, .inl w, .inl y, .inl 4, .inr (.inr (some 11))], (I, L, R, Y), 0, 0) (fun _ => rfl) ?_
                refine yi_G_if1 true rfl (by decide) ?_
                refine yi_G_run 1 (126, [(6, .inl 0), (5, .inl 1), (0, .inr (.inr (some 11))), (1, .inl x), (2, .inl y), (3, .inl w), (4, .inl v)], [.inl v, .inl 1, .inl w, .inl y, .inl 4, .inr (.inr (some 11))], (I, L, R, Y), 0, 0) (fun _ => rfl) ?_
                refine yi_G_calls rfl rfl (k_clauseCode d (by omega) hP.1  ) ?_
                rintro _ ⟨z51, rfl⟩
                show yi_G zi_Ms d zi_m250 (129, [(6, .inl 0), (5, .inl 1), (0, .inr (.inr (some 11))), (1, .inl x), (2, .inl y), (3, .inl w), (4, .inl v)], [.inl z51, .inr (.inr (some 11))], (I, L, R, Y), 0, 0) _
                refine yi_G_callv rfl rfl (cl_rcv (cl_11 hP.1) rfl) rfl (k_emitR d (by omega) hP.1  ) ?_
                rintro _ ⟨I52, rfl, hQ52, x52a, x52b, x52c⟩
                have hP52 := cl_P_t hP hQ52
                show yi_G zi_Ms d zi_m250 (132, [(6, .inl 0), (5, .inl 1), (0, .inr (.inr (some 11))), (1, .inl x), (2, .inl y), (3, .inl w), (4, .inl v)], [], (I52, L, R, Y), 0, 0) _
                exact yi_G_retv rfl rfl (⟨_, rfl, hP52, by omega, by omega, by omega⟩)
          · refine yi_G_if2 false rfl (yi_eq_f h36) ?_
            refine yi_G_run 2 (58, [(0, .inr (.inr (some 11))), (1, .inl x), (2, .inl y), (3, .inl w), (4, .inl v)], [.inl 18, .inl x], (I, L, R, Y), 0, 0) (fun _ => rfl) ?_
            by_cases h53 : x = 18
            · refine yi_G_if2 false rfl (yi_ne_f h53) ?_
              refine yi_G_run 1 (62, [(0, .inr (.inr (some 11))), (1, .inl x), (2, .inl y), (3, .inl w), (4, .inl v)], [.inr (.inr (some 11))], (I, L, R, Y), 0, 0) (fun _ => rfl) ?_
              refine cl_G_gi rfl (cl_T_K (cl_11 hP.1)) rfl rfl rfl ?_
              by_cases h54 : (I 11 7) = 0
              · refine yi_G_if1 true rfl (yi_eq_t h54) ?_
                refine yi_G_run 4 (78, [(5, .inl 0), (0, .inr (.inr (some 11))), (1, .inl x), (2, .inl y), (3, .inl w), (4, .inl v)], [.inl 20, .inl x], (I, L, R, Y), 0, 0) (fun _ => rfl) ?_
                by_cases h55 : x = 20
                · refine yi_G_if2 true rfl (yi_eq_t h55) ?_
                  refine yi_G_run 8 (100, [(6, .inl 1), (5, .inl 0), (0, .inr (.inr (some 11))), (1, .inl x), (2, .inl y), (3, .inl w), (4, .inl v)], [.inl 0, .inl w, .inl y, .inl 4, .inr (.inr (some 11))], (I, L, R, Y), 0, 0) (fun _ => rfl) ?_
                  refine yi_G_if1 true rfl (by decide) ?_
                  refine yi_G_run 2 (111, [(6, .inl 1), (5, .inl 0), (0, .inr (.inr (some 11))), (1, .inl x), (2, .inl y), (3, .inl w), (4, .inl v)], [.inl 1, .inl v, .inl w, .inl y, .inl 4, .inr (.inr (some 11))], (I, L, R, Y), 0, 0) (fun _ => rfl) ?_
                  refine yi_G_if1 false rfl (by decide) ?_
                  refine yi_G_run 1 (115, [(6, .inl 1), (5, .inl 0), (0, .inr (.inr (some 11))), (1, .inl x), (2, .inl y), (3, .inl w), (4, .inl v)], [.inr (.inr (some 11)), .inl v, .inl w, .inl y, .inl 4, .inr (.inr (some 11))], (I, L, R, Y), 0, 0) (fun _ => rfl) ?_
                  obtain ⟨q56, e57, t58⟩ := cl_rf hP.1 (cl_11 hP.1) (k := 6) rfl
                  refine cl_G_gr rfl (cl_T_K (cl_11 hP.1)) rfl rfl rfl e57 ?_
                  have b59 := cl_rd hP.1 t58 (k := 14) (lo := 1) (hi := 6) rfl
                  refine cl_G_gi rfl (cl_T_K t58) rfl rfl rfl ?_
                  refine yi_G_run 1 (126, [(6, .inl 1), (5, .inl 0), (0, .inr (.inr (some 11))), (1, .inl x), (2, .inl y), (3, .inl w), (4, .inl v)], [.inl (I q56 14), .inl v, .inl w, .inl y, .inl 4, .inr (.inr (some 11))], (I, L, R, Y), 0, 0) (fun _ => rfl) ?_
                  refine yi_G_calls rfl rfl (k_clauseCode d (by omega) hP.1  ) ?_
                  rintro _ ⟨z60, rfl⟩
                  show yi_G zi_Ms d zi_m250 (129, [(6, .inl 1), (5, .inl 0), (0, .inr (.inr (some 11))), (1, .inl x), (2, .inl y), (3, .inl w), (4, .inl v)], [.inl z60, .inr (.inr (some 11))], (I, L, R, Y), 0, 0) _
                  refine yi_G_callv rfl rfl (cl_rcv (cl_11 hP.1) rfl) rfl (k_emitR d (by omega) hP.1  ) ?_
                  rintro _ ⟨I61, rfl, hQ61, x61a, x61b, x61c⟩
                  have hP61 := cl_P_t hP hQ61
                  show yi_G zi_Ms d zi_m250 (132, [(6, .inl 1), (5, .inl 0), (0, .inr (.inr (some 11))), (1, .inl x), (2, .inl y), (3, .inl w), (4, .inl v)], [], (I61, L, R, Y), 0, 0) _
                  exact yi_G_retv rfl rfl (⟨_, rfl, hP61, by omega, by omega, by omega⟩)
                · refine yi_G_if2 false rfl (yi_eq_f h55) ?_
                  refine yi_G_run 2 (84, [(5, .inl 0), (0, .inr (.inr (some 11))), (1, .inl x), (2, .inl y), (3, .inl w), (4, .inl v)], [.inl 21, .inl x], (I, L, R, Y), 0, 0) (fun _ => rfl) ?_
                  by_cases h62 : x = 21
                  · refine yi_G_if2 false rfl (yi_ne_f h62) ?_
                    refine yi_G_run 8 (100, [(6, .inl 1), (5, .inl 0), (0, .inr (.inr (some 11))), (1, .inl x), (2, .inl y), (3, .inl w), (4, .inl v)], [.inl 0, .inl w, .inl y, .inl 4, .inr (.inr (some 11))], (I, L, R, Y), 0, 0) (fun _ => rfl) ?_
                    refine yi_G_if1 true rfl (by decide) ?_
                    refine yi_G_run 2 (111, [(6, .inl 1), (5, .inl 0), (0, .inr (.inr (some 11))), (1, .inl x), (2, .inl y), (3, .inl w), (4, .inl v)], [.inl 1, .inl v, .inl w, .inl y, .inl 4, .inr (.inr (some 11))], (I, L, R, Y), 0, 0) (fun _ => rfl) ?_
                    refine yi_G_if1 false rfl (by decide) ?_
                    refine yi_G_run 1 (115, [(6, .inl 1), (5, .inl 0), (0, .inr (.inr (some 11))), (1, .inl x), (2, .inl y), (3, .inl w), (4, .inl v)], [.inr (.inr (some 11)), .inl v, .inl w, .inl y, .inl 4, .inr (.inr (some 11))], (I, L, R, Y), 0, 0) (fun _ => rfl) ?_
                    obtain ⟨q63, e64, t65⟩ := cl_rf hP.1 (cl_11 hP.1) (k := 6) rfl
                    refine cl_G_gr rfl (cl_T_K (cl_11 hP.1)) rfl rfl rfl e64 ?_
                    have b66 := cl_rd hP.1 t65 (k := 14) (lo := 1) (hi := 6) rfl
                    refine cl_G_gi rfl (cl_T_K t65) rfl rfl rfl ?_
                    refine yi_G_run 1 (126, [(6, .inl 1), (5, .inl 0), (0, .inr (.inr (some 11))), (1, .inl x), (2, .inl y), (3, .inl w), (4, .inl v)], [.inl (I q63 14), .inl v, .inl w, .inl y, .inl 4, .inr (.inr (some 11))], (I, L, R, Y), 0, 0) (fun _ => rfl) ?_
                    refine yi_G_calls rfl rfl (k_clauseCode d (by omega) hP.1  ) ?_
                    rintro _ ⟨z67, rfl⟩
                    show yi_G zi_Ms d zi_m250 (129, [(6, .inl 1), (5, .inl 0), (0, .inr (.inr (some 11))), (1, .inl x), (2, .inl y), (3, .inl w), (4, .inl v)], [.inl z67, .inr (.inr (some 11))], (I, L, R, Y), 0, 0) _
                    refine yi_G_callv rfl rfl (cl_rcv (cl_11 hP.1) rfl) rfl (k_emitR d (by omega) hP.1  ) ?_
                    rintro _ ⟨I68, rfl, hQ68, x68a, x68b, x68c⟩
                    have hP68 := cl_P_t hP hQ68
                    show yi_G zi_Ms d zi_m250 (132, [(6, .inl 1), (5, .inl 0), (0, .inr (.inr (some 11))), (1, .inl x), (2, .inl y), (3, .inl w), (4, .inl v)], [], (I68, L, R, Y), 0, 0) _
                    exact yi_G_retv rfl rfl (⟨_, rfl, hP68, by omega, by omega, by omega⟩)
                  · refine yi_G_if2 true rfl (yi_ne_t h62) ?_
                    refine yi_G_run 7 (100, [(6, .inl 0), (5, .inl 0), (0, .inr (.inr (some 11))), (1, .inl x), (2, .inl y), (3, .inl w), (4, .inl v)], [.inl 0, .inl w, .inl y, .inl 4, .inr (.inr (some 11))], (I, L, R, Y), 0, 0) (fun _ => rfl) ?_
                    refine yi_G_if1 true rfl (by decide) ?_
                    refine yi_G_run 2 (111, [(6, .inl 0), (5, .inl 0), (0, .inr (.inr (some 11))), (1, .inl x), (2, .inl y), (3, .inl w), (4, .inl v)], [.inl 0, .inl v, .inl w, .inl y, .inl 4, .inr (.inr (some 11))], (I, L, R, Y), 0, 0) (fun _ => rfl) ?_
                    refine yi_G_if1 true rfl (by decide) ?_
                    refine yi_G_run 1 (126, [(6, .inl 0), (5, .inl 0), (0, .inr (.inr (some 11))), (1, .inl x), (2, .inl y), (3, .inl w), (4, .inl v)], [.inl v, .inl v, .inl w, .inl y, .inl 4, .inr (.inr (some 11))], (I, L, R, Y), 0, 0) (fun _ => rfl) ?_
                    refine yi_G_calls rfl rfl (k_clauseCode d (by omega) hP.1  ) ?_
                    rintro _ ⟨z69, rfl⟩
                    show yi_G zi_Ms d zi_m250 (129, [(6, .inl 0), (5, .inl 0), (0, .inr (.inr (some 11))), (1, .inl x), (2, .inl y), (3, .inl w), (4, .inl v)], [.inl z69, .inr (.inr (some 11))], (I, L, R, Y), 0, 0) _
                    refine yi_G_callv rfl rfl (cl_rcv (cl_11 hP.1) rfl) rfl (k_emitR d (by omega) hP.1  ) ?_
                    rintro _ ⟨I70, rfl, hQ70, x70a, x70b, x70c⟩
                    have hP70 := cl_P_t hP hQ70
                    show yi_G zi_Ms d zi_m250 (132, [(6, .inl 0), (5, .inl 0), (0, .inr (.inr (some 11))), (1, .inl x), (2, .inl y), (3, .inl w), (4, .inl v)], [], (I70, L, R, Y), 0, 0) _
                    exact yi_G_retv rfl rfl (⟨_, rfl, hP70, by omega, by omega, by omega⟩)
              · refine yi_G_if1 false rfl (yi_eq_f h54) ?_
                refine yi_G_run 5 (78, [(5, .inl 1), (0, .inr (.inr (some 11))), (1, .inl x), (2, .inl y), (3, .inl w), (4, .inl v)], [.inl 20, .inl x], (I, L, R, Y), 0, 0) (fun _ => rfl) ?_
                by_cases h71 : x = 20
                · refine yi_G_if2 true rfl (yi_eq_t h71) ?_
                  refine yi_G_run 8 (100, [(6, .inl 1), (5, .inl 1), (0, .inr (.inr (some 11))), (1, .inl x), (2, .inl y), (3, .inl w), (4, .inl v)], [.inl 1, .inl w, .inl y, .inl 4, .inr (.inr (some 11))], (I, L, R, Y), 0, 0) (fun _ => rfl) ?_
                  refine yi_G_if1 false rfl (by decide) ?_
                  refine yi_G_run 3 (111, [(6, .inl 1), (5, .inl 1), (0, .inr (.inr (some 11))), (1, .inl x), (2, .inl y), (3, .inl w), (4, .inl v)], [.inl 1, .inl 1, .inl w, .inl y, .inl 4, .inr (.inr (some 11))], (I, L, R, Y), 0, 0) (fun _ => rfl) ?_
                  refine yi_G_if1 false rfl (by decide) ?_
                  refine yi_G_run 1 (115, [(6, .inl 1), (5, .inl 1), (0, .inr (.inr (some 11))), (1, .inl x), (2, .inl y), (3, .inl w), (4, .inl v)], [.inr (.inr (some 11)), .inl 1, .inl w, .inl y, .inl 4, .inr (.inr (some 11))], (I, L, R, Y), 0, 0) (fun _ => rfl) ?_
                  obtain ⟨q72, e73, t74⟩ := cl_rf hP.1 (cl_11 hP.1) (k := 6) rfl
                  refine cl_G_gr rfl (cl_T_K (cl_11 hP.1)) rfl rfl rfl e73 ?_
                  have b75 := cl_rd hP.1 t74 (k := 14) (lo := 1) (hi := 6) rfl
                  refine cl_G_gi rfl (cl_T_K t74) rfl rfl rfl ?_
                  refine yi_G_run 1 (126, [(6, .inl 1), (5, .inl 1), (0, .inr (.inr (some 11))), (1, .inl x), (2, .inl y), (3, .inl w), (4, .inl v)], [.inl (I q72 14), .inl 1, .inl w, .inl y, .inl 4, .inr (.inr (some 11))], (I, L, R, Y), 0, 0) (fun _ => rfl) ?_
                  refine yi_G_calls rfl rfl (k_clauseCode d (by omega) hP.1  ) ?_
                  rintro _ ⟨z76, rfl⟩
                  show yi_G zi_Ms d zi_m250 (129, [(6, .inl 1), (5, .inl 1), (0, .inr (.inr (some 11))), (1, .inl x), (2, .inl y), (3, .inl w), (4, .inl v)], [.inl z76, .inr (.inr (some 11))], (I, L, R, Y), 0, 0) _
                  refine yi_G_callv rfl rfl (cl_rcv (cl_11 hP.1) rfl) rfl (k_emitR d (by omega) hP.1  ) ?_
                  rintro _ ⟨I77, rfl, hQ77, x77a, x77b, x77c⟩
                  have hP77 := cl_P_t hP hQ77
                  show yi_G zi_Ms d zi_m250 (132, [(6, .inl 1), (5, .inl 1), (0, .inr (.inr (some 11))), (1, .inl x), (2, .inl y), (3, .inl w), (4, .inl v)], [], (I77, L, R, Y), 0, 0) _
                  exact yi_G_retv rfl rfl (⟨_, rfl, hP77, by omega, by omega, by omega⟩)
                · refine yi_G_if2 false rfl (yi_eq_f h71) ?_
                  refine yi_G_run 2 (84, [(5, .inl 1), (0, .inr (.inr (some 11))), (1, .inl x), (2, .inl y), (3, .inl w), (4, .inl v)], [.inl 21, .inl x], (I, L, R, Y), 0, 0) (fun _ => rfl) ?_
                  by_cases h78 : x = 21
                  · refine yi_G_if2 false rfl (yi_ne_f h78) ?_
                    refine yi_G_run 8 (100, [(6, .inl 1), (5, .inl 1), (0, .inr (.inr (some 11))), (1, .inl x), (2, .inl y), (3, .inl w), (4, .inl v)], [.inl 1, .inl w, .inl y, .inl 4, .inr (.inr (some 11))], (I, L, R, Y), 0, 0) (fun _ => rfl) ?_
                    refine yi_G_if1 false rfl (by decide) ?_
                    refine yi_G_run 3 (111, [(6, .inl 1), (5, .inl 1), (0, .inr (.inr (some 11))), (1, .inl x), (2, .inl y), (3, .inl w), (4, .inl v)], [.inl 1, .inl 1, .inl w, .inl y, .inl 4, .inr (.inr (some 11))], (I, L, R, Y), 0, 0) (fun _ => rfl) ?_
                    refine yi_G_if1 false rfl (by decide) ?_
                    refine yi_G_run 1 (115, [(6, .inl 1), (5, .inl 1), (0, .inr (.inr (some 11))), (1, .inl x), (2, .inl y), (3, .inl w), (4, .inl v)], [.inr (.inr (some 11)), .inl 1, .inl w, .inl y, .inl 4, .inr (.inr (some 11))], (I, L, R, Y), 0, 0) (fun _ => rfl) ?_
                    obtain ⟨q79, e80, t81⟩ := cl_rf hP.1 (cl_11 hP.1) (k := 6) rfl
                    refine cl_G_gr rfl (cl_T_K (cl_11 hP.1)) rfl rfl rfl e80 ?_
                    have b82 := cl_rd hP.1 t81 (k := 14) (lo := 1) (hi := 6) rfl
                    refine cl_G_gi rfl (cl_T_K t81) rfl rfl rfl ?_
                    refine yi_G_run 1 (126, [(6, .inl 1), (5, .inl 1), (0, .inr (.inr (some 11))), (1, .inl x), (2, .inl y), (3, .inl w), (4, .inl v)], [.inl (I q79 14), .inl 1, .inl w, .inl y, .inl 4, .inr (.inr (some 11))], (I, L, R, Y), 0, 0) (fun _ => rfl) ?_
                    refine yi_G_calls rfl rfl (k_clauseCode d (by omega) hP.1  ) ?_
                    rintro _ ⟨z83, rfl⟩
                    show yi_G zi_Ms d zi_m250 (129, [(6, .inl 1), (5, .inl 1), (0, .inr (.inr (some 11))), (1, .inl x), (2, .inl y), (3, .inl w), (4, .inl v)], [.inl z83, .inr (.inr (some 11))], (I, L, R, Y), 0, 0) _
                    refine yi_G_callv rfl rfl (cl_rcv (cl_11 hP.1) rfl) rfl (k_emitR d (by omega) hP.1  ) ?_
                    rintro _ ⟨I84, rfl, hQ84, x84a, x84b, x84c⟩
                    have hP84 := cl_P_t hP hQ84
                    show yi_G zi_Ms d zi_m250 (132, [(6, .inl 1), (5, .inl 1), (0, .inr (.inr (some 11))), (1, .inl x), (2, .inl y), (3, .inl w), (4, .inl v)], [], (I84, L, R, Y), 0, 0) _
                    exact yi_G_retv rfl rfl (⟨_, rfl, hP84, by omega, by omega, by omega⟩)
                  · refine yi_G_if2 true rfl (yi_ne_t h78) ?_
                    refine yi_G_run 7 (100, [(6, .inl 0), (5, .inl 1), (0, .inr (.inr (some 11))), (1, .inl x), (2, .inl y), (3, .inl w), (4, .inl v)], [.inl 1, .inl w, .inl y, .inl 4, .inr (.inr (some 11))], (I, L, R, Y), 0, 0) (fun _ => rfl) ?_
                    refine yi_G_if1 false rfl (by decide) ?_
                    refine yi_G_run 3 (111, [(6, .inl 0), (5, .inl 1), (0, .inr (.inr (some 11))), (1, .inl x), (2, .inl y), (3, .inl w), (4, .inl v)], [.inl 0, .inl 1, .inl w, .inl y, .inl 4, .inr (.inr (some 11))], (I, L, R, Y), 0, 0) (fun _ => rfl) ?_
                    refine yi_G_if1 true rfl (by decide) ?_
                    refine yi_G_run 1 (126, [(6, .inl 0), (5, .inl 1), (0, .inr (.inr (some 11))), (1, .inl x), (2, .inl y), (3, .inl w), (4, .inl v)], [.inl v, .inl 1, .inl w, .inl y, .inl 4, .inr (.inr (some 11))], (I, L, R, Y), 0, 0) (fun _ => rfl) ?_
                    refine yi_G_calls rfl rfl (k_clauseCode d (by omega) hP.1  ) ?_
                    rintro _ ⟨z85, rfl⟩
                    show yi_G zi_Ms d zi_m250 (129, [(6, .inl 0), (5, .inl 1), (0, .inr (.inr (some 11))), (1, .inl x), (2, .inl y), (3, .inl w), (4, .inl v)], [.inl z85, .inr (.inr (some 11))], (I, L, R, Y), 0, 0) _
                    refine yi_G_callv rfl rfl (cl_rcv (cl_11 hP.1) rfl) rfl (k_emitR d (by omega) hP.1  ) ?_
                    rintro _ ⟨I86, rfl, hQ86, x86a, x86b, x86c⟩
                    have hP86 := cl_P_t hP hQ86
                    show yi_G zi_Ms d zi_m250 (132, [(6, .inl 0), (5, .inl 1), (0, .inr (.inr (some 11))), (1, .inl x), (2, .inl y), (3, .inl w), (4, .inl v)], [], (I86, L, R, Y), 0, 0) _
                    exact yi_G_retv rfl rfl (⟨_, rfl, hP86, by omega, by omega, by omega⟩)
            · refine yi_G_if2 true rfl (yi_ne_t h53) ?_
              refine yi_G_run 4 (78, [(5, .inl 0), (0, .inr (.inr (some 11))), (1, .inl x), (2, .inl y), (3, .inl w), (4, .inl v)], [.inl 20, .inl x], (I, L, R, Y), 0, 0) (fun _ => rfl) ?_
              by_cases h87 : x = 20
              · refine yi_G_if2 true rfl (yi_eq_t h87) ?_
                refine yi_G_run 8 (100, [(6, .inl 1), (5, .inl 0), (0, .inr (.inr (some 11))), (1, .inl x), (2, .inl y), (3, .inl w), (4, .inl v)], [.inl 0, .inl w, .inl y, .inl 4, .inr (.inr (some 11))], (I, L, R, Y), 0, 0) (fun _ => rfl) ?_
                refine yi_G_if1 true rfl (by decide) ?_
                refine yi_G_run 2 (111, [(6, .inl 1), (5, .inl 0), (0, .inr (.inr (some 11))), (1, .inl x), (2, .inl y), (3, .inl w), (4, .inl v)], [.inl 1, .inl v, .inl w, .inl y, .inl 4, .inr (.inr (some 11))], (I, L, R, Y), 0, 0) (fun _ => rfl) ?_
                refine yi_G_if1 false rfl (by decide) ?_
                refine yi_G_run 1 (115, [(6, .inl 1), (5, .inl 0), (0, .inr (.inr (some 11))), (1, .inl x), (2, .inl y), (3, .inl w), (4, .inl v)], [.inr (.inr (some 11)), .inl v, .inl w, .inl y, .inl 4, .inr (.inr (some 11))], (I, L, R, Y), 0, 0) (fun _ => rfl) ?_
                obtain ⟨q88, e89, t90⟩ := cl_rf hP.1 (cl_11 hP.1) (k := 6) rfl
                refine cl_G_gr rfl (cl_T_K (cl_11 hP.1)) rfl rfl rfl e89 ?_
                have b91 := cl_rd hP.1 t90 (k := 14) (lo := 1) (hi := 6) rfl
                refine cl_G_gi rfl (cl_T_K t90) rfl rfl rfl ?_
                refine yi_G_run 1 (126, [(6, .inl 1), (5, .inl 0), (0, .inr (.inr (some 11))), (1, .inl x), (2, .inl y), (3, .inl w), (4, .inl v)], [.inl (I q88 14), .inl v, .inl w, .inl y, .inl 4, .inr (.inr (some 11))], (I, L, R, Y), 0, 0) (fun _ => rfl) ?_
                refine yi_G_calls rfl rfl (k_clauseCode d (by omega) hP.1  ) ?_
                rintro _ ⟨z92, rfl⟩
                show yi_G zi_Ms d zi_m250 (129, [(6, .inl 1), (5, .inl 0), (0, .inr (.inr (some 11))), (1, .inl x), (2, .inl y), (3, .inl w), (4, .inl v)], [.inl z92, .inr (.inr (some 11))], (I, L, R, Y), 0, 0) _
                refine yi_G_callv rfl rfl (cl_rcv (cl_11 hP.1) rfl) rfl (k_emitR d (by omega) hP.1  ) ?_
                rintro _ ⟨I93, rfl, hQ93, x93a, x93b, x93c⟩
                have hP93 := cl_P_t hP hQ93
                show yi_G zi_Ms d zi_m250 (132, [(6, .inl 1), (5, .inl 0), (0, .inr (.inr (some 11))), (1, .inl x), (2, .inl y), (3, .inl w), (4, .inl v)], [], (I93, L, R, Y), 0, 0) _
                exact yi_G_retv rfl rfl (⟨_, rfl, hP93, by omega, by omega, by omega⟩)
              · refine yi_G_if2 false rfl (yi_eq_f h87) ?_
                refine yi_G_run 2 (84, [(5, .inl 0), (0, .inr (.inr (some 11))), (1, .inl x), (2, .inl y), (3, .inl w), (4, .inl v)], [.inl 21, .inl x], (I, L, R, Y), 0, 0) (fun _ => rfl) ?_
                by_cases h94 : x = 21
                · refine yi_G_if2 false rfl (yi_ne_f h94) ?_
                  refine yi_G_run 8 (100, [(6, .inl 1), (5, .inl 0), (0, .inr (.inr (some 11))), (1, .inl x), (2, .inl y), (3, .inl w), (4, .inl v)], [.inl 0, .inl w, .inl y, .inl 4, .inr (.inr (some 11))], (I, L, R, Y), 0, 0) (fun _ => rfl) ?_
                  refine yi_G_if1 true rfl (by decide) ?_
                  refine yi_G_run 2 (111, [(6, .inl 1), (5, .inl 0), (0, .inr (.inr (some 11))), (1, .inl x), (2, .inl y), (3, .inl w), (4, .inl v)], [.inl 1, .inl v, .inl w, .inl y, .inl 4, .inr (.inr (some 11))], (I, L, R, Y), 0, 0) (fun _ => rfl) ?_
                  refine yi_G_if1 false rfl (by decide) ?_
                  refine yi_G_run 1 (115, [(6, .inl 1), (5, .inl 0), (0, .inr (.inr (some 11))), (1, .inl x), (2, .inl y), (3, .inl w), (4, .inl v)], [.inr (.inr (some 11)), .inl v, .inl w, .inl y, .inl 4, .inr (.inr (some 11))], (I, L, R, Y), 0, 0) (fun _ => rfl) ?_
                  obtain ⟨q95, e96, t97⟩ := cl_rf hP.1 (cl_11 hP.1) (k := 6) rfl
                  refine cl_G_gr rfl (cl_T_K (cl_11 hP.1)) rfl rfl rfl e96 ?_
                  have b98 := cl_rd hP.1 t97 (k := 14) (lo := 1) (hi := 6) rfl
                  refine cl_G_gi rfl (cl_T_K t97) rfl rfl rfl ?_
                  refine yi_G_run 1 (126, [(6, .inl 1), (5, .inl 0), (0, .inr (.inr (some 11))), (1, .inl x), (2, .inl y), (3, .inl w), (4, .inl v)], [.inl (I q95 14), .inl v, .inl w, .inl y, .inl 4, .inr (.inr (some 11))], (I, L, R, Y), 0, 0) (fun _ => rfl) ?_
                  refine yi_G_calls rfl rfl (k_clauseCode d (by omega) hP.1  ) ?_
                  rintro _ ⟨z99, rfl⟩
                  show yi_G zi_Ms d zi_m250 (129, [(6, .inl 1), (5, .inl 0), (0, .inr (.inr (some 11))), (1, .inl x), (2, .inl y), (3, .inl w), (4, .inl v)], [.inl z99, .inr (.inr (some 11))], (I, L, R, Y), 0, 0) _
                  refine yi_G_callv rfl rfl (cl_rcv (cl_11 hP.1) rfl) rfl (k_emitR d (by omega) hP.1  ) ?_
                  rintro _ ⟨I100, rfl, hQ100, x100a, x100b, x100c⟩
                  have hP100 := cl_P_t hP hQ100
                  show yi_G zi_Ms d zi_m250 (132, [(6, .inl 1), (5, .inl 0), (0, .inr (.inr (some 11))), (1, .inl x), (2, .inl y), (3, .inl w), (4, .inl v)], [], (I100, L, R, Y), 0, 0) _
                  exact yi_G_retv rfl rfl (⟨_, rfl, hP100, by omega, by omega, by omega⟩)
                · refine yi_G_if2 true rfl (yi_ne_t h94) ?_
                  refine yi_G_run 7 (100, [(6, .inl 0), (5, .inl 0), (0, .inr (.inr (some 11))), (1, .inl x), (2, .inl y), (3, .inl w), (4, .inl v)], [.inl 0, .inl w, .inl y, .inl 4, .inr (.inr (some 11))], (I, L, R, Y), 0, 0) (fun _ => rfl) ?_
                  refine yi_G_if1 true rfl (by decide) ?_
                  refine yi_G_run 2 (111, [(6, .inl 0), (5, .inl 0), (0, .inr (.inr (some 11))), (1, .inl x), (2, .inl y), (3, .inl w), (4, .inl v)], [.inl 0, .inl v, .inl w, .inl y, .inl 4, .inr (.inr (some 11))], (I, L, R, Y), 0, 0) (fun _ => rfl) ?_
                  refine yi_G_if1 true rfl (by decide) ?_
                  refine yi_G_run 1 (126, [(6, .inl 0), (5, .inl 0), (0, .inr (.inr (some 11))), (1, .inl x), (2, .inl y), (3, .inl w), (4, .inl v)], [.inl v, .inl v, .inl w, .inl y, .inl 4, .inr (.inr (some 11))], (I, L, R, Y), 0, 0) (fun _ => rfl) ?_
                  refine yi_G_calls rfl rfl (k_clauseCode d (by omega) hP.1  ) ?_
                  rintro _ ⟨z101, rfl⟩
                  show yi_G zi_Ms d zi_m250 (129, [(6, .inl 0), (5, .inl 0), (0, .inr (.inr (some 11))), (1, .inl x), (2, .inl y), (3, .inl w), (4, .inl v)], [.inl z101, .inr (.inr (some 11))], (I, L, R, Y), 0, 0) _
                  refine yi_G_callv rfl rfl (cl_rcv (cl_11 hP.1) rfl) rfl (k_emitR d (by omega) hP.1  ) ?_
                  rintro _ ⟨I102, rfl, hQ102, x102a, x102b, x102c⟩
                  have hP102 := cl_P_t hP hQ102
                  show yi_G zi_Ms d zi_m250 (132, [(6, .inl 0), (5, .inl 0), (0, .inr (.inr (some 11))), (1, .inl x), (2, .inl y), (3, .inl w), (4, .inl v)], [], (I102, L, R, Y), 0, 0) _
                  exact yi_G_retv rfl rfl (⟨_, rfl, hP102, by omega, by omega, by omega⟩)
theorem k_readPairR (D : Nat) (hD : 4 ≤ D) {E : List Nat} {I L : cl_I} {R : cl_Rr} {Y : cl_Y} (hC : cl_C E I L R Y) : yi_E zi_Ms D 260 [.inr (.inr (some 11))] (I, L, R, Y) (fun r => ∃ I', ∃ L', r = (none, (I', L', R, Y), 0, 0) ∧ cl_P E I L R Y I' L' R Y ∧ (I 11 3 ≤ I' 11 3) ∧ (I' 11 11 = 0 → I 11 11 = 0) ∧ (0 ≤ I 11 8 → 0 ≤ I' 11 8)) := by
  obtain ⟨d, rfl⟩ : ∃ d, D = d + 1 := ⟨D - 1, by omega⟩
  refine yi_E_of (M := zi_m260) rfl rfl ?_
  have hP : cl_P E I L R Y I L R Y := cl_P_r hC
  show yi_G zi_Ms d zi_m260 (0, [(0, .inr (.inr (some 11)))], [], (I, L, R, Y), 0, 0) _
  have pt17 : ∀ (w : Int), yi_G zi_Ms d zi_m260 (17, [(0, .inr (.inr (some 11))), (1, .inl w)], [], (I, L, R, Y), 0, 0) (fun r => ∃ I', ∃ L', r = (none, (I', L', R, Y), 0, 0) ∧ cl_P E I L R Y I' L' R Y ∧ (I 11 3 ≤ I' 11 3) ∧ (I' 11 11 = 0 → I 11 11 = 0) ∧ (0 ≤ I 11 8 → 0 ≤ I' 11 8)) := by
    intro w
    refine yi_G_run 1 (18, [(0, .inr (.inr (some 11))), (1, .inl w)], [.inr (.inr (some 11))], (I, L, R, Y), 0, 0) (fun _ => rfl) ?_
    refine yi_G_callv rfl rfl (cl_rcv (cl_11 hP.1) rfl) rfl (k_advanceR d (by omega) hP.1  ) ?_
    rintro _ ⟨I1, L1, rfl, hQ1, x1a, x1b, x1c, x1d, x1e, x1f, x1g⟩
    have hP1 := cl_P_t hP hQ1
    show yi_G zi_Ms d zi_m260 (21, [(0, .inr (.inr (some 11))), (1, .inl w)], [], (I1, L1, R, Y), 0, 0) _
    refine yi_G_run 1 (22, [(0, .inr (.inr (some 11))), (1, .inl w)], [.inr (.inr (some 11))], (I1, L1, R, Y), 0, 0) (fun _ => rfl) ?_
    refine cl_G_gl rfl (cl_T_K (cl_11 hP1.1)) rfl rfl rfl ?_
    refine yi_G_run 3 (28, [(2, .inr (.inl (L1 11 10))), (0, .inr (.inr (some 11))), (1, .inl w)], [.inr (.inr (some 11)), .inr (.inr (some 11))], (I1, L1, R, Y), 0, 0) (fun _ => rfl) ?_
    obtain ⟨q2, e3, t4⟩ := cl_rf hP1.1 (cl_11 hP1.1) (k := 6) rfl
    refine cl_G_gr rfl (cl_T_K (cl_11 hP1.1)) rfl rfl rfl e3 ?_
    obtain ⟨q5, e6, t7, n8⟩ := cl_rn hP1.1 t4 (k := 0) (m := 3) rfl
    refine cl_G_gr rfl (cl_T_K t4) rfl rfl rfl e6 ?_
    refine yi_G_run 1 (35, [(2, .inr (.inl (L1 11 10))), (0, .inr (.inr (some 11))), (1, .inl w)], [.inr (.inr (some 11)), .inr (.inr (some q5)), .inr (.inr (some 11))], (I1, L1, R, Y), 0, 0) (fun _ => rfl) ?_
    refine cl_G_gr rfl (cl_T_K (cl_11 hP1.1)) rfl rfl rfl e3 ?_
    have b9 := cl_rd hP1.1 t4 (k := 15) (lo := 0) (hi := 4) rfl
    refine cl_G_gi rfl (cl_T_K t4) rfl rfl rfl ?_
    refine yi_G_callv rfl rfl (cl_rcv (cl_11 hP1.1) rfl) rfl (k_takeNameR d (by omega) hP1.1 t7 ) ?_
    rintro _ ⟨z10, I10, L10, rfl, hQ10, x10a, x10b, x10c⟩
    have hP10 := cl_P_t hP1 hQ10
    show yi_G zi_Ms d zi_m260 (44, [(2, .inr (.inl (L1 11 10))), (0, .inr (.inr (some 11))), (1, .inl w)], [.inl z10], (I10, L10, R, Y), 0, 0) _
    refine yi_G_run 2 (47, [(4, .inl z10), (2, .inr (.inl (L1 11 10))), (0, .inr (.inr (some 11))), (1, .inl w)], [.inr (.inr (some 11))], (I10, L10, R, Y), 0, 0) (fun _ => rfl) ?_
    refine cl_G_gi rfl (cl_T_K (cl_11 hP10.1)) rfl rfl rfl ?_
    refine yi_G_run 1 (51, [(4, .inl z10), (2, .inr (.inl (L1 11 10))), (0, .inr (.inr (some 11))), (1, .inl w)], [.inl 3, .inl (I10 11 9)], (I10, L10, R, Y), 0, 0) (fun _ => rfl) ?_
    by_cases h11 : (I10 11 9) = 3
    · refine yi_G_if2 false rfl (yi_ne_f h11) ?_
      refine yi_G_run 1 (55, [(4, .inl z10), (2, .inr (.inl (L1 11 10))), (0, .inr (.inr (some 11))), (1, .inl w)], [.inr (.inr (some 11))], (I10, L10, R, Y), 0, 0) (fun _ => rfl) ?_
      refine cl_G_gl rfl (cl_T_K (cl_11 hP10.1)) rfl rfl rfl ?_
      refine yi_G_run 2 (60, [(4, .inl z10), (2, .inr (.inl (L1 11 10))), (0, .inr (.inr (some 11))), (1, .inl w)], [.inl (yi_lcmp (L10 11 10) (L1 11 10))], (I10, L10, R, Y), 0, 0) (fun _ => rfl) ?_
      by_cases h12 : ((L10 11 10)) = ((L1 11 10))
      · refine yi_G_if1 false rfl (yi_Lne_f h12) ?_
        refine yi_G_run 2 (65, [(4, .inl z10), (2, .inr (.inl (L1 11 10))), (0, .inr (.inr (some 11))), (1, .inl w)], [.inl 3, .inr (.inr (some 11))], (I10, L10, R, Y), 0, 0) (fun _ => rfl) ?_
        refine yi_G_callv rfl rfl (cl_rcv (cl_11 hP10.1) rfl) rfl (k_wrongR d (by omega) hP10.1  (by omega)) ?_
        rintro _ ⟨I13, rfl, hQ13, x13a, x13b, x13c, x13d⟩
        have hP13 := cl_P_t hP10 hQ13
        show yi_G zi_Ms d zi_m260 (68, [(4, .inl z10), (2, .inr (.inl (L1 11 10))), (0, .inr (.inr (some 11))), (1, .inl w)], [], (I13, L10, R, Y), 0, 0) _
        have pt68 : ∀ (Ip68 : cl_I) (Lp68 : cl_I), (cl_P E I L R Y Ip68 Lp68 R Y) → (I 11 3 ≤ Ip68 11 3) → (Ip68 11 11 = 0 → I 11 11 = 0) → (0 ≤ I 11 8 → 0 ≤ Ip68 11 8) → yi_G zi_Ms d zi_m260 (68, [(4, .inl z10), (2, .inr (.inl (L1 11 10))), (0, .inr (.inr (some 11))), (1, .inl w)], [], (Ip68, Lp68, R, Y), 0, 0) (fun r => ∃ I', ∃ L', r = (none, (I', L', R, Y), 0, 0) ∧ cl_P E I L R Y I' L' R Y ∧ (I 11 3 ≤ I' 11 3) ∧ (I' 11 11 = 0 → I 11 11 = 0) ∧ (0 ≤ I 11 8 → 0 ≤ I' 11 8)) := by
          intro Ip68 Lp68 hPp68 ub vb wb
          refine yi_G_run 2 (70, [(4, .inl z10), (2, .inr (.inl (L1 11 10))), (0, .inr (.inr (some 11))), (1, .inl w)], [.inr (.inr (some 11)), .inr (.inr (some 11))], (Ip68, Lp68, R, Y), 0, 0) (fun _ => rfl) ?_
          refine cl_G_gr rfl (cl_T_K (cl_11 hPp68.1)) rfl rfl rfl e3 ?_
          refine cl_G_gr rfl (cl_T_K t4) rfl rfl rfl e6 ?_
          refine yi_G_run 1 (77, [(4, .inl z10), (2, .inr (.inl (L1 11 10))), (0, .inr (.inr (some 11))), (1, .inl w)], [.inr (.inr (some 11)), .inr (.inr (some q5)), .inr (.inr (some 11))], (Ip68, Lp68, R, Y), 0, 0) (fun _ => rfl) ?_
          refine cl_G_gr rfl (cl_T_K (cl_11 hPp68.1)) rfl rfl rfl e3 ?_
          have b14 := cl_rd hPp68.1 t4 (k := 15) (lo := 0) (hi := 4) rfl
          refine cl_G_gi rfl (cl_T_K t4) rfl rfl rfl ?_
          refine yi_G_callv rfl rfl (cl_rcv (cl_11 hPp68.1) rfl) rfl (k_takeNameR d (by omega) hPp68.1 t7 ) ?_
          rintro _ ⟨z15, I15, L15, rfl, hQ15, x15a, x15b, x15c⟩
          have hP15 := cl_P_t hPp68 hQ15
          show yi_G zi_Ms d zi_m260 (86, [(4, .inl z10), (2, .inr (.inl (L1 11 10))), (0, .inr (.inr (some 11))), (1, .inl w)], [.inl z15], (I15, L15, R, Y), 0, 0) _
          refine yi_G_run 3 (90, [(5, .inl z15), (4, .inl z10), (2, .inr (.inl (L1 11 10))), (0, .inr (.inr (some 11))), (1, .inl w)], [.inr (.inr (some 11)), .inr (.inr (some 11))], (I15, L15, R, Y), 0, 0) (fun _ => rfl) ?_
          refine cl_G_gr rfl (cl_T_K (cl_11 hP15.1)) rfl rfl rfl e3 ?_
          obtain ⟨q16, e17, t18, n19⟩ := cl_rn hP15.1 t4 (k := 1) (m := 3) rfl
          refine cl_G_gr rfl (cl_T_K t4) rfl rfl rfl e17 ?_
          refine yi_G_run 1 (97, [(5, .inl z15), (4, .inl z10), (2, .inr (.inl (L1 11 10))), (0, .inr (.inr (some 11))), (1, .inl w)], [.inr (.inr (some 11)), .inr (.inr (some q16)), .inr (.inr (some 11))], (I15, L15, R, Y), 0, 0) (fun _ => rfl) ?_
          refine cl_G_gr rfl (cl_T_K (cl_11 hP15.1)) rfl rfl rfl e3 ?_
          have b20 := cl_rd hP15.1 t4 (k := 16) (lo := 0) (hi := 4) rfl
          refine cl_G_gi rfl (cl_T_K t4) rfl rfl rfl ?_
          refine yi_G_callv rfl rfl (cl_rcv (cl_11 hP15.1) rfl) rfl (k_takeNameR d (by omega) hP15.1 t18 ) ?_
          rintro _ ⟨z21, I21, L21, rfl, hQ21, x21a, x21b, x21c⟩
          have hP21 := cl_P_t hP15 hQ21
          show yi_G zi_Ms d zi_m260 (106, [(5, .inl z15), (4, .inl z10), (2, .inr (.inl (L1 11 10))), (0, .inr (.inr (some 11))), (1, .inl w)], [.inl z21], (I21, L21, R, Y), 0, 0) _
          refine yi_G_run 3 (110, [(6, .inl z21), (5, .inl z15), (4, .inl z10), (2, .inr (.inl (L1 11 10))), (0, .inr (.inr (some 11))), (1, .inl w)], [.inl 1, .inr (.inr (some 11))], (I21, L21, R, Y), 0, 0) (fun _ => rfl) ?_
          refine cl_G_pi rfl (cl_T_K (cl_11 hP21.1)) rfl rfl rfl ?_
          have hP22 := cl_P_uI (k := 5) (v := 1) hP21 (cl_11 hP21.1) (by decide) (cl_hv0 rfl)
          generalize w23 : yi_u I21 11 5 1 = I24 at hP22 ⊢
          refine yi_G_run 6 (122, [(6, .inl z21), (5, .inl z15), (4, .inl z10), (2, .inr (.inl (L1 11 10))), (0, .inr (.inr (some 11))), (1, .inl w)], [.inl 0, .inl z15, .inl z21, .inl z10, .inl w, .inr (.inr (some 11))], (I24, L21, R, Y), 0, 0) (fun _ => rfl) ?_
          have r26 : I24 11 3 = I21 11 3 := by rw [← w23, yi_u_ne _ _ (fun z => absurd z.2 (by decide))]
          have r27 : I24 11 8 = I21 11 8 := by rw [← w23, yi_u_ne _ _ (fun z => absurd z.2 (by decide))]
          have r28 : I24 11 11 = I21 11 11 := by rw [← w23, yi_u_ne _ _ (fun z => absurd z.2 (by decide))]
          refine yi_G_calls rfl rfl (k_clauseCode d (by omega) hP22.1  ) ?_
          rintro _ ⟨z25, rfl⟩
          show yi_G zi_Ms d zi_m260 (125, [(6, .inl z21), (5, .inl z15), (4, .inl z10), (2, .inr (.inl (L1 11 10))), (0, .inr (.inr (some 11))), (1, .inl w)], [.inl z25, .inr (.inr (some 11))], (I24, L21, R, Y), 0, 0) _
          have r30 : I24 11 3 = I21 11 3 := by rw [← w23, yi_u_ne _ _ (fun z => absurd z.2 (by decide))]
          have r31 : I24 11 8 = I21 11 8 := by rw [← w23, yi_u_ne _ _ (fun z => absurd z.2 (by decide))]
          have r32 : I24 11 11 = I21 11 11 := by rw [← w23, yi_u_ne _ _ (fun z => absurd z.2 (by decide))]
          refine yi_G_callv rfl rfl (cl_rcv (cl_11 hP22.1) rfl) rfl (k_emitR d (by omega) hP22.1  ) ?_
          rintro _ ⟨I29, rfl, hQ29, x29a, x29b, x29c⟩
          have hP29 := cl_P_t hP22 hQ29
          show yi_G zi_Ms d zi_m260 (128, [(6, .inl z21), (5, .inl z15), (4, .inl z10), (2, .inr (.inl (L1 11 10))), (0, .inr (.inr (some 11))), (1, .inl w)], [], (I29, L21, R, Y), 0, 0) _
          exact yi_G_retv rfl rfl (⟨_, _, rfl, hP29, by omega, by omega, by omega⟩)
        exact pt68 I13 L10 hP13 (by omega) (by omega) (by omega)
      · refine yi_G_if1 true rfl (yi_Lne_t h12) ?_
        have pt68 : ∀ (Ip68 : cl_I) (Lp68 : cl_I), (cl_P E I L R Y Ip68 Lp68 R Y) → (I 11 3 ≤ Ip68 11 3) → (Ip68 11 11 = 0 → I 11 11 = 0) → (0 ≤ I 11 8 → 0 ≤ Ip68 11 8) → yi_G zi_Ms d zi_m260 (68, [(4, .inl z10), (2, .inr (.inl (L1 11 10))), (0, .inr (.inr (some 11))), (1, .inl w)], [], (Ip68, Lp68, R, Y), 0, 0) (fun r => ∃ I', ∃ L', r = (none, (I', L', R, Y), 0, 0) ∧ cl_P E I L R Y I' L' R Y ∧ (I 11 3 ≤ I' 11 3) ∧ (I' 11 11 = 0 → I 11 11 = 0) ∧ (0 ≤ I 11 8 → 0 ≤ I' 11 8)) := by
          intro Ip68 Lp68 hPp68 ub vb wb
          refine yi_G_run 2 (70, [(4, .inl z10), (2, .inr (.inl (L1 11 10))), (0, .inr (.inr (some 11))), (1, .inl w)], [.inr (.inr (some 11)), .inr (.inr (some 11))], (Ip68, Lp68, R, Y), 0, 0) (fun _ => rfl) ?_
          refine cl_G_gr rfl (cl_T_K (cl_11 hPp68.1)) rfl rfl rfl e3 ?_
          refine cl_G_gr rfl (cl_T_K t4) rfl rfl rfl e6 ?_
          refine yi_G_run 1 (77, [(4, .inl z10), (2, .inr (.inl (L1 11 10))), (0, .inr (.inr (some 11))), (1, .inl w)], [.inr (.inr (some 11)), .inr (.inr (some q5)), .inr (.inr (some 11))], (Ip68, Lp68, R, Y), 0, 0) (fun _ => rfl) ?_
          refine cl_G_gr rfl (cl_T_K (cl_11 hPp68.1)) rfl rfl rfl e3 ?_
          have b33 := cl_rd hPp68.1 t4 (k := 15) (lo := 0) (hi := 4) rfl
          refine cl_G_gi rfl (cl_T_K t4) rfl rfl rfl ?_
          refine yi_G_callv rfl rfl (cl_rcv (cl_11 hPp68.1) rfl) rfl (k_takeNameR d (by omega) hPp68.1 t7 ) ?_
          rintro _ ⟨z34, I34, L34, rfl, hQ34, x34a, x34b, x34c⟩
          have hP34 := cl_P_t hPp68 hQ34
          show yi_G zi_Ms d zi_m260 (86, [(4, .inl z10), (2, .inr (.inl (L1 11 10))), (0, .inr (.inr (some 11))), (1, .inl w)], [.inl z34], (I34, L34, R, Y), 0, 0) _
          refine yi_G_run 3 (90, [(5, .inl z34), (4, .inl z10), (2, .inr (.inl (L1 11 10))), (0, .inr (.inr (some 11))), (1, .inl w)], [.inr (.inr (some 11)), .inr (.inr (some 11))], (I34, L34, R, Y), 0, 0) (fun _ => rfl) ?_
          refine cl_G_gr rfl (cl_T_K (cl_11 hP34.1)) rfl rfl rfl e3 ?_
          obtain ⟨q35, e36, t37, n38⟩ := cl_rn hP34.1 t4 (k := 1) (m := 3) rfl
          refine cl_G_gr rfl (cl_T_K t4) rfl rfl rfl e36 ?_
          refine yi_G_run 1 (97, [(5, .inl z34), (4, .inl z10), (2, .inr (.inl (L1 11 10))), (0, .inr (.inr (some 11))), (1, .inl w)], [.inr (.inr (some 11)), .inr (.inr (some q35)), .inr (.inr (some 11))], (I34, L34, R, Y), 0, 0) (fun _ => rfl) ?_
          refine cl_G_gr rfl (cl_T_K (cl_11 hP34.1)) rfl rfl rfl e3 ?_
          have b39 := cl_rd hP34.1 t4 (k := 16) (lo := 0) (hi := 4) rfl
          refine cl_G_gi rfl (cl_T_K t4) rfl rfl rfl ?_
          refine yi_G_callv rfl rfl (cl_rcv (cl_11 hP34.1) rfl) rfl (k_takeNameR d (by omega) hP34.1 t37 ) ?_
          rintro _ ⟨z40, I40, L40, rfl, hQ40, x40a, x40b, x40c⟩
          have hP40 := cl_P_t hP34 hQ40
          show yi_G zi_Ms d zi_m260 (106, [(5, .inl z34), (4, .inl z10), (2, .inr (.inl (L1 11 10))), (0, .inr (.inr (some 11))), (1, .inl w)], [.inl z40], (I40, L40, R, Y), 0, 0) _
          refine yi_G_run 3 (110, [(6, .inl z40), (5, .inl z34), (4, .inl z10), (2, .inr (.inl (L1 11 10))), (0, .inr (.inr (some 11))), (1, .inl w)], [.inl 1, .inr (.inr (some 11))], (I40, L40, R, Y), 0, 0) (fun _ => rfl) ?_
          refine cl_G_pi rfl (cl_T_K (cl_11 hP40.1)) rfl rfl rfl ?_
          have hP41 := cl_P_uI (k := 5) (v := 1) hP40 (cl_11 hP40.1) (by decide) (cl_hv0 rfl)
          generalize w42 : yi_u I40 11 5 1 = I43 at hP41 ⊢
          refine yi_G_run 6 (122, [(6, .inl z40), (5, .inl z34), (4, .inl z10), (2, .inr (.inl (L1 11 10))), (0, .inr (.inr (some 11))), (1, .inl w)], [.inl 0, .inl z34, .inl z40, .inl z10, .inl w, .inr (.inr (some 11))], (I43, L40, R, Y), 0, 0) (fun _ => rfl) ?_
          have r45 : I43 11 3 = I40 11 3 := by rw [← w42, yi_u_ne _ _ (fun z => absurd z.2 (by decide))]
          have r46 : I43 11 8 = I40 11 8 := by rw [← w42, yi_u_ne _ _ (fun z => absurd z.2 (by decide))]
          have r47 : I43 11 11 = I40 11 11 := by rw [← w42, yi_u_ne _ _ (fun z => absurd z.2 (by decide))]
          refine yi_G_calls rfl rfl (k_clauseCode d (by omega) hP41.1  ) ?_
          rintro _ ⟨z44, rfl⟩
          show yi_G zi_Ms d zi_m260 (125, [(6, .inl z40), (5, .inl z34), (4, .inl z10), (2, .inr (.inl (L1 11 10))), (0, .inr (.inr (some 11))), (1, .inl w)], [.inl z44, .inr (.inr (some 11))], (I43, L40, R, Y), 0, 0) _
          have r49 : I43 11 3 = I40 11 3 := by rw [← w42, yi_u_ne _ _ (fun z => absurd z.2 (by decide))]
          have r50 : I43 11 8 = I40 11 8 := by rw [← w42, yi_u_ne _ _ (fun z => absurd z.2 (by decide))]
          have r51 : I43 11 11 = I40 11 11 := by rw [← w42, yi_u_ne _ _ (fun z => absurd z.2 (by decide))]
          refine yi_G_callv rfl rfl (cl_rcv (cl_11 hP41.1) rfl) rfl (k_emitR d (by omega) hP41.1  ) ?_
          rintro _ ⟨I48, rfl, hQ48, x48a, x48b, x48c⟩
          have hP48 := cl_P_t hP41 hQ48
          show yi_G zi_Ms d zi_m260 (128, [(6, .inl z40), (5, .inl z34), (4, .inl z10), (2, .inr (.inl (L1 11 10))), (0, .inr (.inr (some 11))), (1, .inl w)], [], (I48, L40, R, Y), 0, 0) _
          exact yi_G_retv rfl rfl (⟨_, _, rfl, hP48, by omega, by omega, by omega⟩)
        exact pt68 I10 L10 hP10 (by omega) (by omega) (by omega)
    · refine yi_G_if2 true rfl (yi_ne_t h11) ?_
      have pt68 : ∀ (Ip68 : cl_I) (Lp68 : cl_I), (cl_P E I L R Y Ip68 Lp68 R Y) → (I 11 3 ≤ Ip68 11 3) → (Ip68 11 11 = 0 → I 11 11 = 0) → (0 ≤ I 11 8 → 0 ≤ Ip68 11 8) → yi_G zi_Ms d zi_m260 (68, [(4, .inl z10), (2, .inr (.inl (L1 11 10))), (0, .inr (.inr (some 11))), (1, .inl w)], [], (Ip68, Lp68, R, Y), 0, 0) (fun r => ∃ I', ∃ L', r = (none, (I', L', R, Y), 0, 0) ∧ cl_P E I L R Y I' L' R Y ∧ (I 11 3 ≤ I' 11 3) ∧ (I' 11 11 = 0 → I 11 11 = 0) ∧ (0 ≤ I 11 8 → 0 ≤ I' 11 8)) := by
        intro Ip68 Lp68 hPp68 ub vb wb
        refine yi_G_run 2 (70, [(4, .inl z10), (2, .inr (.inl (L1 11 10))), (0, .inr (.inr (some 11))), (1, .inl w)], [.inr (.inr (some 11)), .inr (.inr (some 11))], (Ip68, Lp68, R, Y), 0, 0) (fun _ => rfl) ?_
        refine cl_G_gr rfl (cl_T_K (cl_11 hPp68.1)) rfl rfl rfl e3 ?_
        refine cl_G_gr rfl (cl_T_K t4) rfl rfl rfl e6 ?_
        refine yi_G_run 1 (77, [(4, .inl z10), (2, .inr (.inl (L1 11 10))), (0, .inr (.inr (some 11))), (1, .inl w)], [.inr (.inr (some 11)), .inr (.inr (some q5)), .inr (.inr (some 11))], (Ip68, Lp68, R, Y), 0, 0) (fun _ => rfl) ?_
        refine cl_G_gr rfl (cl_T_K (cl_11 hPp68.1)) rfl rfl rfl e3 ?_
        have b52 := cl_rd hPp68.1 t4 (k := 15) (lo := 0) (hi := 4) rfl
        refine cl_G_gi rfl (cl_T_K t4) rfl rfl rfl ?_
        refine yi_G_callv rfl rfl (cl_rcv (cl_11 hPp68.1) rfl) rfl (k_takeNameR d (by omega) hPp68.1 t7 ) ?_
        rintro _ ⟨z53, I53, L53, rfl, hQ53, x53a, x53b, x53c⟩
        have hP53 := cl_P_t hPp68 hQ53
        show yi_G zi_Ms d zi_m260 (86, [(4, .inl z10), (2, .inr (.inl (L1 11 10))), (0, .inr (.inr (some 11))), (1, .inl w)], [.inl z53], (I53, L53, R, Y), 0, 0) _
        refine yi_G_run 3 (90, [(5, .inl z53), (4, .inl z10), (2, .inr (.inl (L1 11 10))), (0, .inr (.inr (some 11))), (1, .inl w)], [.inr (.inr (some 11)), .inr (.inr (some 11))], (I53, L53, R, Y), 0, 0) (fun _ => rfl) ?_
        refine cl_G_gr rfl (cl_T_K (cl_11 hP53.1)) rfl rfl rfl e3 ?_
        obtain ⟨q54, e55, t56, n57⟩ := cl_rn hP53.1 t4 (k := 1) (m := 3) rfl
        refine cl_G_gr rfl (cl_T_K t4) rfl rfl rfl e55 ?_
        refine yi_G_run 1 (97, [(5, .inl z53), (4, .inl z10), (2, .inr (.inl (L1 11 10))), (0, .inr (.inr (some 11))), (1, .inl w)], [.inr (.inr (some 11)), .inr (.inr (some q54)), .inr (.inr (some 11))], (I53, L53, R, Y), 0, 0) (fun _ => rfl) ?_
        refine cl_G_gr rfl (cl_T_K (cl_11 hP53.1)) rfl rfl rfl e3 ?_
        have b58 := cl_rd hP53.1 t4 (k := 16) (lo := 0) (hi := 4) rfl
        refine cl_G_gi rfl (cl_T_K t4) rfl rfl rfl ?_
        refine yi_G_callv rfl rfl (cl_rcv (cl_11 hP53.1) rfl) rfl (k_takeNameR d (by omega) hP53.1 t56 ) ?_
        rintro _ ⟨z59, I59, L59, rfl, hQ59, x59a, x59b, x59c⟩
        have hP59 := cl_P_t hP53 hQ59
        show yi_G zi_Ms d zi_m260 (106, [(5, .inl z53), (4, .inl z10), (2, .inr (.inl (L1 11 10))), (0, .inr (.inr (some 11))), (1, .inl w)], [.inl z59], (I59, L59, R, Y), 0, 0) _
        refine yi_G_run 3 (110, [(6, .inl z59), (5, .inl z53), (4, .inl z10), (2, .inr (.inl (L1 11 10))), (0, .inr (.inr (some 11))), (1, .inl w)], [.inl 1, .inr (.inr (some 11))], (I59, L59, R, Y), 0, 0) (fun _ => rfl) ?_
        refine cl_G_pi rfl (cl_T_K (cl_11 hP59.1)) rfl rfl rfl ?_
        have hP60 := cl_P_uI (k := 5) (v := 1) hP59 (cl_11 hP59.1) (by decide) (cl_hv0 rfl)
        generalize w61 : yi_u I59 11 5 1 = I62 at hP60 ⊢
        refine yi_G_run 6 (122, [(6, .inl z59), (5, .inl z53), (4, .inl z10), (2, .inr (.inl (L1 11 10))), (0, .inr (.inr (some 11))), (1, .inl w)], [.inl 0, .inl z53, .inl z59, .inl z10, .inl w, .inr (.inr (some 11))], (I62, L59, R, Y), 0, 0) (fun _ => rfl) ?_
        have r64 : I62 11 3 = I59 11 3 := by rw [← w61, yi_u_ne _ _ (fun z => absurd z.2 (by decide))]
        have r65 : I62 11 8 = I59 11 8 := by rw [← w61, yi_u_ne _ _ (fun z => absurd z.2 (by decide))]
        have r66 : I62 11 11 = I59 11 11 := by rw [← w61, yi_u_ne _ _ (fun z => absurd z.2 (by decide))]
        refine yi_G_calls rfl rfl (k_clauseCode d (by omega) hP60.1  ) ?_
        rintro _ ⟨z63, rfl⟩
        show yi_G zi_Ms d zi_m260 (125, [(6, .inl z59), (5, .inl z53), (4, .inl z10), (2, .inr (.inl (L1 11 10))), (0, .inr (.inr (some 11))), (1, .inl w)], [.inl z63, .inr (.inr (some 11))], (I62, L59, R, Y), 0, 0) _
        have r68 : I62 11 3 = I59 11 3 := by rw [← w61, yi_u_ne _ _ (fun z => absurd z.2 (by decide))]
        have r69 : I62 11 8 = I59 11 8 := by rw [← w61, yi_u_ne _ _ (fun z => absurd z.2 (by decide))]
        have r70 : I62 11 11 = I59 11 11 := by rw [← w61, yi_u_ne _ _ (fun z => absurd z.2 (by decide))]
        refine yi_G_callv rfl rfl (cl_rcv (cl_11 hP60.1) rfl) rfl (k_emitR d (by omega) hP60.1  ) ?_
        rintro _ ⟨I67, rfl, hQ67, x67a, x67b, x67c⟩
        have hP67 := cl_P_t hP60 hQ67
        show yi_G zi_Ms d zi_m260 (128, [(6, .inl z59), (5, .inl z53), (4, .inl z10), (2, .inr (.inl (L1 11 10))), (0, .inr (.inr (some 11))), (1, .inl w)], [], (I67, L59, R, Y), 0, 0) _
        exact yi_G_retv rfl rfl (⟨_, _, rfl, hP67, by omega, by omega, by omega⟩)
      exact pt68 I10 L10 hP10 (by omega) (by omega) (by omega)
  refine yi_G_run 1 (1, [(0, .inr (.inr (some 11)))], [.inr (.inr (some 11))], (I, L, R, Y), 0, 0) (fun _ => rfl) ?_
  refine cl_G_gi rfl (cl_T_K (cl_11 hP.1)) rfl rfl rfl ?_
  refine yi_G_run 1 (6, [(0, .inr (.inr (some 11)))], [.inl 16, .inl (I 11 9)], (I, L, R, Y), 0, 0) (fun _ => rfl) ?_
  by_cases h71 : (I 11 9) = 16
  · refine yi_G_if2 false rfl (yi_ne_f h71) ?_
    refine yi_G_run 3 (17, [(1, .inl 6), (0, .inr (.inr (some 11)))], [], (I, L, R, Y), 0, 0) (fun _ => rfl) ?_
    refine yi_G_al (al := [(0, .inr (.inr (some 11))), (1, .inl 6)]) (show ([0, 1] : List Nat).Nodup by decide) (show ([1, 0] : List Nat).Nodup by decide) (yi_mc (List.mem_of_getElem? (i := 1) rfl) (yi_mc (List.mem_of_getElem? (i := 0) rfl) yi_mn)) ?_
    exact pt17 6 
  · refine yi_G_if2 true rfl (yi_ne_t h71) ?_
    refine yi_G_run 2 (17, [(1, .inl 7), (0, .inr (.inr (some 11)))], [], (I, L, R, Y), 0, 0) (fun _ => rfl) ?_
    refine yi_G_al (al := [(0, .inr (.inr (some 11))), (1, .inl 7)]) (show ([0, 1] : List Nat).Nodup by decide) (show ([1, 0] : List Nat).Nodup by decide) (yi_mc (List.mem_of_getElem? (i := 1) rfl) (yi_mc (List.mem_of_getElem? (i := 0) rfl) yi_mn)) ?_
    exact pt17 7 
theorem k_readSingleR (D : Nat) (hD : 5 ≤ D) {E : List Nat} {I L : cl_I} {R : cl_Rr} {Y : cl_Y} (hC : cl_C E I L R Y) : yi_E zi_Ms D 266 [.inr (.inr (some 11))] (I, L, R, Y) (fun r => ∃ I', ∃ L', r = (none, (I', L', R, Y), 0, 0) ∧ cl_P E I L R Y I' L' R Y ∧ (I 11 3 ≤ I' 11 3) ∧ (I' 11 11 = 0 → I 11 11 = 0) ∧ (0 ≤ I 11 8 → 0 ≤ I' 11 8)) := by
  obtain ⟨d, rfl⟩ : ∃ d, D = d + 1 := ⟨D - 1, by omega⟩
  refine yi_E_of (M := zi_m266) rfl rfl ?_
  have hP : cl_P E I L R Y I L R Y := cl_P_r hC
  show yi_G zi_Ms d zi_m266 (0, [(0, .inr (.inr (some 11)))], [], (I, L, R, Y), 0, 0) _
  have pt15 : ∀ (w : Int), yi_G zi_Ms d zi_m266 (15, [(0, .inr (.inr (some 11))), (1, .inl w)], [], (I, L, R, Y), 0, 0) (fun r => ∃ I', ∃ L', r = (none, (I', L', R, Y), 0, 0) ∧ cl_P E I L R Y I' L' R Y ∧ (I 11 3 ≤ I' 11 3) ∧ (I' 11 11 = 0 → I 11 11 = 0) ∧ (0 ≤ I 11 8 → 0 ≤ I' 11 8)) := by
    intro w
    have pt54 : ∀ (w2 : Int) (Ip54 : cl_I) (Lp54 : cl_I), (cl_P E I L R Y Ip54 Lp54 R Y) → (I 11 3 ≤ Ip54 11 3) → (Ip54 11 11 = 0 → I 11 11 = 0) → (0 ≤ I 11 8 → 0 ≤ Ip54 11 8) → yi_G zi_Ms d zi_m266 (54, [(0, .inr (.inr (some 11))), (1, .inl w2)], [], (Ip54, Lp54, R, Y), 0, 0) (fun r => ∃ I', ∃ L', r = (none, (I', L', R, Y), 0, 0) ∧ cl_P E I L R Y I' L' R Y ∧ (I 11 3 ≤ I' 11 3) ∧ (I' 11 11 = 0 → I 11 11 = 0) ∧ (0 ≤ I 11 8 → 0 ≤ I' 11 8)) := by
      intro w2 Ip54 Lp54 hPp54 ub vb wb
      refine yi_G_run 2 (56, [(0, .inr (.inr (some 11))), (1, .inl w2)], [.inr (.inr (some 11)), .inr (.inr (some 11))], (Ip54, Lp54, R, Y), 0, 0) (fun _ => rfl) ?_
      obtain ⟨q1, e2, t3⟩ := cl_rf hPp54.1 (cl_11 hPp54.1) (k := 6) rfl
      refine cl_G_gr rfl (cl_T_K (cl_11 hPp54.1)) rfl rfl rfl e2 ?_
      obtain ⟨q4, e5, t6, n7⟩ := cl_rn hPp54.1 t3 (k := 1) (m := 3) rfl
      refine cl_G_gr rfl (cl_T_K t3) rfl rfl rfl e5 ?_
      refine yi_G_run 1 (63, [(0, .inr (.inr (some 11))), (1, .inl w2)], [.inr (.inr (some 11)), .inr (.inr (some q4)), .inr (.inr (some 11))], (Ip54, Lp54, R, Y), 0, 0) (fun _ => rfl) ?_
      refine cl_G_gr rfl (cl_T_K (cl_11 hPp54.1)) rfl rfl rfl e2 ?_
      have b8 := cl_rd hPp54.1 t3 (k := 16) (lo := 0) (hi := 4) rfl
      refine cl_G_gi rfl (cl_T_K t3) rfl rfl rfl ?_
      refine yi_G_callv rfl rfl (cl_rcv (cl_11 hPp54.1) rfl) rfl (k_takeNameR d (by omega) hPp54.1 t6 ) ?_
      rintro _ ⟨z9, I9, L9, rfl, hQ9, x9a, x9b, x9c⟩
      have hP9 := cl_P_t hPp54 hQ9
      show yi_G zi_Ms d zi_m266 (72, [(0, .inr (.inr (some 11))), (1, .inl w2)], [.inl z9], (I9, L9, R, Y), 0, 0) _
      refine yi_G_run 2 (74, [(2, .inl z9), (0, .inr (.inr (some 11))), (1, .inl w2)], [.inr (.inr (some 11))], (I9, L9, R, Y), 0, 0) (fun _ => rfl) ?_
      refine cl_G_gi rfl (cl_T_K (cl_11 hP9.1)) rfl rfl rfl ?_
      refine yi_G_run 1 (78, [(3, .inl (I9 11 9)), (2, .inl z9), (0, .inr (.inr (some 11))), (1, .inl w2)], [], (I9, L9, R, Y), 0, 0) (fun _ => rfl) ?_
      have pt95 : ∀ (Ip95 : cl_I), (cl_P E I L R Y Ip95 L9 R Y) → (I 11 3 ≤ Ip95 11 3) → (Ip95 11 11 = 0 → I 11 11 = 0) → (0 ≤ I 11 8 → 0 ≤ Ip95 11 8) → yi_G zi_Ms d zi_m266 (95, [(3, .inl (I9 11 9)), (2, .inl z9), (0, .inr (.inr (some 11))), (1, .inl w2)], [], (Ip95, L9, R, Y), 0, 0) (fun r => ∃ I', ∃ L', r = (none, (I', L', R, Y), 0, 0) ∧ cl_P E I L R Y I' L' R Y ∧ (I 11 3 ≤ I' 11 3) ∧ (I' 11 11 = 0 → I 11 11 = 0) ∧ (0 ≤ I 11 8 → 0 ≤ I' 11 8)) := by
        intro Ip95 hPp95 uc vc wc
        refine yi_G_run 1 (96, [(3, .inl (I9 11 9)), (2, .inl z9), (0, .inr (.inr (some 11))), (1, .inl w2)], [.inr (.inr (some 11))], (Ip95, L9, R, Y), 0, 0) (fun _ => rfl) ?_
        refine yi_G_callv rfl rfl (cl_rcv (cl_11 hPp95.1) rfl) rfl (k_advanceR d (by omega) hPp95.1  ) ?_
        rintro _ ⟨I10, L10, rfl, hQ10, x10a, x10b, x10c, x10d, x10e, x10f, x10g⟩
        have hP10 := cl_P_t hPp95 hQ10
        show yi_G zi_Ms d zi_m266 (99, [(3, .inl (I9 11 9)), (2, .inl z9), (0, .inr (.inr (some 11))), (1, .inl w2)], [], (I10, L10, R, Y), 0, 0) _
        refine yi_G_run 2 (102, [(4, .inl 0), (3, .inl (I9 11 9)), (2, .inl z9), (0, .inr (.inr (some 11))), (1, .inl w2)], [], (I10, L10, R, Y), 0, 0) (fun _ => rfl) ?_
        have pt144 : ∀ (nu : Int) (Ip144 : cl_I) (Lp144 : cl_I), (cl_P E I L R Y Ip144 Lp144 R Y) → (I 11 3 ≤ Ip144 11 3) → (Ip144 11 11 = 0 → I 11 11 = 0) → (0 ≤ I 11 8 → 0 ≤ Ip144 11 8) → yi_G zi_Ms d zi_m266 (144, [(4, .inl nu), (3, .inl (I9 11 9)), (2, .inl z9), (0, .inr (.inr (some 11))), (1, .inl w2)], [], (Ip144, Lp144, R, Y), 0, 0) (fun r => ∃ I', ∃ L', r = (none, (I', L', R, Y), 0, 0) ∧ cl_P E I L R Y I' L' R Y ∧ (I 11 3 ≤ I' 11 3) ∧ (I' 11 11 = 0 → I 11 11 = 0) ∧ (0 ≤ I 11 8 → 0 ≤ I' 11 8)) := by
          intro nu Ip144 Lp144 hPp144 ud vd wd
          refine yi_G_run 5 (150, [(4, .inl nu), (3, .inl (I9 11 9)), (2, .inl z9), (0, .inr (.inr (some 11))), (1, .inl w2)], [.inl nu, .inl z9, .inl w2, .inl (I9 11 9), .inr (.inr (some 11))], (Ip144, Lp144, R, Y), 0, 0) (fun _ => rfl) ?_
          refine yi_G_callv rfl rfl (cl_rcv (cl_11 hPp144.1) rfl) rfl (k_emitWhenR d (by omega) hPp144.1  ) ?_
          rintro _ ⟨I11, rfl, hQ11, x11a, x11b, x11c⟩
          have hP11 := cl_P_t hPp144 hQ11
          show yi_G zi_Ms d zi_m266 (153, [(4, .inl nu), (3, .inl (I9 11 9)), (2, .inl z9), (0, .inr (.inr (some 11))), (1, .inl w2)], [], (I11, Lp144, R, Y), 0, 0) _
          exact yi_G_retv rfl rfl (⟨_, _, rfl, hP11, by omega, by omega, by omega⟩)
        refine yi_G_run 2 (105, [(4, .inl 0), (3, .inl (I9 11 9)), (2, .inl z9), (0, .inr (.inr (some 11))), (1, .inl w2)], [.inl 21, .inl (I9 11 9)], (I10, L10, R, Y), 0, 0) (fun _ => rfl) ?_
        by_cases h12 : (I9 11 9) = 21
        · refine yi_G_if2 true rfl (yi_eq_t h12) ?_
          exact pt144 0 I10 L10 hP10 (by omega) (by omega) (by omega)
        · refine yi_G_if2 false rfl (yi_eq_f h12) ?_
          refine yi_G_run 2 (111, [(4, .inl 0), (3, .inl (I9 11 9)), (2, .inl z9), (0, .inr (.inr (some 11))), (1, .inl w2)], [.inl 22, .inl (I9 11 9)], (I10, L10, R, Y), 0, 0) (fun _ => rfl) ?_
          by_cases h13 : (I9 11 9) = 22
          · refine yi_G_if2 true rfl (yi_eq_t h13) ?_
            exact pt144 0 I10 L10 hP10 (by omega) (by omega) (by omega)
          · refine yi_G_if2 false rfl (yi_eq_f h13) ?_
            refine yi_G_run 3 (118, [(4, .inl 0), (3, .inl (I9 11 9)), (2, .inl z9), (0, .inr (.inr (some 11))), (1, .inl w2)], [.inl 23, .inl (I9 11 9), .inr (.inr (some 11))], (I10, L10, R, Y), 0, 0) (fun _ => rfl) ?_
            by_cases h14 : (I9 11 9) = 23
            · refine yi_G_if2 true rfl (yi_eq_t h14) ?_
              refine yi_G_run 3 (133, [(4, .inl 0), (3, .inl (I9 11 9)), (2, .inl z9), (0, .inr (.inr (some 11))), (1, .inl w2)], [.inr (.inr (some 11)), .inl 0, .inr (.inr (some 11))], (I10, L10, R, Y), 0, 0) (fun _ => rfl) ?_
              refine cl_G_gr rfl (cl_T_K (cl_11 hP10.1)) rfl rfl rfl e2 ?_
              have b15 := cl_rd hP10.1 t3 (k := 14) (lo := 1) (hi := 6) rfl
              refine cl_G_gi rfl (cl_T_K t3) rfl rfl rfl ?_
              refine yi_G_callv rfl rfl (cl_rcv (cl_11 hP10.1) rfl) rfl (k_takeNumberR d (by omega) hP10.1  ) ?_
              rintro _ ⟨z16, I16, L16, rfl, hQ16, x16a, x16b, x16c, x16d⟩
              have hP16 := cl_P_t hP10 hQ16
              show yi_G zi_Ms d zi_m266 (142, [(4, .inl 0), (3, .inl (I9 11 9)), (2, .inl z9), (0, .inr (.inr (some 11))), (1, .inl w2)], [.inl z16], (I16, L16, R, Y), 0, 0) _
              refine yi_G_run 1 (144, [(4, .inl z16), (3, .inl (I9 11 9)), (2, .inl z9), (0, .inr (.inr (some 11))), (1, .inl w2)], [], (I16, L16, R, Y), 0, 0) (fun _ => rfl) ?_
              exact pt144 z16 I16 L16 hP16 (by omega) (by omega) (by omega)
            · refine yi_G_if2 false rfl (yi_eq_f h14) ?_
              refine yi_G_run 2 (124, [(4, .inl 0), (3, .inl (I9 11 9)), (2, .inl z9), (0, .inr (.inr (some 11))), (1, .inl w2)], [.inl 24, .inl (I9 11 9), .inr (.inr (some 11))], (I10, L10, R, Y), 0, 0) (fun _ => rfl) ?_
              by_cases h17 : (I9 11 9) = 24
              · refine yi_G_if2 false rfl (yi_ne_f h17) ?_
                refine yi_G_run 3 (133, [(4, .inl 0), (3, .inl (I9 11 9)), (2, .inl z9), (0, .inr (.inr (some 11))), (1, .inl w2)], [.inr (.inr (some 11)), .inl 0, .inr (.inr (some 11))], (I10, L10, R, Y), 0, 0) (fun _ => rfl) ?_
                refine cl_G_gr rfl (cl_T_K (cl_11 hP10.1)) rfl rfl rfl e2 ?_
                have b18 := cl_rd hP10.1 t3 (k := 14) (lo := 1) (hi := 6) rfl
                refine cl_G_gi rfl (cl_T_K t3) rfl rfl rfl ?_
                refine yi_G_callv rfl rfl (cl_rcv (cl_11 hP10.1) rfl) rfl (k_takeNumberR d (by omega) hP10.1  ) ?_
                rintro _ ⟨z19, I19, L19, rfl, hQ19, x19a, x19b, x19c, x19d⟩
                have hP19 := cl_P_t hP10 hQ19
                show yi_G zi_Ms d zi_m266 (142, [(4, .inl 0), (3, .inl (I9 11 9)), (2, .inl z9), (0, .inr (.inr (some 11))), (1, .inl w2)], [.inl z19], (I19, L19, R, Y), 0, 0) _
                refine yi_G_run 1 (144, [(4, .inl z19), (3, .inl (I9 11 9)), (2, .inl z9), (0, .inr (.inr (some 11))), (1, .inl w2)], [], (I19, L19, R, Y), 0, 0) (fun _ => rfl) ?_
                exact pt144 z19 I19 L19 hP19 (by omega) (by omega) (by omega)
              · refine yi_G_if2 true rfl (yi_ne_t h17) ?_
                refine yi_G_run 2 (133, [(4, .inl 0), (3, .inl (I9 11 9)), (2, .inl z9), (0, .inr (.inr (some 11))), (1, .inl w2)], [.inr (.inr (some 11)), .inl 1, .inr (.inr (some 11))], (I10, L10, R, Y), 0, 0) (fun _ => rfl) ?_
                refine cl_G_gr rfl (cl_T_K (cl_11 hP10.1)) rfl rfl rfl e2 ?_
                have b20 := cl_rd hP10.1 t3 (k := 14) (lo := 1) (hi := 6) rfl
                refine cl_G_gi rfl (cl_T_K t3) rfl rfl rfl ?_
                refine yi_G_callv rfl rfl (cl_rcv (cl_11 hP10.1) rfl) rfl (k_takeNumberR d (by omega) hP10.1  ) ?_
                rintro _ ⟨z21, I21, L21, rfl, hQ21, x21a, x21b, x21c, x21d⟩
                have hP21 := cl_P_t hP10 hQ21
                show yi_G zi_Ms d zi_m266 (142, [(4, .inl 0), (3, .inl (I9 11 9)), (2, .inl z9), (0, .inr (.inr (some 11))), (1, .inl w2)], [.inl z21], (I21, L21, R, Y), 0, 0) _
                refine yi_G_run 1 (144, [(4, .inl z21), (3, .inl (I9 11 9)), (2, .inl z9), (0, .inr (.inr (some 11))), (1, .inl w2)], [], (I21, L21, R, Y), 0, 0) (fun _ => rfl) ?_
                exact pt144 z21 I21 L21 hP21 (by omega) (by omega) (by omega)
      refine yi_G_run 2 (81, [(3, .inl (I9 11 9)), (2, .inl z9), (0, .inr (.inr (some 11))), (1, .inl w2)], [.inl 18, .inl (I9 11 9)], (I9, L9, R, Y), 0, 0) (fun _ => rfl) ?_
      by_cases h22 : (I9 11 9) < 18
      · refine yi_G_if2 true rfl (yi_lt_t h22) ?_
        refine yi_G_run 2 (92, [(3, .inl (I9 11 9)), (2, .inl z9), (0, .inr (.inr (some 11))), (1, .inl w2)], [.inl 1, .inr (.inr (some 11))], (I9, L9, R, Y), 0, 0) (fun _ => rfl) ?_
        refine yi_G_callv rfl rfl (cl_rcv (cl_11 hP9.1) rfl) rfl (k_wrongR d (by omega) hP9.1  (by omega)) ?_
        rintro _ ⟨I23, rfl, hQ23, x23a, x23b, x23c, x23d⟩
        have hP23 := cl_P_t hP9 hQ23
        show yi_G zi_Ms d zi_m266 (95, [(3, .inl (I9 11 9)), (2, .inl z9), (0, .inr (.inr (some 11))), (1, .inl w2)], [], (I23, L9, R, Y), 0, 0) _
        exact pt95 I23 hP23 (by omega) (by omega) (by omega)
      · refine yi_G_if2 false rfl (yi_lt_f h22) ?_
        refine yi_G_run 2 (87, [(3, .inl (I9 11 9)), (2, .inl z9), (0, .inr (.inr (some 11))), (1, .inl w2)], [.inl 24, .inl (I9 11 9)], (I9, L9, R, Y), 0, 0) (fun _ => rfl) ?_
        by_cases h24 : (I9 11 9) ≤ 24
        · refine yi_G_if2 true rfl (yi_le_t h24) ?_
          exact pt95 I9 hP9 (by omega) (by omega) (by omega)
        · refine yi_G_if2 false rfl (yi_le_f h24) ?_
          refine yi_G_run 2 (92, [(3, .inl (I9 11 9)), (2, .inl z9), (0, .inr (.inr (some 11))), (1, .inl w2)], [.inl 1, .inr (.inr (some 11))], (I9, L9, R, Y), 0, 0) (fun _ => rfl) ?_
          refine yi_G_callv rfl rfl (cl_rcv (cl_11 hP9.1) rfl) rfl (k_wrongR d (by omega) hP9.1  (by omega)) ?_
          rintro _ ⟨I25, rfl, hQ25, x25a, x25b, x25c, x25d⟩
          have hP25 := cl_P_t hP9 hQ25
          show yi_G zi_Ms d zi_m266 (95, [(3, .inl (I9 11 9)), (2, .inl z9), (0, .inr (.inr (some 11))), (1, .inl w2)], [], (I25, L9, R, Y), 0, 0) _
          exact pt95 I25 hP25 (by omega) (by omega) (by omega)
    refine yi_G_run 1 (16, [(0, .inr (.inr (some 11))), (1, .inl w)], [.inr (.inr (some 11))], (I, L, R, Y), 0, 0) (fun _ => rfl) ?_
    refine cl_G_gi rfl (cl_T_K (cl_11 hP.1)) rfl rfl rfl ?_
    refine yi_G_run 1 (20, [(0, .inr (.inr (some 11))), (1, .inl w)], [.inl 3, .inl (I 11 9)], (I, L, R, Y), 0, 0) (fun _ => rfl) ?_
    by_cases h26 : (I 11 9) = 3
    · refine yi_G_if2 false rfl (yi_ne_f h26) ?_
      refine yi_G_run 2 (25, [(0, .inr (.inr (some 11))), (1, .inl w)], [.inr (.inr (some 11)), .inr (.inr (some 11))], (I, L, R, Y), 0, 0) (fun _ => rfl) ?_
      obtain ⟨q27, e28, t29⟩ := cl_rf hP.1 (cl_11 hP.1) (k := 6) rfl
      refine cl_G_gr rfl (cl_T_K (cl_11 hP.1)) rfl rfl rfl e28 ?_
      obtain ⟨q30, e31, t32, n33⟩ := cl_rn hP.1 t29 (k := 0) (m := 3) rfl
      refine cl_G_gr rfl (cl_T_K t29) rfl rfl rfl e31 ?_
      refine yi_G_run 1 (32, [(0, .inr (.inr (some 11))), (1, .inl w)], [.inr (.inr (some 11)), .inr (.inr (some q30)), .inr (.inr (some 11))], (I, L, R, Y), 0, 0) (fun _ => rfl) ?_
      refine cl_G_gr rfl (cl_T_K (cl_11 hP.1)) rfl rfl rfl e28 ?_
      have b34 := cl_rd hP.1 t29 (k := 15) (lo := 0) (hi := 4) rfl
      refine cl_G_gi rfl (cl_T_K t29) rfl rfl rfl ?_
      refine yi_G_callv rfl rfl (cl_rcv (cl_11 hP.1) rfl) rfl (k_takeNameR d (by omega) hP.1 t32 ) ?_
      rintro _ ⟨z35, I35, L35, rfl, hQ35, x35a, x35b, x35c⟩
      have hP35 := cl_P_t hP hQ35
      show yi_G zi_Ms d zi_m266 (41, [(0, .inr (.inr (some 11))), (1, .inl w)], [.inl z35], (I35, L35, R, Y), 0, 0) _
      refine yi_G_run 3 (44, [(1, .inl z35), (0, .inr (.inr (some 11)))], [.inl 1, .inr (.inr (some 11))], (I35, L35, R, Y), 0, 0) (fun _ => rfl) ?_
      refine cl_G_pi rfl (cl_T_K (cl_11 hP35.1)) rfl rfl rfl ?_
      have hP36 := cl_P_uI (k := 5) (v := 1) hP35 (cl_11 hP35.1) (by decide) (cl_hv0 rfl)
      generalize w37 : yi_u I35 11 5 1 = I38 at hP36 ⊢
      refine yi_G_run 1 (54, [(1, .inl z35), (0, .inr (.inr (some 11)))], [], (I38, L35, R, Y), 0, 0) (fun _ => rfl) ?_
      have r39 : I38 11 3 = I35 11 3 := by rw [← w37, yi_u_ne _ _ (fun z => absurd z.2 (by decide))]
      have r40 : I38 11 8 = I35 11 8 := by rw [← w37, yi_u_ne _ _ (fun z => absurd z.2 (by decide))]
      have r41 : I38 11 11 = I35 11 11 := by rw [← w37, yi_u_ne _ _ (fun z => absurd z.2 (by decide))]
      refine yi_G_al (al := [(0, .inr (.inr (some 11))), (1, .inl z35)]) (show ([0, 1] : List Nat).Nodup by decide) (show ([1, 0] : List Nat).Nodup by decide) (yi_mc (List.mem_of_getElem? (i := 1) rfl) (yi_mc (List.mem_of_getElem? (i := 0) rfl) yi_mn)) ?_
      exact pt54 z35 I38 L35 hP36 (by omega) (by omega) (by omega)
    · refine yi_G_if2 true rfl (yi_ne_t h26) ?_
      refine yi_G_run 1 (51, [(0, .inr (.inr (some 11))), (1, .inl w)], [.inr (.inr (some 11))], (I, L, R, Y), 0, 0) (fun _ => rfl) ?_
      refine yi_G_callv rfl rfl (cl_rcv (cl_11 hP.1) rfl) rfl (k_advanceR d (by omega) hP.1  ) ?_
      rintro _ ⟨I42, L42, rfl, hQ42, x42a, x42b, x42c, x42d, x42e, x42f, x42g⟩
      have hP42 := cl_P_t hP hQ42
      show yi_G zi_Ms d zi_m266 (54, [(0, .inr (.inr (some 11))), (1, .inl w)], [], (I42, L42, R, Y), 0, 0) _
      exact pt54 w I42 L42 hP42 (by omega) (by omega) (by omega)
  refine yi_G_run 1 (1, [(0, .inr (.inr (some 11)))], [.inr (.inr (some 11))], (I, L, R, Y), 0, 0) (fun _ => rfl) ?_
  refine cl_G_gi rfl (cl_T_K (cl_11 hP.1)) rfl rfl rfl ?_
  refine yi_G_run 1 (6, [(0, .inr (.inr (some 11)))], [.inl 14, .inl (I 11 9)], (I, L, R, Y), 0, 0) (fun _ => rfl) ?_
  by_cases h43 : (I 11 9) = 14
  · refine yi_G_if2 false rfl (yi_ne_f h43) ?_
    refine yi_G_run 3 (15, [(1, .inl 4), (0, .inr (.inr (some 11)))], [], (I, L, R, Y), 0, 0) (fun _ => rfl) ?_
    refine yi_G_al (al := [(0, .inr (.inr (some 11))), (1, .inl 4)]) (show ([0, 1] : List Nat).Nodup by decide) (show ([1, 0] : List Nat).Nodup by decide) (yi_mc (List.mem_of_getElem? (i := 1) rfl) (yi_mc (List.mem_of_getElem? (i := 0) rfl) yi_mn)) ?_
    exact pt15 4 
  · refine yi_G_if2 true rfl (yi_ne_t h43) ?_
    refine yi_G_run 2 (15, [(1, .inl 5), (0, .inr (.inr (some 11)))], [], (I, L, R, Y), 0, 0) (fun _ => rfl) ?_
    refine yi_G_al (al := [(0, .inr (.inr (some 11))), (1, .inl 5)]) (show ([0, 1] : List Nat).Nodup by decide) (show ([1, 0] : List Nat).Nodup by decide) (yi_mc (List.mem_of_getElem? (i := 1) rfl) (yi_mc (List.mem_of_getElem? (i := 0) rfl) yi_mn)) ?_
    exact pt15 5 
def cl_RC (mi m : Nat) (vs : List yi_V) : Prop := ∀ D : Nat, m ≤ D → ∀ {E : List Nat} {I L : cl_I} {R : cl_Rr} {Y : cl_Y}, cl_C E I L R Y → 0 ≤ I 11 8 → yi_E zi_Ms D mi (.inr (.inr (some 11)) :: vs) (I, L, R, Y) (fun r => ∃ I', ∃ L', r = (none, (I', L', R, Y), 0, 0) ∧ cl_P E I L R Y I' L' R Y ∧ (I 11 3 ≤ I' 11 3) ∧ (I' 11 11 = 0 → I 11 11 = 0) ∧ (0 ≤ I 11 8 → 0 ≤ I' 11 8))
theorem cl_RC_m {mi m m' : Nat} {vs : List yi_V} (h : cl_RC mi m vs) (hm : m ≤ m') : cl_RC mi m' vs := fun D hD => h D (by omega)
theorem k_readFormula_of {m : Nat} {dep : Int} (m0 : 8 ≤ m) (hIt : cl_RC 257 m [.inl dep]) : cl_RC 256 (m + 1) [.inl dep] := by
  intro D hD E I L R Y hC ha
  obtain ⟨d, rfl⟩ : ∃ d, D = d + 1 := ⟨D - 1, by omega⟩
  refine yi_E_of (M := zi_m256) rfl rfl ?_
  have hP : cl_P E I L R Y I L R Y := cl_P_r hC
  show yi_G zi_Ms d zi_m256 (0, [(0, .inr (.inr (some 11))), (1, .inl dep)], [], (I, L, R, Y), 0, 0) _
  refine yi_G_run 4 (4, [(2, .inl 0), (0, .inr (.inr (some 11))), (1, .inl dep)], [.inl dep, .inr (.inr (some 11))], (I, L, R, Y), 0, 0) (fun _ => rfl) ?_
  refine yi_G_callv rfl rfl (cl_rcv (cl_11 hP.1) rfl) rfl (hIt d (by omega) hP.1  (by omega)) ?_
  rintro _ ⟨I1, L1, rfl, hQ1, x1a, x1b, x1c⟩
  have hP1 := cl_P_t hP hQ1
  show yi_G zi_Ms d zi_m256 (7, [(2, .inl 0), (0, .inr (.inr (some 11))), (1, .inl dep)], [], (I1, L1, R, Y), 0, 0) _
  refine yi_G_run 2 (9, [(3, .inl 0), (2, .inl 0), (0, .inr (.inr (some 11))), (1, .inl dep)], [], (I1, L1, R, Y), 0, 0) (fun _ => rfl) ?_
  have pt9 : ∀ (m_ : Nat) (n : Int) (ei : Int) (Ip9 : cl_I) (Lp9 : cl_I), (cl_P E I L R Y Ip9 Lp9 R Y) → (0 ≤ n ∧ n ≤ 1000) → (I 11 3 ≤ Ip9 11 3) → (Ip9 11 11 = 0 → I 11 11 = 0) → (0 ≤ I 11 8 → 0 ≤ Ip9 11 8) → (1000 - n).toNat = m_ → yi_G zi_Ms d zi_m256 (9, [(3, .inl n), (2, .inl ei), (0, .inr (.inr (some 11))), (1, .inl dep)], [], (Ip9, Lp9, R, Y), 0, 0) (fun r => ∃ I', ∃ L', r = (none, (I', L', R, Y), 0, 0) ∧ cl_P E I L R Y I' L' R Y ∧ (I 11 3 ≤ I' 11 3) ∧ (I' 11 11 = 0 → I 11 11 = 0) ∧ (0 ≤ I 11 8 → 0 ≤ I' 11 8)) := by
    intro m9
    induction m9 using Nat.strongRecOn with
    | _ m9 ih9 =>
    intro n ei Ip9 Lp9 hPp9 n0 ua va wa hm9
    refine yi_G_run 2 (13, [(3, .inl n), (2, .inl ei), (0, .inr (.inr (some 11))), (1, .inl dep)], [.inl 1000, .inl n], (Ip9, Lp9, R, Y), 0, 0) (fun _ => rfl) ?_
    by_cases h2 : 1000 ≤ n
    · refine yi_G_if2 true rfl (yi_ge_t h2) ?_
      refine yi_G_run 1 (112, [(3, .inl n), (2, .inl ei), (0, .inr (.inr (some 11))), (1, .inl dep)], [.inl ei], (Ip9, Lp9, R, Y), 0, 0) (fun _ => rfl) ?_
      by_cases h3 : ei = 0
      · refine yi_G_if1 true rfl (yi_eq_t h3) ?_
        exact yi_G_retv rfl rfl (⟨_, _, rfl, hPp9, by omega, by omega, by omega⟩)
      · refine yi_G_if1 false rfl (yi_eq_f h3) ?_
        refine yi_G_run 2 (117, [(3, .inl n), (2, .inl ei), (0, .inr (.inr (some 11))), (1, .inl dep)], [.inl 3, .inr (.inr (some 11))], (Ip9, Lp9, R, Y), 0, 0) (fun _ => rfl) ?_
        refine yi_G_callv rfl rfl (cl_rcv (cl_11 hPp9.1) rfl) rfl (k_emitR d (by omega) hPp9.1  ) ?_
        rintro _ ⟨I4, rfl, hQ4, x4a, x4b, x4c⟩
        have hP4 := cl_P_t hPp9 hQ4
        show yi_G zi_Ms d zi_m256 (120, [(3, .inl n), (2, .inl ei), (0, .inr (.inr (some 11))), (1, .inl dep)], [], (I4, Lp9, R, Y), 0, 0) _
        exact yi_G_retv rfl rfl (⟨_, _, rfl, hP4, by omega, by omega, by omega⟩)
    · refine yi_G_if2 false rfl (yi_ge_f h2) ?_
      refine yi_G_run 1 (17, [(3, .inl n), (2, .inl ei), (0, .inr (.inr (some 11))), (1, .inl dep)], [.inr (.inr (some 11))], (Ip9, Lp9, R, Y), 0, 0) (fun _ => rfl) ?_
      refine cl_G_gi rfl (cl_T_K (cl_11 hPp9.1)) rfl rfl rfl ?_
      by_cases h5 : (Ip9 11 11) = 0
      · refine yi_G_if1 false rfl (yi_ne_f h5) ?_
        refine yi_G_run 1 (24, [(3, .inl n), (2, .inl ei), (0, .inr (.inr (some 11))), (1, .inl dep)], [.inr (.inr (some 11))], (Ip9, Lp9, R, Y), 0, 0) (fun _ => rfl) ?_
        refine cl_G_gi rfl (cl_T_K (cl_11 hPp9.1)) rfl rfl rfl ?_
        refine yi_G_run 1 (29, [(3, .inl n), (2, .inl ei), (0, .inr (.inr (some 11))), (1, .inl dep)], [.inl 31, .inl (Ip9 11 9)], (Ip9, Lp9, R, Y), 0, 0) (fun _ => rfl) ?_
        by_cases h6 : (Ip9 11 9) = 31
        · refine yi_G_if2 true rfl (yi_eq_t h6) ?_
          refine yi_G_run 1 (42, [(3, .inl n), (2, .inl ei), (0, .inr (.inr (some 11))), (1, .inl dep)], [.inr (.inr (some 11))], (Ip9, Lp9, R, Y), 0, 0) (fun _ => rfl) ?_
          refine cl_G_gi rfl (cl_T_K (cl_11 hPp9.1)) rfl rfl rfl ?_
          refine yi_G_run 1 (47, [(3, .inl n), (2, .inl ei), (0, .inr (.inr (some 11))), (1, .inl dep)], [.inl 31, .inl (Ip9 11 9)], (Ip9, Lp9, R, Y), 0, 0) (fun _ => rfl) ?_
          by_cases h7 : (Ip9 11 9) = 31
          · refine yi_G_if2 false rfl (yi_ne_f h7) ?_
            refine yi_G_run 4 (58, [(4, .inl 1), (3, .inl n), (2, .inl ei), (0, .inr (.inr (some 11))), (1, .inl dep)], [.inr (.inr (some 11))], (Ip9, Lp9, R, Y), 0, 0) (fun _ => rfl) ?_
            refine yi_G_callv rfl rfl (cl_rcv (cl_11 hPp9.1) rfl) rfl (k_advanceR d (by omega) hPp9.1  ) ?_
            rintro _ ⟨I8, L8, rfl, hQ8, x8a, x8b, x8c, x8d, x8e, x8f, x8g⟩
            have hP8 := cl_P_t hPp9 hQ8
            show yi_G zi_Ms d zi_m256 (61, [(4, .inl 1), (3, .inl n), (2, .inl ei), (0, .inr (.inr (some 11))), (1, .inl dep)], [], (I8, L8, R, Y), 0, 0) _
            refine yi_G_run 1 (63, [(4, .inl 1), (3, .inl n), (2, .inl ei), (0, .inr (.inr (some 11))), (1, .inl dep)], [.inl 1], (I8, L8, R, Y), 0, 0) (fun _ => rfl) ?_
            refine yi_G_if1 true rfl (by decide) ?_
            refine yi_G_run 1 (76, [(4, .inl 1), (3, .inl n), (2, .inl ei), (0, .inr (.inr (some 11))), (1, .inl dep)], [.inl ei], (I8, L8, R, Y), 0, 0) (fun _ => rfl) ?_
            by_cases h9 : ei = 0
            · refine yi_G_if1 false rfl (yi_ne_f h9) ?_
              refine yi_G_run 1 (81, [(4, .inl 1), (3, .inl n), (2, .inl ei), (0, .inr (.inr (some 11))), (1, .inl dep)], [.inl 1], (I8, L8, R, Y), 0, 0) (fun _ => rfl) ?_
              refine yi_G_if1 true rfl (by decide) ?_
              refine yi_G_run 4 (92, [(2, .inl 0), (4, .inl 1), (3, .inl n), (0, .inr (.inr (some 11))), (1, .inl dep)], [.inl dep, .inr (.inr (some 11))], (I8, L8, R, Y), 0, 0) (fun _ => rfl) ?_
              refine yi_G_callv rfl rfl (cl_rcv (cl_11 hP8.1) rfl) rfl (hIt d (by omega) hP8.1  (by omega)) ?_
              rintro _ ⟨I10, L10, rfl, hQ10, x10a, x10b, x10c⟩
              have hP10 := cl_P_t hP8 hQ10
              show yi_G zi_Ms d zi_m256 (95, [(2, .inl 0), (4, .inl 1), (3, .inl n), (0, .inr (.inr (some 11))), (1, .inl dep)], [], (I10, L10, R, Y), 0, 0) _
              refine yi_G_run 1 (97, [(2, .inl 0), (4, .inl 1), (3, .inl n), (0, .inr (.inr (some 11))), (1, .inl dep)], [.inl 1], (I10, L10, R, Y), 0, 0) (fun _ => rfl) ?_
              refine yi_G_if1 false rfl (by decide) ?_
              refine yi_G_run 2 (102, [(2, .inl 0), (4, .inl 1), (3, .inl n), (0, .inr (.inr (some 11))), (1, .inl dep)], [.inl 2, .inr (.inr (some 11))], (I10, L10, R, Y), 0, 0) (fun _ => rfl) ?_
              refine yi_G_callv rfl rfl (cl_rcv (cl_11 hP10.1) rfl) rfl (k_emitR d (by omega) hP10.1  ) ?_
              rintro _ ⟨I11, rfl, hQ11, x11a, x11b, x11c⟩
              have hP11 := cl_P_t hP10 hQ11
              show yi_G zi_Ms d zi_m256 (105, [(2, .inl 0), (4, .inl 1), (3, .inl n), (0, .inr (.inr (some 11))), (1, .inl dep)], [], (I11, L10, R, Y), 0, 0) _
              refine yi_G_iinc [(3, .inl (n + 1)), (2, .inl 0), (4, .inl 1), (0, .inr (.inr (some 11))), (1, .inl dep)] rfl rfl rfl (by rw [show yi_w (n + 1) = n + 1 from (yi_wn (by omega) (by omega)).trans (by omega)]; rfl) ?_
              refine yi_G_run 1 (9, [(3, .inl (n + 1)), (2, .inl 0), (4, .inl 1), (0, .inr (.inr (some 11))), (1, .inl dep)], [], (I11, L10, R, Y), 0, 0) (fun _ => rfl) ?_
              refine yi_G_al (al := [(3, .inl (n + 1)), (2, .inl 0), (0, .inr (.inr (some 11))), (1, .inl dep)]) (show ([3, 2, 0, 1] : List Nat).Nodup by decide) (show ([3, 2, 4, 0, 1] : List Nat).Nodup by decide) (yi_mc (List.mem_of_getElem? (i := 0) rfl) (yi_mc (List.mem_of_getElem? (i := 1) rfl) (yi_mc (List.mem_of_getElem? (i := 3) rfl) (yi_mc (List.mem_of_getElem? (i := 4) rfl) yi_mn)))) ?_
              exact ih9 _ (by omega) (n + 1) 0 I11 L10 hP11 (by omega) (by omega) (by omega) (by omega) rfl
            · refine yi_G_if1 true rfl (yi_ne_t h9) ?_
              refine yi_G_run 5 (92, [(2, .inl 1), (4, .inl 1), (3, .inl n), (0, .inr (.inr (some 11))), (1, .inl dep)], [.inl dep, .inr (.inr (some 11))], (I8, L8, R, Y), 0, 0) (fun _ => rfl) ?_
              refine yi_G_callv rfl rfl (cl_rcv (cl_11 hP8.1) rfl) rfl (hIt d (by omega) hP8.1  (by omega)) ?_
              rintro _ ⟨I12, L12, rfl, hQ12, x12a, x12b, x12c⟩
              have hP12 := cl_P_t hP8 hQ12
              show yi_G zi_Ms d zi_m256 (95, [(2, .inl 1), (4, .inl 1), (3, .inl n), (0, .inr (.inr (some 11))), (1, .inl dep)], [], (I12, L12, R, Y), 0, 0) _
              refine yi_G_run 1 (97, [(2, .inl 1), (4, .inl 1), (3, .inl n), (0, .inr (.inr (some 11))), (1, .inl dep)], [.inl 1], (I12, L12, R, Y), 0, 0) (fun _ => rfl) ?_
              refine yi_G_if1 false rfl (by decide) ?_
              refine yi_G_run 2 (102, [(2, .inl 1), (4, .inl 1), (3, .inl n), (0, .inr (.inr (some 11))), (1, .inl dep)], [.inl 2, .inr (.inr (some 11))], (I12, L12, R, Y), 0, 0) (fun _ => rfl) ?_
              refine yi_G_callv rfl rfl (cl_rcv (cl_11 hP12.1) rfl) rfl (k_emitR d (by omega) hP12.1  ) ?_
              rintro _ ⟨I13, rfl, hQ13, x13a, x13b, x13c⟩
              have hP13 := cl_P_t hP12 hQ13
              show yi_G zi_Ms d zi_m256 (105, [(2, .inl 1), (4, .inl 1), (3, .inl n), (0, .inr (.inr (some 11))), (1, .inl dep)], [], (I13, L12, R, Y), 0, 0) _
              refine yi_G_iinc [(3, .inl (n + 1)), (2, .inl 1), (4, .inl 1), (0, .inr (.inr (some 11))), (1, .inl dep)] rfl rfl rfl (by rw [show yi_w (n + 1) = n + 1 from (yi_wn (by omega) (by omega)).trans (by omega)]; rfl) ?_
              refine yi_G_run 1 (9, [(3, .inl (n + 1)), (2, .inl 1), (4, .inl 1), (0, .inr (.inr (some 11))), (1, .inl dep)], [], (I13, L12, R, Y), 0, 0) (fun _ => rfl) ?_
              refine yi_G_al (al := [(3, .inl (n + 1)), (2, .inl 1), (0, .inr (.inr (some 11))), (1, .inl dep)]) (show ([3, 2, 0, 1] : List Nat).Nodup by decide) (show ([3, 2, 4, 0, 1] : List Nat).Nodup by decide) (yi_mc (List.mem_of_getElem? (i := 0) rfl) (yi_mc (List.mem_of_getElem? (i := 1) rfl) (yi_mc (List.mem_of_getElem? (i := 3) rfl) (yi_mc (List.mem_of_getElem? (i := 4) rfl) yi_mn)))) ?_
              exact ih9 _ (by omega) (n + 1) 1 I13 L12 hP13 (by omega) (by omega) (by omega) (by omega) rfl
          · refine yi_G_if2 true rfl (yi_ne_t h7) ?_
            refine yi_G_run 3 (58, [(4, .inl 0), (3, .inl n), (2, .inl ei), (0, .inr (.inr (some 11))), (1, .inl dep)], [.inr (.inr (some 11))], (Ip9, Lp9, R, Y), 0, 0) (fun _ => rfl) ?_
            refine yi_G_callv rfl rfl (cl_rcv (cl_11 hPp9.1) rfl) rfl (k_advanceR d (by omega) hPp9.1  ) ?_
            rintro _ ⟨I14, L14, rfl, hQ14, x14a, x14b, x14c, x14d, x14e, x14f, x14g⟩
            have hP14 := cl_P_t hPp9 hQ14
            show yi_G zi_Ms d zi_m256 (61, [(4, .inl 0), (3, .inl n), (2, .inl ei), (0, .inr (.inr (some 11))), (1, .inl dep)], [], (I14, L14, R, Y), 0, 0) _
            refine yi_G_run 1 (63, [(4, .inl 0), (3, .inl n), (2, .inl ei), (0, .inr (.inr (some 11))), (1, .inl dep)], [.inl 0], (I14, L14, R, Y), 0, 0) (fun _ => rfl) ?_
            refine yi_G_if1 false rfl (by decide) ?_
            refine yi_G_run 1 (67, [(4, .inl 0), (3, .inl n), (2, .inl ei), (0, .inr (.inr (some 11))), (1, .inl dep)], [.inl ei], (I14, L14, R, Y), 0, 0) (fun _ => rfl) ?_
            by_cases h15 : ei = 0
            · refine yi_G_if1 true rfl (yi_eq_t h15) ?_
              refine yi_G_run 1 (76, [(4, .inl 0), (3, .inl n), (2, .inl ei), (0, .inr (.inr (some 11))), (1, .inl dep)], [.inl ei], (I14, L14, R, Y), 0, 0) (fun _ => rfl) ?_
              by_cases h16 : ei = 0
              · refine yi_G_if1 false rfl (yi_ne_f h16) ?_
                refine yi_G_run 1 (81, [(4, .inl 0), (3, .inl n), (2, .inl ei), (0, .inr (.inr (some 11))), (1, .inl dep)], [.inl 0], (I14, L14, R, Y), 0, 0) (fun _ => rfl) ?_
                refine yi_G_if1 false rfl (by decide) ?_
                refine yi_G_run 5 (92, [(2, .inl 1), (4, .inl 0), (3, .inl n), (0, .inr (.inr (some 11))), (1, .inl dep)], [.inl dep, .inr (.inr (some 11))], (I14, L14, R, Y), 0, 0) (fun _ => rfl) ?_
                refine yi_G_callv rfl rfl (cl_rcv (cl_11 hP14.1) rfl) rfl (hIt d (by omega) hP14.1  (by omega)) ?_
                rintro _ ⟨I17, L17, rfl, hQ17, x17a, x17b, x17c⟩
                have hP17 := cl_P_t hP14 hQ17
                show yi_G zi_Ms d zi_m256 (95, [(2, .inl 1), (4, .inl 0), (3, .inl n), (0, .inr (.inr (some 11))), (1, .inl dep)], [], (I17, L17, R, Y), 0, 0) _
                refine yi_G_run 1 (97, [(2, .inl 1), (4, .inl 0), (3, .inl n), (0, .inr (.inr (some 11))), (1, .inl dep)], [.inl 0], (I17, L17, R, Y), 0, 0) (fun _ => rfl) ?_
                refine yi_G_if1 true rfl (by decide) ?_
                refine yi_G_iinc [(3, .inl (n + 1)), (2, .inl 1), (4, .inl 0), (0, .inr (.inr (some 11))), (1, .inl dep)] rfl rfl rfl (by rw [show yi_w (n + 1) = n + 1 from (yi_wn (by omega) (by omega)).trans (by omega)]; rfl) ?_
                refine yi_G_run 1 (9, [(3, .inl (n + 1)), (2, .inl 1), (4, .inl 0), (0, .inr (.inr (some 11))), (1, .inl dep)], [], (I17, L17, R, Y), 0, 0) (fun _ => rfl) ?_
                refine yi_G_al (al := [(3, .inl (n + 1)), (2, .inl 1), (0, .inr (.inr (some 11))), (1, .inl dep)]) (show ([3, 2, 0, 1] : List Nat).Nodup by decide) (show ([3, 2, 4, 0, 1] : List Nat).Nodup by decide) (yi_mc (List.mem_of_getElem? (i := 0) rfl) (yi_mc (List.mem_of_getElem? (i := 1) rfl) (yi_mc (List.mem_of_getElem? (i := 3) rfl) (yi_mc (List.mem_of_getElem? (i := 4) rfl) yi_mn)))) ?_
                exact ih9 _ (by omega) (n + 1) 1 I17 L17 hP17 (by omega) (by omega) (by omega) (by omega) rfl
              · refine yi_G_if1 true rfl (yi_ne_t h16) ?_
                refine yi_G_run 5 (92, [(2, .inl 1), (4, .inl 0), (3, .inl n), (0, .inr (.inr (some 11))), (1, .inl dep)], [.inl dep, .inr (.inr (some 11))], (I14, L14, R, Y), 0, 0) (fun _ => rfl) ?_
                refine yi_G_callv rfl rfl (cl_rcv (cl_11 hP14.1) rfl) rfl (hIt d (by omega) hP14.1  (by omega)) ?_
                rintro _ ⟨I18, L18, rfl, hQ18, x18a, x18b, x18c⟩
                have hP18 := cl_P_t hP14 hQ18
                show yi_G zi_Ms d zi_m256 (95, [(2, .inl 1), (4, .inl 0), (3, .inl n), (0, .inr (.inr (some 11))), (1, .inl dep)], [], (I18, L18, R, Y), 0, 0) _
                refine yi_G_run 1 (97, [(2, .inl 1), (4, .inl 0), (3, .inl n), (0, .inr (.inr (some 11))), (1, .inl dep)], [.inl 0], (I18, L18, R, Y), 0, 0) (fun _ => rfl) ?_
                refine yi_G_if1 true rfl (by decide) ?_
                refine yi_G_iinc [(3, .inl (n + 1)), (2, .inl 1), (4, .inl 0), (0, .inr (.inr (some 11))), (1, .inl dep)] rfl rfl rfl (by rw [show yi_w (n + 1) = n + 1 from (yi_wn (by omega) (by omega)).trans (by omega)]; rfl) ?_
                refine yi_G_run 1 (9, [(3, .inl (n + 1)), (2, .inl 1), (4, .inl 0), (0, .inr (.inr (some 11))), (1, .inl dep)], [], (I18, L18, R, Y), 0, 0) (fun _ => rfl) ?_
                refine yi_G_al (al := [(3, .inl (n + 1)), (2, .inl 1), (0, .inr (.inr (some 11))), (1, .inl dep)]) (show ([3, 2, 0, 1] : List Nat).Nodup by decide) (show ([3, 2, 4, 0, 1] : List Nat).Nodup by decide) (yi_mc (List.mem_of_getElem? (i := 0) rfl) (yi_mc (List.mem_of_getElem? (i := 1) rfl) (yi_mc (List.mem_of_getElem? (i := 3) rfl) (yi_mc (List.mem_of_getElem? (i := 4) rfl) yi_mn)))) ?_
                exact ih9 _ (by omega) (n + 1) 1 I18 L18 hP18 (by omega) (by omega) (by omega) (by omega) rfl
            · refine yi_G_if1 false rfl (yi_eq_f h15) ?_
              refine yi_G_run 2 (72, [(4, .inl 0), (3, .inl n), (2, .inl ei), (0, .inr (.inr (some 11))), (1, .inl dep)], [.inl 3, .inr (.inr (some 11))], (I14, L14, R, Y), 0, 0) (fun _ => rfl) ?_
              refine yi_G_callv rfl rfl (cl_rcv (cl_11 hP14.1) rfl) rfl (k_emitR d (by omega) hP14.1  ) ?_
              rintro _ ⟨I19, rfl, hQ19, x19a, x19b, x19c⟩
              have hP19 := cl_P_t hP14 hQ19
              show yi_G zi_Ms d zi_m256 (75, [(4, .inl 0), (3, .inl n), (2, .inl ei), (0, .inr (.inr (some 11))), (1, .inl dep)], [], (I19, L14, R, Y), 0, 0) _
              refine yi_G_run 1 (76, [(4, .inl 0), (3, .inl n), (2, .inl ei), (0, .inr (.inr (some 11))), (1, .inl dep)], [.inl ei], (I19, L14, R, Y), 0, 0) (fun _ => rfl) ?_
              by_cases h20 : ei = 0
              · refine yi_G_if1 false rfl (yi_ne_f h20) ?_
                refine yi_G_run 1 (81, [(4, .inl 0), (3, .inl n), (2, .inl ei), (0, .inr (.inr (some 11))), (1, .inl dep)], [.inl 0], (I19, L14, R, Y), 0, 0) (fun _ => rfl) ?_
                refine yi_G_if1 false rfl (by decide) ?_
                refine yi_G_run 5 (92, [(2, .inl 1), (4, .inl 0), (3, .inl n), (0, .inr (.inr (some 11))), (1, .inl dep)], [.inl dep, .inr (.inr (some 11))], (I19, L14, R, Y), 0, 0) (fun _ => rfl) ?_
                refine yi_G_callv rfl rfl (cl_rcv (cl_11 hP19.1) rfl) rfl (hIt d (by omega) hP19.1  (by omega)) ?_
                rintro _ ⟨I21, L21, rfl, hQ21, x21a, x21b, x21c⟩
                have hP21 := cl_P_t hP19 hQ21
                show yi_G zi_Ms d zi_m256 (95, [(2, .inl 1), (4, .inl 0), (3, .inl n), (0, .inr (.inr (some 11))), (1, .inl dep)], [], (I21, L21, R, Y), 0, 0) _
                refine yi_G_run 1 (97, [(2, .inl 1), (4, .inl 0), (3, .inl n), (0, .inr (.inr (some 11))), (1, .inl dep)], [.inl 0], (I21, L21, R, Y), 0, 0) (fun _ => rfl) ?_
                refine yi_G_if1 true rfl (by decide) ?_
                refine yi_G_iinc [(3, .inl (n + 1)), (2, .inl 1), (4, .inl 0), (0, .inr (.inr (some 11))), (1, .inl dep)] rfl rfl rfl (by rw [show yi_w (n + 1) = n + 1 from (yi_wn (by omega) (by omega)).trans (by omega)]; rfl) ?_
                refine yi_G_run 1 (9, [(3, .inl (n + 1)), (2, .inl 1), (4, .inl 0), (0, .inr (.inr (some 11))), (1, .inl dep)], [], (I21, L21, R, Y), 0, 0) (fun _ => rfl) ?_
                refine yi_G_al (al := [(3, .inl (n + 1)), (2, .inl 1), (0, .inr (.inr (some 11))), (1, .inl dep)]) (show ([3, 2, 0, 1] : List Nat).Nodup by decide) (show ([3, 2, 4, 0, 1] : List Nat).Nodup by decide) (yi_mc (List.mem_of_getElem? (i := 0) rfl) (yi_mc (List.mem_of_getElem? (i := 1) rfl) (yi_mc (List.mem_of_getElem? (i := 3) rfl) (yi_mc (List.mem_of_getElem? (i := 4) rfl) yi_mn)))) ?_
                exact ih9 _ (by omega) (n + 1) 1 I21 L21 hP21 (by omega) (by omega) (by omega) (by omega) rfl
              · refine yi_G_if1 true rfl (yi_ne_t h20) ?_
                refine yi_G_run 5 (92, [(2, .inl 1), (4, .inl 0), (3, .inl n), (0, .inr (.inr (some 11))), (1, .inl dep)], [.inl dep, .inr (.inr (some 11))], (I19, L14, R, Y), 0, 0) (fun _ => rfl) ?_
                refine yi_G_callv rfl rfl (cl_rcv (cl_11 hP19.1) rfl) rfl (hIt d (by omega) hP19.1  (by omega)) ?_
                rintro _ ⟨I22, L22, rfl, hQ22, x22a, x22b, x22c⟩
                have hP22 := cl_P_t hP19 hQ22
                show yi_G zi_Ms d zi_m256 (95, [(2, .inl 1), (4, .inl 0), (3, .inl n), (0, .inr (.inr (some 11))), (1, .inl dep)], [], (I22, L22, R, Y), 0, 0) _
                refine yi_G_run 1 (97, [(2, .inl 1), (4, .inl 0), (3, .inl n), (0, .inr (.inr (some 11))), (1, .inl dep)], [.inl 0], (I22, L22, R, Y), 0, 0) (fun _ => rfl) ?_
                refine yi_G_if1 true rfl (by decide) ?_
                refine yi_G_iinc [(3, .inl (n + 1)), (2, .inl 1), (4, .inl 0), (0, .inr (.inr (some 11))), (1, .inl dep)] rfl rfl rfl (by rw [show yi_w (n + 1) = n + 1 from (yi_wn (by omega) (by omega)).trans (by omega)]; rfl) ?_
                refine yi_G_run 1 (9, [(3, .inl (n + 1)), (2, .inl 1), (4, .inl 0), (0, .inr (.inr (some 11))), (1, .inl dep)], [], (I22, L22, R, Y), 0, 0) (fun _ => rfl) ?_
                refine yi_G_al (al := [(3, .inl (n + 1)), (2, .inl 1), (0, .inr (.inr (some 11))), (1, .inl dep)]) (show ([3, 2, 0, 1] : List Nat).Nodup by decide) (show ([3, 2, 4, 0, 1] : List Nat).Nodup by decide) (yi_mc (List.mem_of_getElem? (i := 0) rfl) (yi_mc (List.mem_of_getElem? (i := 1) rfl) (yi_mc (List.mem_of_getElem? (i := 3) rfl) (yi_mc (List.mem_of_getElem? (i := 4) rfl) yi_mn)))) ?_
                exact ih9 _ (by omega) (n + 1) 1 I22 L22 hP22 (by omega) (by omega) (by omega) (by omega) rfl
        · refine yi_G_if2 false rfl (yi_eq_f h6) ?_
          refine yi_G_run 1 (33, [(3, .inl n), (2, .inl ei), (0, .inr (.inr (some 11))), (1, .inl dep)], [.inr (.inr (some 11))], (Ip9, Lp9, R, Y), 0, 0) (fun _ => rfl) ?_
          refine cl_G_gi rfl (cl_T_K (cl_11 hPp9.1)) rfl rfl rfl ?_
          refine yi_G_run 1 (38, [(3, .inl n), (2, .inl ei), (0, .inr (.inr (some 11))), (1, .inl dep)], [.inl 32, .inl (Ip9 11 9)], (Ip9, Lp9, R, Y), 0, 0) (fun _ => rfl) ?_
          by_cases h23 : (Ip9 11 9) = 32
          · refine yi_G_if2 false rfl (yi_ne_f h23) ?_
            refine yi_G_run 1 (42, [(3, .inl n), (2, .inl ei), (0, .inr (.inr (some 11))), (1, .inl dep)], [.inr (.inr (some 11))], (Ip9, Lp9, R, Y), 0, 0) (fun _ => rfl) ?_
            refine cl_G_gi rfl (cl_T_K (cl_11 hPp9.1)) rfl rfl rfl ?_
            refine yi_G_run 1 (47, [(3, .inl n), (2, .inl ei), (0, .inr (.inr (some 11))), (1, .inl dep)], [.inl 31, .inl (Ip9 11 9)], (Ip9, Lp9, R, Y), 0, 0) (fun _ => rfl) ?_
            by_cases h24 : (Ip9 11 9) = 31
            · refine yi_G_if2 false rfl (yi_ne_f h24) ?_
              refine yi_G_run 4 (58, [(4, .inl 1), (3, .inl n), (2, .inl ei), (0, .inr (.inr (some 11))), (1, .inl dep)], [.inr (.inr (some 11))], (Ip9, Lp9, R, Y), 0, 0) (fun _ => rfl) ?_
              refine yi_G_callv rfl rfl (cl_rcv (cl_11 hPp9.1) rfl) rfl (k_advanceR d (by omega) hPp9.1  ) ?_
              rintro _ ⟨I25, L25, rfl, hQ25, x25a, x25b, x25c, x25d, x25e, x25f, x25g⟩
              have hP25 := cl_P_t hPp9 hQ25
              show yi_G zi_Ms d zi_m256 (61, [(4, .inl 1), (3, .inl n), (2, .inl ei), (0, .inr (.inr (some 11))), (1, .inl dep)], [], (I25, L25, R, Y), 0, 0) _
              refine yi_G_run 1 (63, [(4, .inl 1), (3, .inl n), (2, .inl ei), (0, .inr (.inr (some 11))), (1, .inl dep)], [.inl 1], (I25, L25, R, Y), 0, 0) (fun _ => rfl) ?_
              refine yi_G_if1 true rfl (by decide) ?_
              refine yi_G_run 1 (76, [(4, .inl 1), (3, .inl n), (2, .inl ei), (0, .inr (.inr (some 11))), (1, .inl dep)], [.inl ei], (I25, L25, R, Y), 0, 0) (fun _ => rfl) ?_
              by_cases h26 : ei = 0
              · refine yi_G_if1 false rfl (yi_ne_f h26) ?_
                refine yi_G_run 1 (81, [(4, .inl 1), (3, .inl n), (2, .inl ei), (0, .inr (.inr (some 11))), (1, .inl dep)], [.inl 1], (I25, L25, R, Y), 0, 0) (fun _ => rfl) ?_
                refine yi_G_if1 true rfl (by decide) ?_
                refine yi_G_run 4 (92, [(2, .inl 0), (4, .inl 1), (3, .inl n), (0, .inr (.inr (some 11))), (1, .inl dep)], [.inl dep, .inr (.inr (some 11))], (I25, L25, R, Y), 0, 0) (fun _ => rfl) ?_
                refine yi_G_callv rfl rfl (cl_rcv (cl_11 hP25.1) rfl) rfl (hIt d (by omega) hP25.1  (by omega)) ?_
                rintro _ ⟨I27, L27, rfl, hQ27, x27a, x27b, x27c⟩
                have hP27 := cl_P_t hP25 hQ27
                show yi_G zi_Ms d zi_m256 (95, [(2, .inl 0), (4, .inl 1), (3, .inl n), (0, .inr (.inr (some 11))), (1, .inl dep)], [], (I27, L27, R, Y), 0, 0) _
                refine yi_G_run 1 (97, [(2, .inl 0), (4, .inl 1), (3, .inl n), (0, .inr (.inr (some 11))), (1, .inl dep)], [.inl 1], (I27, L27, R, Y), 0, 0) (fun _ => rfl) ?_
                refine yi_G_if1 false rfl (by decide) ?_
                refine yi_G_run 2 (102, [(2, .inl 0), (4, .inl 1), (3, .inl n), (0, .inr (.inr (some 11))), (1, .inl dep)], [.inl 2, .inr (.inr (some 11))], (I27, L27, R, Y), 0, 0) (fun _ => rfl) ?_
                refine yi_G_callv rfl rfl (cl_rcv (cl_11 hP27.1) rfl) rfl (k_emitR d (by omega) hP27.1  ) ?_
                rintro _ ⟨I28, rfl, hQ28, x28a, x28b, x28c⟩
                have hP28 := cl_P_t hP27 hQ28
                show yi_G zi_Ms d zi_m256 (105, [(2, .inl 0), (4, .inl 1), (3, .inl n), (0, .inr (.inr (some 11))), (1, .inl dep)], [], (I28, L27, R, Y), 0, 0) _
                refine yi_G_iinc [(3, .inl (n + 1)), (2, .inl 0), (4, .inl 1), (0, .inr (.inr (some 11))), (1, .inl dep)] rfl rfl rfl (by rw [show yi_w (n + 1) = n + 1 from (yi_wn (by omega) (by omega)).trans (by omega)]; rfl) ?_
                refine yi_G_run 1 (9, [(3, .inl (n + 1)), (2, .inl 0), (4, .inl 1), (0, .inr (.inr (some 11))), (1, .inl dep)], [], (I28, L27, R, Y), 0, 0) (fun _ => rfl) ?_
                refine yi_G_al (al := [(3, .inl (n + 1)), (2, .inl 0), (0, .inr (.inr (some 11))), (1, .inl dep)]) (show ([3, 2, 0, 1] : List Nat).Nodup by decide) (show ([3, 2, 4, 0, 1] : List Nat).Nodup by decide) (yi_mc (List.mem_of_getElem? (i := 0) rfl) (yi_mc (List.mem_of_getElem? (i := 1) rfl) (yi_mc (List.mem_of_getElem? (i := 3) rfl) (yi_mc (List.mem_of_getElem? (i := 4) rfl) yi_mn)))) ?_
                exact ih9 _ (by omega) (n + 1) 0 I28 L27 hP28 (by omega) (by omega) (by omega) (by omega) rfl
              · refine yi_G_if1 true rfl (yi_ne_t h26) ?_
                refine yi_G_run 5 (92, [(2, .inl 1), (4, .inl 1), (3, .inl n), (0, .inr (.inr (some 11))), (1, .inl dep)], [.inl dep, .inr (.inr (some 11))], (I25, L25, R, Y), 0, 0) (fun _ => rfl) ?_
                refine yi_G_callv rfl rfl (cl_rcv (cl_11 hP25.1) rfl) rfl (hIt d (by omega) hP25.1  (by omega)) ?_
                rintro _ ⟨I29, L29, rfl, hQ29, x29a, x29b, x29c⟩
                have hP29 := cl_P_t hP25 hQ29
                show yi_G zi_Ms d zi_m256 (95, [(2, .inl 1), (4, .inl 1), (3, .inl n), (0, .inr (.inr (some 11))), (1, .inl dep)], [], (I29, L29, R, Y), 0, 0) _
                refine yi_G_run 1 (97, [(2, .inl 1), (4, .inl 1), (3, .inl n), (0, .inr (.inr (some 11))), (1, .inl dep)], [.inl 1], (I29, L29, R, Y), 0, 0) (fun _ => rfl) ?_
                refine yi_G_if1 false rfl (by decide) ?_
                refine yi_G_run 2 (102, [(2, .inl 1), (4, .inl 1), (3, .inl n), (0, .inr (.inr (some 11))), (1, .inl dep)], [.inl 2, .inr (.inr (some 11))], (I29, L29, R, Y), 0, 0) (fun _ => rfl) ?_
                refine yi_G_callv rfl rfl (cl_rcv (cl_11 hP29.1) rfl) rfl (k_emitR d (by omega) hP29.1  ) ?_
                rintro _ ⟨I30, rfl, hQ30, x30a, x30b, x30c⟩
                have hP30 := cl_P_t hP29 hQ30
                show yi_G zi_Ms d zi_m256 (105, [(2, .inl 1), (4, .inl 1), (3, .inl n), (0, .inr (.inr (some 11))), (1, .inl dep)], [], (I30, L29, R, Y), 0, 0) _
                refine yi_G_iinc [(3, .inl (n + 1)), (2, .inl 1), (4, .inl 1), (0, .inr (.inr (some 11))), (1, .inl dep)] rfl rfl rfl (by rw [show yi_w (n + 1) = n + 1 from (yi_wn (by omega) (by omega)).trans (by omega)]; rfl) ?_
                refine yi_G_run 1 (9, [(3, .inl (n + 1)), (2, .inl 1), (4, .inl 1), (0, .inr (.inr (some 11))), (1, .inl dep)], [], (I30, L29, R, Y), 0, 0) (fun _ => rfl) ?_
                refine yi_G_al (al := [(3, .inl (n + 1)), (2, .inl 1), (0, .inr (.inr (some 11))), (1, .inl dep)]) (show ([3, 2, 0, 1] : List Nat).Nodup by decide) (show ([3, 2, 4, 0, 1] : List Nat).Nodup by decide) (yi_mc (List.mem_of_getElem? (i := 0) rfl) (yi_mc (List.mem_of_getElem? (i := 1) rfl) (yi_mc (List.mem_of_getElem? (i := 3) rfl) (yi_mc (List.mem_of_getElem? (i := 4) rfl) yi_mn)))) ?_
                exact ih9 _ (by omega) (n + 1) 1 I30 L29 hP30 (by omega) (by omega) (by omega) (by omega) rfl
            · refine yi_G_if2 true rfl (yi_ne_t h24) ?_
              refine yi_G_run 3 (58, [(4, .inl 0), (3, .inl n), (2, .inl ei), (0, .inr (.inr (some 11))), (1, .inl dep)], [.inr (.inr (some 11))], (Ip9, Lp9, R, Y), 0, 0) (fun _ => rfl) ?_
              refine yi_G_callv rfl rfl (cl_rcv (cl_11 hPp9.1) rfl) rfl (k_advanceR d (by omega) hPp9.1  ) ?_
              rintro _ ⟨I31, L31, rfl, hQ31, x31a, x31b, x31c, x31d, x31e, x31f, x31g⟩
              have hP31 := cl_P_t hPp9 hQ31
              show yi_G zi_Ms d zi_m256 (61, [(4, .inl 0), (3, .inl n), (2, .inl ei), (0, .inr (.inr (some 11))), (1, .inl dep)], [], (I31, L31, R, Y), 0, 0) _
              refine yi_G_run 1 (63, [(4, .inl 0), (3, .inl n), (2, .inl ei), (0, .inr (.inr (some 11))), (1, .inl dep)], [.inl 0], (I31, L31, R, Y), 0, 0) (fun _ => rfl) ?_
              refine yi_G_if1 false rfl (by decide) ?_
              refine yi_G_run 1 (67, [(4, .inl 0), (3, .inl n), (2, .inl ei), (0, .inr (.inr (some 11))), (1, .inl dep)], [.inl ei], (I31, L31, R, Y), 0, 0) (fun _ => rfl) ?_
              by_cases h32 : ei = 0
              · refine yi_G_if1 true rfl (yi_eq_t h32) ?_
                refine yi_G_run 1 (76, [(4, .inl 0), (3, .inl n), (2, .inl ei), (0, .inr (.inr (some 11))), (1, .inl dep)], [.inl ei], (I31, L31, R, Y), 0, 0) (fun _ => rfl) ?_
                by_cases h33 : ei = 0
                · refine yi_G_if1 false rfl (yi_ne_f h33) ?_
                  refine yi_G_run 1 (81, [(4, .inl 0), (3, .inl n), (2, .inl ei), (0, .inr (.inr (some 11))), (1, .inl dep)], [.inl 0], (I31, L31, R, Y), 0, 0) (fun _ => rfl) ?_
                  refine yi_G_if1 false rfl (by decide) ?_
                  refine yi_G_run 5 (92, [(2, .inl 1), (4, .inl 0), (3, .inl n), (0, .inr (.inr (some 11))), (1, .inl dep)], [.inl dep, .inr (.inr (some 11))], (I31, L31, R, Y), 0, 0) (fun _ => rfl) ?_
                  refine yi_G_callv rfl rfl (cl_rcv (cl_11 hP31.1) rfl) rfl (hIt d (by omega) hP31.1  (by omega)) ?_
                  rintro _ ⟨I34, L34, rfl, hQ34, x34a, x34b, x34c⟩
                  have hP34 := cl_P_t hP31 hQ34
                  show yi_G zi_Ms d zi_m256 (95, [(2, .inl 1), (4, .inl 0), (3, .inl n), (0, .inr (.inr (some 11))), (1, .inl dep)], [], (I34, L34, R, Y), 0, 0) _
                  refine yi_G_run 1 (97, [(2, .inl 1), (4, .inl 0), (3, .inl n), (0, .inr (.inr (some 11))), (1, .inl dep)], [.inl 0], (I34, L34, R, Y), 0, 0) (fun _ => rfl) ?_
                  refine yi_G_if1 true rfl (by decide) ?_
                  refine yi_G_iinc [(3, .inl (n + 1)), (2, .inl 1), (4, .inl 0), (0, .inr (.inr (some 11))), (1, .inl dep)] rfl rfl rfl (by rw [show yi_w (n + 1) = n + 1 from (yi_wn (by omega) (by omega)).trans (by omega)]; rfl) ?_
                  refine yi_G_run 1 (9, [(3, .inl (n + 1)), (2, .inl 1), (4, .inl 0), (0, .inr (.inr (some 11))), (1, .inl dep)], [], (I34, L34, R, Y), 0, 0) (fun _ => rfl) ?_
                  refine yi_G_al (al := [(3, .inl (n + 1)), (2, .inl 1), (0, .inr (.inr (some 11))), (1, .inl dep)]) (show ([3, 2, 0, 1] : List Nat).Nodup by decide) (show ([3, 2, 4, 0, 1] : List Nat).Nodup by decide) (yi_mc (List.mem_of_getElem? (i := 0) rfl) (yi_mc (List.mem_of_getElem? (i := 1) rfl) (yi_mc (List.mem_of_getElem? (i := 3) rfl) (yi_mc (List.mem_of_getElem? (i := 4) rfl) yi_mn)))) ?_
                  exact ih9 _ (by omega) (n + 1) 1 I34 L34 hP34 (by omega) (by omega) (by omega) (by omega) rfl
                · refine yi_G_if1 true rfl (yi_ne_t h33) ?_
                  refine yi_G_run 5 (92, [(2, .inl 1), (4, .inl 0), (3, .inl n), (0, .inr (.inr (some 11))), (1, .inl dep)], [.inl dep, .inr (.inr (some 11))], (I31, L31, R, Y), 0, 0) (fun _ => rfl) ?_
                  refine yi_G_callv rfl rfl (cl_rcv (cl_11 hP31.1) rfl) rfl (hIt d (by omega) hP31.1  (by omega)) ?_
                  rintro _ ⟨I35, L35, rfl, hQ35, x35a, x35b, x35c⟩
                  have hP35 := cl_P_t hP31 hQ35
                  show yi_G zi_Ms d zi_m256 (95, [(2, .inl 1), (4, .inl 0), (3, .inl n), (0, .inr (.inr (some 11))), (1, .inl dep)], [], (I35, L35, R, Y), 0, 0) _
                  refine yi_G_run 1 (97, [(2, .inl 1), (4, .inl 0), (3, .inl n), (0, .inr (.inr (some 11))), (1, .inl dep)], [.inl 0], (I35, L35, R, Y), 0, 0) (fun _ => rfl) ?_
                  refine yi_G_if1 true rfl (by decide) ?_
                  refine yi_G_iinc [(3, .inl (n + 1)), (2, .inl 1), (4, .inl 0), (0, .inr (.inr (some 11))), (1, .inl dep)] rfl rfl rfl (by rw [show yi_w (n + 1) = n + 1 from (yi_wn (by omega) (by omega)).trans (by omega)]; rfl) ?_
                  refine yi_G_run 1 (9, [(3, .inl (n + 1)), (2, .inl 1), (4, .inl 0), (0, .inr (.inr (some 11))), (1, .inl dep)], [], (I35, L35, R, Y), 0, 0) (fun _ => rfl) ?_
                  refine yi_G_al (al := [(3, .inl (n + 1)), (2, .inl 1), (0, .inr (.inr (some 11))), (1, .inl dep)]) (show ([3, 2, 0, 1] : List Nat).Nodup by decide) (show ([3, 2, 4, 0, 1] : List Nat).Nodup by decide) (yi_mc (List.mem_of_getElem? (i := 0) rfl) (yi_mc (List.mem_of_getElem? (i := 1) rfl) (yi_mc (List.mem_of_getElem? (i := 3) rfl) (yi_mc (List.mem_of_getElem? (i := 4) rfl) yi_mn)))) ?_
                  exact ih9 _ (by omega) (n + 1) 1 I35 L35 hP35 (by omega) (by omega) (by omega) (by omega) rfl
              · refine yi_G_if1 false rfl (yi_eq_f h32) ?_
                refine yi_G_run 2 (72, [(4, .inl 0), (3, .inl n), (2, .inl ei), (0, .inr (.inr (some 11))), (1, .inl dep)], [.inl 3, .inr (.inr (some 11))], (I31, L31, R, Y), 0, 0) (fun _ => rfl) ?_
                refine yi_G_callv rfl rfl (cl_rcv (cl_11 hP31.1) rfl) rfl (k_emitR d (by omega) hP31.1  ) ?_
                rintro _ ⟨I36, rfl, hQ36, x36a, x36b, x36c⟩
                have hP36 := cl_P_t hP31 hQ36
                show yi_G zi_Ms d zi_m256 (75, [(4, .inl 0), (3, .inl n), (2, .inl ei), (0, .inr (.inr (some 11))), (1, .inl dep)], [], (I36, L31, R, Y), 0, 0) _
                refine yi_G_run 1 (76, [(4, .inl 0), (3, .inl n), (2, .inl ei), (0, .inr (.inr (some 11))), (1, .inl dep)], [.inl ei], (I36, L31, R, Y), 0, 0) (fun _ => rfl) ?_
                by_cases h37 : ei = 0
                · refine yi_G_if1 false rfl (yi_ne_f h37) ?_
                  refine yi_G_run 1 (81, [(4, .inl 0), (3, .inl n), (2, .inl ei), (0, .inr (.inr (some 11))), (1, .inl dep)], [.inl 0], (I36, L31, R, Y), 0, 0) (fun _ => rfl) ?_
                  refine yi_G_if1 false rfl (by decide) ?_
                  refine yi_G_run 5 (92, [(2, .inl 1), (4, .inl 0), (3, .inl n), (0, .inr (.inr (some 11))), (1, .inl dep)], [.inl dep, .inr (.inr (some 11))], (I36, L31, R, Y), 0, 0) (fun _ => rfl) ?_
                  refine yi_G_callv rfl rfl (cl_rcv (cl_11 hP36.1) rfl) rfl (hIt d (by omega) hP36.1  (by omega)) ?_
                  rintro _ ⟨I38, L38, rfl, hQ38, x38a, x38b, x38c⟩
                  have hP38 := cl_P_t hP36 hQ38
                  show yi_G zi_Ms d zi_m256 (95, [(2, .inl 1), (4, .inl 0), (3, .inl n), (0, .inr (.inr (some 11))), (1, .inl dep)], [], (I38, L38, R, Y), 0, 0) _
                  refine yi_G_run 1 (97, [(2, .inl 1), (4, .inl 0), (3, .inl n), (0, .inr (.inr (some 11))), (1, .inl dep)], [.inl 0], (I38, L38, R, Y), 0, 0) (fun _ => rfl) ?_
                  refine yi_G_if1 true rfl (by decide) ?_
                  refine yi_G_iinc [(3, .inl (n + 1)), (2, .inl 1), (4, .inl 0), (0, .inr (.inr (some 11))), (1, .inl dep)] rfl rfl rfl (by rw [show yi_w (n + 1) = n + 1 from (yi_wn (by omega) (by omega)).trans (by omega)]; rfl) ?_
                  refine yi_G_run 1 (9, [(3, .inl (n + 1)), (2, .inl 1), (4, .inl 0), (0, .inr (.inr (some 11))), (1, .inl dep)], [], (I38, L38, R, Y), 0, 0) (fun _ => rfl) ?_
                  refine yi_G_al (al := [(3, .inl (n + 1)), (2, .inl 1), (0, .inr (.inr (some 11))), (1, .inl dep)]) (show ([3, 2, 0, 1] : List Nat).Nodup by decide) (show ([3, 2, 4, 0, 1] : List Nat).Nodup by decide) (yi_mc (List.mem_of_getElem? (i := 0) rfl) (yi_mc (List.mem_of_getElem? (i := 1) rfl) (yi_mc (List.mem_of_getElem? (i := 3) rfl) (yi_mc (List.mem_of_getElem? (i := 4) rfl) yi_mn)))) ?_
                  exact ih9 _ (by omega) (n + 1) 1 I38 L38 hP38 (by omega) (by omega) (by omega) (by omega) rfl
                · refine yi_G_if1 true rfl (yi_ne_t h37) ?_
                  refine yi_G_run 5 (92, [(2, .inl 1), (4, .inl 0), (3, .inl n), (0, .inr (.inr (some 11))), (1, .inl dep)], [.inl dep, .inr (.inr (some 11))], (I36, L31, R, Y), 0, 0) (fun _ => rfl) ?_
                  refine yi_G_callv rfl rfl (cl_rcv (cl_11 hP36.1) rfl) rfl (hIt d (by omega) hP36.1  (by omega)) ?_
                  rintro _ ⟨I39, L39, rfl, hQ39, x39a, x39b, x39c⟩
                  have hP39 := cl_P_t hP36 hQ39
                  show yi_G zi_Ms d zi_m256 (95, [(2, .inl 1), (4, .inl 0), (3, .inl n), (0, .inr (.inr (some 11))), (1, .inl dep)], [], (I39, L39, R, Y), 0, 0) _
                  refine yi_G_run 1 (97, [(2, .inl 1), (4, .inl 0), (3, .inl n), (0, .inr (.inr (some 11))), (1, .inl dep)], [.inl 0], (I39, L39, R, Y), 0, 0) (fun _ => rfl) ?_
                  refine yi_G_if1 true rfl (by decide) ?_
                  refine yi_G_iinc [(3, .inl (n + 1)), (2, .inl 1), (4, .inl 0), (0, .inr (.inr (some 11))), (1, .inl dep)] rfl rfl rfl (by rw [show yi_w (n + 1) = n + 1 from (yi_wn (by omega) (by omega)).trans (by omega)]; rfl) ?_
                  refine yi_G_run 1 (9, [(3, .inl (n + 1)), (2, .inl 1), (4, .inl 0), (0, .inr (.inr (some 11))), (1, .inl dep)], [], (I39, L39, R, Y), 0, 0) (fun _ => rfl) ?_
                  refine yi_G_al (al := [(3, .inl (n + 1)), (2, .inl 1), (0, .inr (.inr (some 11))), (1, .inl dep)]) (show ([3, 2, 0, 1] : List Nat).Nodup by decide) (show ([3, 2, 4, 0, 1] : List Nat).Nodup by decide) (yi_mc (List.mem_of_getElem? (i := 0) rfl) (yi_mc (List.mem_of_getElem? (i := 1) rfl) (yi_mc (List.mem_of_getElem? (i := 3) rfl) (yi_mc (List.mem_of_getElem? (i := 4) rfl) yi_mn)))) ?_
                  exact ih9 _ (by omega) (n + 1) 1 I39 L39 hP39 (by omega) (by omega) (by omega) (by omega) rfl
          · refine yi_G_if2 true rfl (yi_ne_t h23) ?_
            refine yi_G_run 1 (112, [(3, .inl n), (2, .inl ei), (0, .inr (.inr (some 11))), (1, .inl dep)], [.inl ei], (Ip9, Lp9, R, Y), 0, 0) (fun _ => rfl) ?_
            by_cases h40 : ei = 0
            · refine yi_G_if1 true rfl (yi_eq_t h40) ?_
              exact yi_G_retv rfl rfl (⟨_, _, rfl, hPp9, by omega, by omega, by omega⟩)
            · refine yi_G_if1 false rfl (yi_eq_f h40) ?_
              refine yi_G_run 2 (117, [(3, .inl n), (2, .inl ei), (0, .inr (.inr (some 11))), (1, .inl dep)], [.inl 3, .inr (.inr (some 11))], (Ip9, Lp9, R, Y), 0, 0) (fun _ => rfl) ?_
              refine yi_G_callv rfl rfl (cl_rcv (cl_11 hPp9.1) rfl) rfl (k_emitR d (by omega) hPp9.1  ) ?_
              rintro _ ⟨I41, rfl, hQ41, x41a, x41b, x41c⟩
              have hP41 := cl_P_t hPp9 hQ41
              show yi_G zi_Ms d zi_m256 (120, [(3, .inl n), (2, .inl ei), (0, .inr (.inr (some 11))), (1, .inl dep)], [], (I41, Lp9, R, Y), 0, 0) _
              exact yi_G_retv rfl rfl (⟨_, _, rfl, hP41, by omega, by omega, by omega⟩)
      · refine yi_G_if1 true rfl (yi_ne_t h5) ?_
        refine yi_G_run 1 (112, [(3, .inl n), (2, .inl ei), (0, .inr (.inr (some 11))), (1, .inl dep)], [.inl ei], (Ip9, Lp9, R, Y), 0, 0) (fun _ => rfl) ?_
        by_cases h42 : ei = 0
        · refine yi_G_if1 true rfl (yi_eq_t h42) ?_
          exact yi_G_retv rfl rfl (⟨_, _, rfl, hPp9, by omega, by omega, by omega⟩)
        · refine yi_G_if1 false rfl (yi_eq_f h42) ?_
          refine yi_G_run 2 (117, [(3, .inl n), (2, .inl ei), (0, .inr (.inr (some 11))), (1, .inl dep)], [.inl 3, .inr (.inr (some 11))], (Ip9, Lp9, R, Y), 0, 0) (fun _ => rfl) ?_
          refine yi_G_callv rfl rfl (cl_rcv (cl_11 hPp9.1) rfl) rfl (k_emitR d (by omega) hPp9.1  ) ?_
          rintro _ ⟨I43, rfl, hQ43, x43a, x43b, x43c⟩
          have hP43 := cl_P_t hPp9 hQ43
          show yi_G zi_Ms d zi_m256 (120, [(3, .inl n), (2, .inl ei), (0, .inr (.inr (some 11))), (1, .inl dep)], [], (I43, Lp9, R, Y), 0, 0) _
          exact yi_G_retv rfl rfl (⟨_, _, rfl, hP43, by omega, by omega, by omega⟩)
  exact pt9 _ 0 0 I1 L1 hP1 (by omega) (by omega) (by omega) (by omega) rfl
theorem k_readItem_of {m : Nat} {dep : Int} (m0 : 8 ≤ m) (hIt : dep ≤ 4 → cl_RC 257 m [.inl (dep + 1)]) (hFo : dep ≤ 4 → cl_RC 256 m [.inl (dep + 1)]) (d0 : 0 ≤ dep ∧ dep ≤ 5) : cl_RC 257 (m + 1) [.inl dep] := by
  intro D hD E I L R Y hC ha
  obtain ⟨d, rfl⟩ : ∃ d, D = d + 1 := ⟨D - 1, by omega⟩
  refine yi_E_of (M := zi_m257) rfl rfl ?_
  have hP : cl_P E I L R Y I L R Y := cl_P_r hC
  show yi_G zi_Ms d zi_m257 (0, [(0, .inr (.inr (some 11))), (1, .inl dep)], [], (I, L, R, Y), 0, 0) _
  refine yi_G_run 1 (1, [(0, .inr (.inr (some 11))), (1, .inl dep)], [.inr (.inr (some 11))], (I, L, R, Y), 0, 0) (fun _ => rfl) ?_
  refine cl_G_gi rfl (cl_T_K (cl_11 hP.1)) rfl rfl rfl ?_
  refine yi_G_run 1 (5, [(2, .inl (I 11 9)), (0, .inr (.inr (some 11))), (1, .inl dep)], [], (I, L, R, Y), 0, 0) (fun _ => rfl) ?_
  have pt23 : ∀ (pa : Int), yi_G zi_Ms d zi_m257 (23, [(2, .inl (I 11 9)), (0, .inr (.inr (some 11))), (1, .inl dep), (3, .inl pa)], [], (I, L, R, Y), 0, 0) (fun r => ∃ I', ∃ L', r = (none, (I', L', R, Y), 0, 0) ∧ cl_P E I L R Y I' L' R Y ∧ (I 11 3 ≤ I' 11 3) ∧ (I' 11 11 = 0 → I 11 11 = 0) ∧ (0 ≤ I 11 8 → 0 ≤ I' 11 8)) := by
    intro pa
    have pt47 : ∀ (si : Int), yi_G zi_Ms d zi_m257 (47, [(2, .inl (I 11 9)), (0, .inr (.inr (some 11))), (1, .inl dep), (3, .inl pa), (4, .inl si)], [], (I, L, R, Y), 0, 0) (fun r => ∃ I', ∃ L', r = (none, (I', L', R, Y), 0, 0) ∧ cl_P E I L R Y I' L' R Y ∧ (I 11 3 ≤ I' 11 3) ∧ (I' 11 11 = 0 → I 11 11 = 0) ∧ (0 ≤ I 11 8 → 0 ≤ I' 11 8)) := by
      intro si
      have pt124 : ∀ (Ip124 : cl_I), (cl_P E I L R Y Ip124 L R Y) → (I 11 3 ≤ Ip124 11 3) → (Ip124 11 11 = 0 → I 11 11 = 0) → (0 ≤ I 11 8 → 0 ≤ Ip124 11 8) → (Ip124 11 11 = 0 → dep ≤ 4) → yi_G zi_Ms d zi_m257 (124, [(2, .inl (I 11 9)), (0, .inr (.inr (some 11))), (1, .inl dep), (3, .inl pa), (4, .inl si)], [], (Ip124, L, R, Y), 0, 0) (fun r => ∃ I', ∃ L', r = (none, (I', L', R, Y), 0, 0) ∧ cl_P E I L R Y I' L' R Y ∧ (I 11 3 ≤ I' 11 3) ∧ (I' 11 11 = 0 → I 11 11 = 0) ∧ (0 ≤ I 11 8 → 0 ≤ I' 11 8)) := by
        intro Ip124 hPp124 ub vb wb kb
        refine yi_G_run 1 (125, [(2, .inl (I 11 9)), (0, .inr (.inr (some 11))), (1, .inl dep), (3, .inl pa), (4, .inl si)], [.inr (.inr (some 11))], (Ip124, L, R, Y), 0, 0) (fun _ => rfl) ?_
        refine cl_G_gi rfl (cl_T_K (cl_11 hPp124.1)) rfl rfl rfl ?_
        by_cases h1 : (Ip124 11 11) = 0
        · refine yi_G_if1 true rfl (yi_eq_t h1) ?_
          refine yi_G_run 2 (135, [(2, .inl (I 11 9)), (0, .inr (.inr (some 11))), (1, .inl dep), (3, .inl pa), (4, .inl si)], [.inl 30, .inl (I 11 9)], (Ip124, L, R, Y), 0, 0) (fun _ => rfl) ?_
          by_cases h2 : (I 11 9) = 30
          · refine yi_G_if2 false rfl (yi_ne_f h2) ?_
            refine yi_G_run 1 (139, [(2, .inl (I 11 9)), (0, .inr (.inr (some 11))), (1, .inl dep), (3, .inl pa), (4, .inl si)], [.inr (.inr (some 11))], (Ip124, L, R, Y), 0, 0) (fun _ => rfl) ?_
            refine yi_G_callv rfl rfl (cl_rcv (cl_11 hPp124.1) rfl) rfl (k_advanceR d (by omega) hPp124.1  ) ?_
            rintro _ ⟨I3, L3, rfl, hQ3, x3a, x3b, x3c, x3d, x3e, x3f, x3g⟩
            have hP3 := cl_P_t hPp124 hQ3
            show yi_G zi_Ms d zi_m257 (142, [(2, .inl (I 11 9)), (0, .inr (.inr (some 11))), (1, .inl dep), (3, .inl pa), (4, .inl si)], [], (I3, L3, R, Y), 0, 0) _
            refine yi_G_run 3 (145, [(2, .inl (I 11 9)), (0, .inr (.inr (some 11))), (1, .inl dep), (3, .inl pa), (4, .inl si)], [.inl 1, .inl dep, .inr (.inr (some 11))], (I3, L3, R, Y), 0, 0) (fun _ => rfl) ?_
            refine yi_G_iadd rfl (dep + 1) (yi_wn (by omega) (by omega)) ?_
            refine yi_G_callv rfl rfl (cl_rcv (cl_11 hP3.1) rfl) rfl (hIt (by omega) d (by omega) hP3.1  (by omega)) ?_
            rintro _ ⟨I4, L4, rfl, hQ4, x4a, x4b, x4c⟩
            have hP4 := cl_P_t hP3 hQ4
            show yi_G zi_Ms d zi_m257 (149, [(2, .inl (I 11 9)), (0, .inr (.inr (some 11))), (1, .inl dep), (3, .inl pa), (4, .inl si)], [], (I4, L4, R, Y), 0, 0) _
            refine yi_G_run 2 (151, [(2, .inl (I 11 9)), (0, .inr (.inr (some 11))), (1, .inl dep), (3, .inl pa), (4, .inl si)], [.inl 1, .inr (.inr (some 11))], (I4, L4, R, Y), 0, 0) (fun _ => rfl) ?_
            refine yi_G_callv rfl rfl (cl_rcv (cl_11 hP4.1) rfl) rfl (k_emitR d (by omega) hP4.1  ) ?_
            rintro _ ⟨I5, rfl, hQ5, x5a, x5b, x5c⟩
            have hP5 := cl_P_t hP4 hQ5
            show yi_G zi_Ms d zi_m257 (154, [(2, .inl (I 11 9)), (0, .inr (.inr (some 11))), (1, .inl dep), (3, .inl pa), (4, .inl si)], [], (I5, L4, R, Y), 0, 0) _
            refine yi_G_run 1 (198, [(2, .inl (I 11 9)), (0, .inr (.inr (some 11))), (1, .inl dep), (3, .inl pa), (4, .inl si)], [], (I5, L4, R, Y), 0, 0) (fun _ => rfl) ?_
            exact yi_G_retv rfl rfl (⟨_, _, rfl, hP5, by omega, by omega, by omega⟩)
          · refine yi_G_if2 true rfl (yi_ne_t h2) ?_
            refine yi_G_run 2 (160, [(2, .inl (I 11 9)), (0, .inr (.inr (some 11))), (1, .inl dep), (3, .inl pa), (4, .inl si)], [.inl 40, .inl (I 11 9)], (Ip124, L, R, Y), 0, 0) (fun _ => rfl) ?_
            by_cases h6 : (I 11 9) = 40
            · refine yi_G_if2 false rfl (yi_ne_f h6) ?_
              refine yi_G_run 1 (164, [(2, .inl (I 11 9)), (0, .inr (.inr (some 11))), (1, .inl dep), (3, .inl pa), (4, .inl si)], [.inr (.inr (some 11))], (Ip124, L, R, Y), 0, 0) (fun _ => rfl) ?_
              refine yi_G_callv rfl rfl (cl_rcv (cl_11 hPp124.1) rfl) rfl (k_advanceR d (by omega) hPp124.1  ) ?_
              rintro _ ⟨I7, L7, rfl, hQ7, x7a, x7b, x7c, x7d, x7e, x7f, x7g⟩
              have hP7 := cl_P_t hPp124 hQ7
              show yi_G zi_Ms d zi_m257 (167, [(2, .inl (I 11 9)), (0, .inr (.inr (some 11))), (1, .inl dep), (3, .inl pa), (4, .inl si)], [], (I7, L7, R, Y), 0, 0) _
              refine yi_G_run 3 (170, [(2, .inl (I 11 9)), (0, .inr (.inr (some 11))), (1, .inl dep), (3, .inl pa), (4, .inl si)], [.inl 1, .inl dep, .inr (.inr (some 11))], (I7, L7, R, Y), 0, 0) (fun _ => rfl) ?_
              refine yi_G_iadd rfl (dep + 1) (yi_wn (by omega) (by omega)) ?_
              refine yi_G_callv rfl rfl (cl_rcv (cl_11 hP7.1) rfl) rfl (hFo (by omega) d (by omega) hP7.1  (by omega)) ?_
              rintro _ ⟨I8, L8, rfl, hQ8, x8a, x8b, x8c⟩
              have hP8 := cl_P_t hP7 hQ8
              show yi_G zi_Ms d zi_m257 (174, [(2, .inl (I 11 9)), (0, .inr (.inr (some 11))), (1, .inl dep), (3, .inl pa), (4, .inl si)], [], (I8, L8, R, Y), 0, 0) _
              refine yi_G_run 2 (177, [(2, .inl (I 11 9)), (0, .inr (.inr (some 11))), (1, .inl dep), (3, .inl pa), (4, .inl si)], [.inl 41, .inr (.inr (some 11))], (I8, L8, R, Y), 0, 0) (fun _ => rfl) ?_
              refine yi_G_callv rfl rfl (cl_rcv (cl_11 hP8.1) rfl) rfl (k_takeKindR d (by omega) hP8.1  ) ?_
              rintro _ ⟨I9, L9, rfl, hQ9, x9a, x9b, x9c, x9d⟩
              have hP9 := cl_P_t hP8 hQ9
              show yi_G zi_Ms d zi_m257 (180, [(2, .inl (I 11 9)), (0, .inr (.inr (some 11))), (1, .inl dep), (3, .inl pa), (4, .inl si)], [], (I9, L9, R, Y), 0, 0) _
              refine yi_G_run 1 (198, [(2, .inl (I 11 9)), (0, .inr (.inr (some 11))), (1, .inl dep), (3, .inl pa), (4, .inl si)], [], (I9, L9, R, Y), 0, 0) (fun _ => rfl) ?_
              exact yi_G_retv rfl rfl (⟨_, _, rfl, hP9, by omega, by omega, by omega⟩)
            · refine yi_G_if2 true rfl (yi_ne_t h6) ?_
              refine yi_G_run 1 (184, [(2, .inl (I 11 9)), (0, .inr (.inr (some 11))), (1, .inl dep), (3, .inl pa), (4, .inl si)], [.inl pa], (Ip124, L, R, Y), 0, 0) (fun _ => rfl) ?_
              by_cases h10 : pa = 0
              · refine yi_G_if1 true rfl (yi_eq_t h10) ?_
                refine yi_G_run 1 (195, [(2, .inl (I 11 9)), (0, .inr (.inr (some 11))), (1, .inl dep), (3, .inl pa), (4, .inl si)], [.inr (.inr (some 11))], (Ip124, L, R, Y), 0, 0) (fun _ => rfl) ?_
                refine yi_G_callv rfl rfl (cl_rcv (cl_11 hPp124.1) rfl) rfl (k_readSingleR d (by omega) hPp124.1  ) ?_
                rintro _ ⟨I11, L11, rfl, hQ11, x11a, x11b, x11c⟩
                have hP11 := cl_P_t hPp124 hQ11
                show yi_G zi_Ms d zi_m257 (198, [(2, .inl (I 11 9)), (0, .inr (.inr (some 11))), (1, .inl dep), (3, .inl pa), (4, .inl si)], [], (I11, L11, R, Y), 0, 0) _
                exact yi_G_retv rfl rfl (⟨_, _, rfl, hP11, by omega, by omega, by omega⟩)
              · refine yi_G_if1 false rfl (yi_eq_f h10) ?_
                refine yi_G_run 1 (188, [(2, .inl (I 11 9)), (0, .inr (.inr (some 11))), (1, .inl dep), (3, .inl pa), (4, .inl si)], [.inr (.inr (some 11))], (Ip124, L, R, Y), 0, 0) (fun _ => rfl) ?_
                refine yi_G_callv rfl rfl (cl_rcv (cl_11 hPp124.1) rfl) rfl (k_readPairR d (by omega) hPp124.1  ) ?_
                rintro _ ⟨I12, L12, rfl, hQ12, x12a, x12b, x12c⟩
                have hP12 := cl_P_t hPp124 hQ12
                show yi_G zi_Ms d zi_m257 (191, [(2, .inl (I 11 9)), (0, .inr (.inr (some 11))), (1, .inl dep), (3, .inl pa), (4, .inl si)], [], (I12, L12, R, Y), 0, 0) _
                refine yi_G_run 1 (198, [(2, .inl (I 11 9)), (0, .inr (.inr (some 11))), (1, .inl dep), (3, .inl pa), (4, .inl si)], [], (I12, L12, R, Y), 0, 0) (fun _ => rfl) ?_
                exact yi_G_retv rfl rfl (⟨_, _, rfl, hP12, by omega, by omega, by omega⟩)
        · refine yi_G_if1 false rfl (yi_eq_f h1) ?_
          exact yi_G_retv rfl rfl (⟨_, _, rfl, hPp124, by omega, by omega, by omega⟩)
      refine yi_G_run 2 (50, [(2, .inl (I 11 9)), (0, .inr (.inr (some 11))), (1, .inl dep), (3, .inl pa), (4, .inl si)], [.inl 30, .inl (I 11 9)], (I, L, R, Y), 0, 0) (fun _ => rfl) ?_
      by_cases h13 : (I 11 9) = 30
      · refine yi_G_if2 true rfl (yi_eq_t h13) ?_
        refine yi_G_run 2 (78, [(2, .inl (I 11 9)), (0, .inr (.inr (some 11))), (1, .inl dep), (3, .inl pa), (4, .inl si)], [.inl 3, .inl (I 11 9)], (I, L, R, Y), 0, 0) (fun _ => rfl) ?_
        by_cases h14 : (I 11 9) = 3
        · refine yi_G_if2 false rfl (yi_ne_f h14) ?_
          refine yi_G_run 1 (82, [(2, .inl (I 11 9)), (0, .inr (.inr (some 11))), (1, .inl dep), (3, .inl pa), (4, .inl si)], [.inr (.inr (some 11))], (I, L, R, Y), 0, 0) (fun _ => rfl) ?_
          obtain ⟨q15, e16, t17⟩ := cl_rf hP.1 (cl_11 hP.1) (k := 6) rfl
          refine cl_G_gr rfl (cl_T_K (cl_11 hP.1)) rfl rfl rfl e16 ?_
          obtain ⟨q18, e19, t20, n21⟩ := cl_rn hP.1 t17 (k := 0) (m := 3) rfl
          refine cl_G_gr rfl (cl_T_K t17) rfl rfl rfl e19 ?_
          refine yi_G_run 1 (89, [(2, .inl (I 11 9)), (0, .inr (.inr (some 11))), (1, .inl dep), (3, .inl pa), (4, .inl si)], [.inr (.inr (some 11)), .inr (.inr (some q18))], (I, L, R, Y), 0, 0) (fun _ => rfl) ?_
          refine cl_G_gr rfl (cl_T_K (cl_11 hP.1)) rfl rfl rfl e16 ?_
          have b22 := cl_rd hP.1 t17 (k := 15) (lo := 0) (hi := 4) rfl
          refine cl_G_gi rfl (cl_T_K t17) rfl rfl rfl ?_
          refine yi_G_run 1 (96, [(2, .inl (I 11 9)), (0, .inr (.inr (some 11))), (1, .inl dep), (3, .inl pa), (4, .inl si)], [.inr (.inr (some 11)), .inl (I q15 15), .inr (.inr (some q18))], (I, L, R, Y), 0, 0) (fun _ => rfl) ?_
          refine cl_G_gl rfl (cl_T_K (cl_11 hP.1)) rfl rfl rfl ?_
          refine yi_G_calls rfl rfl (k_find d (by omega) hP.1 t20 ) ?_
          rintro _ ⟨z23, rfl⟩
          show yi_G zi_Ms d zi_m257 (102, [(2, .inl (I 11 9)), (0, .inr (.inr (some 11))), (1, .inl dep), (3, .inl pa), (4, .inl si)], [.inl z23], (I, L, R, Y), 0, 0) _
          refine yi_G_run 1 (103, [(2, .inl (I 11 9)), (0, .inr (.inr (some 11))), (1, .inl dep), (3, .inl pa), (4, .inl si)], [.inl (-1), .inl z23], (I, L, R, Y), 0, 0) (fun _ => rfl) ?_
          by_cases h24 : z23 = (-1)
          · refine yi_G_if2 false rfl (yi_ne_f h24) ?_
            refine yi_G_run 2 (108, [(2, .inl (I 11 9)), (0, .inr (.inr (some 11))), (1, .inl dep), (3, .inl pa), (4, .inl si)], [.inl 2, .inr (.inr (some 11))], (I, L, R, Y), 0, 0) (fun _ => rfl) ?_
            refine yi_G_callv rfl rfl (cl_rcv (cl_11 hP.1) rfl) rfl (k_wrongR d (by omega) hP.1  (by omega)) ?_
            rintro _ ⟨I25, rfl, hQ25, x25a, x25b, x25c, x25d⟩
            have hP25 := cl_P_t hP hQ25
            show yi_G zi_Ms d zi_m257 (111, [(2, .inl (I 11 9)), (0, .inr (.inr (some 11))), (1, .inl dep), (3, .inl pa), (4, .inl si)], [], (I25, L, R, Y), 0, 0) _
            refine yi_G_run 1 (124, [(2, .inl (I 11 9)), (0, .inr (.inr (some 11))), (1, .inl dep), (3, .inl pa), (4, .inl si)], [], (I25, L, R, Y), 0, 0) (fun _ => rfl) ?_
            exact pt124 I25 hP25 (by omega) (by omega) (by omega) (by omega)
          · refine yi_G_if2 true rfl (yi_ne_t h24) ?_
            refine yi_G_run 2 (116, [(2, .inl (I 11 9)), (0, .inr (.inr (some 11))), (1, .inl dep), (3, .inl pa), (4, .inl si)], [.inl 5, .inl dep], (I, L, R, Y), 0, 0) (fun _ => rfl) ?_
            by_cases h26 : dep < 5
            · refine yi_G_if2 true rfl (yi_lt_t h26) ?_
              exact pt124 I hP (by omega) (by omega) (by omega) (by omega)
            · refine yi_G_if2 false rfl (yi_lt_f h26) ?_
              refine yi_G_run 2 (121, [(2, .inl (I 11 9)), (0, .inr (.inr (some 11))), (1, .inl dep), (3, .inl pa), (4, .inl si)], [.inl 5, .inr (.inr (some 11))], (I, L, R, Y), 0, 0) (fun _ => rfl) ?_
              refine yi_G_callv rfl rfl (cl_rcv (cl_11 hP.1) rfl) rfl (k_wrongR d (by omega) hP.1  (by omega)) ?_
              rintro _ ⟨I27, rfl, hQ27, x27a, x27b, x27c, x27d⟩
              have hP27 := cl_P_t hP hQ27
              show yi_G zi_Ms d zi_m257 (124, [(2, .inl (I 11 9)), (0, .inr (.inr (some 11))), (1, .inl dep), (3, .inl pa), (4, .inl si)], [], (I27, L, R, Y), 0, 0) _
              exact pt124 I27 hP27 (by omega) (by omega) (by omega) (by omega)
        · refine yi_G_if2 true rfl (yi_ne_t h14) ?_
          refine yi_G_run 2 (116, [(2, .inl (I 11 9)), (0, .inr (.inr (some 11))), (1, .inl dep), (3, .inl pa), (4, .inl si)], [.inl 5, .inl dep], (I, L, R, Y), 0, 0) (fun _ => rfl) ?_
          by_cases h28 : dep < 5
          · refine yi_G_if2 true rfl (yi_lt_t h28) ?_
            exact pt124 I hP (by omega) (by omega) (by omega) (by omega)
          · refine yi_G_if2 false rfl (yi_lt_f h28) ?_
            refine yi_G_run 2 (121, [(2, .inl (I 11 9)), (0, .inr (.inr (some 11))), (1, .inl dep), (3, .inl pa), (4, .inl si)], [.inl 5, .inr (.inr (some 11))], (I, L, R, Y), 0, 0) (fun _ => rfl) ?_
            refine yi_G_callv rfl rfl (cl_rcv (cl_11 hP.1) rfl) rfl (k_wrongR d (by omega) hP.1  (by omega)) ?_
            rintro _ ⟨I29, rfl, hQ29, x29a, x29b, x29c, x29d⟩
            have hP29 := cl_P_t hP hQ29
            show yi_G zi_Ms d zi_m257 (124, [(2, .inl (I 11 9)), (0, .inr (.inr (some 11))), (1, .inl dep), (3, .inl pa), (4, .inl si)], [], (I29, L, R, Y), 0, 0) _
            exact pt124 I29 hP29 (by omega) (by omega) (by omega) (by omega)
      · refine yi_G_if2 false rfl (yi_eq_f h13) ?_
        refine yi_G_run 2 (56, [(2, .inl (I 11 9)), (0, .inr (.inr (some 11))), (1, .inl dep), (3, .inl pa), (4, .inl si)], [.inl 40, .inl (I 11 9)], (I, L, R, Y), 0, 0) (fun _ => rfl) ?_
        by_cases h30 : (I 11 9) = 40
        · refine yi_G_if2 true rfl (yi_eq_t h30) ?_
          refine yi_G_run 2 (78, [(2, .inl (I 11 9)), (0, .inr (.inr (some 11))), (1, .inl dep), (3, .inl pa), (4, .inl si)], [.inl 3, .inl (I 11 9)], (I, L, R, Y), 0, 0) (fun _ => rfl) ?_
          by_cases h31 : (I 11 9) = 3
          · refine yi_G_if2 false rfl (yi_ne_f h31) ?_
            refine yi_G_run 1 (82, [(2, .inl (I 11 9)), (0, .inr (.inr (some 11))), (1, .inl dep), (3, .inl pa), (4, .inl si)], [.inr (.inr (some 11))], (I, L, R, Y), 0, 0) (fun _ => rfl) ?_
            obtain ⟨q32, e33, t34⟩ := cl_rf hP.1 (cl_11 hP.1) (k := 6) rfl
            refine cl_G_gr rfl (cl_T_K (cl_11 hP.1)) rfl rfl rfl e33 ?_
            obtain ⟨q35, e36, t37, n38⟩ := cl_rn hP.1 t34 (k := 0) (m := 3) rfl
            refine cl_G_gr rfl (cl_T_K t34) rfl rfl rfl e36 ?_
            refine yi_G_run 1 (89, [(2, .inl (I 11 9)), (0, .inr (.inr (some 11))), (1, .inl dep), (3, .inl pa), (4, .inl si)], [.inr (.inr (some 11)), .inr (.inr (some q35))], (I, L, R, Y), 0, 0) (fun _ => rfl) ?_
            refine cl_G_gr rfl (cl_T_K (cl_11 hP.1)) rfl rfl rfl e33 ?_
            have b39 := cl_rd hP.1 t34 (k := 15) (lo := 0) (hi := 4) rfl
            refine cl_G_gi rfl (cl_T_K t34) rfl rfl rfl ?_
            refine yi_G_run 1 (96, [(2, .inl (I 11 9)), (0, .inr (.inr (some 11))), (1, .inl dep), (3, .inl pa), (4, .inl si)], [.inr (.inr (some 11)), .inl (I q32 15), .inr (.inr (some q35))], (I, L, R, Y), 0, 0) (fun _ => rfl) ?_
            refine cl_G_gl rfl (cl_T_K (cl_11 hP.1)) rfl rfl rfl ?_
            refine yi_G_calls rfl rfl (k_find d (by omega) hP.1 t37 ) ?_
            rintro _ ⟨z40, rfl⟩
            show yi_G zi_Ms d zi_m257 (102, [(2, .inl (I 11 9)), (0, .inr (.inr (some 11))), (1, .inl dep), (3, .inl pa), (4, .inl si)], [.inl z40], (I, L, R, Y), 0, 0) _
            refine yi_G_run 1 (103, [(2, .inl (I 11 9)), (0, .inr (.inr (some 11))), (1, .inl dep), (3, .inl pa), (4, .inl si)], [.inl (-1), .inl z40], (I, L, R, Y), 0, 0) (fun _ => rfl) ?_
            by_cases h41 : z40 = (-1)
            · refine yi_G_if2 false rfl (yi_ne_f h41) ?_
              refine yi_G_run 2 (108, [(2, .inl (I 11 9)), (0, .inr (.inr (some 11))), (1, .inl dep), (3, .inl pa), (4, .inl si)], [.inl 2, .inr (.inr (some 11))], (I, L, R, Y), 0, 0) (fun _ => rfl) ?_
              refine yi_G_callv rfl rfl (cl_rcv (cl_11 hP.1) rfl) rfl (k_wrongR d (by omega) hP.1  (by omega)) ?_
              rintro _ ⟨I42, rfl, hQ42, x42a, x42b, x42c, x42d⟩
              have hP42 := cl_P_t hP hQ42
              show yi_G zi_Ms d zi_m257 (111, [(2, .inl (I 11 9)), (0, .inr (.inr (some 11))), (1, .inl dep), (3, .inl pa), (4, .inl si)], [], (I42, L, R, Y), 0, 0) _
              refine yi_G_run 1 (124, [(2, .inl (I 11 9)), (0, .inr (.inr (some 11))), (1, .inl dep), (3, .inl pa), (4, .inl si)], [], (I42, L, R, Y), 0, 0) (fun _ => rfl) ?_
              exact pt124 I42 hP42 (by omega) (by omega) (by omega) (by omega)
            · refine yi_G_if2 true rfl (yi_ne_t h41) ?_
              refine yi_G_run 2 (116, [(2, .inl (I 11 9)), (0, .inr (.inr (some 11))), (1, .inl dep), (3, .inl pa), (4, .inl si)], [.inl 5, .inl dep], (I, L, R, Y), 0, 0) (fun _ => rfl) ?_
              by_cases h43 : dep < 5
              · refine yi_G_if2 true rfl (yi_lt_t h43) ?_
                exact pt124 I hP (by omega) (by omega) (by omega) (by omega)
              · refine yi_G_if2 false rfl (yi_lt_f h43) ?_
                refine yi_G_run 2 (121, [(2, .inl (I 11 9)), (0, .inr (.inr (some 11))), (1, .inl dep), (3, .inl pa), (4, .inl si)], [.inl 5, .inr (.inr (some 11))], (I, L, R, Y), 0, 0) (fun _ => rfl) ?_
                refine yi_G_callv rfl rfl (cl_rcv (cl_11 hP.1) rfl) rfl (k_wrongR d (by omega) hP.1  (by omega)) ?_
                rintro _ ⟨I44, rfl, hQ44, x44a, x44b, x44c, x44d⟩
                have hP44 := cl_P_t hP hQ44
                show yi_G zi_Ms d zi_m257 (124, [(2, .inl (I 11 9)), (0, .inr (.inr (some 11))), (1, .inl dep), (3, .inl pa), (4, .inl si)], [], (I44, L, R, Y), 0, 0) _
                exact pt124 I44 hP44 (by omega) (by omega) (by omega) (by omega)
          · refine yi_G_if2 true rfl (yi_ne_t h31) ?_
            refine yi_G_run 2 (116, [(2, .inl (I 11 9)), (0, .inr (.inr (some 11))), (1, .inl dep), (3, .inl pa), (4, .inl si)], [.inl 5, .inl dep], (I, L, R, Y), 0, 0) (fun _ => rfl) ?_
            by_cases h45 : dep < 5
            · refine yi_G_if2 true rfl (yi_lt_t h45) ?_
              exact pt124 I hP (by omega) (by omega) (by omega) (by omega)
            · refine yi_G_if2 false rfl (yi_lt_f h45) ?_
              refine yi_G_run 2 (121, [(2, .inl (I 11 9)), (0, .inr (.inr (some 11))), (1, .inl dep), (3, .inl pa), (4, .inl si)], [.inl 5, .inr (.inr (some 11))], (I, L, R, Y), 0, 0) (fun _ => rfl) ?_
              refine yi_G_callv rfl rfl (cl_rcv (cl_11 hP.1) rfl) rfl (k_wrongR d (by omega) hP.1  (by omega)) ?_
              rintro _ ⟨I46, rfl, hQ46, x46a, x46b, x46c, x46d⟩
              have hP46 := cl_P_t hP hQ46
              show yi_G zi_Ms d zi_m257 (124, [(2, .inl (I 11 9)), (0, .inr (.inr (some 11))), (1, .inl dep), (3, .inl pa), (4, .inl si)], [], (I46, L, R, Y), 0, 0) _
              exact pt124 I46 hP46 (by omega) (by omega) (by omega) (by omega)
        · refine yi_G_if2 false rfl (yi_eq_f h30) ?_
          refine yi_G_run 1 (60, [(2, .inl (I 11 9)), (0, .inr (.inr (some 11))), (1, .inl dep), (3, .inl pa), (4, .inl si)], [.inl pa], (I, L, R, Y), 0, 0) (fun _ => rfl) ?_
          by_cases h47 : pa = 0
          · refine yi_G_if1 false rfl (yi_ne_f h47) ?_
            refine yi_G_run 1 (65, [(2, .inl (I 11 9)), (0, .inr (.inr (some 11))), (1, .inl dep), (3, .inl pa), (4, .inl si)], [.inl si], (I, L, R, Y), 0, 0) (fun _ => rfl) ?_
            by_cases h48 : si = 0
            · refine yi_G_if1 false rfl (yi_ne_f h48) ?_
              refine yi_G_run 2 (70, [(2, .inl (I 11 9)), (0, .inr (.inr (some 11))), (1, .inl dep), (3, .inl pa), (4, .inl si)], [.inl 1, .inr (.inr (some 11))], (I, L, R, Y), 0, 0) (fun _ => rfl) ?_
              refine yi_G_callv rfl rfl (cl_rcv (cl_11 hP.1) rfl) rfl (k_wrongR d (by omega) hP.1  (by omega)) ?_
              rintro _ ⟨I49, rfl, hQ49, x49a, x49b, x49c, x49d⟩
              have hP49 := cl_P_t hP hQ49
              show yi_G zi_Ms d zi_m257 (73, [(2, .inl (I 11 9)), (0, .inr (.inr (some 11))), (1, .inl dep), (3, .inl pa), (4, .inl si)], [], (I49, L, R, Y), 0, 0) _
              refine yi_G_run 1 (124, [(2, .inl (I 11 9)), (0, .inr (.inr (some 11))), (1, .inl dep), (3, .inl pa), (4, .inl si)], [], (I49, L, R, Y), 0, 0) (fun _ => rfl) ?_
              exact pt124 I49 hP49 (by omega) (by omega) (by omega) (by omega)
            · refine yi_G_if1 true rfl (yi_ne_t h48) ?_
              refine yi_G_run 2 (78, [(2, .inl (I 11 9)), (0, .inr (.inr (some 11))), (1, .inl dep), (3, .inl pa), (4, .inl si)], [.inl 3, .inl (I 11 9)], (I, L, R, Y), 0, 0) (fun _ => rfl) ?_
              by_cases h50 : (I 11 9) = 3
              · refine yi_G_if2 false rfl (yi_ne_f h50) ?_
                refine yi_G_run 1 (82, [(2, .inl (I 11 9)), (0, .inr (.inr (some 11))), (1, .inl dep), (3, .inl pa), (4, .inl si)], [.inr (.inr (some 11))], (I, L, R, Y), 0, 0) (fun _ => rfl) ?_
                obtain ⟨q51, e52, t53⟩ := cl_rf hP.1 (cl_11 hP.1) (k := 6) rfl
                refine cl_G_gr rfl (cl_T_K (cl_11 hP.1)) rfl rfl rfl e52 ?_
                obtain ⟨q54, e55, t56, n57⟩ := cl_rn hP.1 t53 (k := 0) (m := 3) rfl
                refine cl_G_gr rfl (cl_T_K t53) rfl rfl rfl e55 ?_
                refine yi_G_run 1 (89, [(2, .inl (I 11 9)), (0, .inr (.inr (some 11))), (1, .inl dep), (3, .inl pa), (4, .inl si)], [.inr (.inr (some 11)), .inr (.inr (some q54))], (I, L, R, Y), 0, 0) (fun _ => rfl) ?_
                refine cl_G_gr rfl (cl_T_K (cl_11 hP.1)) rfl rfl rfl e52 ?_
                have b58 := cl_rd hP.1 t53 (k := 15) (lo := 0) (hi := 4) rfl
                refine cl_G_gi rfl (cl_T_K t53) rfl rfl rfl ?_
                refine yi_G_run 1 (96, [(2, .inl (I 11 9)), (0, .inr (.inr (some 11))), (1, .inl dep), (3, .inl pa), (4, .inl si)], [.inr (.inr (some 11)), .inl (I q51 15), .inr (.inr (some q54))], (I, L, R, Y), 0, 0) (fun _ => rfl) ?_
                refine cl_G_gl rfl (cl_T_K (cl_11 hP.1)) rfl rfl rfl ?_
                refine yi_G_calls rfl rfl (k_find d (by omega) hP.1 t56 ) ?_
                rintro _ ⟨z59, rfl⟩
                show yi_G zi_Ms d zi_m257 (102, [(2, .inl (I 11 9)), (0, .inr (.inr (some 11))), (1, .inl dep), (3, .inl pa), (4, .inl si)], [.inl z59], (I, L, R, Y), 0, 0) _
                refine yi_G_run 1 (103, [(2, .inl (I 11 9)), (0, .inr (.inr (some 11))), (1, .inl dep), (3, .inl pa), (4, .inl si)], [.inl (-1), .inl z59], (I, L, R, Y), 0, 0) (fun _ => rfl) ?_
                by_cases h60 : z59 = (-1)
                · refine yi_G_if2 false rfl (yi_ne_f h60) ?_
                  refine yi_G_run 2 (108, [(2, .inl (I 11 9)), (0, .inr (.inr (some 11))), (1, .inl dep), (3, .inl pa), (4, .inl si)], [.inl 2, .inr (.inr (some 11))], (I, L, R, Y), 0, 0) (fun _ => rfl) ?_
                  refine yi_G_callv rfl rfl (cl_rcv (cl_11 hP.1) rfl) rfl (k_wrongR d (by omega) hP.1  (by omega)) ?_
                  rintro _ ⟨I61, rfl, hQ61, x61a, x61b, x61c, x61d⟩
                  have hP61 := cl_P_t hP hQ61
                  show yi_G zi_Ms d zi_m257 (111, [(2, .inl (I 11 9)), (0, .inr (.inr (some 11))), (1, .inl dep), (3, .inl pa), (4, .inl si)], [], (I61, L, R, Y), 0, 0) _
                  refine yi_G_run 1 (124, [(2, .inl (I 11 9)), (0, .inr (.inr (some 11))), (1, .inl dep), (3, .inl pa), (4, .inl si)], [], (I61, L, R, Y), 0, 0) (fun _ => rfl) ?_
                  exact pt124 I61 hP61 (by omega) (by omega) (by omega) (by omega)
                · refine yi_G_if2 true rfl (yi_ne_t h60) ?_
                  refine yi_G_run 2 (116, [(2, .inl (I 11 9)), (0, .inr (.inr (some 11))), (1, .inl dep), (3, .inl pa), (4, .inl si)], [.inl 5, .inl dep], (I, L, R, Y), 0, 0) (fun _ => rfl) ?_
                  by_cases h62 : dep < 5
                  · refine yi_G_if2 true rfl (yi_lt_t h62) ?_
                    exact pt124 I hP (by omega) (by omega) (by omega) (by omega)
                  · refine yi_G_if2 false rfl (yi_lt_f h62) ?_
                    refine yi_G_run 2 (121, [(2, .inl (I 11 9)), (0, .inr (.inr (some 11))), (1, .inl dep), (3, .inl pa), (4, .inl si)], [.inl 5, .inr (.inr (some 11))], (I, L, R, Y), 0, 0) (fun _ => rfl) ?_
                    refine yi_G_callv rfl rfl (cl_rcv (cl_11 hP.1) rfl) rfl (k_wrongR d (by omega) hP.1  (by omega)) ?_
                    rintro _ ⟨I63, rfl, hQ63, x63a, x63b, x63c, x63d⟩
                    have hP63 := cl_P_t hP hQ63
                    show yi_G zi_Ms d zi_m257 (124, [(2, .inl (I 11 9)), (0, .inr (.inr (some 11))), (1, .inl dep), (3, .inl pa), (4, .inl si)], [], (I63, L, R, Y), 0, 0) _
                    exact pt124 I63 hP63 (by omega) (by omega) (by omega) (by omega)
              · refine yi_G_if2 true rfl (yi_ne_t h50) ?_
                refine yi_G_run 2 (116, [(2, .inl (I 11 9)), (0, .inr (.inr (some 11))), (1, .inl dep), (3, .inl pa), (4, .inl si)], [.inl 5, .inl dep], (I, L, R, Y), 0, 0) (fun _ => rfl) ?_
                by_cases h64 : dep < 5
                · refine yi_G_if2 true rfl (yi_lt_t h64) ?_
                  exact pt124 I hP (by omega) (by omega) (by omega) (by omega)
                · refine yi_G_if2 false rfl (yi_lt_f h64) ?_
                  refine yi_G_run 2 (121, [(2, .inl (I 11 9)), (0, .inr (.inr (some 11))), (1, .inl dep), (3, .inl pa), (4, .inl si)], [.inl 5, .inr (.inr (some 11))], (I, L, R, Y), 0, 0) (fun _ => rfl) ?_
                  refine yi_G_callv rfl rfl (cl_rcv (cl_11 hP.1) rfl) rfl (k_wrongR d (by omega) hP.1  (by omega)) ?_
                  rintro _ ⟨I65, rfl, hQ65, x65a, x65b, x65c, x65d⟩
                  have hP65 := cl_P_t hP hQ65
                  show yi_G zi_Ms d zi_m257 (124, [(2, .inl (I 11 9)), (0, .inr (.inr (some 11))), (1, .inl dep), (3, .inl pa), (4, .inl si)], [], (I65, L, R, Y), 0, 0) _
                  exact pt124 I65 hP65 (by omega) (by omega) (by omega) (by omega)
          · refine yi_G_if1 true rfl (yi_ne_t h47) ?_
            refine yi_G_run 2 (78, [(2, .inl (I 11 9)), (0, .inr (.inr (some 11))), (1, .inl dep), (3, .inl pa), (4, .inl si)], [.inl 3, .inl (I 11 9)], (I, L, R, Y), 0, 0) (fun _ => rfl) ?_
            by_cases h66 : (I 11 9) = 3
            · refine yi_G_if2 false rfl (yi_ne_f h66) ?_
              refine yi_G_run 1 (82, [(2, .inl (I 11 9)), (0, .inr (.inr (some 11))), (1, .inl dep), (3, .inl pa), (4, .inl si)], [.inr (.inr (some 11))], (I, L, R, Y), 0, 0) (fun _ => rfl) ?_
              obtain ⟨q67, e68, t69⟩ := cl_rf hP.1 (cl_11 hP.1) (k := 6) rfl
              refine cl_G_gr rfl (cl_T_K (cl_11 hP.1)) rfl rfl rfl e68 ?_
              obtain ⟨q70, e71, t72, n73⟩ := cl_rn hP.1 t69 (k := 0) (m := 3) rfl
              refine cl_G_gr rfl (cl_T_K t69) rfl rfl rfl e71 ?_
              refine yi_G_run 1 (89, [(2, .inl (I 11 9)), (0, .inr (.inr (some 11))), (1, .inl dep), (3, .inl pa), (4, .inl si)], [.inr (.inr (some 11)), .inr (.inr (some q70))], (I, L, R, Y), 0, 0) (fun _ => rfl) ?_
              refine cl_G_gr rfl (cl_T_K (cl_11 hP.1)) rfl rfl rfl e68 ?_
              have b74 := cl_rd hP.1 t69 (k := 15) (lo := 0) (hi := 4) rfl
              refine cl_G_gi rfl (cl_T_K t69) rfl rfl rfl ?_
              refine yi_G_run 1 (96, [(2, .inl (I 11 9)), (0, .inr (.inr (some 11))), (1, .inl dep), (3, .inl pa), (4, .inl si)], [.inr (.inr (some 11)), .inl (I q67 15), .inr (.inr (some q70))], (I, L, R, Y), 0, 0) (fun _ => rfl) ?_
              refine cl_G_gl rfl (cl_T_K (cl_11 hP.1)) rfl rfl rfl ?_
              refine yi_G_calls rfl rfl (k_find d (by omega) hP.1 t72 ) ?_
              rintro _ ⟨z75, rfl⟩
              show yi_G zi_Ms d zi_m257 (102, [(2, .inl (I 11 9)), (0, .inr (.inr (some 11))), (1, .inl dep), (3, .inl pa), (4, .inl si)], [.inl z75], (I, L, R, Y), 0, 0) _
              refine yi_G_run 1 (103, [(2, .inl (I 11 9)), (0, .inr (.inr (some 11))), (1, .inl dep), (3, .inl pa), (4, .inl si)], [.inl (-1), .inl z75], (I, L, R, Y), 0, 0) (fun _ => rfl) ?_
              by_cases h76 : z75 = (-1)
              · refine yi_G_if2 false rfl (yi_ne_f h76) ?_
                refine yi_G_run 2 (108, [(2, .inl (I 11 9)), (0, .inr (.inr (some 11))), (1, .inl dep), (3, .inl pa), (4, .inl si)], [.inl 2, .inr (.inr (some 11))], (I, L, R, Y), 0, 0) (fun _ => rfl) ?_
                refine yi_G_callv rfl rfl (cl_rcv (cl_11 hP.1) rfl) rfl (k_wrongR d (by omega) hP.1  (by omega)) ?_
                rintro _ ⟨I77, rfl, hQ77, x77a, x77b, x77c, x77d⟩
                have hP77 := cl_P_t hP hQ77
                show yi_G zi_Ms d zi_m257 (111, [(2, .inl (I 11 9)), (0, .inr (.inr (some 11))), (1, .inl dep), (3, .inl pa), (4, .inl si)], [], (I77, L, R, Y), 0, 0) _
                refine yi_G_run 1 (124, [(2, .inl (I 11 9)), (0, .inr (.inr (some 11))), (1, .inl dep), (3, .inl pa), (4, .inl si)], [], (I77, L, R, Y), 0, 0) (fun _ => rfl) ?_
                exact pt124 I77 hP77 (by omega) (by omega) (by omega) (by omega)
              · refine yi_G_if2 true rfl (yi_ne_t h76) ?_
                refine yi_G_run 2 (116, [(2, .inl (I 11 9)), (0, .inr (.inr (some 11))), (1, .inl dep), (3, .inl pa), (4, .inl si)], [.inl 5, .inl dep], (I, L, R, Y), 0, 0) (fun _ => rfl) ?_
                by_cases h78 : dep < 5
                · refine yi_G_if2 true rfl (yi_lt_t h78) ?_
                  exact pt124 I hP (by omega) (by omega) (by omega) (by omega)
                · refine yi_G_if2 false rfl (yi_lt_f h78) ?_
                  refine yi_G_run 2 (121, [(2, .inl (I 11 9)), (0, .inr (.inr (some 11))), (1, .inl dep), (3, .inl pa), (4, .inl si)], [.inl 5, .inr (.inr (some 11))], (I, L, R, Y), 0, 0) (fun _ => rfl) ?_
                  refine yi_G_callv rfl rfl (cl_rcv (cl_11 hP.1) rfl) rfl (k_wrongR d (by omega) hP.1  (by omega)) ?_
                  rintro _ ⟨I79, rfl, hQ79, x79a, x79b, x79c, x79d⟩
                  have hP79 := cl_P_t hP hQ79
                  show yi_G zi_Ms d zi_m257 (124, [(2, .inl (I 11 9)), (0, .inr (.inr (some 11))), (1, .inl dep), (3, .inl pa), (4, .inl si)], [], (I79, L, R, Y), 0, 0) _
                  exact pt124 I79 hP79 (by omega) (by omega) (by omega) (by omega)
            · refine yi_G_if2 true rfl (yi_ne_t h66) ?_
              refine yi_G_run 2 (116, [(2, .inl (I 11 9)), (0, .inr (.inr (some 11))), (1, .inl dep), (3, .inl pa), (4, .inl si)], [.inl 5, .inl dep], (I, L, R, Y), 0, 0) (fun _ => rfl) ?_
              by_cases h80 : dep < 5
              · refine yi_G_if2 true rfl (yi_lt_t h80) ?_
                exact pt124 I hP (by omega) (by omega) (by omega) (by omega)
              · refine yi_G_if2 false rfl (yi_lt_f h80) ?_
                refine yi_G_run 2 (121, [(2, .inl (I 11 9)), (0, .inr (.inr (some 11))), (1, .inl dep), (3, .inl pa), (4, .inl si)], [.inl 5, .inr (.inr (some 11))], (I, L, R, Y), 0, 0) (fun _ => rfl) ?_
                refine yi_G_callv rfl rfl (cl_rcv (cl_11 hP.1) rfl) rfl (k_wrongR d (by omega) hP.1  (by omega)) ?_
                rintro _ ⟨I81, rfl, hQ81, x81a, x81b, x81c, x81d⟩
                have hP81 := cl_P_t hP hQ81
                show yi_G zi_Ms d zi_m257 (124, [(2, .inl (I 11 9)), (0, .inr (.inr (some 11))), (1, .inl dep), (3, .inl pa), (4, .inl si)], [], (I81, L, R, Y), 0, 0) _
                exact pt124 I81 hP81 (by omega) (by omega) (by omega) (by omega)
    refine yi_G_run 2 (25, [(2, .inl (I 11 9)), (0, .inr (.inr (some 11))), (1, .inl dep), (3, .inl pa)], [.inl 3, .inl (I 11 9)], (I, L, R, Y), 0, 0) (fun _ => rfl) ?_
    by_cases h82 : (I 11 9) = 3
    · refine yi_G_if2 true rfl (yi_eq_t h82) ?_
      refine yi_G_run 3 (47, [(4, .inl 1), (2, .inl (I 11 9)), (0, .inr (.inr (some 11))), (1, .inl dep), (3, .inl pa)], [], (I, L, R, Y), 0, 0) (fun _ => rfl) ?_
      refine yi_G_al (al := [(2, .inl (I 11 9)), (0, .inr (.inr (some 11))), (1, .inl dep), (3, .inl pa), (4, .inl 1)]) (show ([2, 0, 1, 3, 4] : List Nat).Nodup by decide) (show ([4, 2, 0, 1, 3] : List Nat).Nodup by decide) (yi_mc (List.mem_of_getElem? (i := 1) rfl) (yi_mc (List.mem_of_getElem? (i := 2) rfl) (yi_mc (List.mem_of_getElem? (i := 3) rfl) (yi_mc (List.mem_of_getElem? (i := 4) rfl) (yi_mc (List.mem_of_getElem? (i := 0) rfl) yi_mn))))) ?_
      exact pt47 1 
    · refine yi_G_if2 false rfl (yi_eq_f h82) ?_
      refine yi_G_run 2 (31, [(2, .inl (I 11 9)), (0, .inr (.inr (some 11))), (1, .inl dep), (3, .inl pa)], [.inl 14, .inl (I 11 9)], (I, L, R, Y), 0, 0) (fun _ => rfl) ?_
      by_cases h83 : (I 11 9) = 14
      · refine yi_G_if2 true rfl (yi_eq_t h83) ?_
        refine yi_G_run 3 (47, [(4, .inl 1), (2, .inl (I 11 9)), (0, .inr (.inr (some 11))), (1, .inl dep), (3, .inl pa)], [], (I, L, R, Y), 0, 0) (fun _ => rfl) ?_
        refine yi_G_al (al := [(2, .inl (I 11 9)), (0, .inr (.inr (some 11))), (1, .inl dep), (3, .inl pa), (4, .inl 1)]) (show ([2, 0, 1, 3, 4] : List Nat).Nodup by decide) (show ([4, 2, 0, 1, 3] : List Nat).Nodup by decide) (yi_mc (List.mem_of_getElem? (i := 1) rfl) (yi_mc (List.mem_of_getElem? (i := 2) rfl) (yi_mc (List.mem_of_getElem? (i := 3) rfl) (yi_mc (List.mem_of_getElem? (i := 4) rfl) (yi_mc (List.mem_of_getElem? (i := 0) rfl) yi_mn))))) ?_
        exact pt47 1 
      · refine yi_G_if2 false rfl (yi_eq_f h83) ?_
        refine yi_G_run 2 (37, [(2, .inl (I 11 9)), (0, .inr (.inr (some 11))), (1, .inl dep), (3, .inl pa)], [.inl 15, .inl (I 11 9)], (I, L, R, Y), 0, 0) (fun _ => rfl) ?_
        by_cases h84 : (I 11 9) = 15
        · refine yi_G_if2 false rfl (yi_ne_f h84) ?_
          refine yi_G_run 3 (47, [(4, .inl 1), (2, .inl (I 11 9)), (0, .inr (.inr (some 11))), (1, .inl dep), (3, .inl pa)], [], (I, L, R, Y), 0, 0) (fun _ => rfl) ?_
          refine yi_G_al (al := [(2, .inl (I 11 9)), (0, .inr (.inr (some 11))), (1, .inl dep), (3, .inl pa), (4, .inl 1)]) (show ([2, 0, 1, 3, 4] : List Nat).Nodup by decide) (show ([4, 2, 0, 1, 3] : List Nat).Nodup by decide) (yi_mc (List.mem_of_getElem? (i := 1) rfl) (yi_mc (List.mem_of_getElem? (i := 2) rfl) (yi_mc (List.mem_of_getElem? (i := 3) rfl) (yi_mc (List.mem_of_getElem? (i := 4) rfl) (yi_mc (List.mem_of_getElem? (i := 0) rfl) yi_mn))))) ?_
          exact pt47 1 
        · refine yi_G_if2 true rfl (yi_ne_t h84) ?_
          refine yi_G_run 2 (47, [(4, .inl 0), (2, .inl (I 11 9)), (0, .inr (.inr (some 11))), (1, .inl dep), (3, .inl pa)], [], (I, L, R, Y), 0, 0) (fun _ => rfl) ?_
          refine yi_G_al (al := [(2, .inl (I 11 9)), (0, .inr (.inr (some 11))), (1, .inl dep), (3, .inl pa), (4, .inl 0)]) (show ([2, 0, 1, 3, 4] : List Nat).Nodup by decide) (show ([4, 2, 0, 1, 3] : List Nat).Nodup by decide) (yi_mc (List.mem_of_getElem? (i := 1) rfl) (yi_mc (List.mem_of_getElem? (i := 2) rfl) (yi_mc (List.mem_of_getElem? (i := 3) rfl) (yi_mc (List.mem_of_getElem? (i := 4) rfl) (yi_mc (List.mem_of_getElem? (i := 0) rfl) yi_mn))))) ?_
          exact pt47 0 
  refine yi_G_run 2 (8, [(2, .inl (I 11 9)), (0, .inr (.inr (some 11))), (1, .inl dep)], [.inl 16, .inl (I 11 9)], (I, L, R, Y), 0, 0) (fun _ => rfl) ?_
  by_cases h85 : (I 11 9) = 16
  · refine yi_G_if2 true rfl (yi_eq_t h85) ?_
    refine yi_G_run 3 (23, [(3, .inl 1), (2, .inl (I 11 9)), (0, .inr (.inr (some 11))), (1, .inl dep)], [], (I, L, R, Y), 0, 0) (fun _ => rfl) ?_
    refine yi_G_al (al := [(2, .inl (I 11 9)), (0, .inr (.inr (some 11))), (1, .inl dep), (3, .inl 1)]) (show ([2, 0, 1, 3] : List Nat).Nodup by decide) (show ([3, 2, 0, 1] : List Nat).Nodup by decide) (yi_mc (List.mem_of_getElem? (i := 1) rfl) (yi_mc (List.mem_of_getElem? (i := 2) rfl) (yi_mc (List.mem_of_getElem? (i := 3) rfl) (yi_mc (List.mem_of_getElem? (i := 0) rfl) yi_mn)))) ?_
    exact pt23 1 
  · refine yi_G_if2 false rfl (yi_eq_f h85) ?_
    refine yi_G_run 2 (14, [(2, .inl (I 11 9)), (0, .inr (.inr (some 11))), (1, .inl dep)], [.inl 17, .inl (I 11 9)], (I, L, R, Y), 0, 0) (fun _ => rfl) ?_
    by_cases h86 : (I 11 9) = 17
    · refine yi_G_if2 false rfl (yi_ne_f h86) ?_
      refine yi_G_run 3 (23, [(3, .inl 1), (2, .inl (I 11 9)), (0, .inr (.inr (some 11))), (1, .inl dep)], [], (I, L, R, Y), 0, 0) (fun _ => rfl) ?_
      refine yi_G_al (al := [(2, .inl (I 11 9)), (0, .inr (.inr (some 11))), (1, .inl dep), (3, .inl 1)]) (show ([2, 0, 1, 3] : List Nat).Nodup by decide) (show ([3, 2, 0, 1] : List Nat).Nodup by decide) (yi_mc (List.mem_of_getElem? (i := 1) rfl) (yi_mc (List.mem_of_getElem? (i := 2) rfl) (yi_mc (List.mem_of_getElem? (i := 3) rfl) (yi_mc (List.mem_of_getElem? (i := 0) rfl) yi_mn)))) ?_
      exact pt23 1 
    · refine yi_G_if2 true rfl (yi_ne_t h86) ?_
      refine yi_G_run 2 (23, [(3, .inl 0), (2, .inl (I 11 9)), (0, .inr (.inr (some 11))), (1, .inl dep)], [], (I, L, R, Y), 0, 0) (fun _ => rfl) ?_
      refine yi_G_al (al := [(2, .inl (I 11 9)), (0, .inr (.inr (some 11))), (1, .inl dep), (3, .inl 0)]) (show ([2, 0, 1, 3] : List Nat).Nodup by decide) (show ([3, 2, 0, 1] : List Nat).Nodup by decide) (yi_mc (List.mem_of_getElem? (i := 1) rfl) (yi_mc (List.mem_of_getElem? (i := 2) rfl) (yi_mc (List.mem_of_getElem? (i := 3) rfl) (yi_mc (List.mem_of_getElem? (i := 0) rfl) yi_mn)))) ?_
      exact pt23 0 
theorem k_levelOf (D : Nat) (hD : 1 ≤ D) {E : List Nat} {I L : cl_I} {R : cl_Rr} {Y : cl_Y} (hC : cl_C E I L R Y) {x : Int} : yi_E zi_Ms D 251 [.inl x] (I, L, R, Y) (fun r => ∃ z, r = (some (.inl z), (I, L, R, Y), 0, 0)) := by
  obtain ⟨d, rfl⟩ : ∃ d, D = d + 1 := ⟨D - 1, by omega⟩
  refine yi_E_of (M := zi_m251) rfl rfl ?_
  have hP : cl_P E I L R Y I L R Y := cl_P_r hC
  show yi_G zi_Ms d zi_m251 (0, [(0, .inl x)], [], (I, L, R, Y), 0, 0) _
  refine yi_G_run 1 (1, [(0, .inl x)], [.inl x], (I, L, R, Y), 0, 0) (fun _ => rfl) ?_
  by_cases h1 : x = 31
  · refine cl_G_lsw (off := 67) 68 rfl (by show Op.lookupswitch.offset [(31, 67), (32, 67), (42, 73), (43, 71), (45, 71), (60, 69), (61, 69)] _ _ = _; rw [Op.lookupswitch.offset_cons, if_pos (by omega)]) (by decide) ?_
    refine yi_G_run 1 (69, [(0, .inl x)], [.inl 0], (I, L, R, Y), 0, 0) (fun _ => rfl) ?_
    exact yi_G_reti rfl rfl (⟨_, rfl⟩)
  by_cases h2 : x = 32
  · refine cl_G_lsw (off := 67) 68 rfl (by show Op.lookupswitch.offset [(31, 67), (32, 67), (42, 73), (43, 71), (45, 71), (60, 69), (61, 69)] _ _ = _; rw [Op.lookupswitch.offset_cons, if_neg (by omega), Op.lookupswitch.offset_cons, if_pos (by omega)]) (by decide) ?_
    refine yi_G_run 1 (69, [(0, .inl x)], [.inl 0], (I, L, R, Y), 0, 0) (fun _ => rfl) ?_
    exact yi_G_reti rfl rfl (⟨_, rfl⟩)
  by_cases h3 : x = 42
  · refine cl_G_lsw (off := 73) 74 rfl (by show Op.lookupswitch.offset [(31, 67), (32, 67), (42, 73), (43, 71), (45, 71), (60, 69), (61, 69)] _ _ = _; rw [Op.lookupswitch.offset_cons, if_neg (by omega), Op.lookupswitch.offset_cons, if_neg (by omega), Op.lookupswitch.offset_cons, if_pos (by omega)]) (by decide) ?_
    refine yi_G_run 1 (75, [(0, .inl x)], [.inl 3], (I, L, R, Y), 0, 0) (fun _ => rfl) ?_
    exact yi_G_reti rfl rfl (⟨_, rfl⟩)
  by_cases h4 : x = 43
  · refine cl_G_lsw (off := 71) 72 rfl (by show Op.lookupswitch.offset [(31, 67), (32, 67), (42, 73), (43, 71), (45, 71), (60, 69), (61, 69)] _ _ = _; rw [Op.lookupswitch.offset_cons, if_neg (by omega), Op.lookupswitch.offset_cons, if_neg (by omega), Op.lookupswitch.offset_cons, if_neg (by omega), Op.lookupswitch.offset_cons, if_pos (by omega)]) (by decide) ?_
    refine yi_G_run 1 (73, [(0, .inl x)], [.inl 2], (I, L, R, Y), 0, 0) (fun _ => rfl) ?_
    exact yi_G_reti rfl rfl (⟨_, rfl⟩)
  by_cases h5 : x = 45
  · refine cl_G_lsw (off := 71) 72 rfl (by show Op.lookupswitch.offset [(31, 67), (32, 67), (42, 73), (43, 71), (45, 71), (60, 69), (61, 69)] _ _ = _; rw [Op.lookupswitch.offset_cons, if_neg (by omega), Op.lookupswitch.offset_cons, if_neg (by omega), Op.lookupswitch.offset_cons, if_neg (by omega), Op.lookupswitch.offset_cons, if_neg (by omega), Op.lookupswitch.offset_cons, if_pos (by omega)]) (by decide) ?_
    refine yi_G_run 1 (73, [(0, .inl x)], [.inl 2], (I, L, R, Y), 0, 0) (fun _ => rfl) ?_
    exact yi_G_reti rfl rfl (⟨_, rfl⟩)
  by_cases h6 : x = 60
  · refine cl_G_lsw (off := 69) 70 rfl (by show Op.lookupswitch.offset [(31, 67), (32, 67), (42, 73), (43, 71), (45, 71), (60, 69), (61, 69)] _ _ = _; rw [Op.lookupswitch.offset_cons, if_neg (by omega), Op.lookupswitch.offset_cons, if_neg (by omega), Op.lookupswitch.offset_cons, if_neg (by omega), Op.lookupswitch.offset_cons, if_neg (by omega), Op.lookupswitch.offset_cons, if_neg (by omega), Op.lookupswitch.offset_cons, if_pos (by omega)]) (by decide) ?_
    refine yi_G_run 1 (71, [(0, .inl x)], [.inl 1], (I, L, R, Y), 0, 0) (fun _ => rfl) ?_
    exact yi_G_reti rfl rfl (⟨_, rfl⟩)
  by_cases h7 : x = 61
  · refine cl_G_lsw (off := 69) 70 rfl (by show Op.lookupswitch.offset [(31, 67), (32, 67), (42, 73), (43, 71), (45, 71), (60, 69), (61, 69)] _ _ = _; rw [Op.lookupswitch.offset_cons, if_neg (by omega), Op.lookupswitch.offset_cons, if_neg (by omega), Op.lookupswitch.offset_cons, if_neg (by omega), Op.lookupswitch.offset_cons, if_neg (by omega), Op.lookupswitch.offset_cons, if_neg (by omega), Op.lookupswitch.offset_cons, if_neg (by omega), Op.lookupswitch.offset_cons, if_pos (by omega)]) (by decide) ?_
    refine yi_G_run 1 (71, [(0, .inl x)], [.inl 1], (I, L, R, Y), 0, 0) (fun _ => rfl) ?_
    exact yi_G_reti rfl rfl (⟨_, rfl⟩)
  refine cl_G_lsw (off := 75) 76 rfl (by show Op.lookupswitch.offset [(31, 67), (32, 67), (42, 73), (43, 71), (45, 71), (60, 69), (61, 69)] _ _ = _; rw [Op.lookupswitch.offset_cons, if_neg (by omega), Op.lookupswitch.offset_cons, if_neg (by omega), Op.lookupswitch.offset_cons, if_neg (by omega), Op.lookupswitch.offset_cons, if_neg (by omega), Op.lookupswitch.offset_cons, if_neg (by omega), Op.lookupswitch.offset_cons, if_neg (by omega), Op.lookupswitch.offset_cons, if_neg (by omega), Op.lookupswitch.offset_nil]) (by decide) ?_
  refine yi_G_run 1 (77, [(0, .inl x)], [.inl (-1)], (I, L, R, Y), 0, 0) (fun _ => rfl) ?_
  exact yi_G_reti rfl rfl (⟨_, rfl⟩)
theorem k_readExpression_of {m : Nat} {lv dep : Int} (m0 : 4 ≤ m) (l0 : 0 ≤ lv ∧ lv ≤ 4) (hN : lv ≤ 3 → cl_RC 255 m [.inl (lv + 1), .inl dep]) (hPt : 4 ≤ lv → cl_RC 261 m [.inl dep]) : cl_RC 255 (m + 1) [.inl lv, .inl dep] := by
  intro D hD E I L R Y hC ha
  obtain ⟨d, rfl⟩ : ∃ d, D = d + 1 := ⟨D - 1, by omega⟩
  refine yi_E_of (M := zi_m255) rfl rfl ?_
  have hP : cl_P E I L R Y I L R Y := cl_P_r hC
  show yi_G zi_Ms d zi_m255 (0, [(0, .inr (.inr (some 11))), (1, .inl lv), (2, .inl dep)], [], (I, L, R, Y), 0, 0) _
  refine yi_G_run 2 (2, [(0, .inr (.inr (some 11))), (1, .inl lv), (2, .inl dep)], [.inl 4, .inl lv], (I, L, R, Y), 0, 0) (fun _ => rfl) ?_
  by_cases h1 : lv < 4
  · refine yi_G_if2 true rfl (yi_lt_t h1) ?_
    refine yi_G_run 3 (14, [(0, .inr (.inr (some 11))), (1, .inl lv), (2, .inl dep)], [.inl 1, .inl lv, .inr (.inr (some 11))], (I, L, R, Y), 0, 0) (fun _ => rfl) ?_
    refine yi_G_iadd rfl (lv + 1) (yi_wn (by omega) (by omega)) ?_
    refine yi_G_run 1 (16, [(0, .inr (.inr (some 11))), (1, .inl lv), (2, .inl dep)], [.inl dep, .inl (lv + 1), .inr (.inr (some 11))], (I, L, R, Y), 0, 0) (fun _ => rfl) ?_
    refine yi_G_callv rfl rfl (cl_rcv (cl_11 hP.1) rfl) rfl (hN (by omega) d (by omega) hP.1  (by omega)) ?_
    rintro _ ⟨I2, L2, rfl, hQ2, x2a, x2b, x2c⟩
    have hP2 := cl_P_t hP hQ2
    show yi_G zi_Ms d zi_m255 (19, [(0, .inr (.inr (some 11))), (1, .inl lv), (2, .inl dep)], [], (I2, L2, R, Y), 0, 0) _
    refine yi_G_run 2 (21, [(0, .inr (.inr (some 11))), (1, .inl lv), (2, .inl dep)], [.inl 1, .inl lv], (I2, L2, R, Y), 0, 0) (fun _ => rfl) ?_
    by_cases h3 : lv = 1
    · refine yi_G_if2 false rfl (yi_ne_f h3) ?_
      refine yi_G_run 5 (35, [(4, .inl 0), (3, .inl 1), (0, .inr (.inr (some 11))), (1, .inl lv), (2, .inl dep)], [], (I2, L2, R, Y), 0, 0) (fun _ => rfl) ?_
      have pt35 : ∀ (m_ : Nat) (n : Int) (Ip35 : cl_I) (Lp35 : cl_I), (cl_P E I L R Y Ip35 Lp35 R Y) → (0 ≤ n ∧ n ≤ 1000) → (I 11 3 ≤ Ip35 11 3) → (Ip35 11 11 = 0 → I 11 11 = 0) → (0 ≤ I 11 8 → 0 ≤ Ip35 11 8) → (1000 - n).toNat = m_ → yi_G zi_Ms d zi_m255 (35, [(4, .inl n), (3, .inl 1), (0, .inr (.inr (some 11))), (1, .inl lv), (2, .inl dep)], [], (Ip35, Lp35, R, Y), 0, 0) (fun r => ∃ I', ∃ L', r = (none, (I', L', R, Y), 0, 0) ∧ cl_P E I L R Y I' L' R Y ∧ (I 11 3 ≤ I' 11 3) ∧ (I' 11 11 = 0 → I 11 11 = 0) ∧ (0 ≤ I 11 8 → 0 ≤ I' 11 8)) := by
        intro m35
        induction m35 using Nat.strongRecOn with
        | _ m35 ih35 =>
        intro n Ip35 Lp35 hPp35 n0 ua va wa hm35
        refine yi_G_run 2 (38, [(4, .inl n), (3, .inl 1), (0, .inr (.inr (some 11))), (1, .inl lv), (2, .inl dep)], [.inl 1, .inl n], (Ip35, Lp35, R, Y), 0, 0) (fun _ => rfl) ?_
        by_cases h4 : 1 ≤ n
        · refine yi_G_if2 true rfl (yi_ge_t h4) ?_
          exact yi_G_retv rfl rfl (⟨_, _, rfl, hPp35, by omega, by omega, by omega⟩)
        · refine yi_G_if2 false rfl (yi_ge_f h4) ?_
          refine yi_G_run 1 (42, [(4, .inl n), (3, .inl 1), (0, .inr (.inr (some 11))), (1, .inl lv), (2, .inl dep)], [.inr (.inr (some 11))], (Ip35, Lp35, R, Y), 0, 0) (fun _ => rfl) ?_
          refine cl_G_gi rfl (cl_T_K (cl_11 hPp35.1)) rfl rfl rfl ?_
          by_cases h5 : (Ip35 11 11) = 0
          · refine yi_G_if1 false rfl (yi_ne_f h5) ?_
            refine yi_G_run 1 (49, [(4, .inl n), (3, .inl 1), (0, .inr (.inr (some 11))), (1, .inl lv), (2, .inl dep)], [.inr (.inr (some 11))], (Ip35, Lp35, R, Y), 0, 0) (fun _ => rfl) ?_
            refine cl_G_gi rfl (cl_T_K (cl_11 hPp35.1)) rfl rfl rfl ?_
            refine yi_G_calls rfl rfl (k_levelOf d (by omega) hPp35.1  ) ?_
            rintro _ ⟨z6, rfl⟩
            show yi_G zi_Ms d zi_m255 (55, [(4, .inl n), (3, .inl 1), (0, .inr (.inr (some 11))), (1, .inl lv), (2, .inl dep)], [.inl z6], (Ip35, Lp35, R, Y), 0, 0) _
            refine yi_G_run 1 (56, [(4, .inl n), (3, .inl 1), (0, .inr (.inr (some 11))), (1, .inl lv), (2, .inl dep)], [.inl lv, .inl z6], (Ip35, Lp35, R, Y), 0, 0) (fun _ => rfl) ?_
            by_cases h7 : z6 = lv
            · refine yi_G_if2 false rfl (yi_ne_f h7) ?_
              refine yi_G_run 1 (60, [(4, .inl n), (3, .inl 1), (0, .inr (.inr (some 11))), (1, .inl lv), (2, .inl dep)], [.inr (.inr (some 11))], (Ip35, Lp35, R, Y), 0, 0) (fun _ => rfl) ?_
              refine cl_G_gi rfl (cl_T_K (cl_11 hPp35.1)) rfl rfl rfl ?_
              refine yi_G_run 2 (66, [(5, .inl (Ip35 11 9)), (4, .inl n), (3, .inl 1), (0, .inr (.inr (some 11))), (1, .inl lv), (2, .inl dep)], [.inr (.inr (some 11))], (Ip35, Lp35, R, Y), 0, 0) (fun _ => rfl) ?_
              refine yi_G_callv rfl rfl (cl_rcv (cl_11 hPp35.1) rfl) rfl (k_advanceR d (by omega) hPp35.1  ) ?_
              rintro _ ⟨I8, L8, rfl, hQ8, x8a, x8b, x8c, x8d, x8e, x8f, x8g⟩
              have hP8 := cl_P_t hPp35 hQ8
              show yi_G zi_Ms d zi_m255 (69, [(5, .inl (Ip35 11 9)), (4, .inl n), (3, .inl 1), (0, .inr (.inr (some 11))), (1, .inl lv), (2, .inl dep)], [], (I8, L8, R, Y), 0, 0) _
              refine yi_G_run 3 (72, [(5, .inl (Ip35 11 9)), (4, .inl n), (3, .inl 1), (0, .inr (.inr (some 11))), (1, .inl lv), (2, .inl dep)], [.inl 1, .inl lv, .inr (.inr (some 11))], (I8, L8, R, Y), 0, 0) (fun _ => rfl) ?_
              refine yi_G_iadd rfl (lv + 1) (yi_wn (by omega) (by omega)) ?_
              refine yi_G_run 1 (74, [(5, .inl (Ip35 11 9)), (4, .inl n), (3, .inl 1), (0, .inr (.inr (some 11))), (1, .inl lv), (2, .inl dep)], [.inl dep, .inl (lv + 1), .inr (.inr (some 11))], (I8, L8, R, Y), 0, 0) (fun _ => rfl) ?_
              refine yi_G_callv rfl rfl (cl_rcv (cl_11 hP8.1) rfl) rfl (hN (by omega) d (by omega) hP8.1  (by omega)) ?_
              rintro _ ⟨I9, L9, rfl, hQ9, x9a, x9b, x9c⟩
              have hP9 := cl_P_t hP8 hQ9
              show yi_G zi_Ms d zi_m255 (77, [(5, .inl (Ip35 11 9)), (4, .inl n), (3, .inl 1), (0, .inr (.inr (some 11))), (1, .inl lv), (2, .inl dep)], [], (I9, L9, R, Y), 0, 0) _
              refine yi_G_run 2 (80, [(5, .inl (Ip35 11 9)), (4, .inl n), (3, .inl 1), (0, .inr (.inr (some 11))), (1, .inl lv), (2, .inl dep)], [.inl (Ip35 11 9), .inr (.inr (some 11))], (I9, L9, R, Y), 0, 0) (fun _ => rfl) ?_
              refine yi_G_callv rfl rfl (cl_rcv (cl_11 hP9.1) rfl) rfl (k_emitR d (by omega) hP9.1  ) ?_
              rintro _ ⟨I10, rfl, hQ10, x10a, x10b, x10c⟩
              have hP10 := cl_P_t hP9 hQ10
              show yi_G zi_Ms d zi_m255 (83, [(5, .inl (Ip35 11 9)), (4, .inl n), (3, .inl 1), (0, .inr (.inr (some 11))), (1, .inl lv), (2, .inl dep)], [], (I10, L9, R, Y), 0, 0) _
              refine yi_G_iinc [(4, .inl (n + 1)), (5, .inl (Ip35 11 9)), (3, .inl 1), (0, .inr (.inr (some 11))), (1, .inl lv), (2, .inl dep)] rfl rfl rfl (by rw [show yi_w (n + 1) = n + 1 from (yi_wn (by omega) (by omega)).trans (by omega)]; rfl) ?_
              refine yi_G_run 1 (35, [(4, .inl (n + 1)), (5, .inl (Ip35 11 9)), (3, .inl 1), (0, .inr (.inr (some 11))), (1, .inl lv), (2, .inl dep)], [], (I10, L9, R, Y), 0, 0) (fun _ => rfl) ?_
              refine yi_G_al (al := [(4, .inl (n + 1)), (3, .inl 1), (0, .inr (.inr (some 11))), (1, .inl lv), (2, .inl dep)]) (show ([4, 3, 0, 1, 2] : List Nat).Nodup by decide) (show ([4, 5, 3, 0, 1, 2] : List Nat).Nodup by decide) (yi_mc (List.mem_of_getElem? (i := 0) rfl) (yi_mc (List.mem_of_getElem? (i := 2) rfl) (yi_mc (List.mem_of_getElem? (i := 3) rfl) (yi_mc (List.mem_of_getElem? (i := 4) rfl) (yi_mc (List.mem_of_getElem? (i := 5) rfl) yi_mn))))) ?_
              exact ih35 _ (by omega) (n + 1) I10 L9 hP10 (by omega) (by omega) (by omega) (by omega) rfl
            · refine yi_G_if2 true rfl (yi_ne_t h7) ?_
              exact yi_G_retv rfl rfl (⟨_, _, rfl, hPp35, by omega, by omega, by omega⟩)
          · refine yi_G_if1 true rfl (yi_ne_t h5) ?_
            exact yi_G_retv rfl rfl (⟨_, _, rfl, hPp35, by omega, by omega, by omega⟩)
      exact pt35 _ 0 I2 L2 hP2 (by omega) (by omega) (by omega) (by omega) rfl
    · refine yi_G_if2 true rfl (yi_ne_t h3) ?_
      refine yi_G_run 4 (35, [(4, .inl 0), (3, .inl 1000), (0, .inr (.inr (some 11))), (1, .inl lv), (2, .inl dep)], [], (I2, L2, R, Y), 0, 0) (fun _ => rfl) ?_
      have pt35 : ∀ (m_ : Nat) (n : Int) (Ip35 : cl_I) (Lp35 : cl_I), (cl_P E I L R Y Ip35 Lp35 R Y) → (0 ≤ n ∧ n ≤ 1000) → (I 11 3 ≤ Ip35 11 3) → (Ip35 11 11 = 0 → I 11 11 = 0) → (0 ≤ I 11 8 → 0 ≤ Ip35 11 8) → (1000 - n).toNat = m_ → yi_G zi_Ms d zi_m255 (35, [(4, .inl n), (3, .inl 1000), (0, .inr (.inr (some 11))), (1, .inl lv), (2, .inl dep)], [], (Ip35, Lp35, R, Y), 0, 0) (fun r => ∃ I', ∃ L', r = (none, (I', L', R, Y), 0, 0) ∧ cl_P E I L R Y I' L' R Y ∧ (I 11 3 ≤ I' 11 3) ∧ (I' 11 11 = 0 → I 11 11 = 0) ∧ (0 ≤ I 11 8 → 0 ≤ I' 11 8)) := by
        intro m35
        induction m35 using Nat.strongRecOn with
        | _ m35 ih35 =>
        intro n Ip35 Lp35 hPp35 n0 ua va wa hm35
        refine yi_G_run 2 (38, [(4, .inl n), (3, .inl 1000), (0, .inr (.inr (some 11))), (1, .inl lv), (2, .inl dep)], [.inl 1000, .inl n], (Ip35, Lp35, R, Y), 0, 0) (fun _ => rfl) ?_
        by_cases h11 : 1000 ≤ n
        · refine yi_G_if2 true rfl (yi_ge_t h11) ?_
          exact yi_G_retv rfl rfl (⟨_, _, rfl, hPp35, by omega, by omega, by omega⟩)
        · refine yi_G_if2 false rfl (yi_ge_f h11) ?_
          refine yi_G_run 1 (42, [(4, .inl n), (3, .inl 1000), (0, .inr (.inr (some 11))), (1, .inl lv), (2, .inl dep)], [.inr (.inr (some 11))], (Ip35, Lp35, R, Y), 0, 0) (fun _ => rfl) ?_
          refine cl_G_gi rfl (cl_T_K (cl_11 hPp35.1)) rfl rfl rfl ?_
          by_cases h12 : (Ip35 11 11) = 0
          · refine yi_G_if1 false rfl (yi_ne_f h12) ?_
            refine yi_G_run 1 (49, [(4, .inl n), (3, .inl 1000), (0, .inr (.inr (some 11))), (1, .inl lv), (2, .inl dep)], [.inr (.inr (some 11))], (Ip35, Lp35, R, Y), 0, 0) (fun _ => rfl) ?_
            refine cl_G_gi rfl (cl_T_K (cl_11 hPp35.1)) rfl rfl rfl ?_
            refine yi_G_calls rfl rfl (k_levelOf d (by omega) hPp35.1  ) ?_
            rintro _ ⟨z13, rfl⟩
            show yi_G zi_Ms d zi_m255 (55, [(4, .inl n), (3, .inl 1000), (0, .inr (.inr (some 11))), (1, .inl lv), (2, .inl dep)], [.inl z13], (Ip35, Lp35, R, Y), 0, 0) _
            refine yi_G_run 1 (56, [(4, .inl n), (3, .inl 1000), (0, .inr (.inr (some 11))), (1, .inl lv), (2, .inl dep)], [.inl lv, .inl z13], (Ip35, Lp35, R, Y), 0, 0) (fun _ => rfl) ?_
            by_cases h14 : z13 = lv
            · refine yi_G_if2 false rfl (yi_ne_f h14) ?_
              refine yi_G_run 1 (60, [(4, .inl n), (3, .inl 1000), (0, .inr (.inr (some 11))), (1, .inl lv), (2, .inl dep)], [.inr (.inr (some 11))], (Ip35, Lp35, R, Y), 0, 0) (fun _ => rfl) ?_
              refine cl_G_gi rfl (cl_T_K (cl_11 hPp35.1)) rfl rfl rfl ?_
              refine yi_G_run 2 (66, [(5, .inl (Ip35 11 9)), (4, .inl n), (3, .inl 1000), (0, .inr (.inr (some 11))), (1, .inl lv), (2, .inl dep)], [.inr (.inr (some 11))], (Ip35, Lp35, R, Y), 0, 0) (fun _ => rfl) ?_
              refine yi_G_callv rfl rfl (cl_rcv (cl_11 hPp35.1) rfl) rfl (k_advanceR d (by omega) hPp35.1  ) ?_
              rintro _ ⟨I15, L15, rfl, hQ15, x15a, x15b, x15c, x15d, x15e, x15f, x15g⟩
              have hP15 := cl_P_t hPp35 hQ15
              show yi_G zi_Ms d zi_m255 (69, [(5, .inl (Ip35 11 9)), (4, .inl n), (3, .inl 1000), (0, .inr (.inr (some 11))), (1, .inl lv), (2, .inl dep)], [], (I15, L15, R, Y), 0, 0) _
              refine yi_G_run 3 (72, [(5, .inl (Ip35 11 9)), (4, .inl n), (3, .inl 1000), (0, .inr (.inr (some 11))), (1, .inl lv), (2, .inl dep)], [.inl 1, .inl lv, .inr (.inr (some 11))], (I15, L15, R, Y), 0, 0) (fun _ => rfl) ?_
              refine yi_G_iadd rfl (lv + 1) (yi_wn (by omega) (by omega)) ?_
              refine yi_G_run 1 (74, [(5, .inl (Ip35 11 9)), (4, .inl n), (3, .inl 1000), (0, .inr (.inr (some 11))), (1, .inl lv), (2, .inl dep)], [.inl dep, .inl (lv + 1), .inr (.inr (some 11))], (I15, L15, R, Y), 0, 0) (fun _ => rfl) ?_
              refine yi_G_callv rfl rfl (cl_rcv (cl_11 hP15.1) rfl) rfl (hN (by omega) d (by omega) hP15.1  (by omega)) ?_
              rintro _ ⟨I16, L16, rfl, hQ16, x16a, x16b, x16c⟩
              have hP16 := cl_P_t hP15 hQ16
              show yi_G zi_Ms d zi_m255 (77, [(5, .inl (Ip35 11 9)), (4, .inl n), (3, .inl 1000), (0, .inr (.inr (some 11))), (1, .inl lv), (2, .inl dep)], [], (I16, L16, R, Y), 0, 0) _
              refine yi_G_run 2 (80, [(5, .inl (Ip35 11 9)), (4, .inl n), (3, .inl 1000), (0, .inr (.inr (some 11))), (1, .inl lv), (2, .inl dep)], [.inl (Ip35 11 9), .inr (.inr (some 11))], (I16, L16, R, Y), 0, 0) (fun _ => rfl) ?_
              refine yi_G_callv rfl rfl (cl_rcv (cl_11 hP16.1) rfl) rfl (k_emitR d (by omega) hP16.1  ) ?_
              rintro _ ⟨I17, rfl, hQ17, x17a, x17b, x17c⟩
              have hP17 := cl_P_t hP16 hQ17
              show yi_G zi_Ms d zi_m255 (83, [(5, .inl (Ip35 11 9)), (4, .inl n), (3, .inl 1000), (0, .inr (.inr (some 11))), (1, .inl lv), (2, .inl dep)], [], (I17, L16, R, Y), 0, 0) _
              refine yi_G_iinc [(4, .inl (n + 1)), (5, .inl (Ip35 11 9)), (3, .inl 1000), (0, .inr (.inr (some 11))), (1, .inl lv), (2, .inl dep)] rfl rfl rfl (by rw [show yi_w (n + 1) = n + 1 from (yi_wn (by omega) (by omega)).trans (by omega)]; rfl) ?_
              refine yi_G_run 1 (35, [(4, .inl (n + 1)), (5, .inl (Ip35 11 9)), (3, .inl 1000), (0, .inr (.inr (some 11))), (1, .inl lv), (2, .inl dep)], [], (I17, L16, R, Y), 0, 0) (fun _ => rfl) ?_
              refine yi_G_al (al := [(4, .inl (n + 1)), (3, .inl 1000), (0, .inr (.inr (some 11))), (1, .inl lv), (2, .inl dep)]) (show ([4, 3, 0, 1, 2] : List Nat).Nodup by decide) (show ([4, 5, 3, 0, 1, 2] : List Nat).Nodup by decide) (yi_mc (List.mem_of_getElem? (i := 0) rfl) (yi_mc (List.mem_of_getElem? (i := 2) rfl) (yi_mc (List.mem_of_getElem? (i := 3) rfl) (yi_mc (List.mem_of_getElem? (i := 4) rfl) (yi_mc (List.mem_of_getElem? (i := 5) rfl) yi_mn))))) ?_
              exact ih35 _ (by omega) (n + 1) I17 L16 hP17 (by omega) (by omega) (by omega) (by omega) rfl
            · refine yi_G_if2 true rfl (yi_ne_t h14) ?_
              exact yi_G_retv rfl rfl (⟨_, _, rfl, hPp35, by omega, by omega, by omega⟩)
          · refine yi_G_if1 true rfl (yi_ne_t h12) ?_
            exact yi_G_retv rfl rfl (⟨_, _, rfl, hPp35, by omega, by omega, by omega⟩)
      exact pt35 _ 0 I2 L2 hP2 (by omega) (by omega) (by omega) (by omega) rfl
  · refine yi_G_if2 false rfl (yi_lt_f h1) ?_
    refine yi_G_run 2 (7, [(0, .inr (.inr (some 11))), (1, .inl lv), (2, .inl dep)], [.inl dep, .inr (.inr (some 11))], (I, L, R, Y), 0, 0) (fun _ => rfl) ?_
    refine yi_G_callv rfl rfl (cl_rcv (cl_11 hP.1) rfl) rfl (hPt (by omega) d (by omega) hP.1  (by omega)) ?_
    rintro _ ⟨I18, L18, rfl, hQ18, x18a, x18b, x18c⟩
    have hP18 := cl_P_t hP hQ18
    show yi_G zi_Ms d zi_m255 (10, [(0, .inr (.inr (some 11))), (1, .inl lv), (2, .inl dep)], [], (I18, L18, R, Y), 0, 0) _
    exact yi_G_retv rfl rfl (⟨_, _, rfl, hP18, by omega, by omega, by omega⟩)
theorem k_readPart_of {m : Nat} {dep : Int} (m0 : 4 ≤ m) (hIt : dep ≤ 4 → cl_RC 261 m [.inl (dep + 1)]) (hEx : dep ≤ 4 → cl_RC 255 m [.inl 0, .inl (dep + 1)]) (d0 : 0 ≤ dep ∧ dep ≤ 5) : cl_RC 261 (m + 1) [.inl dep] := by
  intro D hD E I L R Y hC ha
  obtain ⟨d, rfl⟩ : ∃ d, D = d + 1 := ⟨D - 1, by omega⟩
  refine yi_E_of (M := zi_m261) rfl rfl ?_
  have hP : cl_P E I L R Y I L R Y := cl_P_r hC
  show yi_G zi_Ms d zi_m261 (0, [(0, .inr (.inr (some 11))), (1, .inl dep)], [], (I, L, R, Y), 0, 0) _
  refine yi_G_run 1 (1, [(0, .inr (.inr (some 11))), (1, .inl dep)], [.inr (.inr (some 11))], (I, L, R, Y), 0, 0) (fun _ => rfl) ?_
  refine cl_G_gi rfl (cl_T_K (cl_11 hP.1)) rfl rfl rfl ?_
  refine yi_G_run 1 (5, [(2, .inl (I 11 9)), (0, .inr (.inr (some 11))), (1, .inl dep)], [], (I, L, R, Y), 0, 0) (fun _ => rfl) ?_
  have pt31 : ∀ (fa : Int), yi_G zi_Ms d zi_m261 (31, [(2, .inl (I 11 9)), (0, .inr (.inr (some 11))), (1, .inl dep), (3, .inl fa)], [], (I, L, R, Y), 0, 0) (fun r => ∃ I', ∃ L', r = (none, (I', L', R, Y), 0, 0) ∧ cl_P E I L R Y I' L' R Y ∧ (I 11 3 ≤ I' 11 3) ∧ (I' 11 11 = 0 → I 11 11 = 0) ∧ (0 ≤ I 11 8 → 0 ≤ I' 11 8)) := by
    intro fa
    have pt71 : ∀ (Ip71 : cl_I), (cl_P E I L R Y Ip71 L R Y) → (I 11 3 ≤ Ip71 11 3) → (Ip71 11 11 = 0 → I 11 11 = 0) → (0 ≤ I 11 8 → 0 ≤ Ip71 11 8) → (Ip71 11 11 = 0 → dep ≤ 4) → yi_G zi_Ms d zi_m261 (71, [(2, .inl (I 11 9)), (0, .inr (.inr (some 11))), (1, .inl dep), (3, .inl fa)], [], (Ip71, L, R, Y), 0, 0) (fun r => ∃ I', ∃ L', r = (none, (I', L', R, Y), 0, 0) ∧ cl_P E I L R Y I' L' R Y ∧ (I 11 3 ≤ I' 11 3) ∧ (I' 11 11 = 0 → I 11 11 = 0) ∧ (0 ≤ I 11 8 → 0 ≤ I' 11 8)) := by
      intro Ip71 hPp71 ub vb wb kb
      refine yi_G_run 1 (72, [(2, .inl (I 11 9)), (0, .inr (.inr (some 11))), (1, .inl dep), (3, .inl fa)], [.inr (.inr (some 11))], (Ip71, L, R, Y), 0, 0) (fun _ => rfl) ?_
      refine cl_G_gi rfl (cl_T_K (cl_11 hPp71.1)) rfl rfl rfl ?_
      by_cases h1 : (Ip71 11 11) = 0
      · refine yi_G_if1 true rfl (yi_eq_t h1) ?_
        have pt95 : ∀ (op : Int), yi_G zi_Ms d zi_m261 (95, [(2, .inl (I 11 9)), (0, .inr (.inr (some 11))), (1, .inl dep), (3, .inl fa), (4, .inl op)], [], (Ip71, L, R, Y), 0, 0) (fun r => ∃ I', ∃ L', r = (none, (I', L', R, Y), 0, 0) ∧ cl_P E I L R Y I' L' R Y ∧ (I 11 3 ≤ I' 11 3) ∧ (I' 11 11 = 0 → I 11 11 = 0) ∧ (0 ≤ I 11 8 → 0 ≤ I' 11 8)) := by
          intro op
          refine yi_G_run 1 (96, [(2, .inl (I 11 9)), (0, .inr (.inr (some 11))), (1, .inl dep), (3, .inl fa), (4, .inl op)], [.inr (.inr (some 11))], (Ip71, L, R, Y), 0, 0) (fun _ => rfl) ?_
          refine yi_G_callv rfl rfl (cl_rcv (cl_11 hPp71.1) rfl) rfl (k_advanceR d (by omega) hPp71.1  ) ?_
          rintro _ ⟨I2, L2, rfl, hQ2, x2a, x2b, x2c, x2d, x2e, x2f, x2g⟩
          have hP2 := cl_P_t hPp71 hQ2
          show yi_G zi_Ms d zi_m261 (99, [(2, .inl (I 11 9)), (0, .inr (.inr (some 11))), (1, .inl dep), (3, .inl fa), (4, .inl op)], [], (I2, L2, R, Y), 0, 0) _
          refine yi_G_run 2 (102, [(2, .inl (I 11 9)), (0, .inr (.inr (some 11))), (1, .inl dep), (3, .inl fa), (4, .inl op)], [.inl 30, .inl (I 11 9)], (I2, L2, R, Y), 0, 0) (fun _ => rfl) ?_
          by_cases h3 : (I 11 9) = 30
          · refine yi_G_if2 false rfl (yi_ne_f h3) ?_
            refine yi_G_run 3 (108, [(2, .inl (I 11 9)), (0, .inr (.inr (some 11))), (1, .inl dep), (3, .inl fa), (4, .inl op)], [.inl 1, .inl dep, .inr (.inr (some 11))], (I2, L2, R, Y), 0, 0) (fun _ => rfl) ?_
            refine yi_G_iadd rfl (dep + 1) (yi_wn (by omega) (by omega)) ?_
            refine yi_G_callv rfl rfl (cl_rcv (cl_11 hP2.1) rfl) rfl (hIt (by omega) d (by omega) hP2.1  (by omega)) ?_
            rintro _ ⟨I4, L4, rfl, hQ4, x4a, x4b, x4c⟩
            have hP4 := cl_P_t hP2 hQ4
            show yi_G zi_Ms d zi_m261 (112, [(2, .inl (I 11 9)), (0, .inr (.inr (some 11))), (1, .inl dep), (3, .inl fa), (4, .inl op)], [], (I4, L4, R, Y), 0, 0) _
            refine yi_G_run 2 (115, [(2, .inl (I 11 9)), (0, .inr (.inr (some 11))), (1, .inl dep), (3, .inl fa), (4, .inl op)], [.inl 30, .inr (.inr (some 11))], (I4, L4, R, Y), 0, 0) (fun _ => rfl) ?_
            refine yi_G_callv rfl rfl (cl_rcv (cl_11 hP4.1) rfl) rfl (k_emitR d (by omega) hP4.1  ) ?_
            rintro _ ⟨I5, rfl, hQ5, x5a, x5b, x5c⟩
            have hP5 := cl_P_t hP4 hQ5
            show yi_G zi_Ms d zi_m261 (118, [(2, .inl (I 11 9)), (0, .inr (.inr (some 11))), (1, .inl dep), (3, .inl fa), (4, .inl op)], [], (I5, L4, R, Y), 0, 0) _
            refine yi_G_run 1 (155, [(2, .inl (I 11 9)), (0, .inr (.inr (some 11))), (1, .inl dep), (3, .inl fa), (4, .inl op)], [], (I5, L4, R, Y), 0, 0) (fun _ => rfl) ?_
            exact yi_G_retv rfl rfl (⟨_, _, rfl, hP5, by omega, by omega, by omega⟩)
          · refine yi_G_if2 true rfl (yi_ne_t h3) ?_
            refine yi_G_run 2 (124, [(2, .inl (I 11 9)), (0, .inr (.inr (some 11))), (1, .inl dep), (3, .inl fa), (4, .inl op)], [.inl 40, .inl (I 11 9)], (I2, L2, R, Y), 0, 0) (fun _ => rfl) ?_
            by_cases h6 : (I 11 9) = 40
            · refine yi_G_if2 false rfl (yi_ne_f h6) ?_
              refine yi_G_run 4 (131, [(2, .inl (I 11 9)), (0, .inr (.inr (some 11))), (1, .inl dep), (3, .inl fa), (4, .inl op)], [.inl 1, .inl dep, .inl 0, .inr (.inr (some 11))], (I2, L2, R, Y), 0, 0) (fun _ => rfl) ?_
              refine yi_G_iadd rfl (dep + 1) (yi_wn (by omega) (by omega)) ?_
              refine yi_G_callv rfl rfl (cl_rcv (cl_11 hP2.1) rfl) rfl (hEx (by omega) d (by omega) hP2.1  (by omega)) ?_
              rintro _ ⟨I7, L7, rfl, hQ7, x7a, x7b, x7c⟩
              have hP7 := cl_P_t hP2 hQ7
              show yi_G zi_Ms d zi_m261 (135, [(2, .inl (I 11 9)), (0, .inr (.inr (some 11))), (1, .inl dep), (3, .inl fa), (4, .inl op)], [], (I7, L7, R, Y), 0, 0) _
              refine yi_G_run 2 (138, [(2, .inl (I 11 9)), (0, .inr (.inr (some 11))), (1, .inl dep), (3, .inl fa), (4, .inl op)], [.inl 41, .inr (.inr (some 11))], (I7, L7, R, Y), 0, 0) (fun _ => rfl) ?_
              refine yi_G_callv rfl rfl (cl_rcv (cl_11 hP7.1) rfl) rfl (k_takeKindR d (by omega) hP7.1  ) ?_
              rintro _ ⟨I8, L8, rfl, hQ8, x8a, x8b, x8c, x8d⟩
              have hP8 := cl_P_t hP7 hQ8
              show yi_G zi_Ms d zi_m261 (141, [(2, .inl (I 11 9)), (0, .inr (.inr (some 11))), (1, .inl dep), (3, .inl fa), (4, .inl op)], [], (I8, L8, R, Y), 0, 0) _
              refine yi_G_run 1 (155, [(2, .inl (I 11 9)), (0, .inr (.inr (some 11))), (1, .inl dep), (3, .inl fa), (4, .inl op)], [], (I8, L8, R, Y), 0, 0) (fun _ => rfl) ?_
              exact yi_G_retv rfl rfl (⟨_, _, rfl, hP8, by omega, by omega, by omega⟩)
            · refine yi_G_if2 true rfl (yi_ne_t h6) ?_
              refine yi_G_run 6 (152, [(2, .inl (I 11 9)), (0, .inr (.inr (some 11))), (1, .inl dep), (3, .inl fa), (4, .inl op)], [.inl (yi_ior (I 11 9) (yi_shl op 8)), .inr (.inr (some 11))], (I2, L2, R, Y), 0, 0) (fun _ => rfl) ?_
              refine yi_G_callv rfl rfl (cl_rcv (cl_11 hP2.1) rfl) rfl (k_emitR d (by omega) hP2.1  ) ?_
              rintro _ ⟨I9, rfl, hQ9, x9a, x9b, x9c⟩
              have hP9 := cl_P_t hP2 hQ9
              show yi_G zi_Ms d zi_m261 (155, [(2, .inl (I 11 9)), (0, .inr (.inr (some 11))), (1, .inl dep), (3, .inl fa), (4, .inl op)], [], (I9, L2, R, Y), 0, 0) _
              exact yi_G_retv rfl rfl (⟨_, _, rfl, hP9, by omega, by omega, by omega⟩)
        refine yi_G_run 2 (81, [(2, .inl (I 11 9)), (0, .inr (.inr (some 11))), (1, .inl dep), (3, .inl fa)], [.inl 3, .inl (I 11 9)], (Ip71, L, R, Y), 0, 0) (fun _ => rfl) ?_
        by_cases h10 : (I 11 9) = 3
        · refine yi_G_if2 false rfl (yi_ne_f h10) ?_
          refine yi_G_run 3 (95, [(4, .inl fa), (2, .inl (I 11 9)), (0, .inr (.inr (some 11))), (1, .inl dep), (3, .inl fa)], [], (Ip71, L, R, Y), 0, 0) (fun _ => rfl) ?_
          refine yi_G_al (al := [(2, .inl (I 11 9)), (0, .inr (.inr (some 11))), (1, .inl dep), (3, .inl fa), (4, .inl fa)]) (show ([2, 0, 1, 3, 4] : List Nat).Nodup by decide) (show ([4, 2, 0, 1, 3] : List Nat).Nodup by decide) (yi_mc (List.mem_of_getElem? (i := 1) rfl) (yi_mc (List.mem_of_getElem? (i := 2) rfl) (yi_mc (List.mem_of_getElem? (i := 3) rfl) (yi_mc (List.mem_of_getElem? (i := 4) rfl) (yi_mc (List.mem_of_getElem? (i := 0) rfl) yi_mn))))) ?_
          exact pt95 fa 
        · refine yi_G_if2 true rfl (yi_ne_t h10) ?_
          refine yi_G_run 1 (89, [(2, .inl (I 11 9)), (0, .inr (.inr (some 11))), (1, .inl dep), (3, .inl fa)], [.inr (.inr (some 11))], (Ip71, L, R, Y), 0, 0) (fun _ => rfl) ?_
          refine cl_G_gl rfl (cl_T_K (cl_11 hPp71.1)) rfl rfl rfl ?_
          refine yi_G_run 2 (95, [(4, .inl (yi_w (L 11 10))), (2, .inl (I 11 9)), (0, .inr (.inr (some 11))), (1, .inl dep), (3, .inl fa)], [], (Ip71, L, R, Y), 0, 0) (fun _ => rfl) ?_
          refine yi_G_al (al := [(2, .inl (I 11 9)), (0, .inr (.inr (some 11))), (1, .inl dep), (3, .inl fa), (4, .inl (yi_w (L 11 10)))]) (show ([2, 0, 1, 3, 4] : List Nat).Nodup by decide) (show ([4, 2, 0, 1, 3] : List Nat).Nodup by decide) (yi_mc (List.mem_of_getElem? (i := 1) rfl) (yi_mc (List.mem_of_getElem? (i := 2) rfl) (yi_mc (List.mem_of_getElem? (i := 3) rfl) (yi_mc (List.mem_of_getElem? (i := 4) rfl) (yi_mc (List.mem_of_getElem? (i := 0) rfl) yi_mn))))) ?_
          exact pt95 (yi_w (L 11 10)) 
      · refine yi_G_if1 false rfl (yi_eq_f h1) ?_
        exact yi_G_retv rfl rfl (⟨_, _, rfl, hPp71, by omega, by omega, by omega⟩)
    refine yi_G_run 2 (33, [(2, .inl (I 11 9)), (0, .inr (.inr (some 11))), (1, .inl dep), (3, .inl fa)], [.inl 2, .inl (I 11 9)], (I, L, R, Y), 0, 0) (fun _ => rfl) ?_
    by_cases h11 : (I 11 9) = 2
    · refine yi_G_if2 true rfl (yi_eq_t h11) ?_
      refine yi_G_run 2 (63, [(2, .inl (I 11 9)), (0, .inr (.inr (some 11))), (1, .inl dep), (3, .inl fa)], [.inl 5, .inl dep], (I, L, R, Y), 0, 0) (fun _ => rfl) ?_
      by_cases h12 : dep < 5
      · refine yi_G_if2 true rfl (yi_lt_t h12) ?_
        exact pt71 I hP (by omega) (by omega) (by omega) (by omega)
      · refine yi_G_if2 false rfl (yi_lt_f h12) ?_
        refine yi_G_run 2 (68, [(2, .inl (I 11 9)), (0, .inr (.inr (some 11))), (1, .inl dep), (3, .inl fa)], [.inl 5, .inr (.inr (some 11))], (I, L, R, Y), 0, 0) (fun _ => rfl) ?_
        refine yi_G_callv rfl rfl (cl_rcv (cl_11 hP.1) rfl) rfl (k_wrongR d (by omega) hP.1  (by omega)) ?_
        rintro _ ⟨I13, rfl, hQ13, x13a, x13b, x13c, x13d⟩
        have hP13 := cl_P_t hP hQ13
        show yi_G zi_Ms d zi_m261 (71, [(2, .inl (I 11 9)), (0, .inr (.inr (some 11))), (1, .inl dep), (3, .inl fa)], [], (I13, L, R, Y), 0, 0) _
        exact pt71 I13 hP13 (by omega) (by omega) (by omega) (by omega)
    · refine yi_G_if2 false rfl (yi_eq_f h11) ?_
      refine yi_G_run 2 (39, [(2, .inl (I 11 9)), (0, .inr (.inr (some 11))), (1, .inl dep), (3, .inl fa)], [.inl 30, .inl (I 11 9)], (I, L, R, Y), 0, 0) (fun _ => rfl) ?_
      by_cases h14 : (I 11 9) = 30
      · refine yi_G_if2 true rfl (yi_eq_t h14) ?_
        refine yi_G_run 2 (63, [(2, .inl (I 11 9)), (0, .inr (.inr (some 11))), (1, .inl dep), (3, .inl fa)], [.inl 5, .inl dep], (I, L, R, Y), 0, 0) (fun _ => rfl) ?_
        by_cases h15 : dep < 5
        · refine yi_G_if2 true rfl (yi_lt_t h15) ?_
          exact pt71 I hP (by omega) (by omega) (by omega) (by omega)
        · refine yi_G_if2 false rfl (yi_lt_f h15) ?_
          refine yi_G_run 2 (68, [(2, .inl (I 11 9)), (0, .inr (.inr (some 11))), (1, .inl dep), (3, .inl fa)], [.inl 5, .inr (.inr (some 11))], (I, L, R, Y), 0, 0) (fun _ => rfl) ?_
          refine yi_G_callv rfl rfl (cl_rcv (cl_11 hP.1) rfl) rfl (k_wrongR d (by omega) hP.1  (by omega)) ?_
          rintro _ ⟨I16, rfl, hQ16, x16a, x16b, x16c, x16d⟩
          have hP16 := cl_P_t hP hQ16
          show yi_G zi_Ms d zi_m261 (71, [(2, .inl (I 11 9)), (0, .inr (.inr (some 11))), (1, .inl dep), (3, .inl fa)], [], (I16, L, R, Y), 0, 0) _
          exact pt71 I16 hP16 (by omega) (by omega) (by omega) (by omega)
      · refine yi_G_if2 false rfl (yi_eq_f h14) ?_
        refine yi_G_run 2 (45, [(2, .inl (I 11 9)), (0, .inr (.inr (some 11))), (1, .inl dep), (3, .inl fa)], [.inl 40, .inl (I 11 9)], (I, L, R, Y), 0, 0) (fun _ => rfl) ?_
        by_cases h17 : (I 11 9) = 40
        · refine yi_G_if2 true rfl (yi_eq_t h17) ?_
          refine yi_G_run 2 (63, [(2, .inl (I 11 9)), (0, .inr (.inr (some 11))), (1, .inl dep), (3, .inl fa)], [.inl 5, .inl dep], (I, L, R, Y), 0, 0) (fun _ => rfl) ?_
          by_cases h18 : dep < 5
          · refine yi_G_if2 true rfl (yi_lt_t h18) ?_
            exact pt71 I hP (by omega) (by omega) (by omega) (by omega)
          · refine yi_G_if2 false rfl (yi_lt_f h18) ?_
            refine yi_G_run 2 (68, [(2, .inl (I 11 9)), (0, .inr (.inr (some 11))), (1, .inl dep), (3, .inl fa)], [.inl 5, .inr (.inr (some 11))], (I, L, R, Y), 0, 0) (fun _ => rfl) ?_
            refine yi_G_callv rfl rfl (cl_rcv (cl_11 hP.1) rfl) rfl (k_wrongR d (by omega) hP.1  (by omega)) ?_
            rintro _ ⟨I19, rfl, hQ19, x19a, x19b, x19c, x19d⟩
            have hP19 := cl_P_t hP hQ19
            show yi_G zi_Ms d zi_m261 (71, [(2, .inl (I 11 9)), (0, .inr (.inr (some 11))), (1, .inl dep), (3, .inl fa)], [], (I19, L, R, Y), 0, 0) _
            exact pt71 I19 hP19 (by omega) (by omega) (by omega) (by omega)
        · refine yi_G_if2 false rfl (yi_eq_f h17) ?_
          refine yi_G_run 2 (50, [(2, .inl (I 11 9)), (0, .inr (.inr (some 11))), (1, .inl dep), (3, .inl fa)], [.inl (-1), .inl fa], (I, L, R, Y), 0, 0) (fun _ => rfl) ?_
          by_cases h20 : fa = (-1)
          · refine yi_G_if2 false rfl (yi_ne_f h20) ?_
            refine yi_G_run 2 (55, [(2, .inl (I 11 9)), (0, .inr (.inr (some 11))), (1, .inl dep), (3, .inl fa)], [.inl 1, .inr (.inr (some 11))], (I, L, R, Y), 0, 0) (fun _ => rfl) ?_
            refine yi_G_callv rfl rfl (cl_rcv (cl_11 hP.1) rfl) rfl (k_wrongR d (by omega) hP.1  (by omega)) ?_
            rintro _ ⟨I21, rfl, hQ21, x21a, x21b, x21c, x21d⟩
            have hP21 := cl_P_t hP hQ21
            show yi_G zi_Ms d zi_m261 (58, [(2, .inl (I 11 9)), (0, .inr (.inr (some 11))), (1, .inl dep), (3, .inl fa)], [], (I21, L, R, Y), 0, 0) _
            refine yi_G_run 1 (71, [(2, .inl (I 11 9)), (0, .inr (.inr (some 11))), (1, .inl dep), (3, .inl fa)], [], (I21, L, R, Y), 0, 0) (fun _ => rfl) ?_
            exact pt71 I21 hP21 (by omega) (by omega) (by omega) (by omega)
          · refine yi_G_if2 true rfl (yi_ne_t h20) ?_
            refine yi_G_run 2 (63, [(2, .inl (I 11 9)), (0, .inr (.inr (some 11))), (1, .inl dep), (3, .inl fa)], [.inl 5, .inl dep], (I, L, R, Y), 0, 0) (fun _ => rfl) ?_
            by_cases h22 : dep < 5
            · refine yi_G_if2 true rfl (yi_lt_t h22) ?_
              exact pt71 I hP (by omega) (by omega) (by omega) (by omega)
            · refine yi_G_if2 false rfl (yi_lt_f h22) ?_
              refine yi_G_run 2 (68, [(2, .inl (I 11 9)), (0, .inr (.inr (some 11))), (1, .inl dep), (3, .inl fa)], [.inl 5, .inr (.inr (some 11))], (I, L, R, Y), 0, 0) (fun _ => rfl) ?_
              refine yi_G_callv rfl rfl (cl_rcv (cl_11 hP.1) rfl) rfl (k_wrongR d (by omega) hP.1  (by omega)) ?_
              rintro _ ⟨I23, rfl, hQ23, x23a, x23b, x23c, x23d⟩
              have hP23 := cl_P_t hP hQ23
              show yi_G zi_Ms d zi_m261 (71, [(2, .inl (I 11 9)), (0, .inr (.inr (some 11))), (1, .inl dep), (3, .inl fa)], [], (I23, L, R, Y), 0, 0) _
              exact pt71 I23 hP23 (by omega) (by omega) (by omega) (by omega)
  refine yi_G_run 2 (7, [(2, .inl (I 11 9)), (0, .inr (.inr (some 11))), (1, .inl dep)], [.inl 3, .inl (I 11 9)], (I, L, R, Y), 0, 0) (fun _ => rfl) ?_
  by_cases h24 : (I 11 9) = 3
  · refine yi_G_if2 false rfl (yi_ne_f h24) ?_
    refine yi_G_run 1 (11, [(2, .inl (I 11 9)), (0, .inr (.inr (some 11))), (1, .inl dep)], [.inr (.inr (some 11))], (I, L, R, Y), 0, 0) (fun _ => rfl) ?_
    obtain ⟨q25, e26, t27, n28⟩ := cl_rn hP.1 (cl_11 hP.1) (k := 1) (m := 2) rfl
    refine cl_G_gr rfl (cl_T_K (cl_11 hP.1)) rfl rfl rfl e26 ?_
    refine yi_G_run 1 (15, [(2, .inl (I 11 9)), (0, .inr (.inr (some 11))), (1, .inl dep)], [.inr (.inr (some 11)), .inr (.inr (some q25))], (I, L, R, Y), 0, 0) (fun _ => rfl) ?_
    refine cl_G_gr rfl (cl_T_K (cl_11 hP.1)) rfl rfl rfl e26 ?_
    refine cl_G_len rfl t27 (by omega) ?_
    refine yi_G_run 1 (20, [(2, .inl (I 11 9)), (0, .inr (.inr (some 11))), (1, .inl dep)], [.inr (.inr (some 11)), .inl ((Y.2.1 q25 : Int)), .inr (.inr (some q25))], (I, L, R, Y), 0, 0) (fun _ => rfl) ?_
    refine cl_G_gl rfl (cl_T_K (cl_11 hP.1)) rfl rfl rfl ?_
    refine yi_G_calls rfl rfl (k_find d (by omega) hP.1 t27 ) ?_
    rintro _ ⟨z29, rfl⟩
    show yi_G zi_Ms d zi_m261 (26, [(2, .inl (I 11 9)), (0, .inr (.inr (some 11))), (1, .inl dep)], [.inl z29], (I, L, R, Y), 0, 0) _
    refine yi_G_run 2 (31, [(3, .inl z29), (2, .inl (I 11 9)), (0, .inr (.inr (some 11))), (1, .inl dep)], [], (I, L, R, Y), 0, 0) (fun _ => rfl) ?_
    refine yi_G_al (al := [(2, .inl (I 11 9)), (0, .inr (.inr (some 11))), (1, .inl dep), (3, .inl z29)]) (show ([2, 0, 1, 3] : List Nat).Nodup by decide) (show ([3, 2, 0, 1] : List Nat).Nodup by decide) (yi_mc (List.mem_of_getElem? (i := 1) rfl) (yi_mc (List.mem_of_getElem? (i := 2) rfl) (yi_mc (List.mem_of_getElem? (i := 3) rfl) (yi_mc (List.mem_of_getElem? (i := 0) rfl) yi_mn)))) ?_
    exact pt31 z29 
  · refine yi_G_if2 true rfl (yi_ne_t h24) ?_
    refine yi_G_run 2 (31, [(3, .inl (-1)), (2, .inl (I 11 9)), (0, .inr (.inr (some 11))), (1, .inl dep)], [], (I, L, R, Y), 0, 0) (fun _ => rfl) ?_
    refine yi_G_al (al := [(2, .inl (I 11 9)), (0, .inr (.inr (some 11))), (1, .inl dep), (3, .inl (-1))]) (show ([2, 0, 1, 3] : List Nat).Nodup by decide) (show ([3, 2, 0, 1] : List Nat).Nodup by decide) (yi_mc (List.mem_of_getElem? (i := 1) rfl) (yi_mc (List.mem_of_getElem? (i := 2) rfl) (yi_mc (List.mem_of_getElem? (i := 3) rfl) (yi_mc (List.mem_of_getElem? (i := 0) rfl) yi_mn)))) ?_
    exact pt31 (-1) 
theorem k_items : ∀ n : Nat, n ≤ 5 → cl_RC 257 (2 * n + 9) [.inl (5 - n)]
  | 0, _ => k_readItem_of (m := 8) (by omega) (fun h => absurd h (by omega)) (fun h => absurd h (by omega)) (by omega)
  | n + 1, hn => by
    have hi := k_items n (by omega)
    have hf := k_readFormula_of (by omega) hi
    have e : (5 : Int) - ((n + 1 : Nat) : Int) + 1 = 5 - (n : Int) := by omega
    refine k_readItem_of (m := 2 * n + 10) (by omega) (fun _ => ?_) (fun _ => ?_) (by omega)
    · rw [e]
      exact cl_RC_m hi (by omega)
    · rw [e]
      exact cl_RC_m hf (by omega)
theorem k_formula0 : cl_RC 256 20 [.inl 0] := k_readFormula_of (by omega) (k_items 5 (by omega))
theorem k_expr_of {m : Nat} {dep : Int} (m0 : 4 ≤ m) (hp : cl_RC 261 m [.inl dep]) : cl_RC 255 (m + 5) [.inl 0, .inl dep] := by
  have h4 : cl_RC 255 (m + 1) [.inl 4, .inl dep] := k_readExpression_of (by omega) (by omega) (fun h => absurd h (by omega)) (fun _ => hp)
  have h3 : cl_RC 255 (m + 2) [.inl 3, .inl dep] := k_readExpression_of (by omega) (by omega) (fun _ => h4) (fun h => absurd h (by omega))
  have h2 : cl_RC 255 (m + 3) [.inl 2, .inl dep] := k_readExpression_of (by omega) (by omega) (fun _ => h3) (fun h => absurd h (by omega))
  have h1 : cl_RC 255 (m + 4) [.inl 1, .inl dep] := k_readExpression_of (by omega) (by omega) (fun _ => h2) (fun h => absurd h (by omega))
  exact k_readExpression_of (by omega) (by omega) (fun _ => h1) (fun h => absurd h (by omega))
theorem k_parts : ∀ n : Nat, n ≤ 5 → cl_RC 261 (6 * n + 9) [.inl (5 - n)]
  | 0, _ => k_readPart_of (m := 8) (by omega) (fun h => absurd h (by omega)) (fun h => absurd h (by omega)) (by omega)
  | n + 1, hn => by
    have hi := k_parts n (by omega)
    have hf := k_expr_of (by omega) hi
    have e : (5 : Int) - ((n + 1 : Nat) : Int) + 1 = 5 - (n : Int) := by omega
    refine k_readPart_of (m := 6 * n + 14) (by omega) (fun _ => ?_) (fun _ => ?_) (by omega)
    · rw [e]
      exact cl_RC_m hi (by omega)
    · rw [e]
      exact cl_RC_m hf (by omega)
theorem k_expr0 : cl_RC 255 44 [.inl 0, .inl 0] := k_expr_of (by omega) (k_parts 5 (by omega))
