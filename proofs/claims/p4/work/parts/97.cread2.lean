/-! Lands, sayings, questions read. -/
theorem k_beginR (D : Nat) (hD : 2 ≤ D) {E : List Nat} {I L : cl_I} {R : cl_Rr} {Y : cl_Y} (hC : cl_C E I L R Y) {u : Nat} (tu : cl_T E Y u 3) : yi_E zi_Ms D 248 [.inr (.inr (some 11)), .inr (.inr (some u))] (I, L, R, Y) (fun r => ∃ I', ∃ L', ∃ R', r = (none, (I', L', R', Y), 0, 0) ∧ cl_P E I L R Y I' L' R' Y ∧ (1 ≤ I 12 6 → 0 ≤ I' 11 8) ∧ (I' 11 3 = 0) ∧ (∀ q, R 12 1 = some q → 1 ≤ I 12 6 → I' 11 9 = I q 0)) := by
  obtain ⟨d, rfl⟩ : ∃ d, D = d + 1 := ⟨D - 1, by omega⟩
  refine yi_E_of (M := zi_m248) rfl rfl ?_
  have hP : cl_P E I L R Y I L R Y := cl_P_r hC
  show yi_G zi_Ms d zi_m248 (0, [(0, .inr (.inr (some 11))), (1, .inr (.inr (some u)))], [], (I, L, R, Y), 0, 0) _
  refine yi_G_run 2 (2, [(0, .inr (.inr (some 11))), (1, .inr (.inr (some u)))], [.inr (.inr (some u)), .inr (.inr (some 11))], (I, L, R, Y), 0, 0) (fun _ => rfl) ?_
  refine cl_G_pr rfl (cl_T_K (cl_11 hP.1)) rfl rfl rfl ?_
  have hP1 := cl_P_uR (k := 6) (v := (some u)) hP (cl_11 hP.1) (by decide) (by decide) (cl_hrf rfl tu)
  generalize w2 : cl_u R 11 6 (some u) = R3 at hP1 ⊢
  have e4 : R3 11 6 = some u := by rw [← w2, cl_u_eq]
  refine yi_G_run 2 (7, [(0, .inr (.inr (some 11))), (1, .inr (.inr (some u)))], [.inl 0, .inr (.inr (some 11))], (I, L, R3, Y), 0, 0) (fun _ => rfl) ?_
  refine cl_G_pi rfl (cl_T_K (cl_11 hP1.1)) rfl rfl rfl ?_
  have hP5 := cl_P_uI (k := 11) (v := 0) hP1 (cl_11 hP1.1) (by decide) (cl_hv0 rfl)
  generalize w6 : yi_u I 11 11 0 = I7 at hP5 ⊢
  refine yi_G_run 2 (12, [(0, .inr (.inr (some 11))), (1, .inr (.inr (some u)))], [.inl 0, .inr (.inr (some 11))], (I7, L, R3, Y), 0, 0) (fun _ => rfl) ?_
  refine cl_G_pi rfl (cl_T_K (cl_11 hP5.1)) rfl rfl rfl ?_
  have hP8 := cl_P_uI (k := 3) (v := 0) hP5 (cl_11 hP5.1) (by decide) (cl_hv rfl (by omega) (by omega))
  generalize w9 : yi_u I7 11 3 0 = I10 at hP8 ⊢
  refine yi_G_run 2 (17, [(0, .inr (.inr (some 11))), (1, .inr (.inr (some u)))], [.inl 0, .inr (.inr (some 11))], (I10, L, R3, Y), 0, 0) (fun _ => rfl) ?_
  refine cl_G_pi rfl (cl_T_K (cl_11 hP8.1)) rfl rfl rfl ?_
  have hP11 := cl_P_uI (k := 5) (v := 0) hP8 (cl_11 hP8.1) (by decide) (cl_hv0 rfl)
  generalize w12 : yi_u I10 11 5 0 = I13 at hP11 ⊢
  refine yi_G_run 2 (22, [(0, .inr (.inr (some 11))), (1, .inr (.inr (some u)))], [.inl 0, .inr (.inr (some 11))], (I13, L, R3, Y), 0, 0) (fun _ => rfl) ?_
  refine cl_G_pi rfl (cl_T_K (cl_11 hP11.1)) rfl rfl rfl ?_
  have hP14 := cl_P_uI (k := 7) (v := 0) hP11 (cl_11 hP11.1) (by decide) (cl_hv0 rfl)
  generalize w15 : yi_u I13 11 7 0 = I16 at hP14 ⊢
  refine yi_G_run 2 (27, [(0, .inr (.inr (some 11))), (1, .inr (.inr (some u)))], [.inl (-1), .inr (.inr (some 11))], (I16, L, R3, Y), 0, 0) (fun _ => rfl) ?_
  refine cl_G_pi rfl (cl_T_K (cl_11 hP14.1)) rfl rfl rfl ?_
  have hP17 := cl_P_uI (k := 8) (v := (-1)) hP14 (cl_11 hP14.1) (by decide) (cl_hv rfl (by omega) (by omega))
  generalize w18 : yi_u I16 11 8 (-1) = I19 at hP17 ⊢
  refine yi_G_run 1 (31, [(0, .inr (.inr (some 11))), (1, .inr (.inr (some u)))], [.inr (.inr (some 11))], (I19, L, R3, Y), 0, 0) (fun _ => rfl) ?_
  have r20 : I19 11 3 = 0 := by rw [← w18, yi_u_ne _ _ (fun z => absurd z.2 (by decide)), ← w15, yi_u_ne _ _ (fun z => absurd z.2 (by decide)), ← w12, yi_u_ne _ _ (fun z => absurd z.2 (by decide)), ← w9, yi_u_eq]
  have r21 : I19 11 8 = (-1) := by rw [← w18, yi_u_eq]
  have r22 : I19 11 11 = 0 := by rw [← w18, yi_u_ne _ _ (fun z => absurd z.2 (by decide)), ← w15, yi_u_ne _ _ (fun z => absurd z.2 (by decide)), ← w12, yi_u_ne _ _ (fun z => absurd z.2 (by decide)), ← w9, yi_u_ne _ _ (fun z => absurd z.2 (by decide)), ← w6, yi_u_eq]
  have r23 : I19 12 6 = I 12 6 := by rw [← w18, yi_u_ne _ _ (fun z => absurd z.1 (by decide)), ← w15, yi_u_ne _ _ (fun z => absurd z.1 (by decide)), ← w12, yi_u_ne _ _ (fun z => absurd z.1 (by decide)), ← w9, yi_u_ne _ _ (fun z => absurd z.1 (by decide)), ← w6, yi_u_ne _ _ (fun z => absurd z.1 (by decide))]
  skip
  refine yi_G_callv rfl rfl (cl_rcv (cl_11 hP17.1) rfl) rfl (k_advanceR d (by omega) hP17.1  ) ?_
  rintro _ ⟨I24, L24, rfl, hQ24, x24a, x24b, x24c, x24d, x24e, x24f, x24g⟩
  have hP24 := cl_P_t hP17 hQ24
  show yi_G zi_Ms d zi_m248 (34, [(0, .inr (.inr (some 11))), (1, .inr (.inr (some u)))], [], (I24, L24, R3, Y), 0, 0) _
  exact yi_G_retv rfl rfl (⟨_, _, _, rfl, hP24, by omega, by omega, (fun q hq h1 => by have a := x24g q (by rw [← w2, cl_u_ne _ _ (by intro z; omega)]; exact hq) (by omega) (by omega) (by omega); rw [a]; exact (by obtain ⟨q0, e0, tkq, _⟩ := cl_rn hC (cl_12 hC) (k := 1) (m := 1000) rfl; have e_ := hq.symm.trans e0; cases e_; rw [← w18, yi_u_ne _ _ (fun z => cl_ne tkq (cl_11 hC) (by decide) z.1), ← w15, yi_u_ne _ _ (fun z => cl_ne tkq (cl_11 hC) (by decide) z.1), ← w12, yi_u_ne _ _ (fun z => cl_ne tkq (cl_11 hC) (by decide) z.1), ← w9, yi_u_ne _ _ (fun z => cl_ne tkq (cl_11 hC) (by decide) z.1), ← w6, yi_u_ne _ _ (fun z => cl_ne tkq (cl_11 hC) (by decide) z.1)]))⟩)
theorem k_readDaysR (D : Nat) (hD : 3 ≤ D) {E : List Nat} {I L : cl_I} {R : cl_Rr} {Y : cl_Y} (hC : cl_C E I L R Y) (ha : 0 ≤ I 11 8) : yi_E zi_Ms D 253 [.inr (.inr (some 11))] (I, L, R, Y) (fun r => ∃ I', ∃ L', r = (none, (I', L', R, Y), 0, 0) ∧ cl_P E I L R Y I' L' R Y ∧ (I 11 3 ≤ I' 11 3) ∧ (I' 11 11 = 0 → I 11 11 = 0) ∧ (0 ≤ I 11 8 → 0 ≤ I' 11 8) ∧ (I' 11 11 = 0 → I 11 9 = 4)) := by
  obtain ⟨d, rfl⟩ : ∃ d, D = d + 1 := ⟨D - 1, by omega⟩
  refine yi_E_of (M := zi_m253) rfl rfl ?_
  have hP : cl_P E I L R Y I L R Y := cl_P_r hC
  show yi_G zi_Ms d zi_m253 (0, [(0, .inr (.inr (some 11)))], [], (I, L, R, Y), 0, 0) _
  refine yi_G_run 2 (2, [(0, .inr (.inr (some 11)))], [.inl 4, .inr (.inr (some 11))], (I, L, R, Y), 0, 0) (fun _ => rfl) ?_
  refine yi_G_callv rfl rfl (cl_rcv (cl_11 hP.1) rfl) rfl (k_takeKindR d (by omega) hP.1  ) ?_
  rintro _ ⟨I1, L1, rfl, hQ1, x1a, x1b, x1c, x1d⟩
  have hP1 := cl_P_t hP hQ1
  show yi_G zi_Ms d zi_m253 (5, [(0, .inr (.inr (some 11)))], [], (I1, L1, R, Y), 0, 0) _
  refine yi_G_run 3 (9, [(0, .inr (.inr (some 11)))], [.inl 6, .inl 1, .inr (.inr (some 11))], (I1, L1, R, Y), 0, 0) (fun _ => rfl) ?_
  refine yi_G_callv rfl rfl (cl_rcv (cl_11 hP1.1) rfl) rfl (k_takeNumberR d (by omega) hP1.1  ) ?_
  rintro _ ⟨z2, I2, L2, rfl, hQ2, x2a, x2b, x2c, x2d⟩
  have hP2 := cl_P_t hP1 hQ2
  show yi_G zi_Ms d zi_m253 (12, [(0, .inr (.inr (some 11)))], [.inl z2], (I2, L2, R, Y), 0, 0) _
  refine yi_G_run 3 (16, [(1, .inl z2), (0, .inr (.inr (some 11)))], [.inl 59, .inr (.inr (some 11))], (I2, L2, R, Y), 0, 0) (fun _ => rfl) ?_
  refine yi_G_callv rfl rfl (cl_rcv (cl_11 hP2.1) rfl) rfl (k_takeKindR d (by omega) hP2.1  ) ?_
  rintro _ ⟨I3, L3, rfl, hQ3, x3a, x3b, x3c, x3d⟩
  have hP3 := cl_P_t hP2 hQ3
  show yi_G zi_Ms d zi_m253 (19, [(1, .inl z2), (0, .inr (.inr (some 11)))], [], (I3, L3, R, Y), 0, 0) _
  refine yi_G_run 1 (20, [(1, .inl z2), (0, .inr (.inr (some 11)))], [.inr (.inr (some 11))], (I3, L3, R, Y), 0, 0) (fun _ => rfl) ?_
  refine cl_G_gi rfl (cl_T_K (cl_11 hP3.1)) rfl rfl rfl ?_
  by_cases h4 : (I3 11 11) = 0
  · refine yi_G_if1 false rfl (yi_ne_f h4) ?_
    refine yi_G_run 1 (27, [(1, .inl z2), (0, .inr (.inr (some 11)))], [.inr (.inr (some 11))], (I3, L3, R, Y), 0, 0) (fun _ => rfl) ?_
    obtain ⟨q5, e6, t7⟩ := cl_rf hP3.1 (cl_11 hP3.1) (k := 6) rfl
    refine cl_G_gr rfl (cl_T_K (cl_11 hP3.1)) rfl rfl rfl e6 ?_
    refine yi_G_run 1 (31, [(1, .inl z2), (0, .inr (.inr (some 11)))], [.inl z2, .inr (.inr (some q5))], (I3, L3, R, Y), 0, 0) (fun _ => rfl) ?_
    refine cl_G_pi rfl (cl_T_K t7) rfl rfl rfl ?_
    have hP8 := cl_P_uI (k := 14) (v := z2) hP3 t7 (by decide) (cl_hv rfl (by omega) (by omega))
    generalize w9 : yi_u I3 q5 14 z2 = I10 at hP8 ⊢
    have r11 : I10 11 3 = I3 11 3 := by rw [← w9, yi_u_ne _ _ (fun z => cl_ne (cl_11 hP8.1) t7 (by decide) z.1)]
    have r12 : I10 11 8 = I3 11 8 := by rw [← w9, yi_u_ne _ _ (fun z => cl_ne (cl_11 hP8.1) t7 (by decide) z.1)]
    have r13 : I10 11 11 = I3 11 11 := by rw [← w9, yi_u_ne _ _ (fun z => cl_ne (cl_11 hP8.1) t7 (by decide) z.1)]
    exact yi_G_retv rfl rfl (⟨_, _, rfl, hP8, by omega, by omega, by omega, by omega⟩)
  · refine yi_G_if1 true rfl (yi_ne_t h4) ?_
    exact yi_G_retv rfl rfl (⟨_, _, rfl, hP3, by omega, by omega, by omega, by omega⟩)
theorem k_readPersonR (D : Nat) (hD : 5 ≤ D) {E : List Nat} {I L : cl_I} {R : cl_Rr} {Y : cl_Y} (hC : cl_C E I L R Y) (ha : 0 ≤ I 11 8) : yi_E zi_Ms D 262 [.inr (.inr (some 11))] (I, L, R, Y) (fun r => ∃ I', ∃ L', r = (none, (I', L', R, Y), 0, 0) ∧ cl_P E I L R Y I' L' R Y ∧ (I 11 3 ≤ I' 11 3) ∧ (I' 11 11 = 0 → I 11 11 = 0) ∧ (0 ≤ I 11 8 → 0 ≤ I' 11 8)) := by
  obtain ⟨d, rfl⟩ : ∃ d, D = d + 1 := ⟨D - 1, by omega⟩
  refine yi_E_of (M := zi_m262) rfl rfl ?_
  have hP : cl_P E I L R Y I L R Y := cl_P_r hC
  show yi_G zi_Ms d zi_m262 (0, [(0, .inr (.inr (some 11)))], [], (I, L, R, Y), 0, 0) _
  have pt44 : ∀ (Ip44 : cl_I), (cl_P E I L R Y Ip44 L R Y) → (I 11 3 ≤ Ip44 11 3) → (Ip44 11 11 = 0 → I 11 11 = 0) → (0 ≤ I 11 8 → 0 ≤ Ip44 11 8) → yi_G zi_Ms d zi_m262 (44, [(0, .inr (.inr (some 11)))], [], (Ip44, L, R, Y), 0, 0) (fun r => ∃ I', ∃ L', r = (none, (I', L', R, Y), 0, 0) ∧ cl_P E I L R Y I' L' R Y ∧ (I 11 3 ≤ I' 11 3) ∧ (I' 11 11 = 0 → I 11 11 = 0) ∧ (0 ≤ I 11 8 → 0 ≤ I' 11 8)) := by
    intro Ip44 hPp44 ua va wa
    refine yi_G_run 2 (46, [(0, .inr (.inr (some 11)))], [.inl 5, .inr (.inr (some 11))], (Ip44, L, R, Y), 0, 0) (fun _ => rfl) ?_
    refine yi_G_callv rfl rfl (cl_rcv (cl_11 hPp44.1) rfl) rfl (k_takeKindR d (by omega) hPp44.1  ) ?_
    rintro _ ⟨I1, L1, rfl, hQ1, x1a, x1b, x1c, x1d⟩
    have hP1 := cl_P_t hPp44 hQ1
    show yi_G zi_Ms d zi_m262 (49, [(0, .inr (.inr (some 11)))], [], (I1, L1, R, Y), 0, 0) _
    refine yi_G_run 1 (50, [(0, .inr (.inr (some 11)))], [.inr (.inr (some 11))], (I1, L1, R, Y), 0, 0) (fun _ => rfl) ?_
    refine yi_G_callv rfl rfl (cl_rcv (cl_11 hP1.1) rfl) rfl (k_takeNewNameR d (by omega) hP1.1  ) ?_
    rintro _ ⟨z2, I2, L2, rfl, hQ2, x2a, x2b, x2c⟩
    have hP2 := cl_P_t hP1 hQ2
    show yi_G zi_Ms d zi_m262 (53, [(0, .inr (.inr (some 11)))], [.inr (.inl z2)], (I2, L2, R, Y), 0, 0) _
    refine yi_G_run 3 (57, [(1, .inr (.inl z2)), (0, .inr (.inr (some 11)))], [.inl 6, .inr (.inr (some 11))], (I2, L2, R, Y), 0, 0) (fun _ => rfl) ?_
    refine yi_G_callv rfl rfl (cl_rcv (cl_11 hP2.1) rfl) rfl (k_takeKindR d (by omega) hP2.1  ) ?_
    rintro _ ⟨I3, L3, rfl, hQ3, x3a, x3b, x3c, x3d⟩
    have hP3 := cl_P_t hP2 hQ3
    show yi_G zi_Ms d zi_m262 (60, [(1, .inr (.inl z2)), (0, .inr (.inr (some 11)))], [], (I3, L3, R, Y), 0, 0) _
    refine yi_G_run 3 (64, [(1, .inr (.inl z2)), (0, .inr (.inr (some 11)))], [.inl 99, .inl 0, .inr (.inr (some 11))], (I3, L3, R, Y), 0, 0) (fun _ => rfl) ?_
    refine yi_G_callv rfl rfl (cl_rcv (cl_11 hP3.1) rfl) rfl (k_takeNumberR d (by omega) hP3.1  ) ?_
    rintro _ ⟨z4, I4, L4, rfl, hQ4, x4a, x4b, x4c, x4d⟩
    have hP4 := cl_P_t hP3 hQ4
    show yi_G zi_Ms d zi_m262 (67, [(1, .inr (.inl z2)), (0, .inr (.inr (some 11)))], [.inl z4], (I4, L4, R, Y), 0, 0) _
    refine yi_G_run 3 (71, [(3, .inl z4), (1, .inr (.inl z2)), (0, .inr (.inr (some 11)))], [.inl 59, .inr (.inr (some 11))], (I4, L4, R, Y), 0, 0) (fun _ => rfl) ?_
    refine yi_G_callv rfl rfl (cl_rcv (cl_11 hP4.1) rfl) rfl (k_takeKindR d (by omega) hP4.1  ) ?_
    rintro _ ⟨I5, L5, rfl, hQ5, x5a, x5b, x5c, x5d⟩
    have hP5 := cl_P_t hP4 hQ5
    show yi_G zi_Ms d zi_m262 (74, [(3, .inl z4), (1, .inr (.inl z2)), (0, .inr (.inr (some 11)))], [], (I5, L5, R, Y), 0, 0) _
    refine yi_G_run 1 (75, [(3, .inl z4), (1, .inr (.inl z2)), (0, .inr (.inr (some 11)))], [.inr (.inr (some 11))], (I5, L5, R, Y), 0, 0) (fun _ => rfl) ?_
    refine cl_G_gi rfl (cl_T_K (cl_11 hP5.1)) rfl rfl rfl ?_
    by_cases h6 : (I5 11 11) = 0
    · refine yi_G_if1 false rfl (yi_ne_f h6) ?_
      refine yi_G_run 1 (82, [(3, .inl z4), (1, .inr (.inl z2)), (0, .inr (.inr (some 11)))], [.inr (.inr (some 11))], (I5, L5, R, Y), 0, 0) (fun _ => rfl) ?_
      obtain ⟨q7, e8, t9⟩ := cl_rf hP5.1 (cl_11 hP5.1) (k := 6) rfl
      refine cl_G_gr rfl (cl_T_K (cl_11 hP5.1)) rfl rfl rfl e8 ?_
      refine yi_G_run 2 (87, [(3, .inl z4), (1, .inr (.inl z2)), (0, .inr (.inr (some 11)))], [.inl z4, .inr (.inl z2), .inr (.inr (some q7))], (I5, L5, R, Y), 0, 0) (fun _ => rfl) ?_
      refine yi_G_callv rfl rfl (cl_rcv t9 rfl) rfl (k_addPerson d (by omega) hP5.1 t9 ) ?_
      rintro _ ⟨I10, L10, rfl, hQ10, x10a⟩
      have hP10 := cl_P_t hP5 hQ10
      show yi_G zi_Ms d zi_m262 (90, [(3, .inl z4), (1, .inr (.inl z2)), (0, .inr (.inr (some 11)))], [], (I10, L10, R, Y), 0, 0) _
      have r11 : I10 11 3 = I5 11 3 := by rw [x10a 11 3 (cl_11 hP5.1)]
      have r12 : I10 11 8 = I5 11 8 := by rw [x10a 11 8 (cl_11 hP5.1)]
      have r13 : I10 11 11 = I5 11 11 := by rw [x10a 11 11 (cl_11 hP5.1)]
      exact yi_G_retv rfl rfl (⟨_, _, rfl, hP10, by omega, by omega, by omega⟩)
    · refine yi_G_if1 true rfl (yi_ne_t h6) ?_
      exact yi_G_retv rfl rfl (⟨_, _, rfl, hP5, by omega, by omega, by omega⟩)
  refine yi_G_run 1 (1, [(0, .inr (.inr (some 11)))], [.inr (.inr (some 11))], (I, L, R, Y), 0, 0) (fun _ => rfl) ?_
  obtain ⟨q14, e15, t16⟩ := cl_rf hP.1 (cl_11 hP.1) (k := 6) rfl
  refine cl_G_gr rfl (cl_T_K (cl_11 hP.1)) rfl rfl rfl e15 ?_
  have b17 := cl_rd hP.1 t16 (k := 15) (lo := 0) (hi := 4) rfl
  refine cl_G_gi rfl (cl_T_K t16) rfl rfl rfl ?_
  refine yi_G_run 1 (8, [(0, .inr (.inr (some 11)))], [.inl 4, .inl (I q14 15)], (I, L, R, Y), 0, 0) (fun _ => rfl) ?_
  by_cases h18 : 4 ≤ (I q14 15)
  · refine yi_G_if2 true rfl (yi_ge_t h18) ?_
    refine yi_G_run 2 (41, [(0, .inr (.inr (some 11)))], [.inl 5, .inr (.inr (some 11))], (I, L, R, Y), 0, 0) (fun _ => rfl) ?_
    refine yi_G_callv rfl rfl (cl_rcv (cl_11 hP.1) rfl) rfl (k_wrongR d (by omega) hP.1  (by omega)) ?_
    rintro _ ⟨I19, rfl, hQ19, x19a, x19b, x19c, x19d⟩
    have hP19 := cl_P_t hP hQ19
    show yi_G zi_Ms d zi_m262 (44, [(0, .inr (.inr (some 11)))], [], (I19, L, R, Y), 0, 0) _
    exact pt44 I19 hP19 (by omega) (by omega) (by omega)
  · refine yi_G_if2 false rfl (yi_ge_f h18) ?_
    refine yi_G_run 1 (12, [(0, .inr (.inr (some 11)))], [.inr (.inr (some 11))], (I, L, R, Y), 0, 0) (fun _ => rfl) ?_
    refine cl_G_gr rfl (cl_T_K (cl_11 hP.1)) rfl rfl rfl e15 ?_
    refine yi_G_run 1 (16, [(0, .inr (.inr (some 11)))], [.inr (.inr (some 11)), .inr (.inr (some q14))], (I, L, R, Y), 0, 0) (fun _ => rfl) ?_
    refine cl_G_gr rfl (cl_T_K (cl_11 hP.1)) rfl rfl rfl e15 ?_
    have b20 := cl_rd hP.1 t16 (k := 15) (lo := 0) (hi := 4) rfl
    refine cl_G_gi rfl (cl_T_K t16) rfl rfl rfl ?_
    refine yi_G_run 1 (23, [(0, .inr (.inr (some 11)))], [.inl 1, .inl (I q14 15), .inr (.inr (some q14))], (I, L, R, Y), 0, 0) (fun _ => rfl) ?_
    refine yi_G_iadd rfl ((I q14 15) + 1) (yi_wn (by omega) (by omega)) ?_
    refine yi_G_run 1 (25, [(0, .inr (.inr (some 11)))], [.inr (.inr (some 11)), .inl ((I q14 15) + 1), .inr (.inr (some q14))], (I, L, R, Y), 0, 0) (fun _ => rfl) ?_
    refine cl_G_gr rfl (cl_T_K (cl_11 hP.1)) rfl rfl rfl e15 ?_
    have b21 := cl_rd hP.1 t16 (k := 16) (lo := 0) (hi := 4) rfl
    refine cl_G_gi rfl (cl_T_K t16) rfl rfl rfl ?_
    refine yi_G_callv rfl rfl (cl_rcv t16 rfl) rfl (k_futuresWith d (by omega) hP.1 t16 (by omega) (by omega)) ?_
    rintro _ ⟨z22, rfl, x22a, x22b⟩
    show yi_G zi_Ms d zi_m262 (34, [(0, .inr (.inr (some 11)))], [.inl z22], (I, L, R, Y), 0, 0) _
    refine yi_G_ldc (32768) rfl (by decide +kernel) ?_
    by_cases h23 : z22 ≤ 32768
    · refine yi_G_if2 true rfl (yi_le_t h23) ?_
      exact pt44 I hP (by omega) (by omega) (by omega)
    · refine yi_G_if2 false rfl (yi_le_f h23) ?_
      refine yi_G_run 2 (41, [(0, .inr (.inr (some 11)))], [.inl 5, .inr (.inr (some 11))], (I, L, R, Y), 0, 0) (fun _ => rfl) ?_
      refine yi_G_callv rfl rfl (cl_rcv (cl_11 hP.1) rfl) rfl (k_wrongR d (by omega) hP.1  (by omega)) ?_
      rintro _ ⟨I24, rfl, hQ24, x24a, x24b, x24c, x24d⟩
      have hP24 := cl_P_t hP hQ24
      show yi_G zi_Ms d zi_m262 (44, [(0, .inr (.inr (some 11)))], [], (I24, L, R, Y), 0, 0) _
      exact pt44 I24 hP24 (by omega) (by omega) (by omega)
theorem k_readEventR (D : Nat) (hD : 5 ≤ D) {E : List Nat} {I L : cl_I} {R : cl_Rr} {Y : cl_Y} (hC : cl_C E I L R Y) (ha : 0 ≤ I 11 8) : yi_E zi_Ms D 254 [.inr (.inr (some 11))] (I, L, R, Y) (fun r => ∃ I', ∃ L', r = (none, (I', L', R, Y), 0, 0) ∧ cl_P E I L R Y I' L' R Y ∧ (I 11 3 ≤ I' 11 3) ∧ (I' 11 11 = 0 → I 11 11 = 0) ∧ (0 ≤ I 11 8 → 0 ≤ I' 11 8)) := by
  obtain ⟨d, rfl⟩ : ∃ d, D = d + 1 := ⟨D - 1, by omega⟩
  refine yi_E_of (M := zi_m254) rfl rfl ?_
  have hP : cl_P E I L R Y I L R Y := cl_P_r hC
  show yi_G zi_Ms d zi_m254 (0, [(0, .inr (.inr (some 11)))], [], (I, L, R, Y), 0, 0) _
  have pt44 : ∀ (Ip44 : cl_I), (cl_P E I L R Y Ip44 L R Y) → (I 11 3 ≤ Ip44 11 3) → (Ip44 11 11 = 0 → I 11 11 = 0) → (0 ≤ I 11 8 → 0 ≤ Ip44 11 8) → yi_G zi_Ms d zi_m254 (44, [(0, .inr (.inr (some 11)))], [], (Ip44, L, R, Y), 0, 0) (fun r => ∃ I', ∃ L', r = (none, (I', L', R, Y), 0, 0) ∧ cl_P E I L R Y I' L' R Y ∧ (I 11 3 ≤ I' 11 3) ∧ (I' 11 11 = 0 → I 11 11 = 0) ∧ (0 ≤ I 11 8 → 0 ≤ I' 11 8)) := by
    intro Ip44 hPp44 ua va wa
    refine yi_G_run 2 (47, [(0, .inr (.inr (some 11)))], [.inl 7, .inr (.inr (some 11))], (Ip44, L, R, Y), 0, 0) (fun _ => rfl) ?_
    refine yi_G_callv rfl rfl (cl_rcv (cl_11 hPp44.1) rfl) rfl (k_takeKindR d (by omega) hPp44.1  ) ?_
    rintro _ ⟨I1, L1, rfl, hQ1, x1a, x1b, x1c, x1d⟩
    have hP1 := cl_P_t hPp44 hQ1
    show yi_G zi_Ms d zi_m254 (50, [(0, .inr (.inr (some 11)))], [], (I1, L1, R, Y), 0, 0) _
    refine yi_G_run 1 (51, [(0, .inr (.inr (some 11)))], [.inr (.inr (some 11))], (I1, L1, R, Y), 0, 0) (fun _ => rfl) ?_
    refine yi_G_callv rfl rfl (cl_rcv (cl_11 hP1.1) rfl) rfl (k_takeNewNameR d (by omega) hP1.1  ) ?_
    rintro _ ⟨z2, I2, L2, rfl, hQ2, x2a, x2b, x2c⟩
    have hP2 := cl_P_t hP1 hQ2
    show yi_G zi_Ms d zi_m254 (54, [(0, .inr (.inr (some 11)))], [.inr (.inl z2)], (I2, L2, R, Y), 0, 0) _
    refine yi_G_run 3 (58, [(1, .inr (.inl z2)), (0, .inr (.inr (some 11)))], [.inl 59, .inr (.inr (some 11))], (I2, L2, R, Y), 0, 0) (fun _ => rfl) ?_
    refine yi_G_callv rfl rfl (cl_rcv (cl_11 hP2.1) rfl) rfl (k_takeKindR d (by omega) hP2.1  ) ?_
    rintro _ ⟨I3, L3, rfl, hQ3, x3a, x3b, x3c, x3d⟩
    have hP3 := cl_P_t hP2 hQ3
    show yi_G zi_Ms d zi_m254 (61, [(1, .inr (.inl z2)), (0, .inr (.inr (some 11)))], [], (I3, L3, R, Y), 0, 0) _
    refine yi_G_run 1 (62, [(1, .inr (.inl z2)), (0, .inr (.inr (some 11)))], [.inr (.inr (some 11))], (I3, L3, R, Y), 0, 0) (fun _ => rfl) ?_
    refine cl_G_gi rfl (cl_T_K (cl_11 hP3.1)) rfl rfl rfl ?_
    by_cases h4 : (I3 11 11) = 0
    · refine yi_G_if1 false rfl (yi_ne_f h4) ?_
      refine yi_G_run 1 (69, [(1, .inr (.inl z2)), (0, .inr (.inr (some 11)))], [.inr (.inr (some 11))], (I3, L3, R, Y), 0, 0) (fun _ => rfl) ?_
      obtain ⟨q5, e6, t7⟩ := cl_rf hP3.1 (cl_11 hP3.1) (k := 6) rfl
      refine cl_G_gr rfl (cl_T_K (cl_11 hP3.1)) rfl rfl rfl e6 ?_
      refine yi_G_run 1 (73, [(1, .inr (.inl z2)), (0, .inr (.inr (some 11)))], [.inr (.inl z2), .inr (.inr (some q5))], (I3, L3, R, Y), 0, 0) (fun _ => rfl) ?_
      refine yi_G_callv rfl rfl (cl_rcv t7 rfl) rfl (k_addEvent d (by omega) hP3.1 t7 ) ?_
      rintro _ ⟨I8, L8, rfl, hQ8, x8a⟩
      have hP8 := cl_P_t hP3 hQ8
      show yi_G zi_Ms d zi_m254 (76, [(1, .inr (.inl z2)), (0, .inr (.inr (some 11)))], [], (I8, L8, R, Y), 0, 0) _
      have r9 : I8 11 3 = I3 11 3 := by rw [x8a 11 3 (cl_11 hP3.1)]
      have r10 : I8 11 8 = I3 11 8 := by rw [x8a 11 8 (cl_11 hP3.1)]
      have r11 : I8 11 11 = I3 11 11 := by rw [x8a 11 11 (cl_11 hP3.1)]
      exact yi_G_retv rfl rfl (⟨_, _, rfl, hP8, by omega, by omega, by omega⟩)
    · refine yi_G_if1 true rfl (yi_ne_t h4) ?_
      exact yi_G_retv rfl rfl (⟨_, _, rfl, hP3, by omega, by omega, by omega⟩)
  refine yi_G_run 1 (1, [(0, .inr (.inr (some 11)))], [.inr (.inr (some 11))], (I, L, R, Y), 0, 0) (fun _ => rfl) ?_
  obtain ⟨q12, e13, t14⟩ := cl_rf hP.1 (cl_11 hP.1) (k := 6) rfl
  refine cl_G_gr rfl (cl_T_K (cl_11 hP.1)) rfl rfl rfl e13 ?_
  have b15 := cl_rd hP.1 t14 (k := 16) (lo := 0) (hi := 4) rfl
  refine cl_G_gi rfl (cl_T_K t14) rfl rfl rfl ?_
  refine yi_G_run 1 (8, [(0, .inr (.inr (some 11)))], [.inl 4, .inl (I q12 16)], (I, L, R, Y), 0, 0) (fun _ => rfl) ?_
  by_cases h16 : 4 ≤ (I q12 16)
  · refine yi_G_if2 true rfl (yi_ge_t h16) ?_
    refine yi_G_run 2 (41, [(0, .inr (.inr (some 11)))], [.inl 5, .inr (.inr (some 11))], (I, L, R, Y), 0, 0) (fun _ => rfl) ?_
    refine yi_G_callv rfl rfl (cl_rcv (cl_11 hP.1) rfl) rfl (k_wrongR d (by omega) hP.1  (by omega)) ?_
    rintro _ ⟨I17, rfl, hQ17, x17a, x17b, x17c, x17d⟩
    have hP17 := cl_P_t hP hQ17
    show yi_G zi_Ms d zi_m254 (44, [(0, .inr (.inr (some 11)))], [], (I17, L, R, Y), 0, 0) _
    exact pt44 I17 hP17 (by omega) (by omega) (by omega)
  · refine yi_G_if2 false rfl (yi_ge_f h16) ?_
    refine yi_G_run 1 (12, [(0, .inr (.inr (some 11)))], [.inr (.inr (some 11))], (I, L, R, Y), 0, 0) (fun _ => rfl) ?_
    refine cl_G_gr rfl (cl_T_K (cl_11 hP.1)) rfl rfl rfl e13 ?_
    refine yi_G_run 1 (16, [(0, .inr (.inr (some 11)))], [.inr (.inr (some 11)), .inr (.inr (some q12))], (I, L, R, Y), 0, 0) (fun _ => rfl) ?_
    refine cl_G_gr rfl (cl_T_K (cl_11 hP.1)) rfl rfl rfl e13 ?_
    have b18 := cl_rd hP.1 t14 (k := 15) (lo := 0) (hi := 4) rfl
    refine cl_G_gi rfl (cl_T_K t14) rfl rfl rfl ?_
    refine yi_G_run 1 (23, [(0, .inr (.inr (some 11)))], [.inr (.inr (some 11)), .inl (I q12 15), .inr (.inr (some q12))], (I, L, R, Y), 0, 0) (fun _ => rfl) ?_
    refine cl_G_gr rfl (cl_T_K (cl_11 hP.1)) rfl rfl rfl e13 ?_
    have b19 := cl_rd hP.1 t14 (k := 16) (lo := 0) (hi := 4) rfl
    refine cl_G_gi rfl (cl_T_K t14) rfl rfl rfl ?_
    refine yi_G_run 1 (30, [(0, .inr (.inr (some 11)))], [.inl 1, .inl (I q12 16), .inl (I q12 15), .inr (.inr (some q12))], (I, L, R, Y), 0, 0) (fun _ => rfl) ?_
    refine yi_G_iadd rfl ((I q12 16) + 1) (yi_wn (by omega) (by omega)) ?_
    refine yi_G_callv rfl rfl (cl_rcv t14 rfl) rfl (k_futuresWith d (by omega) hP.1 t14 (by omega) (by omega)) ?_
    rintro _ ⟨z20, rfl, x20a, x20b⟩
    show yi_G zi_Ms d zi_m254 (34, [(0, .inr (.inr (some 11)))], [.inl z20], (I, L, R, Y), 0, 0) _
    refine yi_G_ldc (32768) rfl (by decide +kernel) ?_
    by_cases h21 : z20 ≤ 32768
    · refine yi_G_if2 true rfl (yi_le_t h21) ?_
      exact pt44 I hP (by omega) (by omega) (by omega)
    · refine yi_G_if2 false rfl (yi_le_f h21) ?_
      refine yi_G_run 2 (41, [(0, .inr (.inr (some 11)))], [.inl 5, .inr (.inr (some 11))], (I, L, R, Y), 0, 0) (fun _ => rfl) ?_
      refine yi_G_callv rfl rfl (cl_rcv (cl_11 hP.1) rfl) rfl (k_wrongR d (by omega) hP.1  (by omega)) ?_
      rintro _ ⟨I22, rfl, hQ22, x22a, x22b, x22c, x22d⟩
      have hP22 := cl_P_t hP hQ22
      show yi_G zi_Ms d zi_m254 (44, [(0, .inr (.inr (some 11)))], [], (I22, L, R, Y), 0, 0) _
      exact pt44 I22 hP22 (by omega) (by omega) (by omega)
theorem k_readProphetR (D : Nat) (hD : 5 ≤ D) {E : List Nat} {I L : cl_I} {R : cl_Rr} {Y : cl_Y} (hC : cl_C E I L R Y) (ha : 0 ≤ I 11 8) : yi_E zi_Ms D 264 [.inr (.inr (some 11))] (I, L, R, Y) (fun r => ∃ I', ∃ L', r = (none, (I', L', R, Y), 0, 0) ∧ cl_P E I L R Y I' L' R Y ∧ (I 11 3 ≤ I' 11 3) ∧ (I' 11 11 = 0 → I 11 11 = 0) ∧ (0 ≤ I 11 8 → 0 ≤ I' 11 8)) := by
  obtain ⟨d, rfl⟩ : ∃ d, D = d + 1 := ⟨D - 1, by omega⟩
  refine yi_E_of (M := zi_m264) rfl rfl ?_
  have hP : cl_P E I L R Y I L R Y := cl_P_r hC
  show yi_G zi_Ms d zi_m264 (0, [(0, .inr (.inr (some 11)))], [], (I, L, R, Y), 0, 0) _
  have pt16 : ∀ (Ip16 : cl_I), (cl_P E I L R Y Ip16 L R Y) → (I 11 3 ≤ Ip16 11 3) → (Ip16 11 11 = 0 → I 11 11 = 0) → (0 ≤ I 11 8 → 0 ≤ Ip16 11 8) → yi_G zi_Ms d zi_m264 (16, [(0, .inr (.inr (some 11)))], [], (Ip16, L, R, Y), 0, 0) (fun r => ∃ I', ∃ L', r = (none, (I', L', R, Y), 0, 0) ∧ cl_P E I L R Y I' L' R Y ∧ (I 11 3 ≤ I' 11 3) ∧ (I' 11 11 = 0 → I 11 11 = 0) ∧ (0 ≤ I 11 8 → 0 ≤ I' 11 8)) := by
    intro Ip16 hPp16 ua va wa
    refine yi_G_run 2 (19, [(0, .inr (.inr (some 11)))], [.inl 8, .inr (.inr (some 11))], (Ip16, L, R, Y), 0, 0) (fun _ => rfl) ?_
    refine yi_G_callv rfl rfl (cl_rcv (cl_11 hPp16.1) rfl) rfl (k_takeKindR d (by omega) hPp16.1  ) ?_
    rintro _ ⟨I1, L1, rfl, hQ1, x1a, x1b, x1c, x1d⟩
    have hP1 := cl_P_t hPp16 hQ1
    show yi_G zi_Ms d zi_m264 (22, [(0, .inr (.inr (some 11)))], [], (I1, L1, R, Y), 0, 0) _
    refine yi_G_run 1 (23, [(0, .inr (.inr (some 11)))], [.inr (.inr (some 11))], (I1, L1, R, Y), 0, 0) (fun _ => rfl) ?_
    refine yi_G_callv rfl rfl (cl_rcv (cl_11 hP1.1) rfl) rfl (k_takeNewNameR d (by omega) hP1.1  ) ?_
    rintro _ ⟨z2, I2, L2, rfl, hQ2, x2a, x2b, x2c⟩
    have hP2 := cl_P_t hP1 hQ2
    show yi_G zi_Ms d zi_m264 (26, [(0, .inr (.inr (some 11)))], [.inr (.inl z2)], (I2, L2, R, Y), 0, 0) _
    refine yi_G_run 2 (28, [(1, .inr (.inl z2)), (0, .inr (.inr (some 11)))], [.inr (.inr (some 11))], (I2, L2, R, Y), 0, 0) (fun _ => rfl) ?_
    refine cl_G_gi rfl (cl_T_K (cl_11 hP2.1)) rfl rfl rfl ?_
    refine yi_G_run 3 (35, [(3, .inl (yi_w ((I2 11 9) - 25))), (1, .inr (.inl z2)), (0, .inr (.inr (some 11)))], [], (I2, L2, R, Y), 0, 0) (fun _ => rfl) ?_
    have pt58 : ∀ (Ip58 : cl_I), (cl_P E I L R Y Ip58 L2 R Y) → (I 11 3 ≤ Ip58 11 3) → (Ip58 11 11 = 0 → I 11 11 = 0) → (0 ≤ I 11 8 → 0 ≤ Ip58 11 8) → yi_G zi_Ms d zi_m264 (58, [(3, .inl (yi_w ((I2 11 9) - 25))), (1, .inr (.inl z2)), (0, .inr (.inr (some 11)))], [], (Ip58, L2, R, Y), 0, 0) (fun r => ∃ I', ∃ L', r = (none, (I', L', R, Y), 0, 0) ∧ cl_P E I L R Y I' L' R Y ∧ (I 11 3 ≤ I' 11 3) ∧ (I' 11 11 = 0 → I 11 11 = 0) ∧ (0 ≤ I 11 8 → 0 ≤ I' 11 8)) := by
      intro Ip58 hPp58 ub vb wb
      refine yi_G_run 1 (59, [(3, .inl (yi_w ((I2 11 9) - 25))), (1, .inr (.inl z2)), (0, .inr (.inr (some 11)))], [.inr (.inr (some 11))], (Ip58, L2, R, Y), 0, 0) (fun _ => rfl) ?_
      refine yi_G_callv rfl rfl (cl_rcv (cl_11 hPp58.1) rfl) rfl (k_advanceR d (by omega) hPp58.1  ) ?_
      rintro _ ⟨I3, L3, rfl, hQ3, x3a, x3b, x3c, x3d, x3e, x3f, x3g⟩
      have hP3 := cl_P_t hPp58 hQ3
      show yi_G zi_Ms d zi_m264 (62, [(3, .inl (yi_w ((I2 11 9) - 25))), (1, .inr (.inl z2)), (0, .inr (.inr (some 11)))], [], (I3, L3, R, Y), 0, 0) _
      refine yi_G_run 2 (65, [(3, .inl (yi_w ((I2 11 9) - 25))), (1, .inr (.inl z2)), (0, .inr (.inr (some 11)))], [.inl 9, .inr (.inr (some 11))], (I3, L3, R, Y), 0, 0) (fun _ => rfl) ?_
      refine yi_G_callv rfl rfl (cl_rcv (cl_11 hP3.1) rfl) rfl (k_takeKindR d (by omega) hP3.1  ) ?_
      rintro _ ⟨I4, L4, rfl, hQ4, x4a, x4b, x4c, x4d⟩
      have hP4 := cl_P_t hP3 hQ4
      show yi_G zi_Ms d zi_m264 (68, [(3, .inl (yi_w ((I2 11 9) - 25))), (1, .inr (.inl z2)), (0, .inr (.inr (some 11)))], [], (I4, L4, R, Y), 0, 0) _
      refine yi_G_run 3 (73, [(3, .inl (yi_w ((I2 11 9) - 25))), (1, .inr (.inl z2)), (0, .inr (.inr (some 11)))], [.inl 999, .inl 0, .inr (.inr (some 11))], (I4, L4, R, Y), 0, 0) (fun _ => rfl) ?_
      refine yi_G_callv rfl rfl (cl_rcv (cl_11 hP4.1) rfl) rfl (k_takeNumberR d (by omega) hP4.1  ) ?_
      rintro _ ⟨z5, I5, L5, rfl, hQ5, x5a, x5b, x5c, x5d⟩
      have hP5 := cl_P_t hP4 hQ5
      show yi_G zi_Ms d zi_m264 (76, [(3, .inl (yi_w ((I2 11 9) - 25))), (1, .inr (.inl z2)), (0, .inr (.inr (some 11)))], [.inl z5], (I5, L5, R, Y), 0, 0) _
      refine yi_G_run 3 (81, [(4, .inl z5), (3, .inl (yi_w ((I2 11 9) - 25))), (1, .inr (.inl z2)), (0, .inr (.inr (some 11)))], [.inl 59, .inr (.inr (some 11))], (I5, L5, R, Y), 0, 0) (fun _ => rfl) ?_
      refine yi_G_callv rfl rfl (cl_rcv (cl_11 hP5.1) rfl) rfl (k_takeKindR d (by omega) hP5.1  ) ?_
      rintro _ ⟨I6, L6, rfl, hQ6, x6a, x6b, x6c, x6d⟩
      have hP6 := cl_P_t hP5 hQ6
      show yi_G zi_Ms d zi_m264 (84, [(4, .inl z5), (3, .inl (yi_w ((I2 11 9) - 25))), (1, .inr (.inl z2)), (0, .inr (.inr (some 11)))], [], (I6, L6, R, Y), 0, 0) _
      refine yi_G_run 1 (85, [(4, .inl z5), (3, .inl (yi_w ((I2 11 9) - 25))), (1, .inr (.inl z2)), (0, .inr (.inr (some 11)))], [.inr (.inr (some 11))], (I6, L6, R, Y), 0, 0) (fun _ => rfl) ?_
      refine cl_G_gi rfl (cl_T_K (cl_11 hP6.1)) rfl rfl rfl ?_
      by_cases h7 : (I6 11 11) = 0
      · refine yi_G_if1 false rfl (yi_ne_f h7) ?_
        refine yi_G_run 1 (92, [(4, .inl z5), (3, .inl (yi_w ((I2 11 9) - 25))), (1, .inr (.inl z2)), (0, .inr (.inr (some 11)))], [.inr (.inr (some 11))], (I6, L6, R, Y), 0, 0) (fun _ => rfl) ?_
        obtain ⟨q8, e9, t10⟩ := cl_rf hP6.1 (cl_11 hP6.1) (k := 6) rfl
        refine cl_G_gr rfl (cl_T_K (cl_11 hP6.1)) rfl rfl rfl e9 ?_
        refine yi_G_run 3 (99, [(4, .inl z5), (3, .inl (yi_w ((I2 11 9) - 25))), (1, .inr (.inl z2)), (0, .inr (.inr (some 11)))], [.inl z5, .inl (yi_w ((I2 11 9) - 25)), .inr (.inl z2), .inr (.inr (some q8))], (I6, L6, R, Y), 0, 0) (fun _ => rfl) ?_
        refine yi_G_callv rfl rfl (cl_rcv t10 rfl) rfl (k_addProphet d (by omega) hP6.1 t10 ) ?_
        rintro _ ⟨I11, L11, rfl, hQ11, x11a⟩
        have hP11 := cl_P_t hP6 hQ11
        show yi_G zi_Ms d zi_m264 (102, [(4, .inl z5), (3, .inl (yi_w ((I2 11 9) - 25))), (1, .inr (.inl z2)), (0, .inr (.inr (some 11)))], [], (I11, L11, R, Y), 0, 0) _
        have r12 : I11 11 3 = I6 11 3 := by rw [x11a 11 3 (cl_11 hP6.1)]
        have r13 : I11 11 8 = I6 11 8 := by rw [x11a 11 8 (cl_11 hP6.1)]
        have r14 : I11 11 11 = I6 11 11 := by rw [x11a 11 11 (cl_11 hP6.1)]
        exact yi_G_retv rfl rfl (⟨_, _, rfl, hP11, by omega, by omega, by omega⟩)
      · refine yi_G_if1 true rfl (yi_ne_t h7) ?_
        exact yi_G_retv rfl rfl (⟨_, _, rfl, hP6, by omega, by omega, by omega⟩)
    refine yi_G_run 1 (36, [(3, .inl (yi_w ((I2 11 9) - 25))), (1, .inr (.inl z2)), (0, .inr (.inr (some 11)))], [.inr (.inr (some 11))], (I2, L2, R, Y), 0, 0) (fun _ => rfl) ?_
    refine cl_G_gi rfl (cl_T_K (cl_11 hP2.1)) rfl rfl rfl ?_
    refine yi_G_run 1 (41, [(3, .inl (yi_w ((I2 11 9) - 25))), (1, .inr (.inl z2)), (0, .inr (.inr (some 11)))], [.inl 25, .inl (I2 11 9)], (I2, L2, R, Y), 0, 0) (fun _ => rfl) ?_
    by_cases h15 : (I2 11 9) < 25
    · refine yi_G_if2 true rfl (yi_lt_t h15) ?_
      refine yi_G_run 2 (55, [(3, .inl (yi_w ((I2 11 9) - 25))), (1, .inr (.inl z2)), (0, .inr (.inr (some 11)))], [.inl 1, .inr (.inr (some 11))], (I2, L2, R, Y), 0, 0) (fun _ => rfl) ?_
      refine yi_G_callv rfl rfl (cl_rcv (cl_11 hP2.1) rfl) rfl (k_wrongR d (by omega) hP2.1  (by omega)) ?_
      rintro _ ⟨I16, rfl, hQ16, x16a, x16b, x16c, x16d⟩
      have hP16 := cl_P_t hP2 hQ16
      show yi_G zi_Ms d zi_m264 (58, [(3, .inl (yi_w ((I2 11 9) - 25))), (1, .inr (.inl z2)), (0, .inr (.inr (some 11)))], [], (I16, L2, R, Y), 0, 0) _
      exact pt58 I16 hP16 (by omega) (by omega) (by omega)
    · refine yi_G_if2 false rfl (yi_lt_f h15) ?_
      refine yi_G_run 1 (45, [(3, .inl (yi_w ((I2 11 9) - 25))), (1, .inr (.inl z2)), (0, .inr (.inr (some 11)))], [.inr (.inr (some 11))], (I2, L2, R, Y), 0, 0) (fun _ => rfl) ?_
      refine cl_G_gi rfl (cl_T_K (cl_11 hP2.1)) rfl rfl rfl ?_
      refine yi_G_run 1 (50, [(3, .inl (yi_w ((I2 11 9) - 25))), (1, .inr (.inl z2)), (0, .inr (.inr (some 11)))], [.inl 29, .inl (I2 11 9)], (I2, L2, R, Y), 0, 0) (fun _ => rfl) ?_
      by_cases h17 : (I2 11 9) ≤ 29
      · refine yi_G_if2 true rfl (yi_le_t h17) ?_
        exact pt58 I2 hP2 (by omega) (by omega) (by omega)
      · refine yi_G_if2 false rfl (yi_le_f h17) ?_
        refine yi_G_run 2 (55, [(3, .inl (yi_w ((I2 11 9) - 25))), (1, .inr (.inl z2)), (0, .inr (.inr (some 11)))], [.inl 1, .inr (.inr (some 11))], (I2, L2, R, Y), 0, 0) (fun _ => rfl) ?_
        refine yi_G_callv rfl rfl (cl_rcv (cl_11 hP2.1) rfl) rfl (k_wrongR d (by omega) hP2.1  (by omega)) ?_
        rintro _ ⟨I18, rfl, hQ18, x18a, x18b, x18c, x18d⟩
        have hP18 := cl_P_t hP2 hQ18
        show yi_G zi_Ms d zi_m264 (58, [(3, .inl (yi_w ((I2 11 9) - 25))), (1, .inr (.inl z2)), (0, .inr (.inr (some 11)))], [], (I18, L2, R, Y), 0, 0) _
        exact pt58 I18 hP18 (by omega) (by omega) (by omega)
  refine yi_G_run 1 (1, [(0, .inr (.inr (some 11)))], [.inr (.inr (some 11))], (I, L, R, Y), 0, 0) (fun _ => rfl) ?_
  obtain ⟨q19, e20, t21⟩ := cl_rf hP.1 (cl_11 hP.1) (k := 6) rfl
  refine cl_G_gr rfl (cl_T_K (cl_11 hP.1)) rfl rfl rfl e20 ?_
  have b22 := cl_rd hP.1 t21 (k := 17) (lo := 0) (hi := 5) rfl
  refine cl_G_gi rfl (cl_T_K t21) rfl rfl rfl ?_
  refine yi_G_run 1 (8, [(0, .inr (.inr (some 11)))], [.inl 5, .inl (I q19 17)], (I, L, R, Y), 0, 0) (fun _ => rfl) ?_
  by_cases h23 : (I q19 17) < 5
  · refine yi_G_if2 true rfl (yi_lt_t h23) ?_
    exact pt16 I hP (by omega) (by omega) (by omega)
  · refine yi_G_if2 false rfl (yi_lt_f h23) ?_
    refine yi_G_run 2 (13, [(0, .inr (.inr (some 11)))], [.inl 5, .inr (.inr (some 11))], (I, L, R, Y), 0, 0) (fun _ => rfl) ?_
    refine yi_G_callv rfl rfl (cl_rcv (cl_11 hP.1) rfl) rfl (k_wrongR d (by omega) hP.1  (by omega)) ?_
    rintro _ ⟨I24, rfl, hQ24, x24a, x24b, x24c, x24d⟩
    have hP24 := cl_P_t hP hQ24
    show yi_G zi_Ms d zi_m264 (16, [(0, .inr (.inr (some 11)))], [], (I24, L, R, Y), 0, 0) _
    exact pt16 I24 hP24 (by omega) (by omega) (by omega)
theorem k_readLawR (D : Nat) (hD : 22 ≤ D) {E : List Nat} {I L : cl_I} {R : cl_Rr} {Y : cl_Y} (hC : cl_C E I L R Y) (ha : 0 ≤ I 11 8) : yi_E zi_Ms D 259 [.inr (.inr (some 11))] (I, L, R, Y) (fun r => ∃ I', ∃ L', r = (none, (I', L', R, Y), 0, 0) ∧ cl_P E I L R Y I' L' R Y ∧ (I 11 3 ≤ I' 11 3) ∧ (I' 11 11 = 0 → I 11 11 = 0) ∧ (0 ≤ I 11 8 → 0 ≤ I' 11 8)) := by
  obtain ⟨d, rfl⟩ : ∃ d, D = d + 1 := ⟨D - 1, by omega⟩
  refine yi_E_of (M := zi_m259) rfl rfl ?_
  have hP : cl_P E I L R Y I L R Y := cl_P_r hC
  show yi_G zi_Ms d zi_m259 (0, [(0, .inr (.inr (some 11)))], [], (I, L, R, Y), 0, 0) _
  have pt16 : ∀ (Ip16 : cl_I), (cl_P E I L R Y Ip16 L R Y) → (I 11 3 ≤ Ip16 11 3) → (Ip16 11 11 = 0 → I 11 11 = 0) → (0 ≤ I 11 8 → 0 ≤ Ip16 11 8) → yi_G zi_Ms d zi_m259 (16, [(0, .inr (.inr (some 11)))], [], (Ip16, L, R, Y), 0, 0) (fun r => ∃ I', ∃ L', r = (none, (I', L', R, Y), 0, 0) ∧ cl_P E I L R Y I' L' R Y ∧ (I 11 3 ≤ I' 11 3) ∧ (I' 11 11 = 0 → I 11 11 = 0) ∧ (0 ≤ I 11 8 → 0 ≤ I' 11 8)) := by
    intro Ip16 hPp16 ua va wa
    refine yi_G_run 2 (19, [(0, .inr (.inr (some 11)))], [.inl 10, .inr (.inr (some 11))], (Ip16, L, R, Y), 0, 0) (fun _ => rfl) ?_
    refine yi_G_callv rfl rfl (cl_rcv (cl_11 hPp16.1) rfl) rfl (k_takeKindR d (by omega) hPp16.1  ) ?_
    rintro _ ⟨I1, L1, rfl, hQ1, x1a, x1b, x1c, x1d⟩
    have hP1 := cl_P_t hPp16 hQ1
    show yi_G zi_Ms d zi_m259 (22, [(0, .inr (.inr (some 11)))], [], (I1, L1, R, Y), 0, 0) _
    refine yi_G_run 1 (23, [(0, .inr (.inr (some 11)))], [.inr (.inr (some 11))], (I1, L1, R, Y), 0, 0) (fun _ => rfl) ?_
    have b2 := cl_rd hP1.1 (cl_11 hP1.1) (k := 3) (lo := 0) (hi := 1002) rfl
    refine cl_G_gi rfl (cl_T_K (cl_11 hP1.1)) rfl rfl rfl ?_
    refine yi_G_run 3 (29, [(1, .inl (I1 11 3)), (0, .inr (.inr (some 11)))], [.inl 0, .inr (.inr (some 11))], (I1, L1, R, Y), 0, 0) (fun _ => rfl) ?_
    refine yi_G_callv rfl rfl (cl_rcv (cl_11 hP1.1) rfl) rfl (k_formula0 d (by omega) hP1.1  (by omega)) ?_
    rintro _ ⟨I3, L3, rfl, hQ3, x3a, x3b, x3c⟩
    have hP3 := cl_P_t hP1 hQ3
    show yi_G zi_Ms d zi_m259 (32, [(1, .inl (I1 11 3)), (0, .inr (.inr (some 11)))], [], (I3, L3, R, Y), 0, 0) _
    refine yi_G_run 2 (35, [(1, .inl (I1 11 3)), (0, .inr (.inr (some 11)))], [.inl 59, .inr (.inr (some 11))], (I3, L3, R, Y), 0, 0) (fun _ => rfl) ?_
    refine yi_G_callv rfl rfl (cl_rcv (cl_11 hP3.1) rfl) rfl (k_takeKindR d (by omega) hP3.1  ) ?_
    rintro _ ⟨I4, L4, rfl, hQ4, x4a, x4b, x4c, x4d⟩
    have hP4 := cl_P_t hP3 hQ4
    show yi_G zi_Ms d zi_m259 (38, [(1, .inl (I1 11 3)), (0, .inr (.inr (some 11)))], [], (I4, L4, R, Y), 0, 0) _
    refine yi_G_run 1 (39, [(1, .inl (I1 11 3)), (0, .inr (.inr (some 11)))], [.inr (.inr (some 11))], (I4, L4, R, Y), 0, 0) (fun _ => rfl) ?_
    refine cl_G_gi rfl (cl_T_K (cl_11 hP4.1)) rfl rfl rfl ?_
    by_cases h5 : (I4 11 11) = 0
    · refine yi_G_if1 false rfl (yi_ne_f h5) ?_
      refine yi_G_run 1 (46, [(1, .inl (I1 11 3)), (0, .inr (.inr (some 11)))], [.inr (.inr (some 11))], (I4, L4, R, Y), 0, 0) (fun _ => rfl) ?_
      obtain ⟨q6, e7, t8⟩ := cl_rf hP4.1 (cl_11 hP4.1) (k := 6) rfl
      refine cl_G_gr rfl (cl_T_K (cl_11 hP4.1)) rfl rfl rfl e7 ?_
      refine yi_G_run 2 (51, [(1, .inl (I1 11 3)), (0, .inr (.inr (some 11)))], [.inr (.inr (some 11)), .inl (I1 11 3), .inr (.inr (some q6))], (I4, L4, R, Y), 0, 0) (fun _ => rfl) ?_
      have b9 := cl_rd hP4.1 (cl_11 hP4.1) (k := 3) (lo := 0) (hi := 1002) rfl
      refine cl_G_gi rfl (cl_T_K (cl_11 hP4.1)) rfl rfl rfl ?_
      refine yi_G_callv rfl rfl (cl_rcv t8 rfl) rfl (k_addLaw d (by omega) hP4.1 t8 ) ?_
      rintro _ ⟨I10, rfl, hQ10, x10a⟩
      have hP10 := cl_P_t hP4 hQ10
      show yi_G zi_Ms d zi_m259 (57, [(1, .inl (I1 11 3)), (0, .inr (.inr (some 11)))], [], (I10, L4, R, Y), 0, 0) _
      have r11 : I10 11 3 = I4 11 3 := by rw [x10a 11 3 (cl_11 hP4.1)]
      have r12 : I10 11 8 = I4 11 8 := by rw [x10a 11 8 (cl_11 hP4.1)]
      have r13 : I10 11 11 = I4 11 11 := by rw [x10a 11 11 (cl_11 hP4.1)]
      exact yi_G_retv rfl rfl (⟨_, _, rfl, hP10, by omega, by omega, by omega⟩)
    · refine yi_G_if1 true rfl (yi_ne_t h5) ?_
      exact yi_G_retv rfl rfl (⟨_, _, rfl, hP4, by omega, by omega, by omega⟩)
  refine yi_G_run 1 (1, [(0, .inr (.inr (some 11)))], [.inr (.inr (some 11))], (I, L, R, Y), 0, 0) (fun _ => rfl) ?_
  obtain ⟨q14, e15, t16⟩ := cl_rf hP.1 (cl_11 hP.1) (k := 6) rfl
  refine cl_G_gr rfl (cl_T_K (cl_11 hP.1)) rfl rfl rfl e15 ?_
  have b17 := cl_rd hP.1 t16 (k := 18) (lo := 0) (hi := 4) rfl
  refine cl_G_gi rfl (cl_T_K t16) rfl rfl rfl ?_
  refine yi_G_run 1 (8, [(0, .inr (.inr (some 11)))], [.inl 4, .inl (I q14 18)], (I, L, R, Y), 0, 0) (fun _ => rfl) ?_
  by_cases h18 : (I q14 18) < 4
  · refine yi_G_if2 true rfl (yi_lt_t h18) ?_
    exact pt16 I hP (by omega) (by omega) (by omega)
  · refine yi_G_if2 false rfl (yi_lt_f h18) ?_
    refine yi_G_run 2 (13, [(0, .inr (.inr (some 11)))], [.inl 5, .inr (.inr (some 11))], (I, L, R, Y), 0, 0) (fun _ => rfl) ?_
    refine yi_G_callv rfl rfl (cl_rcv (cl_11 hP.1) rfl) rfl (k_wrongR d (by omega) hP.1  (by omega)) ?_
    rintro _ ⟨I19, rfl, hQ19, x19a, x19b, x19c, x19d⟩
    have hP19 := cl_P_t hP hQ19
    show yi_G zi_Ms d zi_m259 (16, [(0, .inr (.inr (some 11)))], [], (I19, L, R, Y), 0, 0) _
    exact pt16 I19 hP19 (by omega) (by omega) (by omega)
set_option maxHeartbeats 4000000 in
theorem k_readWishR (D : Nat) (hD : 22 ≤ D) {E : List Nat} {I L : cl_I} {R : cl_Rr} {Y : cl_Y} (hC : cl_C E I L R Y) (ha : 0 ≤ I 11 8) : yi_E zi_Ms D 267 [.inr (.inr (some 11))] (I, L, R, Y) (fun r => ∃ I', ∃ L', r = (none, (I', L', R, Y), 0, 0) ∧ cl_P E I L R Y I' L' R Y ∧ (I 11 3 ≤ I' 11 3) ∧ (I' 11 11 = 0 → I 11 11 = 0) ∧ (0 ≤ I 11 8 → 0 ≤ I' 11 8)) := by
  obtain ⟨d, rfl⟩ : ∃ d, D = d + 1 := ⟨D - 1, by omega⟩
  refine yi_E_of (M := zi_m267) rfl rfl ?_
  have hP : cl_P E I L R Y I L R Y := cl_P_r hC
  show yi_G zi_Ms d zi_m267 (0, [(0, .inr (.inr (some 11)))], [], (I, L, R, Y), 0, 0) _
  have pt17 : ∀ (Ip17 : cl_I), (cl_P E I L R Y Ip17 L R Y) → (I 11 3 ≤ Ip17 11 3) → (Ip17 11 11 = 0 → I 11 11 = 0) → (0 ≤ I 11 8 → 0 ≤ Ip17 11 8) → yi_G zi_Ms d zi_m267 (17, [(0, .inr (.inr (some 11)))], [], (Ip17, L, R, Y), 0, 0) (fun r => ∃ I', ∃ L', r = (none, (I', L', R, Y), 0, 0) ∧ cl_P E I L R Y I' L' R Y ∧ (I 11 3 ≤ I' 11 3) ∧ (I' 11 11 = 0 → I 11 11 = 0) ∧ (0 ≤ I 11 8 → 0 ≤ I' 11 8)) := by
    intro Ip17 hPp17 ua va wa
    refine yi_G_run 2 (20, [(0, .inr (.inr (some 11)))], [.inl 11, .inr (.inr (some 11))], (Ip17, L, R, Y), 0, 0) (fun _ => rfl) ?_
    refine yi_G_callv rfl rfl (cl_rcv (cl_11 hPp17.1) rfl) rfl (k_takeKindR d (by omega) hPp17.1  ) ?_
    rintro _ ⟨I1, L1, rfl, hQ1, x1a, x1b, x1c, x1d⟩
    have hP1 := cl_P_t hPp17 hQ1
    show yi_G zi_Ms d zi_m267 (23, [(0, .inr (.inr (some 11)))], [], (I1, L1, R, Y), 0, 0) _
    refine yi_G_run 2 (25, [(0, .inr (.inr (some 11)))], [.inr (.inr (some 11)), .inr (.inr (some 11))], (I1, L1, R, Y), 0, 0) (fun _ => rfl) ?_
    obtain ⟨q2, e3, t4⟩ := cl_rf hP1.1 (cl_11 hP1.1) (k := 6) rfl
    refine cl_G_gr rfl (cl_T_K (cl_11 hP1.1)) rfl rfl rfl e3 ?_
    obtain ⟨q5, e6, t7, n8⟩ := cl_rn hP1.1 t4 (k := 2) (m := 4) rfl
    refine cl_G_gr rfl (cl_T_K t4) rfl rfl rfl e6 ?_
    refine yi_G_run 1 (32, [(0, .inr (.inr (some 11)))], [.inr (.inr (some 11)), .inr (.inr (some q5)), .inr (.inr (some 11))], (I1, L1, R, Y), 0, 0) (fun _ => rfl) ?_
    refine cl_G_gr rfl (cl_T_K (cl_11 hP1.1)) rfl rfl rfl e3 ?_
    have b9 := cl_rd hP1.1 t4 (k := 17) (lo := 0) (hi := 5) rfl
    refine cl_G_gi rfl (cl_T_K t4) rfl rfl rfl ?_
    refine yi_G_callv rfl rfl (cl_rcv (cl_11 hP1.1) rfl) rfl (k_takeNameR d (by omega) hP1.1 t7 ) ?_
    rintro _ ⟨z10, I10, L10, rfl, hQ10, x10a, x10b, x10c⟩
    have hP10 := cl_P_t hP1 hQ10
    show yi_G zi_Ms d zi_m267 (41, [(0, .inr (.inr (some 11)))], [.inl z10], (I10, L10, R, Y), 0, 0) _
    refine yi_G_run 2 (43, [(1, .inl z10), (0, .inr (.inr (some 11)))], [.inr (.inr (some 11))], (I10, L10, R, Y), 0, 0) (fun _ => rfl) ?_
    refine cl_G_gr rfl (cl_T_K (cl_11 hP10.1)) rfl rfl rfl e3 ?_
    refine yi_G_run 1 (47, [(1, .inl z10), (0, .inr (.inr (some 11)))], [.inl z10, .inr (.inr (some q2))], (I10, L10, R, Y), 0, 0) (fun _ => rfl) ?_
    refine yi_G_callv rfl rfl (cl_rcv t4 rfl) rfl (k_kindOf d (by omega) hP10.1 t4 ) ?_
    rintro _ ⟨z11, rfl⟩
    show yi_G zi_Ms d zi_m267 (50, [(1, .inl z10), (0, .inr (.inr (some 11)))], [.inl z11], (I10, L10, R, Y), 0, 0) _
    refine yi_G_run 3 (54, [(2, .inl z11), (1, .inl z10), (0, .inr (.inr (some 11)))], [.inl 12, .inr (.inr (some 11))], (I10, L10, R, Y), 0, 0) (fun _ => rfl) ?_
    refine yi_G_callv rfl rfl (cl_rcv (cl_11 hP10.1) rfl) rfl (k_takeKindR d (by omega) hP10.1  ) ?_
    rintro _ ⟨I12, L12, rfl, hQ12, x12a, x12b, x12c, x12d⟩
    have hP12 := cl_P_t hP10 hQ12
    show yi_G zi_Ms d zi_m267 (57, [(2, .inl z11), (1, .inl z10), (0, .inr (.inr (some 11)))], [], (I12, L12, R, Y), 0, 0) _
    refine yi_G_run 3 (61, [(2, .inl z11), (1, .inl z10), (0, .inr (.inr (some 11)))], [.inl 99, .inl 0, .inr (.inr (some 11))], (I12, L12, R, Y), 0, 0) (fun _ => rfl) ?_
    refine yi_G_callv rfl rfl (cl_rcv (cl_11 hP12.1) rfl) rfl (k_takeNumberR d (by omega) hP12.1  ) ?_
    rintro _ ⟨z13, I13, L13, rfl, hQ13, x13a, x13b, x13c, x13d⟩
    have hP13 := cl_P_t hP12 hQ13
    show yi_G zi_Ms d zi_m267 (64, [(2, .inl z11), (1, .inl z10), (0, .inr (.inr (some 11)))], [.inl z13], (I13, L13, R, Y), 0, 0) _
    refine yi_G_run 2 (66, [(3, .inl z13), (2, .inl z11), (1, .inl z10), (0, .inr (.inr (some 11)))], [.inr (.inr (some 11))], (I13, L13, R, Y), 0, 0) (fun _ => rfl) ?_
    have b14 := cl_rd hP13.1 (cl_11 hP13.1) (k := 3) (lo := 0) (hi := 1002) rfl
    refine cl_G_gi rfl (cl_T_K (cl_11 hP13.1)) rfl rfl rfl ?_
    refine yi_G_run 3 (73, [(4, .inl (I13 11 3)), (3, .inl z13), (2, .inl z11), (1, .inl z10), (0, .inr (.inr (some 11)))], [.inl 0, .inr (.inr (some 11))], (I13, L13, R, Y), 0, 0) (fun _ => rfl) ?_
    refine cl_G_pi rfl (cl_T_K (cl_11 hP13.1)) rfl rfl rfl ?_
    have hP15 := cl_P_uI (k := 5) (v := 0) hP13 (cl_11 hP13.1) (by decide) (cl_hv0 rfl)
    generalize w16 : yi_u I13 11 5 0 = I17 at hP15 ⊢
    have pt95 : ∀ (Ip95 : cl_I) (Lp95 : cl_I), (cl_P E I L R Y Ip95 Lp95 R Y) → (I 11 3 ≤ Ip95 11 3) → (Ip95 11 11 = 0 → I 11 11 = 0) → (0 ≤ I 11 8 → 0 ≤ Ip95 11 8) → yi_G zi_Ms d zi_m267 (95, [(4, .inl (I13 11 3)), (3, .inl z13), (2, .inl z11), (1, .inl z10), (0, .inr (.inr (some 11)))], [], (Ip95, Lp95, R, Y), 0, 0) (fun r => ∃ I', ∃ L', r = (none, (I', L', R, Y), 0, 0) ∧ cl_P E I L R Y I' L' R Y ∧ (I 11 3 ≤ I' 11 3) ∧ (I' 11 11 = 0 → I 11 11 = 0) ∧ (0 ≤ I 11 8 → 0 ≤ I' 11 8)) := by
      intro Ip95 Lp95 hPp95 ud vd wd
      refine yi_G_run 2 (97, [(4, .inl (I13 11 3)), (3, .inl z13), (2, .inl z11), (1, .inl z10), (0, .inr (.inr (some 11)))], [.inl 0, .inr (.inr (some 11))], (Ip95, Lp95, R, Y), 0, 0) (fun _ => rfl) ?_
      refine cl_G_pi rfl (cl_T_K (cl_11 hPp95.1)) rfl rfl rfl ?_
      have hP18 := cl_P_uI (k := 7) (v := 0) hPp95 (cl_11 hPp95.1) (by decide) (cl_hv0 rfl)
      generalize w19 : yi_u Ip95 11 7 0 = I20 at hP18 ⊢
      refine yi_G_run 2 (103, [(4, .inl (I13 11 3)), (3, .inl z13), (2, .inl z11), (1, .inl z10), (0, .inr (.inr (some 11)))], [.inl 59, .inr (.inr (some 11))], (I20, Lp95, R, Y), 0, 0) (fun _ => rfl) ?_
      have r22 : I20 11 3 = Ip95 11 3 := by rw [← w19, yi_u_ne _ _ (fun z => absurd z.2 (by decide))]
      have r23 : I20 11 8 = Ip95 11 8 := by rw [← w19, yi_u_ne _ _ (fun z => absurd z.2 (by decide))]
      have r24 : I20 11 11 = Ip95 11 11 := by rw [← w19, yi_u_ne _ _ (fun z => absurd z.2 (by decide))]
      refine yi_G_callv rfl rfl (cl_rcv (cl_11 hP18.1) rfl) rfl (k_takeKindR d (by omega) hP18.1  ) ?_
      rintro _ ⟨I21, L21, rfl, hQ21, x21a, x21b, x21c, x21d⟩
      have hP21 := cl_P_t hP18 hQ21
      show yi_G zi_Ms d zi_m267 (106, [(4, .inl (I13 11 3)), (3, .inl z13), (2, .inl z11), (1, .inl z10), (0, .inr (.inr (some 11)))], [], (I21, L21, R, Y), 0, 0) _
      have pt116 : ∀ (Ip116 : cl_I), (cl_P E I L R Y Ip116 L21 R Y) → (I 11 3 ≤ Ip116 11 3) → (Ip116 11 11 = 0 → I 11 11 = 0) → (0 ≤ I 11 8 → 0 ≤ Ip116 11 8) → yi_G zi_Ms d zi_m267 (116, [(4, .inl (I13 11 3)), (3, .inl z13), (2, .inl z11), (1, .inl z10), (0, .inr (.inr (some 11)))], [], (Ip116, L21, R, Y), 0, 0) (fun r => ∃ I', ∃ L', r = (none, (I', L', R, Y), 0, 0) ∧ cl_P E I L R Y I' L' R Y ∧ (I 11 3 ≤ I' 11 3) ∧ (I' 11 11 = 0 → I 11 11 = 0) ∧ (0 ≤ I 11 8 → 0 ≤ I' 11 8)) := by
        intro Ip116 hPp116 ub vb wb
        have pt138 : ∀ (Ip138 : cl_I), (cl_P E I L R Y Ip138 L21 R Y) → (I 11 3 ≤ Ip138 11 3) → (Ip138 11 11 = 0 → I 11 11 = 0) → (0 ≤ I 11 8 → 0 ≤ Ip138 11 8) → yi_G zi_Ms d zi_m267 (138, [(4, .inl (I13 11 3)), (3, .inl z13), (2, .inl z11), (1, .inl z10), (0, .inr (.inr (some 11)))], [], (Ip138, L21, R, Y), 0, 0) (fun r => ∃ I', ∃ L', r = (none, (I', L', R, Y), 0, 0) ∧ cl_P E I L R Y I' L' R Y ∧ (I 11 3 ≤ I' 11 3) ∧ (I' 11 11 = 0 → I 11 11 = 0) ∧ (0 ≤ I 11 8 → 0 ≤ I' 11 8)) := by
          intro Ip138 hPp138 uc vc wc
          refine yi_G_run 1 (139, [(4, .inl (I13 11 3)), (3, .inl z13), (2, .inl z11), (1, .inl z10), (0, .inr (.inr (some 11)))], [.inr (.inr (some 11))], (Ip138, L21, R, Y), 0, 0) (fun _ => rfl) ?_
          refine cl_G_gi rfl (cl_T_K (cl_11 hPp138.1)) rfl rfl rfl ?_
          by_cases h25 : (Ip138 11 11) = 0
          · refine yi_G_if1 false rfl (yi_ne_f h25) ?_
            refine yi_G_run 1 (146, [(4, .inl (I13 11 3)), (3, .inl z13), (2, .inl z11), (1, .inl z10), (0, .inr (.inr (some 11)))], [.inr (.inr (some 11))], (Ip138, L21, R, Y), 0, 0) (fun _ => rfl) ?_
            refine cl_G_gr rfl (cl_T_K (cl_11 hPp138.1)) rfl rfl rfl e3 ?_
            refine yi_G_run 4 (154, [(4, .inl (I13 11 3)), (3, .inl z13), (2, .inl z11), (1, .inl z10), (0, .inr (.inr (some 11)))], [.inr (.inr (some 11)), .inl (I13 11 3), .inl z13, .inl z10, .inr (.inr (some q2))], (Ip138, L21, R, Y), 0, 0) (fun _ => rfl) ?_
            have b26 := cl_rd hPp138.1 (cl_11 hPp138.1) (k := 3) (lo := 0) (hi := 1002) rfl
            refine cl_G_gi rfl (cl_T_K (cl_11 hPp138.1)) rfl rfl rfl ?_
            refine yi_G_callv rfl rfl (cl_rcv t4 rfl) rfl (k_addWish d (by omega) hPp138.1 t4 ) ?_
            rintro _ ⟨I27, rfl, hQ27, x27a⟩
            have hP27 := cl_P_t hPp138 hQ27
            show yi_G zi_Ms d zi_m267 (160, [(4, .inl (I13 11 3)), (3, .inl z13), (2, .inl z11), (1, .inl z10), (0, .inr (.inr (some 11)))], [], (I27, L21, R, Y), 0, 0) _
            have r28 : I27 11 3 = Ip138 11 3 := by rw [x27a 11 3 (cl_11 hPp138.1)]
            have r29 : I27 11 8 = Ip138 11 8 := by rw [x27a 11 8 (cl_11 hPp138.1)]
            have r30 : I27 11 11 = Ip138 11 11 := by rw [x27a 11 11 (cl_11 hPp138.1)]
            exact yi_G_retv rfl rfl (⟨_, _, rfl, hP27, by omega, by omega, by omega⟩)
          · refine yi_G_if1 true rfl (yi_ne_t h25) ?_
            exact yi_G_retv rfl rfl (⟨_, _, rfl, hPp138, by omega, by omega, by omega⟩)
        refine yi_G_run 2 (118, [(4, .inl (I13 11 3)), (3, .inl z13), (2, .inl z11), (1, .inl z10), (0, .inr (.inr (some 11)))], [.inl 4, .inl z11], (Ip116, L21, R, Y), 0, 0) (fun _ => rfl) ?_
        by_cases h31 : z11 = 4
        · refine yi_G_if2 false rfl (yi_ne_f h31) ?_
          refine yi_G_run 1 (122, [(4, .inl (I13 11 3)), (3, .inl z13), (2, .inl z11), (1, .inl z10), (0, .inr (.inr (some 11)))], [.inr (.inr (some 11))], (Ip116, L21, R, Y), 0, 0) (fun _ => rfl) ?_
          refine cl_G_gi rfl (cl_T_K (cl_11 hPp116.1)) rfl rfl rfl ?_
          by_cases h32 : (Ip116 11 5) = 0
          · refine yi_G_if1 true rfl (yi_eq_t h32) ?_
            exact pt138 Ip116 hPp116 (by omega) (by omega) (by omega)
          · refine yi_G_if1 false rfl (yi_eq_f h32) ?_
            refine yi_G_run 2 (130, [(4, .inl (I13 11 3)), (3, .inl z13), (2, .inl z11), (1, .inl z10), (0, .inr (.inr (some 11)))], [.inl 0, .inr (.inr (some 11))], (Ip116, L21, R, Y), 0, 0) (fun _ => rfl) ?_
            refine yi_G_callv rfl rfl (cl_rcv (cl_11 hPp116.1) rfl) rfl (k_emitR d (by omega) hPp116.1  ) ?_
            rintro _ ⟨I33, rfl, hQ33, x33a, x33b, x33c⟩
            have hP33 := cl_P_t hPp116 hQ33
            show yi_G zi_Ms d zi_m267 (133, [(4, .inl (I13 11 3)), (3, .inl z13), (2, .inl z11), (1, .inl z10), (0, .inr (.inr (some 11)))], [], (I33, L21, R, Y), 0, 0) _
            refine yi_G_run 2 (135, [(4, .inl (I13 11 3)), (3, .inl z13), (2, .inl z11), (1, .inl z10), (0, .inr (.inr (some 11)))], [.inl 2, .inr (.inr (some 11))], (I33, L21, R, Y), 0, 0) (fun _ => rfl) ?_
            refine yi_G_callv rfl rfl (cl_rcv (cl_11 hP33.1) rfl) rfl (k_emitR d (by omega) hP33.1  ) ?_
            rintro _ ⟨I34, rfl, hQ34, x34a, x34b, x34c⟩
            have hP34 := cl_P_t hP33 hQ34
            show yi_G zi_Ms d zi_m267 (138, [(4, .inl (I13 11 3)), (3, .inl z13), (2, .inl z11), (1, .inl z10), (0, .inr (.inr (some 11)))], [], (I34, L21, R, Y), 0, 0) _
            exact pt138 I34 hP34 (by omega) (by omega) (by omega)
        · refine yi_G_if2 true rfl (yi_ne_t h31) ?_
          exact pt138 Ip116 hPp116 (by omega) (by omega) (by omega)
      refine yi_G_run 2 (108, [(4, .inl (I13 11 3)), (3, .inl z13), (2, .inl z11), (1, .inl z10), (0, .inr (.inr (some 11)))], [.inl 2, .inl z11], (I21, L21, R, Y), 0, 0) (fun _ => rfl) ?_
      by_cases h35 : z11 = 2
      · refine yi_G_if2 false rfl (yi_ne_f h35) ?_
        refine yi_G_run 2 (113, [(4, .inl (I13 11 3)), (3, .inl z13), (2, .inl z11), (1, .inl z10), (0, .inr (.inr (some 11)))], [.inl 1, .inr (.inr (some 11))], (I21, L21, R, Y), 0, 0) (fun _ => rfl) ?_
        refine yi_G_callv rfl rfl (cl_rcv (cl_11 hP21.1) rfl) rfl (k_emitR d (by omega) hP21.1  ) ?_
        rintro _ ⟨I36, rfl, hQ36, x36a, x36b, x36c⟩
        have hP36 := cl_P_t hP21 hQ36
        show yi_G zi_Ms d zi_m267 (116, [(4, .inl (I13 11 3)), (3, .inl z13), (2, .inl z11), (1, .inl z10), (0, .inr (.inr (some 11)))], [], (I36, L21, R, Y), 0, 0) _
        exact pt116 I36 hP36 (by omega) (by omega) (by omega)
      · refine yi_G_if2 true rfl (yi_ne_t h35) ?_
        exact pt116 I21 hP21 (by omega) (by omega) (by omega)
    refine yi_G_run 3 (79, [(4, .inl (I13 11 3)), (3, .inl z13), (2, .inl z11), (1, .inl z10), (0, .inr (.inr (some 11)))], [.inl 1, .inl z11, .inr (.inr (some 11))], (I17, L13, R, Y), 0, 0) (fun _ => rfl) ?_
    by_cases h37 : z11 = 1
    · refine yi_G_if2 false rfl (yi_ne_f h37) ?_
      refine yi_G_run 2 (87, [(4, .inl (I13 11 3)), (3, .inl z13), (2, .inl z11), (1, .inl z10), (0, .inr (.inr (some 11)))], [.inl 1, .inr (.inr (some 11))], (I17, L13, R, Y), 0, 0) (fun _ => rfl) ?_
      refine cl_G_pi rfl (cl_T_K (cl_11 hP15.1)) rfl rfl rfl ?_
      have hP38 := cl_P_uI (k := 7) (v := 1) hP15 (cl_11 hP15.1) (by decide) (cl_hv0 rfl)
      generalize w39 : yi_u I17 11 7 1 = I40 at hP38 ⊢
      refine yi_G_run 2 (92, [(4, .inl (I13 11 3)), (3, .inl z13), (2, .inl z11), (1, .inl z10), (0, .inr (.inr (some 11)))], [.inl 0, .inr (.inr (some 11))], (I40, L13, R, Y), 0, 0) (fun _ => rfl) ?_
      have r42 : I40 11 3 = I13 11 3 := by rw [← w39, yi_u_ne _ _ (fun z => absurd z.2 (by decide)), ← w16, yi_u_ne _ _ (fun z => absurd z.2 (by decide))]
      have r43 : I40 11 8 = I13 11 8 := by rw [← w39, yi_u_ne _ _ (fun z => absurd z.2 (by decide)), ← w16, yi_u_ne _ _ (fun z => absurd z.2 (by decide))]
      have r44 : I40 11 11 = I13 11 11 := by rw [← w39, yi_u_ne _ _ (fun z => absurd z.2 (by decide)), ← w16, yi_u_ne _ _ (fun z => absurd z.2 (by decide))]
      refine yi_G_callv rfl rfl (cl_rcv (cl_11 hP38.1) rfl) rfl (k_formula0 d (by omega) hP38.1  (by omega)) ?_
      rintro _ ⟨I41, L41, rfl, hQ41, x41a, x41b, x41c⟩
      have hP41 := cl_P_t hP38 hQ41
      show yi_G zi_Ms d zi_m267 (95, [(4, .inl (I13 11 3)), (3, .inl z13), (2, .inl z11), (1, .inl z10), (0, .inr (.inr (some 11)))], [], (I41, L41, R, Y), 0, 0) _
      exact pt95 I41 L41 hP41 (by omega) (by omega) (by omega)
    · refine yi_G_if2 true rfl (yi_ne_t h37) ?_
      refine yi_G_run 1 (87, [(4, .inl (I13 11 3)), (3, .inl z13), (2, .inl z11), (1, .inl z10), (0, .inr (.inr (some 11)))], [.inl 0, .inr (.inr (some 11))], (I17, L13, R, Y), 0, 0) (fun _ => rfl) ?_
      refine cl_G_pi rfl (cl_T_K (cl_11 hP15.1)) rfl rfl rfl ?_
      have hP45 := cl_P_uI (k := 7) (v := 0) hP15 (cl_11 hP15.1) (by decide) (cl_hv0 rfl)
      generalize w46 : yi_u I17 11 7 0 = I47 at hP45 ⊢
      refine yi_G_run 2 (92, [(4, .inl (I13 11 3)), (3, .inl z13), (2, .inl z11), (1, .inl z10), (0, .inr (.inr (some 11)))], [.inl 0, .inr (.inr (some 11))], (I47, L13, R, Y), 0, 0) (fun _ => rfl) ?_
      have r49 : I47 11 3 = I13 11 3 := by rw [← w46, yi_u_ne _ _ (fun z => absurd z.2 (by decide)), ← w16, yi_u_ne _ _ (fun z => absurd z.2 (by decide))]
      have r50 : I47 11 8 = I13 11 8 := by rw [← w46, yi_u_ne _ _ (fun z => absurd z.2 (by decide)), ← w16, yi_u_ne _ _ (fun z => absurd z.2 (by decide))]
      have r51 : I47 11 11 = I13 11 11 := by rw [← w46, yi_u_ne _ _ (fun z => absurd z.2 (by decide)), ← w16, yi_u_ne _ _ (fun z => absurd z.2 (by decide))]
      refine yi_G_callv rfl rfl (cl_rcv (cl_11 hP45.1) rfl) rfl (k_formula0 d (by omega) hP45.1  (by omega)) ?_
      rintro _ ⟨I48, L48, rfl, hQ48, x48a, x48b, x48c⟩
      have hP48 := cl_P_t hP45 hQ48
      show yi_G zi_Ms d zi_m267 (95, [(4, .inl (I13 11 3)), (3, .inl z13), (2, .inl z11), (1, .inl z10), (0, .inr (.inr (some 11)))], [], (I48, L48, R, Y), 0, 0) _
      exact pt95 I48 L48 hP48 (by omega) (by omega) (by omega)
  refine yi_G_run 1 (1, [(0, .inr (.inr (some 11)))], [.inr (.inr (some 11))], (I, L, R, Y), 0, 0) (fun _ => rfl) ?_
  obtain ⟨q52, e53, t54⟩ := cl_rf hP.1 (cl_11 hP.1) (k := 6) rfl
  refine cl_G_gr rfl (cl_T_K (cl_11 hP.1)) rfl rfl rfl e53 ?_
  have b55 := cl_rd hP.1 t54 (k := 19) (lo := 0) (hi := 6) rfl
  refine cl_G_gi rfl (cl_T_K t54) rfl rfl rfl ?_
  refine yi_G_run 1 (9, [(0, .inr (.inr (some 11)))], [.inl 6, .inl (I q52 19)], (I, L, R, Y), 0, 0) (fun _ => rfl) ?_
  by_cases h56 : (I q52 19) < 6
  · refine yi_G_if2 true rfl (yi_lt_t h56) ?_
    exact pt17 I hP (by omega) (by omega) (by omega)
  · refine yi_G_if2 false rfl (yi_lt_f h56) ?_
    refine yi_G_run 2 (14, [(0, .inr (.inr (some 11)))], [.inl 5, .inr (.inr (some 11))], (I, L, R, Y), 0, 0) (fun _ => rfl) ?_
    refine yi_G_callv rfl rfl (cl_rcv (cl_11 hP.1) rfl) rfl (k_wrongR d (by omega) hP.1  (by omega)) ?_
    rintro _ ⟨I57, rfl, hQ57, x57a, x57b, x57c, x57d⟩
    have hP57 := cl_P_t hP hQ57
    show yi_G zi_Ms d zi_m267 (17, [(0, .inr (.inr (some 11)))], [], (I57, L, R, Y), 0, 0) _
    exact pt17 I57 hP57 (by omega) (by omega) (by omega)
theorem k_readPriceR (D : Nat) (hD : 46 ≤ D) {E : List Nat} {I L : cl_I} {R : cl_Rr} {Y : cl_Y} (hC : cl_C E I L R Y) (ha : 0 ≤ I 11 8) : yi_E zi_Ms D 263 [.inr (.inr (some 11))] (I, L, R, Y) (fun r => ∃ I', ∃ L', ∃ R', ∃ Y', ∃ nc ns, r = (none, (I', L', R', Y'), nc, ns) ∧ cl_P E I L R Y I' L' R' Y' ∧ nc ≤ 1 ∧ ns ≤ (I' 11 3 - I 11 3).toNat ∧ (I 11 3 ≤ I' 11 3) ∧ (I' 11 11 = 0 → I 11 11 = 0) ∧ (0 ≤ I 11 8 → 0 ≤ I' 11 8)) := by
  obtain ⟨d, rfl⟩ : ∃ d, D = d + 1 := ⟨D - 1, by omega⟩
  refine yi_E_of (M := zi_m263) rfl rfl ?_
  have hP : cl_P E I L R Y I L R Y := cl_P_r hC
  show yi_G zi_Ms d zi_m263 (0, [(0, .inr (.inr (some 11)))], [], (I, L, R, Y), 0, 0) _
  have pt15 : ∀ (Ip15 : cl_I), (cl_P E I L R Y Ip15 L R Y) → (I 11 3 ≤ Ip15 11 3) → (Ip15 11 11 = 0 → I 11 11 = 0) → (0 ≤ I 11 8 → 0 ≤ Ip15 11 8) → yi_G zi_Ms d zi_m263 (15, [(0, .inr (.inr (some 11)))], [], (Ip15, L, R, Y), 0, 0) (fun r => ∃ I', ∃ L', ∃ R', ∃ Y', ∃ nc ns, r = (none, (I', L', R', Y'), nc, ns) ∧ cl_P E I L R Y I' L' R' Y' ∧ nc ≤ 1 ∧ ns ≤ (I' 11 3 - I 11 3).toNat ∧ (I 11 3 ≤ I' 11 3) ∧ (I' 11 11 = 0 → I 11 11 = 0) ∧ (0 ≤ I 11 8 → 0 ≤ I' 11 8)) := by
    intro Ip15 hPp15 ua va wa
    refine yi_G_run 2 (18, [(0, .inr (.inr (some 11)))], [.inl 13, .inr (.inr (some 11))], (Ip15, L, R, Y), 0, 0) (fun _ => rfl) ?_
    refine yi_G_callv rfl rfl (cl_rcv (cl_11 hPp15.1) rfl) rfl (k_takeKindR d (by omega) hPp15.1  ) ?_
    rintro _ ⟨I1, L1, rfl, hQ1, x1a, x1b, x1c, x1d⟩
    have hP1 := cl_P_t hPp15 hQ1
    show yi_G zi_Ms d zi_m263 (21, [(0, .inr (.inr (some 11)))], [], (I1, L1, R, Y), 0, 0) _
    refine yi_G_run 1 (22, [(0, .inr (.inr (some 11)))], [.inr (.inr (some 11))], (I1, L1, R, Y), 0, 0) (fun _ => rfl) ?_
    have b2 := cl_rd hP1.1 (cl_11 hP1.1) (k := 3) (lo := 0) (hi := 1002) rfl
    refine cl_G_gi rfl (cl_T_K (cl_11 hP1.1)) rfl rfl rfl ?_
    refine yi_G_run 4 (29, [(1, .inl (I1 11 3)), (0, .inr (.inr (some 11)))], [.inl 0, .inl 0, .inr (.inr (some 11))], (I1, L1, R, Y), 0, 0) (fun _ => rfl) ?_
    refine yi_G_callv rfl rfl (cl_rcv (cl_11 hP1.1) rfl) rfl (k_expr0 d (by omega) hP1.1  (by omega)) ?_
    rintro _ ⟨I3, L3, rfl, hQ3, x3a, x3b, x3c⟩
    have hP3 := cl_P_t hP1 hQ3
    show yi_G zi_Ms d zi_m263 (32, [(1, .inl (I1 11 3)), (0, .inr (.inr (some 11)))], [], (I3, L3, R, Y), 0, 0) _
    refine yi_G_run 2 (35, [(1, .inl (I1 11 3)), (0, .inr (.inr (some 11)))], [.inl 59, .inr (.inr (some 11))], (I3, L3, R, Y), 0, 0) (fun _ => rfl) ?_
    refine yi_G_callv rfl rfl (cl_rcv (cl_11 hP3.1) rfl) rfl (k_takeKindR d (by omega) hP3.1  ) ?_
    rintro _ ⟨I4, L4, rfl, hQ4, x4a, x4b, x4c, x4d⟩
    have hP4 := cl_P_t hP3 hQ4
    show yi_G zi_Ms d zi_m263 (38, [(1, .inl (I1 11 3)), (0, .inr (.inr (some 11)))], [], (I4, L4, R, Y), 0, 0) _
    refine yi_G_run 1 (39, [(1, .inl (I1 11 3)), (0, .inr (.inr (some 11)))], [.inr (.inr (some 11))], (I4, L4, R, Y), 0, 0) (fun _ => rfl) ?_
    refine cl_G_gi rfl (cl_T_K (cl_11 hP4.1)) rfl rfl rfl ?_
    by_cases h5 : (I4 11 11) = 0
    · refine yi_G_if1 false rfl (yi_ne_f h5) ?_
      refine yi_G_run 1 (46, [(1, .inl (I1 11 3)), (0, .inr (.inr (some 11)))], [.inr (.inr (some 11))], (I4, L4, R, Y), 0, 0) (fun _ => rfl) ?_
      obtain ⟨q6, e7, t8⟩ := cl_rf hP4.1 (cl_11 hP4.1) (k := 6) rfl
      refine cl_G_gr rfl (cl_T_K (cl_11 hP4.1)) rfl rfl rfl e7 ?_
      refine yi_G_run 1 (50, [(1, .inl (I1 11 3)), (0, .inr (.inr (some 11)))], [.inr (.inr (some 11)), .inr (.inr (some q6))], (I4, L4, R, Y), 0, 0) (fun _ => rfl) ?_
      obtain ⟨q9, e10, t11, n12⟩ := cl_rn hP4.1 (cl_11 hP4.1) (k := 2) (m := 1001) rfl
      refine cl_G_gr rfl (cl_T_K (cl_11 hP4.1)) rfl rfl rfl e10 ?_
      refine yi_G_run 2 (55, [(1, .inl (I1 11 3)), (0, .inr (.inr (some 11)))], [.inr (.inr (some 11)), .inl (I1 11 3), .inr (.inr (some q9)), .inr (.inr (some q6))], (I4, L4, R, Y), 0, 0) (fun _ => rfl) ?_
      have b13 := cl_rd hP4.1 (cl_11 hP4.1) (k := 3) (lo := 0) (hi := 1002) rfl
      refine cl_G_gi rfl (cl_T_K (cl_11 hP4.1)) rfl rfl rfl ?_
      refine yi_G_callv rfl rfl (cl_rcv t8 rfl) rfl (k_setPrice d (by omega) hP4.1 t8 t11 (by omega)) ?_
      rintro _ ⟨I14, L14, R14, Y14, nc14, ns14, rfl, hQ14, ca14, cb14, x14a⟩
      have hP14 := cl_P_t hP4 hQ14
      have t15 := cl_T_x t8 hQ14.2.1
      have t16 := cl_T_x t11 hQ14.2.1
      have n17 := (cl_T_n t11 hQ14.2.1).trans n12
      show yi_G zi_Ms d zi_m263 (61, [(1, .inl (I1 11 3)), (0, .inr (.inr (some 11)))], [], (I14, L14, R14, Y14), 0 + nc14, 0 + ns14) _
      have r18 : I14 11 3 = I4 11 3 := by rw [x14a 11 3 (cl_11 hP4.1)]
      have r19 : I14 11 8 = I4 11 8 := by rw [x14a 11 8 (cl_11 hP4.1)]
      have r20 : I14 11 11 = I4 11 11 := by rw [x14a 11 11 (cl_11 hP4.1)]
      exact yi_G_retv rfl rfl (⟨_, _, _, _, _, _, rfl, hP14, by omega, by omega, by omega, by omega, by omega⟩)
    · refine yi_G_if1 true rfl (yi_ne_t h5) ?_
      exact yi_G_retv rfl rfl (⟨_, _, _, _, _, _, rfl, hP4, by omega, by omega, by omega, by omega, by omega⟩)
  refine yi_G_run 1 (1, [(0, .inr (.inr (some 11)))], [.inr (.inr (some 11))], (I, L, R, Y), 0, 0) (fun _ => rfl) ?_
  obtain ⟨q21, e22, t23⟩ := cl_rf hP.1 (cl_11 hP.1) (k := 6) rfl
  refine cl_G_gr rfl (cl_T_K (cl_11 hP.1)) rfl rfl rfl e22 ?_
  refine cl_G_gi rfl (cl_T_K t23) rfl rfl rfl ?_
  by_cases h24 : (I q21 13) = 0
  · refine yi_G_if1 true rfl (yi_eq_t h24) ?_
    exact pt15 I hP (by omega) (by omega) (by omega)
  · refine yi_G_if1 false rfl (yi_eq_f h24) ?_
    refine yi_G_run 2 (12, [(0, .inr (.inr (some 11)))], [.inl 3, .inr (.inr (some 11))], (I, L, R, Y), 0, 0) (fun _ => rfl) ?_
    refine yi_G_callv rfl rfl (cl_rcv (cl_11 hP.1) rfl) rfl (k_wrongR d (by omega) hP.1  (by omega)) ?_
    rintro _ ⟨I25, rfl, hQ25, x25a, x25b, x25c, x25d⟩
    have hP25 := cl_P_t hP hQ25
    show yi_G zi_Ms d zi_m263 (15, [(0, .inr (.inr (some 11)))], [], (I25, L, R, Y), 0, 0) _
    exact pt15 I25 hP25 (by omega) (by omega) (by omega)
theorem k_readLandR (D : Nat) (hD : 47 ≤ D) {E : List Nat} {I L : cl_I} {R : cl_Rr} {Y : cl_Y} (hC : cl_C E I L R Y) {u : Nat} (tu : cl_T E Y u 3) (h12 : 1 ≤ I 12 6) : yi_E zi_Ms D 258 [.inr (.inr (some 11)), .inr (.inr (some u))] (I, L, R, Y) (fun r => ∃ z, ∃ I', ∃ L', ∃ R', ∃ Y', ∃ nc ns, r = (some (.inl z), (I', L', R', Y'), nc, ns) ∧ cl_P E I L R Y I' L' R' Y' ∧ nc ≤ 1000 ∧ ns ≤ 1002 ∧ ((∃ q, R 12 1 = some q ∧ I q 0 = 0) → ¬ z = 0 ∧ nc = 0 ∧ ns = 0)) := by
  obtain ⟨d, rfl⟩ : ∃ d, D = d + 1 := ⟨D - 1, by omega⟩
  refine yi_E_of (M := zi_m258) rfl rfl ?_
  have hP : cl_P E I L R Y I L R Y := cl_P_r hC
  show yi_G zi_Ms d zi_m258 (0, [(0, .inr (.inr (some 11))), (1, .inr (.inr (some u)))], [], (I, L, R, Y), 0, 0) _
  refine yi_G_run 2 (2, [(0, .inr (.inr (some 11))), (1, .inr (.inr (some u)))], [.inr (.inr (some u)), .inr (.inr (some 11))], (I, L, R, Y), 0, 0) (fun _ => rfl) ?_
  refine yi_G_callv rfl rfl (cl_rcv (cl_11 hP.1) rfl) rfl (k_beginR d (by omega) hP.1 tu ) ?_
  rintro _ ⟨I1, L1, R1, rfl, hQ1, x1a, x1b, x1c⟩
  have hP1 := cl_P_t hP hQ1
  show yi_G zi_Ms d zi_m258 (5, [(0, .inr (.inr (some 11))), (1, .inr (.inr (some u)))], [], (I1, L1, R1, Y), 0, 0) _
  refine yi_G_run 1 (6, [(0, .inr (.inr (some 11))), (1, .inr (.inr (some u)))], [.inr (.inr (some 11))], (I1, L1, R1, Y), 0, 0) (fun _ => rfl) ?_
  have hem : (∃ q, R 12 1 = some q ∧ I q 0 = 0) → I1 11 9 = 0 := fun ⟨q, hq, h0⟩ => by rw [x1c q hq h12]; exact h0
  refine yi_G_callv rfl rfl (cl_rcv (cl_11 hP1.1) rfl) rfl (k_readDaysR d (by omega) hP1.1  (by omega)) ?_
  rintro _ ⟨I2, L2, rfl, hQ2, x2a, x2b, x2c, x2d⟩
  have hP2 := cl_P_t hP1 hQ2
  show yi_G zi_Ms d zi_m258 (9, [(0, .inr (.inr (some 11))), (1, .inr (.inr (some u)))], [], (I2, L2, R1, Y), 0, 0) _
  refine yi_G_run 2 (11, [(2, .inl 0), (0, .inr (.inr (some 11))), (1, .inr (.inr (some u)))], [], (I2, L2, R1, Y), 0, 0) (fun _ => rfl) ?_
  have pt11 : ∀ (m_ : Nat) (n : Int) (Ip11 : cl_I) (Lp11 : cl_I) (Rp11 : cl_Rr) (Yp11 : cl_Y) (ncp11 : Nat) (nsp11 : Nat), (cl_P E I L R Y Ip11 Lp11 Rp11 Yp11) → (cl_T E Yp11 u 3) → (0 ≤ n ∧ n ≤ 1000) → (0 ≤ Ip11 11 8) → (Ip11 11 11 = 0 → I2 11 11 = 0) → (0 ≤ Ip11 11 3) → ((nsp11 : Int) ≤ Ip11 11 3 ∧ (ncp11 : Int) ≤ n) → ((∃ q, R 12 1 = some q ∧ I q 0 = 0) → ¬ Ip11 11 11 = 0 ∧ ncp11 = 0 ∧ nsp11 = 0) → (1000 - n).toNat = m_ → yi_G zi_Ms d zi_m258 (11, [(2, .inl n), (0, .inr (.inr (some 11))), (1, .inr (.inr (some u)))], [], (Ip11, Lp11, Rp11, Yp11), ncp11, nsp11) (fun r => ∃ z, ∃ I', ∃ L', ∃ R', ∃ Y', ∃ nc ns, r = (some (.inl z), (I', L', R', Y'), nc, ns) ∧ cl_P E I L R Y I' L' R' Y' ∧ nc ≤ 1000 ∧ ns ≤ 1002 ∧ ((∃ q, R 12 1 = some q ∧ I q 0 = 0) → ¬ z = 0 ∧ nc = 0 ∧ ns = 0)) := by
    intro m11
    induction m11 using Nat.strongRecOn with
    | _ m11 ih11 =>
    intro n Ip11 Lp11 Rp11 Yp11 ncp11 nsp11 hPp11 tup11 n0 ap fl u0 ns0 em hm11
    have ub := cl_rd hPp11.1 (cl_11 hPp11.1) (k := 3) (lo := 0) (hi := 1002) rfl
    refine yi_G_run 2 (15, [(2, .inl n), (0, .inr (.inr (some 11))), (1, .inr (.inr (some u)))], [.inl 1000, .inl n], (Ip11, Lp11, Rp11, Yp11), ncp11, nsp11) (fun _ => rfl) ?_
    by_cases h3 : 1000 ≤ n
    · refine yi_G_if2 true rfl (yi_ge_t h3) ?_
      refine yi_G_run 1 (142, [(2, .inl n), (0, .inr (.inr (some 11))), (1, .inr (.inr (some u)))], [.inr (.inr (some 11))], (Ip11, Lp11, Rp11, Yp11), ncp11, nsp11) (fun _ => rfl) ?_
      refine cl_G_gi rfl (cl_T_K (cl_11 hPp11.1)) rfl rfl rfl ?_
      exact yi_G_reti rfl rfl (⟨_, _, _, _, _, _, _, rfl, hPp11, by omega, by omega, (fun hx => by have h2 := em hx; omega)⟩)
    · refine yi_G_if2 false rfl (yi_ge_f h3) ?_
      refine yi_G_run 1 (19, [(2, .inl n), (0, .inr (.inr (some 11))), (1, .inr (.inr (some u)))], [.inr (.inr (some 11))], (Ip11, Lp11, Rp11, Yp11), ncp11, nsp11) (fun _ => rfl) ?_
      refine cl_G_gi rfl (cl_T_K (cl_11 hPp11.1)) rfl rfl rfl ?_
      by_cases h4 : (Ip11 11 11) = 0
      · refine yi_G_if1 false rfl (yi_ne_f h4) ?_
        refine yi_G_run 1 (26, [(2, .inl n), (0, .inr (.inr (some 11))), (1, .inr (.inr (some u)))], [.inr (.inr (some 11))], (Ip11, Lp11, Rp11, Yp11), ncp11, nsp11) (fun _ => rfl) ?_
        refine cl_G_gi rfl (cl_T_K (cl_11 hPp11.1)) rfl rfl rfl ?_
        by_cases h5 : (Ip11 11 9) = 0
        · refine yi_G_if1 true rfl (yi_eq_t h5) ?_
          refine yi_G_run 1 (142, [(2, .inl n), (0, .inr (.inr (some 11))), (1, .inr (.inr (some u)))], [.inr (.inr (some 11))], (Ip11, Lp11, Rp11, Yp11), ncp11, nsp11) (fun _ => rfl) ?_
          refine cl_G_gi rfl (cl_T_K (cl_11 hPp11.1)) rfl rfl rfl ?_
          exact yi_G_reti rfl rfl (⟨_, _, _, _, _, _, _, rfl, hPp11, by omega, by omega, (fun hx => by have h2 := em hx; omega)⟩)
        · refine yi_G_if1 false rfl (yi_eq_f h5) ?_
          refine yi_G_run 1 (33, [(2, .inl n), (0, .inr (.inr (some 11))), (1, .inr (.inr (some u)))], [.inr (.inr (some 11))], (Ip11, Lp11, Rp11, Yp11), ncp11, nsp11) (fun _ => rfl) ?_
          refine cl_G_gi rfl (cl_T_K (cl_11 hPp11.1)) rfl rfl rfl ?_
          by_cases h6 : (Ip11 11 9) = 5
          · refine yi_G_tsi 0 rfl (by omega) (by decide) rfl ?_
            refine yi_G_run 1 (89, [(2, .inl n), (0, .inr (.inr (some 11))), (1, .inr (.inr (some u)))], [.inr (.inr (some 11))], (Ip11, Lp11, Rp11, Yp11), ncp11, nsp11) (fun _ => rfl) ?_
            refine yi_G_callv rfl rfl (cl_rcv (cl_11 hPp11.1) rfl) rfl (k_readPersonR d (by omega) hPp11.1  (by omega)) ?_
            rintro _ ⟨I7, L7, rfl, hQ7, x7a, x7b, x7c⟩
            have hP7 := cl_P_t hPp11 hQ7
            show yi_G zi_Ms d zi_m258 (92, [(2, .inl n), (0, .inr (.inr (some 11))), (1, .inr (.inr (some u)))], [], (I7, L7, Rp11, Yp11), ncp11, nsp11) _
            refine yi_G_run 1 (135, [(2, .inl n), (0, .inr (.inr (some 11))), (1, .inr (.inr (some u)))], [], (I7, L7, Rp11, Yp11), ncp11, nsp11) (fun _ => rfl) ?_
            refine yi_G_iinc [(2, .inl (n + 1)), (0, .inr (.inr (some 11))), (1, .inr (.inr (some u)))] rfl rfl rfl (by rw [show yi_w (n + 1) = n + 1 from (yi_wn (by omega) (by omega)).trans (by omega)]; rfl) ?_
            refine yi_G_run 1 (11, [(2, .inl (n + 1)), (0, .inr (.inr (some 11))), (1, .inr (.inr (some u)))], [], (I7, L7, Rp11, Yp11), ncp11, nsp11) (fun _ => rfl) ?_
            exact ih11 _ (by omega) (n + 1) I7 L7 Rp11 Yp11 (ncp11) (nsp11) hP7 tup11 (by omega) (by omega) (by omega) (by omega) (by omega) (fun hx => by have h2 := em hx; omega) rfl
          by_cases h8 : (Ip11 11 9) = 6
          · refine yi_G_tsi 1 rfl (by omega) (by decide) rfl ?_
            refine yi_G_run 2 (132, [(2, .inl n), (0, .inr (.inr (some 11))), (1, .inr (.inr (some u)))], [.inl 1, .inr (.inr (some 11))], (Ip11, Lp11, Rp11, Yp11), ncp11, nsp11) (fun _ => rfl) ?_
            refine yi_G_callv rfl rfl (cl_rcv (cl_11 hPp11.1) rfl) rfl (k_wrongR d (by omega) hPp11.1  (by omega)) ?_
            rintro _ ⟨I9, rfl, hQ9, x9a, x9b, x9c, x9d⟩
            have hP9 := cl_P_t hPp11 hQ9
            show yi_G zi_Ms d zi_m258 (135, [(2, .inl n), (0, .inr (.inr (some 11))), (1, .inr (.inr (some u)))], [], (I9, Lp11, Rp11, Yp11), ncp11, nsp11) _
            refine yi_G_iinc [(2, .inl (n + 1)), (0, .inr (.inr (some 11))), (1, .inr (.inr (some u)))] rfl rfl rfl (by rw [show yi_w (n + 1) = n + 1 from (yi_wn (by omega) (by omega)).trans (by omega)]; rfl) ?_
            refine yi_G_run 1 (11, [(2, .inl (n + 1)), (0, .inr (.inr (some 11))), (1, .inr (.inr (some u)))], [], (I9, Lp11, Rp11, Yp11), ncp11, nsp11) (fun _ => rfl) ?_
            exact ih11 _ (by omega) (n + 1) I9 Lp11 Rp11 Yp11 (ncp11) (nsp11) hP9 tup11 (by omega) (by omega) (by omega) (by omega) (by omega) (fun hx => by have h2 := em hx; omega) rfl
          by_cases h10 : (Ip11 11 9) = 7
          · refine yi_G_tsi 2 rfl (by omega) (by decide) rfl ?_
            refine yi_G_run 1 (96, [(2, .inl n), (0, .inr (.inr (some 11))), (1, .inr (.inr (some u)))], [.inr (.inr (some 11))], (Ip11, Lp11, Rp11, Yp11), ncp11, nsp11) (fun _ => rfl) ?_
            refine yi_G_callv rfl rfl (cl_rcv (cl_11 hPp11.1) rfl) rfl (k_readEventR d (by omega) hPp11.1  (by omega)) ?_
            rintro _ ⟨I11, L11, rfl, hQ11, x11a, x11b, x11c⟩
            have hP11 := cl_P_t hPp11 hQ11
            show yi_G zi_Ms d zi_m258 (99, [(2, .inl n), (0, .inr (.inr (some 11))), (1, .inr (.inr (some u)))], [], (I11, L11, Rp11, Yp11), ncp11, nsp11) _
            refine yi_G_run 1 (135, [(2, .inl n), (0, .inr (.inr (some 11))), (1, .inr (.inr (some u)))], [], (I11, L11, Rp11, Yp11), ncp11, nsp11) (fun _ => rfl) ?_
            refine yi_G_iinc [(2, .inl (n + 1)), (0, .inr (.inr (some 11))), (1, .inr (.inr (some u)))] rfl rfl rfl (by rw [show yi_w (n + 1) = n + 1 from (yi_wn (by omega) (by omega)).trans (by omega)]; rfl) ?_
            refine yi_G_run 1 (11, [(2, .inl (n + 1)), (0, .inr (.inr (some 11))), (1, .inr (.inr (some u)))], [], (I11, L11, Rp11, Yp11), ncp11, nsp11) (fun _ => rfl) ?_
            exact ih11 _ (by omega) (n + 1) I11 L11 Rp11 Yp11 (ncp11) (nsp11) hP11 tup11 (by omega) (by omega) (by omega) (by omega) (by omega) (fun hx => by have h2 := em hx; omega) rfl
          by_cases h12 : (Ip11 11 9) = 8
          · refine yi_G_tsi 3 rfl (by omega) (by decide) rfl ?_
            refine yi_G_run 1 (103, [(2, .inl n), (0, .inr (.inr (some 11))), (1, .inr (.inr (some u)))], [.inr (.inr (some 11))], (Ip11, Lp11, Rp11, Yp11), ncp11, nsp11) (fun _ => rfl) ?_
            refine yi_G_callv rfl rfl (cl_rcv (cl_11 hPp11.1) rfl) rfl (k_readProphetR d (by omega) hPp11.1  (by omega)) ?_
            rintro _ ⟨I13, L13, rfl, hQ13, x13a, x13b, x13c⟩
            have hP13 := cl_P_t hPp11 hQ13
            show yi_G zi_Ms d zi_m258 (106, [(2, .inl n), (0, .inr (.inr (some 11))), (1, .inr (.inr (some u)))], [], (I13, L13, Rp11, Yp11), ncp11, nsp11) _
            refine yi_G_run 1 (135, [(2, .inl n), (0, .inr (.inr (some 11))), (1, .inr (.inr (some u)))], [], (I13, L13, Rp11, Yp11), ncp11, nsp11) (fun _ => rfl) ?_
            refine yi_G_iinc [(2, .inl (n + 1)), (0, .inr (.inr (some 11))), (1, .inr (.inr (some u)))] rfl rfl rfl (by rw [show yi_w (n + 1) = n + 1 from (yi_wn (by omega) (by omega)).trans (by omega)]; rfl) ?_
            refine yi_G_run 1 (11, [(2, .inl (n + 1)), (0, .inr (.inr (some 11))), (1, .inr (.inr (some u)))], [], (I13, L13, Rp11, Yp11), ncp11, nsp11) (fun _ => rfl) ?_
            exact ih11 _ (by omega) (n + 1) I13 L13 Rp11 Yp11 (ncp11) (nsp11) hP13 tup11 (by omega) (by omega) (by omega) (by omega) (by omega) (fun hx => by have h2 := em hx; omega) rfl
          by_cases h14 : (Ip11 11 9) = 9
          · refine yi_G_tsi 4 rfl (by omega) (by decide) rfl ?_
            refine yi_G_run 2 (132, [(2, .inl n), (0, .inr (.inr (some 11))), (1, .inr (.inr (some u)))], [.inl 1, .inr (.inr (some 11))], (Ip11, Lp11, Rp11, Yp11), ncp11, nsp11) (fun _ => rfl) ?_
            refine yi_G_callv rfl rfl (cl_rcv (cl_11 hPp11.1) rfl) rfl (k_wrongR d (by omega) hPp11.1  (by omega)) ?_
            rintro _ ⟨I15, rfl, hQ15, x15a, x15b, x15c, x15d⟩
            have hP15 := cl_P_t hPp11 hQ15
            show yi_G zi_Ms d zi_m258 (135, [(2, .inl n), (0, .inr (.inr (some 11))), (1, .inr (.inr (some u)))], [], (I15, Lp11, Rp11, Yp11), ncp11, nsp11) _
            refine yi_G_iinc [(2, .inl (n + 1)), (0, .inr (.inr (some 11))), (1, .inr (.inr (some u)))] rfl rfl rfl (by rw [show yi_w (n + 1) = n + 1 from (yi_wn (by omega) (by omega)).trans (by omega)]; rfl) ?_
            refine yi_G_run 1 (11, [(2, .inl (n + 1)), (0, .inr (.inr (some 11))), (1, .inr (.inr (some u)))], [], (I15, Lp11, Rp11, Yp11), ncp11, nsp11) (fun _ => rfl) ?_
            exact ih11 _ (by omega) (n + 1) I15 Lp11 Rp11 Yp11 (ncp11) (nsp11) hP15 tup11 (by omega) (by omega) (by omega) (by omega) (by omega) (fun hx => by have h2 := em hx; omega) rfl
          by_cases h16 : (Ip11 11 9) = 10
          · refine yi_G_tsi 5 rfl (by omega) (by decide) rfl ?_
            refine yi_G_run 1 (110, [(2, .inl n), (0, .inr (.inr (some 11))), (1, .inr (.inr (some u)))], [.inr (.inr (some 11))], (Ip11, Lp11, Rp11, Yp11), ncp11, nsp11) (fun _ => rfl) ?_
            refine yi_G_callv rfl rfl (cl_rcv (cl_11 hPp11.1) rfl) rfl (k_readLawR d (by omega) hPp11.1  (by omega)) ?_
            rintro _ ⟨I17, L17, rfl, hQ17, x17a, x17b, x17c⟩
            have hP17 := cl_P_t hPp11 hQ17
            show yi_G zi_Ms d zi_m258 (113, [(2, .inl n), (0, .inr (.inr (some 11))), (1, .inr (.inr (some u)))], [], (I17, L17, Rp11, Yp11), ncp11, nsp11) _
            refine yi_G_run 1 (135, [(2, .inl n), (0, .inr (.inr (some 11))), (1, .inr (.inr (some u)))], [], (I17, L17, Rp11, Yp11), ncp11, nsp11) (fun _ => rfl) ?_
            refine yi_G_iinc [(2, .inl (n + 1)), (0, .inr (.inr (some 11))), (1, .inr (.inr (some u)))] rfl rfl rfl (by rw [show yi_w (n + 1) = n + 1 from (yi_wn (by omega) (by omega)).trans (by omega)]; rfl) ?_
            refine yi_G_run 1 (11, [(2, .inl (n + 1)), (0, .inr (.inr (some 11))), (1, .inr (.inr (some u)))], [], (I17, L17, Rp11, Yp11), ncp11, nsp11) (fun _ => rfl) ?_
            exact ih11 _ (by omega) (n + 1) I17 L17 Rp11 Yp11 (ncp11) (nsp11) hP17 tup11 (by omega) (by omega) (by omega) (by omega) (by omega) (fun hx => by have h2 := em hx; omega) rfl
          by_cases h18 : (Ip11 11 9) = 11
          · refine yi_G_tsi 6 rfl (by omega) (by decide) rfl ?_
            refine yi_G_run 1 (117, [(2, .inl n), (0, .inr (.inr (some 11))), (1, .inr (.inr (some u)))], [.inr (.inr (some 11))], (Ip11, Lp11, Rp11, Yp11), ncp11, nsp11) (fun _ => rfl) ?_
            refine yi_G_callv rfl rfl (cl_rcv (cl_11 hPp11.1) rfl) rfl (k_readWishR d (by omega) hPp11.1  (by omega)) ?_
            rintro _ ⟨I19, L19, rfl, hQ19, x19a, x19b, x19c⟩
            have hP19 := cl_P_t hPp11 hQ19
            show yi_G zi_Ms d zi_m258 (120, [(2, .inl n), (0, .inr (.inr (some 11))), (1, .inr (.inr (some u)))], [], (I19, L19, Rp11, Yp11), ncp11, nsp11) _
            refine yi_G_run 1 (135, [(2, .inl n), (0, .inr (.inr (some 11))), (1, .inr (.inr (some u)))], [], (I19, L19, Rp11, Yp11), ncp11, nsp11) (fun _ => rfl) ?_
            refine yi_G_iinc [(2, .inl (n + 1)), (0, .inr (.inr (some 11))), (1, .inr (.inr (some u)))] rfl rfl rfl (by rw [show yi_w (n + 1) = n + 1 from (yi_wn (by omega) (by omega)).trans (by omega)]; rfl) ?_
            refine yi_G_run 1 (11, [(2, .inl (n + 1)), (0, .inr (.inr (some 11))), (1, .inr (.inr (some u)))], [], (I19, L19, Rp11, Yp11), ncp11, nsp11) (fun _ => rfl) ?_
            exact ih11 _ (by omega) (n + 1) I19 L19 Rp11 Yp11 (ncp11) (nsp11) hP19 tup11 (by omega) (by omega) (by omega) (by omega) (by omega) (fun hx => by have h2 := em hx; omega) rfl
          by_cases h20 : (Ip11 11 9) = 12
          · refine yi_G_tsi 7 rfl (by omega) (by decide) rfl ?_
            refine yi_G_run 2 (132, [(2, .inl n), (0, .inr (.inr (some 11))), (1, .inr (.inr (some u)))], [.inl 1, .inr (.inr (some 11))], (Ip11, Lp11, Rp11, Yp11), ncp11, nsp11) (fun _ => rfl) ?_
            refine yi_G_callv rfl rfl (cl_rcv (cl_11 hPp11.1) rfl) rfl (k_wrongR d (by omega) hPp11.1  (by omega)) ?_
            rintro _ ⟨I21, rfl, hQ21, x21a, x21b, x21c, x21d⟩
            have hP21 := cl_P_t hPp11 hQ21
            show yi_G zi_Ms d zi_m258 (135, [(2, .inl n), (0, .inr (.inr (some 11))), (1, .inr (.inr (some u)))], [], (I21, Lp11, Rp11, Yp11), ncp11, nsp11) _
            refine yi_G_iinc [(2, .inl (n + 1)), (0, .inr (.inr (some 11))), (1, .inr (.inr (some u)))] rfl rfl rfl (by rw [show yi_w (n + 1) = n + 1 from (yi_wn (by omega) (by omega)).trans (by omega)]; rfl) ?_
            refine yi_G_run 1 (11, [(2, .inl (n + 1)), (0, .inr (.inr (some 11))), (1, .inr (.inr (some u)))], [], (I21, Lp11, Rp11, Yp11), ncp11, nsp11) (fun _ => rfl) ?_
            exact ih11 _ (by omega) (n + 1) I21 Lp11 Rp11 Yp11 (ncp11) (nsp11) hP21 tup11 (by omega) (by omega) (by omega) (by omega) (by omega) (fun hx => by have h2 := em hx; omega) rfl
          by_cases h22 : (Ip11 11 9) = 13
          · refine yi_G_tsi 8 rfl (by omega) (by decide) rfl ?_
            refine yi_G_run 1 (124, [(2, .inl n), (0, .inr (.inr (some 11))), (1, .inr (.inr (some u)))], [.inr (.inr (some 11))], (Ip11, Lp11, Rp11, Yp11), ncp11, nsp11) (fun _ => rfl) ?_
            refine yi_G_callv rfl rfl (cl_rcv (cl_11 hPp11.1) rfl) rfl (k_readPriceR d (by omega) hPp11.1  (by omega)) ?_
            rintro _ ⟨I23, L23, R23, Y23, nc23, ns23, rfl, hQ23, ca23, cb23, x23a, x23b, x23c⟩
            have hP23 := cl_P_t hPp11 hQ23
            have t24 := cl_T_x tup11 hQ23.2.1
            show yi_G zi_Ms d zi_m258 (127, [(2, .inl n), (0, .inr (.inr (some 11))), (1, .inr (.inr (some u)))], [], (I23, L23, R23, Y23), ncp11 + nc23, nsp11 + ns23) _
            refine yi_G_run 1 (135, [(2, .inl n), (0, .inr (.inr (some 11))), (1, .inr (.inr (some u)))], [], (I23, L23, R23, Y23), ncp11 + nc23, nsp11 + ns23) (fun _ => rfl) ?_
            refine yi_G_iinc [(2, .inl (n + 1)), (0, .inr (.inr (some 11))), (1, .inr (.inr (some u)))] rfl rfl rfl (by rw [show yi_w (n + 1) = n + 1 from (yi_wn (by omega) (by omega)).trans (by omega)]; rfl) ?_
            refine yi_G_run 1 (11, [(2, .inl (n + 1)), (0, .inr (.inr (some 11))), (1, .inr (.inr (some u)))], [], (I23, L23, R23, Y23), ncp11 + nc23, nsp11 + ns23) (fun _ => rfl) ?_
            exact ih11 _ (by omega) (n + 1) I23 L23 R23 Y23 (ncp11 + nc23) (nsp11 + ns23) hP23 t24 (by omega) (by omega) (by omega) (by omega) (by omega) (fun hx => by have h2 := em hx; omega) rfl
          refine yi_G_tso rfl (by omega) ?_
          refine yi_G_run 2 (132, [(2, .inl n), (0, .inr (.inr (some 11))), (1, .inr (.inr (some u)))], [.inl 1, .inr (.inr (some 11))], (Ip11, Lp11, Rp11, Yp11), ncp11, nsp11) (fun _ => rfl) ?_
          refine yi_G_callv rfl rfl (cl_rcv (cl_11 hPp11.1) rfl) rfl (k_wrongR d (by omega) hPp11.1  (by omega)) ?_
          rintro _ ⟨I25, rfl, hQ25, x25a, x25b, x25c, x25d⟩
          have hP25 := cl_P_t hPp11 hQ25
          show yi_G zi_Ms d zi_m258 (135, [(2, .inl n), (0, .inr (.inr (some 11))), (1, .inr (.inr (some u)))], [], (I25, Lp11, Rp11, Yp11), ncp11, nsp11) _
          refine yi_G_iinc [(2, .inl (n + 1)), (0, .inr (.inr (some 11))), (1, .inr (.inr (some u)))] rfl rfl rfl (by rw [show yi_w (n + 1) = n + 1 from (yi_wn (by omega) (by omega)).trans (by omega)]; rfl) ?_
          refine yi_G_run 1 (11, [(2, .inl (n + 1)), (0, .inr (.inr (some 11))), (1, .inr (.inr (some u)))], [], (I25, Lp11, Rp11, Yp11), ncp11, nsp11) (fun _ => rfl) ?_
          exact ih11 _ (by omega) (n + 1) I25 Lp11 Rp11 Yp11 (ncp11) (nsp11) hP25 tup11 (by omega) (by omega) (by omega) (by omega) (by omega) (fun hx => by have h2 := em hx; omega) rfl
      · refine yi_G_if1 true rfl (yi_ne_t h4) ?_
        refine yi_G_run 1 (142, [(2, .inl n), (0, .inr (.inr (some 11))), (1, .inr (.inr (some u)))], [.inr (.inr (some 11))], (Ip11, Lp11, Rp11, Yp11), ncp11, nsp11) (fun _ => rfl) ?_
        refine cl_G_gi rfl (cl_T_K (cl_11 hPp11.1)) rfl rfl rfl ?_
        exact yi_G_reti rfl rfl (⟨_, _, _, _, _, _, _, rfl, hPp11, by omega, by omega, (fun hx => by have h2 := em hx; omega)⟩)
  exact pt11 _ 0 I2 L2 R1 Y (0) (0) hP2 tu (by omega) (by omega) (by omega) (by omega) (by omega) (fun hx => by have h2 := hem hx; omega) rfl
theorem k_readSayingR (D : Nat) (hD : 23 ≤ D) {E : List Nat} {I L : cl_I} {R : cl_Rr} {Y : cl_Y} (hC : cl_C E I L R Y) {u : Nat} (tu : cl_T E Y u 3) (h12 : 1 ≤ I 12 6) : yi_E zi_Ms D 265 [.inr (.inr (some 11)), .inr (.inr (some u))] (I, L, R, Y) (fun r => ∃ z, ∃ I', ∃ L', ∃ R', r = (some (.inl z), (I', L', R', Y), 0, 0) ∧ cl_P E I L R Y I' L' R' Y) := by
  obtain ⟨d, rfl⟩ : ∃ d, D = d + 1 := ⟨D - 1, by omega⟩
  refine yi_E_of (M := zi_m265) rfl rfl ?_
  have hP : cl_P E I L R Y I L R Y := cl_P_r hC
  show yi_G zi_Ms d zi_m265 (0, [(0, .inr (.inr (some 11))), (1, .inr (.inr (some u)))], [], (I, L, R, Y), 0, 0) _
  refine yi_G_run 2 (2, [(0, .inr (.inr (some 11))), (1, .inr (.inr (some u)))], [.inr (.inr (some u)), .inr (.inr (some 11))], (I, L, R, Y), 0, 0) (fun _ => rfl) ?_
  refine yi_G_callv rfl rfl (cl_rcv (cl_11 hP.1) rfl) rfl (k_beginR d (by omega) hP.1 tu ) ?_
  rintro _ ⟨I1, L1, R1, rfl, hQ1, x1a, x1b, x1c⟩
  have hP1 := cl_P_t hP hQ1
  show yi_G zi_Ms d zi_m265 (5, [(0, .inr (.inr (some 11))), (1, .inr (.inr (some u)))], [], (I1, L1, R1, Y), 0, 0) _
  refine yi_G_run 3 (8, [(0, .inr (.inr (some 11))), (1, .inr (.inr (some u)))], [.inr (.inr (some u)), .inr (.inr (some 11)), .inr (.inr (some 11))], (I1, L1, R1, Y), 0, 0) (fun _ => rfl) ?_
  obtain ⟨q2, e3, t4, n5⟩ := cl_rn hP1.1 tu (k := 2) (m := 4) rfl
  refine cl_G_gr rfl (cl_T_K tu) rfl rfl rfl e3 ?_
  refine yi_G_run 1 (12, [(0, .inr (.inr (some 11))), (1, .inr (.inr (some u)))], [.inr (.inr (some u)), .inr (.inr (some q2)), .inr (.inr (some 11)), .inr (.inr (some 11))], (I1, L1, R1, Y), 0, 0) (fun _ => rfl) ?_
  have b6 := cl_rd hP1.1 tu (k := 17) (lo := 0) (hi := 5) rfl
  refine cl_G_gi rfl (cl_T_K tu) rfl rfl rfl ?_
  refine yi_G_callv rfl rfl (cl_rcv (cl_11 hP1.1) rfl) rfl (k_takeNameR d (by omega) hP1.1 t4 ) ?_
  rintro _ ⟨z7, I7, L7, rfl, hQ7, x7a, x7b, x7c⟩
  have hP7 := cl_P_t hP1 hQ7
  show yi_G zi_Ms d zi_m265 (18, [(0, .inr (.inr (some 11))), (1, .inr (.inr (some u)))], [.inl z7, .inr (.inr (some 11))], (I7, L7, R1, Y), 0, 0) _
  refine cl_G_pi rfl (cl_T_K (cl_11 hP7.1)) rfl rfl rfl ?_
  have hP8 := cl_P_uI (k := 4) (v := z7) hP7 (cl_11 hP7.1) (by decide) (cl_hv0 rfl)
  generalize w9 : yi_u I7 11 4 z7 = I10 at hP8 ⊢
  refine yi_G_run 2 (23, [(0, .inr (.inr (some 11))), (1, .inr (.inr (some u)))], [.inr (.inr (some 11)), .inr (.inr (some u))], (I10, L7, R1, Y), 0, 0) (fun _ => rfl) ?_
  have r11 : I10 11 4 = z7 := by rw [← w9, yi_u_eq]
  refine cl_G_gi rfl (cl_T_K (cl_11 hP8.1)) rfl rfl rfl ?_
  have r13 : I10 11 3 = I7 11 3 := by rw [← w9, yi_u_ne _ _ (fun z => absurd z.2 (by decide))]
  have r14 : I10 11 8 = I7 11 8 := by rw [← w9, yi_u_ne _ _ (fun z => absurd z.2 (by decide))]
  have r15 : I10 11 11 = I7 11 11 := by rw [← w9, yi_u_ne _ _ (fun z => absurd z.2 (by decide))]
  refine yi_G_callv rfl rfl (cl_rcv tu rfl) rfl (k_kindOf d (by omega) hP8.1 tu ) ?_
  rintro _ ⟨z12, rfl⟩
  show yi_G zi_Ms d zi_m265 (29, [(0, .inr (.inr (some 11))), (1, .inr (.inr (some u)))], [.inl z12], (I10, L7, R1, Y), 0, 0) _
  refine yi_G_run 4 (33, [(2, .inl z12), (0, .inr (.inr (some 11))), (1, .inr (.inr (some u)))], [.inl 1, .inl z12, .inr (.inr (some 11))], (I10, L7, R1, Y), 0, 0) (fun _ => rfl) ?_
  by_cases h16 : z12 = 1
  · refine yi_G_if2 false rfl (yi_ne_f h16) ?_
    refine yi_G_run 2 (41, [(2, .inl z12), (0, .inr (.inr (some 11))), (1, .inr (.inr (some u)))], [.inl 1, .inr (.inr (some 11))], (I10, L7, R1, Y), 0, 0) (fun _ => rfl) ?_
    refine cl_G_pi rfl (cl_T_K (cl_11 hP8.1)) rfl rfl rfl ?_
    have hP17 := cl_P_uI (k := 7) (v := 1) hP8 (cl_11 hP8.1) (by decide) (cl_hv0 rfl)
    generalize w18 : yi_u I10 11 7 1 = I19 at hP17 ⊢
    refine yi_G_run 2 (46, [(2, .inl z12), (0, .inr (.inr (some 11))), (1, .inr (.inr (some u)))], [.inl 0, .inr (.inr (some 11))], (I19, L7, R1, Y), 0, 0) (fun _ => rfl) ?_
    have r21 : I19 11 3 = I7 11 3 := by rw [← w18, yi_u_ne _ _ (fun z => absurd z.2 (by decide)), ← w9, yi_u_ne _ _ (fun z => absurd z.2 (by decide))]
    have r22 : I19 11 8 = I7 11 8 := by rw [← w18, yi_u_ne _ _ (fun z => absurd z.2 (by decide)), ← w9, yi_u_ne _ _ (fun z => absurd z.2 (by decide))]
    have r23 : I19 11 11 = I7 11 11 := by rw [← w18, yi_u_ne _ _ (fun z => absurd z.2 (by decide)), ← w9, yi_u_ne _ _ (fun z => absurd z.2 (by decide))]
    refine yi_G_callv rfl rfl (cl_rcv (cl_11 hP17.1) rfl) rfl (k_formula0 d (by omega) hP17.1  (by omega)) ?_
    rintro _ ⟨I20, L20, rfl, hQ20, x20a, x20b, x20c⟩
    have hP20 := cl_P_t hP17 hQ20
    show yi_G zi_Ms d zi_m265 (49, [(2, .inl z12), (0, .inr (.inr (some 11))), (1, .inr (.inr (some u)))], [], (I20, L20, R1, Y), 0, 0) _
    have pt59 : ∀ (Ip59 : cl_I), (cl_P E I L R Y Ip59 L20 R1 Y) → yi_G zi_Ms d zi_m265 (59, [(2, .inl z12), (0, .inr (.inr (some 11))), (1, .inr (.inr (some u)))], [], (Ip59, L20, R1, Y), 0, 0) (fun r => ∃ z, ∃ I', ∃ L', ∃ R', r = (some (.inl z), (I', L', R', Y), 0, 0) ∧ cl_P E I L R Y I' L' R' Y) := by
      intro Ip59 hPp59
      refine yi_G_run 2 (62, [(2, .inl z12), (0, .inr (.inr (some 11))), (1, .inr (.inr (some u)))], [.inl 59, .inr (.inr (some 11))], (Ip59, L20, R1, Y), 0, 0) (fun _ => rfl) ?_
      refine yi_G_callv rfl rfl (cl_rcv (cl_11 hPp59.1) rfl) rfl (k_takeKindR d (by omega) hPp59.1  ) ?_
      rintro _ ⟨I24, L24, rfl, hQ24, x24a, x24b, x24c, x24d⟩
      have hP24 := cl_P_t hPp59 hQ24
      show yi_G zi_Ms d zi_m265 (65, [(2, .inl z12), (0, .inr (.inr (some 11))), (1, .inr (.inr (some u)))], [], (I24, L24, R1, Y), 0, 0) _
      refine yi_G_run 2 (67, [(2, .inl z12), (0, .inr (.inr (some 11))), (1, .inr (.inr (some u)))], [.inl 0, .inr (.inr (some 11))], (I24, L24, R1, Y), 0, 0) (fun _ => rfl) ?_
      refine yi_G_callv rfl rfl (cl_rcv (cl_11 hP24.1) rfl) rfl (k_takeKindR d (by omega) hP24.1  ) ?_
      rintro _ ⟨I25, L25, rfl, hQ25, x25a, x25b, x25c, x25d⟩
      have hP25 := cl_P_t hP24 hQ25
      show yi_G zi_Ms d zi_m265 (70, [(2, .inl z12), (0, .inr (.inr (some 11))), (1, .inr (.inr (some u)))], [], (I25, L25, R1, Y), 0, 0) _
      refine yi_G_run 1 (71, [(2, .inl z12), (0, .inr (.inr (some 11))), (1, .inr (.inr (some u)))], [.inr (.inr (some 11))], (I25, L25, R1, Y), 0, 0) (fun _ => rfl) ?_
      refine cl_G_gi rfl (cl_T_K (cl_11 hP25.1)) rfl rfl rfl ?_
      exact yi_G_reti rfl rfl (⟨_, _, _, _, rfl, hP25⟩)
    refine yi_G_run 2 (51, [(2, .inl z12), (0, .inr (.inr (some 11))), (1, .inr (.inr (some u)))], [.inl 2, .inl z12], (I20, L20, R1, Y), 0, 0) (fun _ => rfl) ?_
    by_cases h26 : z12 = 2
    · refine yi_G_if2 false rfl (yi_ne_f h26) ?_
      refine yi_G_run 2 (56, [(2, .inl z12), (0, .inr (.inr (some 11))), (1, .inr (.inr (some u)))], [.inl 1, .inr (.inr (some 11))], (I20, L20, R1, Y), 0, 0) (fun _ => rfl) ?_
      refine yi_G_callv rfl rfl (cl_rcv (cl_11 hP20.1) rfl) rfl (k_emitR d (by omega) hP20.1  ) ?_
      rintro _ ⟨I27, rfl, hQ27, x27a, x27b, x27c⟩
      have hP27 := cl_P_t hP20 hQ27
      show yi_G zi_Ms d zi_m265 (59, [(2, .inl z12), (0, .inr (.inr (some 11))), (1, .inr (.inr (some u)))], [], (I27, L20, R1, Y), 0, 0) _
      exact pt59 I27 hP27
    · refine yi_G_if2 true rfl (yi_ne_t h26) ?_
      exact pt59 I20 hP20
  · refine yi_G_if2 true rfl (yi_ne_t h16) ?_
    refine yi_G_run 1 (41, [(2, .inl z12), (0, .inr (.inr (some 11))), (1, .inr (.inr (some u)))], [.inl 0, .inr (.inr (some 11))], (I10, L7, R1, Y), 0, 0) (fun _ => rfl) ?_
    refine cl_G_pi rfl (cl_T_K (cl_11 hP8.1)) rfl rfl rfl ?_
    have hP28 := cl_P_uI (k := 7) (v := 0) hP8 (cl_11 hP8.1) (by decide) (cl_hv0 rfl)
    generalize w29 : yi_u I10 11 7 0 = I30 at hP28 ⊢
    refine yi_G_run 2 (46, [(2, .inl z12), (0, .inr (.inr (some 11))), (1, .inr (.inr (some u)))], [.inl 0, .inr (.inr (some 11))], (I30, L7, R1, Y), 0, 0) (fun _ => rfl) ?_
    have r32 : I30 11 3 = I7 11 3 := by rw [← w29, yi_u_ne _ _ (fun z => absurd z.2 (by decide)), ← w9, yi_u_ne _ _ (fun z => absurd z.2 (by decide))]
    have r33 : I30 11 8 = I7 11 8 := by rw [← w29, yi_u_ne _ _ (fun z => absurd z.2 (by decide)), ← w9, yi_u_ne _ _ (fun z => absurd z.2 (by decide))]
    have r34 : I30 11 11 = I7 11 11 := by rw [← w29, yi_u_ne _ _ (fun z => absurd z.2 (by decide)), ← w9, yi_u_ne _ _ (fun z => absurd z.2 (by decide))]
    refine yi_G_callv rfl rfl (cl_rcv (cl_11 hP28.1) rfl) rfl (k_formula0 d (by omega) hP28.1  (by omega)) ?_
    rintro _ ⟨I31, L31, rfl, hQ31, x31a, x31b, x31c⟩
    have hP31 := cl_P_t hP28 hQ31
    show yi_G zi_Ms d zi_m265 (49, [(2, .inl z12), (0, .inr (.inr (some 11))), (1, .inr (.inr (some u)))], [], (I31, L31, R1, Y), 0, 0) _
    have pt59 : ∀ (Ip59 : cl_I), (cl_P E I L R Y Ip59 L31 R1 Y) → yi_G zi_Ms d zi_m265 (59, [(2, .inl z12), (0, .inr (.inr (some 11))), (1, .inr (.inr (some u)))], [], (Ip59, L31, R1, Y), 0, 0) (fun r => ∃ z, ∃ I', ∃ L', ∃ R', r = (some (.inl z), (I', L', R', Y), 0, 0) ∧ cl_P E I L R Y I' L' R' Y) := by
      intro Ip59 hPp59
      refine yi_G_run 2 (62, [(2, .inl z12), (0, .inr (.inr (some 11))), (1, .inr (.inr (some u)))], [.inl 59, .inr (.inr (some 11))], (Ip59, L31, R1, Y), 0, 0) (fun _ => rfl) ?_
      refine yi_G_callv rfl rfl (cl_rcv (cl_11 hPp59.1) rfl) rfl (k_takeKindR d (by omega) hPp59.1  ) ?_
      rintro _ ⟨I35, L35, rfl, hQ35, x35a, x35b, x35c, x35d⟩
      have hP35 := cl_P_t hPp59 hQ35
      show yi_G zi_Ms d zi_m265 (65, [(2, .inl z12), (0, .inr (.inr (some 11))), (1, .inr (.inr (some u)))], [], (I35, L35, R1, Y), 0, 0) _
      refine yi_G_run 2 (67, [(2, .inl z12), (0, .inr (.inr (some 11))), (1, .inr (.inr (some u)))], [.inl 0, .inr (.inr (some 11))], (I35, L35, R1, Y), 0, 0) (fun _ => rfl) ?_
      refine yi_G_callv rfl rfl (cl_rcv (cl_11 hP35.1) rfl) rfl (k_takeKindR d (by omega) hP35.1  ) ?_
      rintro _ ⟨I36, L36, rfl, hQ36, x36a, x36b, x36c, x36d⟩
      have hP36 := cl_P_t hP35 hQ36
      show yi_G zi_Ms d zi_m265 (70, [(2, .inl z12), (0, .inr (.inr (some 11))), (1, .inr (.inr (some u)))], [], (I36, L36, R1, Y), 0, 0) _
      refine yi_G_run 1 (71, [(2, .inl z12), (0, .inr (.inr (some 11))), (1, .inr (.inr (some u)))], [.inr (.inr (some 11))], (I36, L36, R1, Y), 0, 0) (fun _ => rfl) ?_
      refine cl_G_gi rfl (cl_T_K (cl_11 hP36.1)) rfl rfl rfl ?_
      exact yi_G_reti rfl rfl (⟨_, _, _, _, rfl, hP36⟩)
    refine yi_G_run 2 (51, [(2, .inl z12), (0, .inr (.inr (some 11))), (1, .inr (.inr (some u)))], [.inl 2, .inl z12], (I31, L31, R1, Y), 0, 0) (fun _ => rfl) ?_
    by_cases h37 : z12 = 2
    · refine yi_G_if2 false rfl (yi_ne_f h37) ?_
      refine yi_G_run 2 (56, [(2, .inl z12), (0, .inr (.inr (some 11))), (1, .inr (.inr (some u)))], [.inl 1, .inr (.inr (some 11))], (I31, L31, R1, Y), 0, 0) (fun _ => rfl) ?_
      refine yi_G_callv rfl rfl (cl_rcv (cl_11 hP31.1) rfl) rfl (k_emitR d (by omega) hP31.1  ) ?_
      rintro _ ⟨I38, rfl, hQ38, x38a, x38b, x38c⟩
      have hP38 := cl_P_t hP31 hQ38
      show yi_G zi_Ms d zi_m265 (59, [(2, .inl z12), (0, .inr (.inr (some 11))), (1, .inr (.inr (some u)))], [], (I38, L31, R1, Y), 0, 0) _
      exact pt59 I38 hP38
    · refine yi_G_if2 true rfl (yi_ne_t h37) ?_
      exact pt59 I31 hP31
theorem k_readAskedR (D : Nat) (hD : 23 ≤ D) {E : List Nat} {I L : cl_I} {R : cl_Rr} {Y : cl_Y} (hC : cl_C E I L R Y) {u : Nat} (tu : cl_T E Y u 3) (h12 : 1 ≤ I 12 6) : yi_E zi_Ms D 252 [.inr (.inr (some 11)), .inr (.inr (some u))] (I, L, R, Y) (fun r => ∃ z, ∃ I', ∃ L', ∃ R', r = (some (.inl z), (I', L', R', Y), 0, 0) ∧ cl_P E I L R Y I' L' R' Y) := by
  obtain ⟨d, rfl⟩ : ∃ d, D = d + 1 := ⟨D - 1, by omega⟩
  refine yi_E_of (M := zi_m252) rfl rfl ?_
  have hP : cl_P E I L R Y I L R Y := cl_P_r hC
  show yi_G zi_Ms d zi_m252 (0, [(0, .inr (.inr (some 11))), (1, .inr (.inr (some u)))], [], (I, L, R, Y), 0, 0) _
  refine yi_G_run 2 (2, [(0, .inr (.inr (some 11))), (1, .inr (.inr (some u)))], [.inr (.inr (some u)), .inr (.inr (some 11))], (I, L, R, Y), 0, 0) (fun _ => rfl) ?_
  refine yi_G_callv rfl rfl (cl_rcv (cl_11 hP.1) rfl) rfl (k_beginR d (by omega) hP.1 tu ) ?_
  rintro _ ⟨I1, L1, R1, rfl, hQ1, x1a, x1b, x1c⟩
  have hP1 := cl_P_t hP hQ1
  show yi_G zi_Ms d zi_m252 (5, [(0, .inr (.inr (some 11))), (1, .inr (.inr (some u)))], [], (I1, L1, R1, Y), 0, 0) _
  refine yi_G_run 2 (7, [(0, .inr (.inr (some 11))), (1, .inr (.inr (some u)))], [.inl 0, .inr (.inr (some 11))], (I1, L1, R1, Y), 0, 0) (fun _ => rfl) ?_
  refine yi_G_callv rfl rfl (cl_rcv (cl_11 hP1.1) rfl) rfl (k_formula0 d (by omega) hP1.1  (by omega)) ?_
  rintro _ ⟨I2, L2, rfl, hQ2, x2a, x2b, x2c⟩
  have hP2 := cl_P_t hP1 hQ2
  show yi_G zi_Ms d zi_m252 (10, [(0, .inr (.inr (some 11))), (1, .inr (.inr (some u)))], [], (I2, L2, R1, Y), 0, 0) _
  refine yi_G_run 2 (13, [(0, .inr (.inr (some 11))), (1, .inr (.inr (some u)))], [.inl 59, .inr (.inr (some 11))], (I2, L2, R1, Y), 0, 0) (fun _ => rfl) ?_
  refine yi_G_callv rfl rfl (cl_rcv (cl_11 hP2.1) rfl) rfl (k_takeKindR d (by omega) hP2.1  ) ?_
  rintro _ ⟨I3, L3, rfl, hQ3, x3a, x3b, x3c, x3d⟩
  have hP3 := cl_P_t hP2 hQ3
  show yi_G zi_Ms d zi_m252 (16, [(0, .inr (.inr (some 11))), (1, .inr (.inr (some u)))], [], (I3, L3, R1, Y), 0, 0) _
  refine yi_G_run 2 (18, [(0, .inr (.inr (some 11))), (1, .inr (.inr (some u)))], [.inl 0, .inr (.inr (some 11))], (I3, L3, R1, Y), 0, 0) (fun _ => rfl) ?_
  refine yi_G_callv rfl rfl (cl_rcv (cl_11 hP3.1) rfl) rfl (k_takeKindR d (by omega) hP3.1  ) ?_
  rintro _ ⟨I4, L4, rfl, hQ4, x4a, x4b, x4c, x4d⟩
  have hP4 := cl_P_t hP3 hQ4
  show yi_G zi_Ms d zi_m252 (21, [(0, .inr (.inr (some 11))), (1, .inr (.inr (some u)))], [], (I4, L4, R1, Y), 0, 0) _
  refine yi_G_run 1 (22, [(0, .inr (.inr (some 11))), (1, .inr (.inr (some u)))], [.inr (.inr (some 11))], (I4, L4, R1, Y), 0, 0) (fun _ => rfl) ?_
  refine cl_G_gi rfl (cl_T_K (cl_11 hP4.1)) rfl rfl rfl ?_
  exact yi_G_reti rfl rfl (⟨_, _, _, _, rfl, hP4⟩)
