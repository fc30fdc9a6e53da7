/-! The class: its calls. -/
theorem k_tallA (D : Nat) (hD : 5 ≤ D) {E : List Nat} {I L : cl_I} {R : cl_Rr} {Y : cl_Y} (hC : cl_C E I L R Y) {x : Int} : yi_E zi_Ms D 179 [.inr (.inr (some 10)), .inl x] (I, L, R, Y) (fun r => ∃ z, r = (some (.inl z), (I, L, R, Y), 0, 0)) := by
  obtain ⟨d, rfl⟩ : ∃ d, D = d + 1 := ⟨D - 1, by omega⟩
  refine yi_E_of (M := zi_m179) rfl rfl ?_
  have hP : cl_P E I L R Y I L R Y := cl_P_r hC
  show yi_G zi_Ms d zi_m179 (0, [(0, .inr (.inr (some 10))), (1, .inl x)], [], (I, L, R, Y), 0, 0) _
  refine yi_G_run 1 (1, [(0, .inr (.inr (some 10))), (1, .inl x)], [.inr (.inr (some 10))], (I, L, R, Y), 0, 0) (fun _ => rfl) ?_
  obtain ⟨q1, e2, t3⟩ := cl_rf hP.1 (cl_10 hP.1) (k := 16) rfl
  refine cl_G_gr rfl (cl_T_K (cl_10 hP.1)) rfl rfl rfl e2 ?_
  refine yi_G_run 1 (5, [(0, .inr (.inr (some 10))), (1, .inl x)], [.inl x, .inr (.inr (some q1))], (I, L, R, Y), 0, 0) (fun _ => rfl) ?_
  refine yi_G_callv rfl rfl (cl_rcv t3 rfl) rfl (k_tallOf d (by omega) hP.1 t3 ) ?_
  rintro _ ⟨z4, rfl⟩
  show yi_G zi_Ms d zi_m179 (8, [(0, .inr (.inr (some 10))), (1, .inl x)], [.inl z4], (I, L, R, Y), 0, 0) _
  exact yi_G_reti rfl rfl (⟨_, rfl⟩)
theorem k_futuresA (D : Nat) (hD : 5 ≤ D) {E : List Nat} {I L : cl_I} {R : cl_Rr} {Y : cl_Y} (hC : cl_C E I L R Y) {x : Int} : yi_E zi_Ms D 153 [.inr (.inr (some 10)), .inl x] (I, L, R, Y) (fun r => ∃ z, r = (some (.inl z), (I, L, R, Y), 0, 0)) := by
  obtain ⟨d, rfl⟩ : ∃ d, D = d + 1 := ⟨D - 1, by omega⟩
  refine yi_E_of (M := zi_m153) rfl rfl ?_
  have hP : cl_P E I L R Y I L R Y := cl_P_r hC
  show yi_G zi_Ms d zi_m153 (0, [(0, .inr (.inr (some 10))), (1, .inl x)], [], (I, L, R, Y), 0, 0) _
  refine yi_G_run 1 (1, [(0, .inr (.inr (some 10))), (1, .inl x)], [.inl x], (I, L, R, Y), 0, 0) (fun _ => rfl) ?_
  by_cases h1 : x = 0
  · refine yi_G_tsi 0 rfl (by omega) (by decide) rfl ?_
    refine yi_G_run 1 (29, [(0, .inr (.inr (some 10))), (1, .inl x)], [.inr (.inr (some 10))], (I, L, R, Y), 0, 0) (fun _ => rfl) ?_
    refine cl_G_gr rfl (cl_T_K (cl_10 hP.1)) rfl rfl rfl (hP.1.2.2.2.1.2.2.2.2.2.2.1) ?_
    have b2 := cl_rd hP.1 (cl_34 hP.1) (k := 2) (lo := 1) (hi := 32769) rfl
    refine cl_G_gi rfl (cl_T_K (cl_34 hP.1)) rfl rfl rfl ?_
    exact yi_G_reti rfl rfl (⟨_, rfl⟩)
  by_cases h3 : x = 1
  · refine yi_G_tsi 1 rfl (by omega) (by decide) rfl ?_
    refine yi_G_run 1 (37, [(0, .inr (.inr (some 10))), (1, .inl x)], [.inr (.inr (some 10))], (I, L, R, Y), 0, 0) (fun _ => rfl) ?_
    refine cl_G_gr rfl (cl_T_K (cl_10 hP.1)) rfl rfl rfl (hP.1.2.2.2.1.2.2.2.2.2.2.1) ?_
    obtain ⟨q4, e5, t6⟩ := cl_rf hP.1 (cl_34 hP.1) (k := 0) rfl
    refine cl_G_gr rfl (cl_T_K (cl_34 hP.1)) rfl rfl rfl e5 ?_
    refine yi_G_callv rfl rfl (cl_rcv t6 rfl) rfl (k_size d (by omega) hP.1 t6 ) ?_
    rintro _ ⟨z7, rfl⟩
    show yi_G zi_Ms d zi_m153 (46, [(0, .inr (.inr (some 10))), (1, .inl x)], [.inl z7], (I, L, R, Y), 0, 0) _
    exact yi_G_reti rfl rfl (⟨_, rfl⟩)
  by_cases h8 : x = 2
  · refine yi_G_tsi 2 rfl (by omega) (by decide) rfl ?_
    refine yi_G_run 1 (48, [(0, .inr (.inr (some 10))), (1, .inl x)], [.inr (.inr (some 10))], (I, L, R, Y), 0, 0) (fun _ => rfl) ?_
    refine cl_G_gr rfl (cl_T_K (cl_10 hP.1)) rfl rfl rfl (hP.1.2.2.2.1.2.2.2.2.2.2.2.1) ?_
    refine yi_G_callv rfl rfl (cl_rcv (cl_58 hP.1) rfl) rfl (k_size d (by omega) hP.1 (cl_58 hP.1) ) ?_
    rintro _ ⟨z9, rfl⟩
    show yi_G zi_Ms d zi_m153 (54, [(0, .inr (.inr (some 10))), (1, .inl x)], [.inl z9], (I, L, R, Y), 0, 0) _
    exact yi_G_reti rfl rfl (⟨_, rfl⟩)
  refine yi_G_tso rfl (by omega) ?_
  refine yi_G_run 1 (56, [(0, .inr (.inr (some 10))), (1, .inl x)], [.inl (-1)], (I, L, R, Y), 0, 0) (fun _ => rfl) ?_
  exact yi_G_reti rfl rfl (⟨_, rfl⟩)
theorem k_askedA (D : Nat) (hD : 5 ≤ D) {E : List Nat} {I L : cl_I} {R : cl_Rr} {Y : cl_Y} (hC : cl_C E I L R Y) {x : Int} : yi_E zi_Ms D 140 [.inr (.inr (some 10)), .inl x] (I, L, R, Y) (fun r => ∃ z, r = (some (.inl z), (I, L, R, Y), 0, 0)) := by
  obtain ⟨d, rfl⟩ : ∃ d, D = d + 1 := ⟨D - 1, by omega⟩
  refine yi_E_of (M := zi_m140) rfl rfl ?_
  have hP : cl_P E I L R Y I L R Y := cl_P_r hC
  show yi_G zi_Ms d zi_m140 (0, [(0, .inr (.inr (some 10))), (1, .inl x)], [], (I, L, R, Y), 0, 0) _
  refine yi_G_run 1 (1, [(0, .inr (.inr (some 10))), (1, .inl x)], [.inr (.inr (some 10))], (I, L, R, Y), 0, 0) (fun _ => rfl) ?_
  obtain ⟨q1, e2, t3⟩ := cl_rf hP.1 (cl_10 hP.1) (k := 6) rfl
  refine cl_G_gr rfl (cl_T_K (cl_10 hP.1)) rfl rfl rfl e2 ?_
  rcases cl_ro hP.1 t3 (k := 5) rfl with e5 | ⟨q4, e5, t6⟩
  · refine cl_G_gr rfl (cl_T_K t3) rfl rfl rfl e5 ?_
    refine yi_G_run 2 (9, [(2, .inr (.inr none)), (0, .inr (.inr (some 10))), (1, .inl x)], [.inr (.inr none)], (I, L, R, Y), 0, 0) (fun _ => rfl) ?_
    refine cl_G_nul true rfl rfl ?_
    refine yi_G_run 1 (22, [(2, .inr (.inr none)), (0, .inr (.inr (some 10))), (1, .inl x)], [.inl (-1)], (I, L, R, Y), 0, 0) (fun _ => rfl) ?_
    exact yi_G_reti rfl rfl (⟨_, rfl⟩)
  · refine cl_G_gr rfl (cl_T_K t3) rfl rfl rfl e5 ?_
    refine yi_G_run 2 (9, [(2, .inr (.inr (some q4))), (0, .inr (.inr (some 10))), (1, .inl x)], [.inr (.inr (some q4))], (I, L, R, Y), 0, 0) (fun _ => rfl) ?_
    refine cl_G_nul false rfl rfl ?_
    refine yi_G_run 1 (13, [(2, .inr (.inr (some q4))), (0, .inr (.inr (some 10))), (1, .inl x)], [.inl x], (I, L, R, Y), 0, 0) (fun _ => rfl) ?_
    by_cases h7 : x < 0
    · refine yi_G_if1 true rfl (yi_lt_t h7) ?_
      refine yi_G_run 1 (22, [(2, .inr (.inr (some q4))), (0, .inr (.inr (some 10))), (1, .inl x)], [.inl (-1)], (I, L, R, Y), 0, 0) (fun _ => rfl) ?_
      exact yi_G_reti rfl rfl (⟨_, rfl⟩)
    · refine yi_G_if1 false rfl (yi_lt_f h7) ?_
      refine yi_G_run 2 (18, [(2, .inr (.inr (some q4))), (0, .inr (.inr (some 10))), (1, .inl x)], [.inl 1, .inl x], (I, L, R, Y), 0, 0) (fun _ => rfl) ?_
      by_cases h8 : x ≤ 1
      · refine yi_G_if2 true rfl (yi_le_t h8) ?_
        refine yi_G_run 1 (24, [(2, .inr (.inr (some q4))), (0, .inr (.inr (some 10))), (1, .inl x)], [.inr (.inr (some 10))], (I, L, R, Y), 0, 0) (fun _ => rfl) ?_
        refine cl_G_gr rfl (cl_T_K (cl_10 hP.1)) rfl rfl rfl (hP.1.2.2.2.1.2.2.2.2.2.2.2.1) ?_
        refine yi_G_run 1 (28, [(2, .inr (.inr (some q4))), (0, .inr (.inr (some 10))), (1, .inl x)], [.inr (.inr (some q4)), .inr (.inr (some 58))], (I, L, R, Y), 0, 0) (fun _ => rfl) ?_
        refine yi_G_callv rfl rfl (cl_rcv (cl_58 hP.1) rfl) rfl (k_sizeWith d (by omega) hP.1 (cl_58 hP.1) t6 ) ?_
        rintro _ ⟨z9, rfl⟩
        show yi_G zi_Ms d zi_m140 (31, [(2, .inr (.inr (some q4))), (0, .inr (.inr (some 10))), (1, .inl x)], [.inl z9], (I, L, R, Y), 0, 0) _
        refine yi_G_run 2 (33, [(3, .inl z9), (2, .inr (.inr (some q4))), (0, .inr (.inr (some 10))), (1, .inl x)], [.inl x], (I, L, R, Y), 0, 0) (fun _ => rfl) ?_
        by_cases h10 : x = 0
        · refine yi_G_if1 false rfl (yi_ne_f h10) ?_
          refine yi_G_run 2 (51, [(3, .inl z9), (2, .inr (.inr (some q4))), (0, .inr (.inr (some 10))), (1, .inl x)], [.inl z9], (I, L, R, Y), 0, 0) (fun _ => rfl) ?_
          exact yi_G_reti rfl rfl (⟨_, rfl⟩)
        · refine yi_G_if1 true rfl (yi_ne_t h10) ?_
          refine yi_G_run 2 (42, [(3, .inl z9), (2, .inr (.inr (some q4))), (0, .inr (.inr (some 10))), (1, .inl x)], [.inr (.inr (some 10)), .inl z9], (I, L, R, Y), 0, 0) (fun _ => rfl) ?_
          refine cl_G_gr rfl (cl_T_K (cl_10 hP.1)) rfl rfl rfl (hP.1.2.2.2.1.2.2.2.2.2.2.2.1) ?_
          refine yi_G_callv rfl rfl (cl_rcv (cl_58 hP.1) rfl) rfl (k_size d (by omega) hP.1 (cl_58 hP.1) ) ?_
          rintro _ ⟨z11, rfl⟩
          show yi_G zi_Ms d zi_m140 (48, [(3, .inl z9), (2, .inr (.inr (some q4))), (0, .inr (.inr (some 10))), (1, .inl x)], [.inl z11, .inl z9], (I, L, R, Y), 0, 0) _
          refine yi_G_calls rfl rfl (k_standing d (by omega) hP.1  ) ?_
          rintro _ ⟨z12, rfl⟩
          show yi_G zi_Ms d zi_m140 (51, [(3, .inl z9), (2, .inr (.inr (some q4))), (0, .inr (.inr (some 10))), (1, .inl x)], [.inl z12], (I, L, R, Y), 0, 0) _
          exact yi_G_reti rfl rfl (⟨_, rfl⟩)
      · refine yi_G_if2 false rfl (yi_le_f h8) ?_
        refine yi_G_run 1 (22, [(2, .inr (.inr (some q4))), (0, .inr (.inr (some 10))), (1, .inl x)], [.inl (-1)], (I, L, R, Y), 0, 0) (fun _ => rfl) ?_
        exact yi_G_reti rfl rfl (⟨_, rfl⟩)
theorem k_prophetA (D : Nat) (hD : 5 ≤ D) {E : List Nat} {I L : cl_I} {R : cl_Rr} {Y : cl_Y} (hC : cl_C E I L R Y) {x : Int} {y : Int} : yi_E zi_Ms D 168 [.inr (.inr (some 10)), .inl x, .inl y] (I, L, R, Y) (fun r => ∃ z, r = (some (.inl z), (I, L, R, Y), 0, 0)) := by
  obtain ⟨d, rfl⟩ : ∃ d, D = d + 1 := ⟨D - 1, by omega⟩
  refine yi_E_of (M := zi_m168) rfl rfl ?_
  have hP : cl_P E I L R Y I L R Y := cl_P_r hC
  show yi_G zi_Ms d zi_m168 (0, [(0, .inr (.inr (some 10))), (1, .inl x), (2, .inl y)], [], (I, L, R, Y), 0, 0) _
  refine yi_G_run 1 (1, [(0, .inr (.inr (some 10))), (1, .inl x), (2, .inl y)], [.inr (.inr (some 10))], (I, L, R, Y), 0, 0) (fun _ => rfl) ?_
  obtain ⟨q1, e2, t3⟩ := cl_rf hP.1 (cl_10 hP.1) (k := 16) rfl
  refine cl_G_gr rfl (cl_T_K (cl_10 hP.1)) rfl rfl rfl e2 ?_
  refine yi_G_run 1 (5, [(0, .inr (.inr (some 10))), (1, .inl x), (2, .inl y)], [.inl x, .inr (.inr (some q1))], (I, L, R, Y), 0, 0) (fun _ => rfl) ?_
  refine yi_G_callv rfl rfl (cl_rcv t3 rfl) rfl (k_isProphet d (by omega) hP.1 t3 ) ?_
  rintro _ ⟨z4, rfl, hz4, x4a⟩
  show yi_G zi_Ms d zi_m168 (8, [(0, .inr (.inr (some 10))), (1, .inl x), (2, .inl y)], [.inl z4], (I, L, R, Y), 0, 0) _
  by_cases h5 : z4 = 0
  · refine yi_G_if1 false rfl (yi_ne_f h5) ?_
    refine yi_G_run 1 (12, [(0, .inr (.inr (some 10))), (1, .inl x), (2, .inl y)], [.inl (-1)], (I, L, R, Y), 0, 0) (fun _ => rfl) ?_
    exact yi_G_reti rfl rfl (⟨_, rfl⟩)
  · refine yi_G_if1 true rfl (yi_ne_t h5) ?_
    refine yi_G_run 1 (14, [(0, .inr (.inr (some 10))), (1, .inl x), (2, .inl y)], [.inl y], (I, L, R, Y), 0, 0) (fun _ => rfl) ?_
    by_cases h6 : y = 0
    · refine yi_G_tsi 0 rfl (by omega) (by decide) rfl ?_
      refine yi_G_run 1 (45, [(0, .inr (.inr (some 10))), (1, .inl x), (2, .inl y)], [.inr (.inr (some 10))], (I, L, R, Y), 0, 0) (fun _ => rfl) ?_
      refine cl_G_gr rfl (cl_T_K (cl_10 hP.1)) rfl rfl rfl e2 ?_
      refine yi_G_run 1 (49, [(0, .inr (.inr (some 10))), (1, .inl x), (2, .inl y)], [.inl x, .inr (.inr (some q1))], (I, L, R, Y), 0, 0) (fun _ => rfl) ?_
      refine yi_G_callv rfl rfl (cl_rcv t3 rfl) rfl (k_kindOf d (by omega) hP.1 t3 ) ?_
      rintro _ ⟨z7, rfl⟩
      show yi_G zi_Ms d zi_m168 (52, [(0, .inr (.inr (some 10))), (1, .inl x), (2, .inl y)], [.inl z7], (I, L, R, Y), 0, 0) _
      exact yi_G_reti rfl rfl (⟨_, rfl⟩)
    by_cases h8 : y = 1
    · refine yi_G_tsi 1 rfl (by omega) (by decide) rfl ?_
      refine yi_G_run 1 (54, [(0, .inr (.inr (some 10))), (1, .inl x), (2, .inl y)], [.inr (.inr (some 10))], (I, L, R, Y), 0, 0) (fun _ => rfl) ?_
      obtain ⟨q9, e10, t11⟩ := cl_rf hP.1 (cl_10 hP.1) (k := 6) rfl
      refine cl_G_gr rfl (cl_T_K (cl_10 hP.1)) rfl rfl rfl e10 ?_
      refine yi_G_run 1 (58, [(0, .inr (.inr (some 10))), (1, .inl x), (2, .inl y)], [.inl x, .inr (.inr (some q9))], (I, L, R, Y), 0, 0) (fun _ => rfl) ?_
      refine yi_G_callv rfl rfl (cl_rcv t11 rfl) rfl (k_purseOfS d (by omega) hP.1 t11 ) ?_
      rintro _ ⟨z12, rfl⟩
      show yi_G zi_Ms d zi_m168 (61, [(0, .inr (.inr (some 10))), (1, .inl x), (2, .inl y)], [.inl z12], (I, L, R, Y), 0, 0) _
      exact yi_G_reti rfl rfl (⟨_, rfl⟩)
    by_cases h13 : y = 2
    · refine yi_G_tsi 2 rfl (by omega) (by decide) rfl ?_
      refine yi_G_run 1 (63, [(0, .inr (.inr (some 10))), (1, .inl x), (2, .inl y)], [.inr (.inr (some 10))], (I, L, R, Y), 0, 0) (fun _ => rfl) ?_
      obtain ⟨q14, e15, t16⟩ := cl_rf hP.1 (cl_10 hP.1) (k := 6) rfl
      refine cl_G_gr rfl (cl_T_K (cl_10 hP.1)) rfl rfl rfl e15 ?_
      refine yi_G_run 1 (67, [(0, .inr (.inr (some 10))), (1, .inl x), (2, .inl y)], [.inl x, .inr (.inr (some q14))], (I, L, R, Y), 0, 0) (fun _ => rfl) ?_
      refine yi_G_callv rfl rfl (cl_rcv t16 rfl) rfl (k_sayingsOf d (by omega) hP.1 t16 ) ?_
      rintro _ ⟨z17, rfl⟩
      show yi_G zi_Ms d zi_m168 (70, [(0, .inr (.inr (some 10))), (1, .inl x), (2, .inl y)], [.inl z17], (I, L, R, Y), 0, 0) _
      exact yi_G_reti rfl rfl (⟨_, rfl⟩)
    by_cases h18 : y = 3
    · refine yi_G_tsi 3 rfl (by omega) (by decide) rfl ?_
      refine yi_G_run 1 (72, [(0, .inr (.inr (some 10))), (1, .inl x), (2, .inl y)], [.inr (.inr (some 10))], (I, L, R, Y), 0, 0) (fun _ => rfl) ?_
      refine cl_G_gr rfl (cl_T_K (cl_10 hP.1)) rfl rfl rfl e2 ?_
      refine yi_G_run 1 (76, [(0, .inr (.inr (some 10))), (1, .inl x), (2, .inl y)], [.inl x, .inr (.inr (some q1))], (I, L, R, Y), 0, 0) (fun _ => rfl) ?_
      refine yi_G_callv rfl rfl (cl_rcv t3 rfl) rfl (k_wishesOf d (by omega) hP.1 t3 ) ?_
      rintro _ ⟨z19, rfl⟩
      show yi_G zi_Ms d zi_m168 (79, [(0, .inr (.inr (some 10))), (1, .inl x), (2, .inl y)], [.inl z19], (I, L, R, Y), 0, 0) _
      exact yi_G_reti rfl rfl (⟨_, rfl⟩)
    refine yi_G_tso rfl (by omega) ?_
    refine yi_G_run 1 (81, [(0, .inr (.inr (some 10))), (1, .inl x), (2, .inl y)], [.inl (-1)], (I, L, R, Y), 0, 0) (fun _ => rfl) ?_
    exact yi_G_reti rfl rfl (⟨_, rfl⟩)
theorem k_sayingA (D : Nat) (hD : 5 ≤ D) {E : List Nat} {I L : cl_I} {R : cl_Rr} {Y : cl_Y} (hC : cl_C E I L R Y) {x : Int} {y : Int} : yi_E zi_Ms D 172 [.inr (.inr (some 10)), .inl x, .inl y] (I, L, R, Y) (fun r => ∃ z, r = (some (.inl z), (I, L, R, Y), 0, 0)) := by
  obtain ⟨d, rfl⟩ : ∃ d, D = d + 1 := ⟨D - 1, by omega⟩
  refine yi_E_of (M := zi_m172) rfl rfl ?_
  have hP : cl_P E I L R Y I L R Y := cl_P_r hC
  show yi_G zi_Ms d zi_m172 (0, [(0, .inr (.inr (some 10))), (1, .inl x), (2, .inl y)], [], (I, L, R, Y), 0, 0) _
  refine yi_G_run 1 (1, [(0, .inr (.inr (some 10))), (1, .inl x), (2, .inl y)], [.inr (.inr (some 10))], (I, L, R, Y), 0, 0) (fun _ => rfl) ?_
  obtain ⟨q1, e2, t3⟩ := cl_rf hP.1 (cl_10 hP.1) (k := 6) rfl
  refine cl_G_gr rfl (cl_T_K (cl_10 hP.1)) rfl rfl rfl e2 ?_
  refine yi_G_run 1 (5, [(0, .inr (.inr (some 10))), (1, .inl x), (2, .inl y)], [.inl x, .inr (.inr (some q1))], (I, L, R, Y), 0, 0) (fun _ => rfl) ?_
  refine yi_G_callv rfl rfl (cl_rcv t3 rfl) rfl (k_sayingAt d (by omega) hP.1 t3 ) ?_
  rintro _ (⟨q4, rfl, t4⟩ | rfl)
  · show yi_G zi_Ms d zi_m172 (8, [(0, .inr (.inr (some 10))), (1, .inl x), (2, .inl y)], [.inr (.inr (some q4))], (I, L, R, Y), 0, 0) _
    refine yi_G_run 2 (10, [(3, .inr (.inr (some q4))), (0, .inr (.inr (some 10))), (1, .inl x), (2, .inl y)], [.inr (.inr (some q4))], (I, L, R, Y), 0, 0) (fun _ => rfl) ?_
    refine cl_G_nnl false rfl rfl ?_
    refine yi_G_run 1 (16, [(3, .inr (.inr (some q4))), (0, .inr (.inr (some 10))), (1, .inl x), (2, .inl y)], [.inl y], (I, L, R, Y), 0, 0) (fun _ => rfl) ?_
    by_cases h5 : y = 0
    · refine yi_G_tsi 0 rfl (by omega) (by decide) rfl ?_
      refine yi_G_run 1 (49, [(3, .inr (.inr (some q4))), (0, .inr (.inr (some 10))), (1, .inl x), (2, .inl y)], [.inr (.inr (some q4))], (I, L, R, Y), 0, 0) (fun _ => rfl) ?_
      refine cl_G_gi rfl (cl_T_K t4) rfl rfl rfl ?_
      exact yi_G_reti rfl rfl (⟨_, rfl⟩)
    by_cases h6 : y = 1
    · refine yi_G_tsi 1 rfl (by omega) (by decide) rfl ?_
      refine yi_G_run 1 (54, [(3, .inr (.inr (some q4))), (0, .inr (.inr (some 10))), (1, .inl x), (2, .inl y)], [.inr (.inr (some q4))], (I, L, R, Y), 0, 0) (fun _ => rfl) ?_
      refine cl_G_gi rfl (cl_T_K t4) rfl rfl rfl ?_
      exact yi_G_reti rfl rfl (⟨_, rfl⟩)
    by_cases h7 : y = 2
    · refine yi_G_tsi 2 rfl (by omega) (by decide) rfl ?_
      refine yi_G_run 1 (59, [(3, .inr (.inr (some q4))), (0, .inr (.inr (some 10))), (1, .inl x), (2, .inl y)], [.inr (.inr (some 10))], (I, L, R, Y), 0, 0) (fun _ => rfl) ?_
      refine cl_G_gr rfl (cl_T_K (cl_10 hP.1)) rfl rfl rfl (hP.1.2.2.2.1.2.2.2.2.2.2.1) ?_
      obtain ⟨q8, e9, t10⟩ := cl_rf hP.1 (cl_34 hP.1) (k := 0) rfl
      refine cl_G_gr rfl (cl_T_K (cl_34 hP.1)) rfl rfl rfl e9 ?_
      refine yi_G_run 1 (66, [(3, .inr (.inr (some q4))), (0, .inr (.inr (some 10))), (1, .inl x), (2, .inl y)], [.inr (.inr (some q4)), .inr (.inr (some q8))], (I, L, R, Y), 0, 0) (fun _ => rfl) ?_
      obtain ⟨q11, e12, t13⟩ := cl_rf hP.1 t4 (k := 3) rfl
      refine cl_G_gr rfl (cl_T_K t4) rfl rfl rfl e12 ?_
      refine yi_G_callv rfl rfl (cl_rcv t10 rfl) rfl (k_sizeWith d (by omega) hP.1 t10 t13 ) ?_
      rintro _ ⟨z14, rfl⟩
      show yi_G zi_Ms d zi_m172 (72, [(3, .inr (.inr (some q4))), (0, .inr (.inr (some 10))), (1, .inl x), (2, .inl y)], [.inl z14], (I, L, R, Y), 0, 0) _
      exact yi_G_reti rfl rfl (⟨_, rfl⟩)
    by_cases h15 : y = 3
    · refine yi_G_tsi 3 rfl (by omega) (by decide) rfl ?_
      refine yi_G_run 1 (74, [(3, .inr (.inr (some q4))), (0, .inr (.inr (some 10))), (1, .inl x), (2, .inl y)], [.inr (.inr (some q4))], (I, L, R, Y), 0, 0) (fun _ => rfl) ?_
      refine cl_G_gi rfl (cl_T_K t4) rfl rfl rfl ?_
      exact yi_G_reti rfl rfl (⟨_, rfl⟩)
    refine yi_G_tso rfl (by omega) ?_
    refine yi_G_run 1 (79, [(3, .inr (.inr (some q4))), (0, .inr (.inr (some 10))), (1, .inl x), (2, .inl y)], [.inl (-1)], (I, L, R, Y), 0, 0) (fun _ => rfl) ?_
    exact yi_G_reti rfl rfl (⟨_, rfl⟩)
  · show yi_G zi_Ms d zi_m172 (8, [(0, .inr (.inr (some 10))), (1, .inl x), (2, .inl y)], [.inr (.inr none)], (I, L, R, Y), 0, 0) _
    refine yi_G_run 2 (10, [(3, .inr (.inr none)), (0, .inr (.inr (some 10))), (1, .inl x), (2, .inl y)], [.inr (.inr none)], (I, L, R, Y), 0, 0) (fun _ => rfl) ?_
    refine cl_G_nnl true rfl rfl ?_
    refine yi_G_run 1 (14, [(3, .inr (.inr none)), (0, .inr (.inr (some 10))), (1, .inl x), (2, .inl y)], [.inl (-1)], (I, L, R, Y), 0, 0) (fun _ => rfl) ?_
    exact yi_G_reti rfl rfl (⟨_, rfl⟩)
theorem k_cameA (D : Nat) (hD : 5 ≤ D) {E : List Nat} {I L : cl_I} {R : cl_Rr} {Y : cl_Y} (hC : cl_C E I L R Y) {x : Int} {y : Int} : yi_E zi_Ms D 142 [.inr (.inr (some 10)), .inl x, .inl y] (I, L, R, Y) (fun r => ∃ z, r = (some (.inl z), (I, L, R, Y), 0, 0)) := by
  obtain ⟨d, rfl⟩ : ∃ d, D = d + 1 := ⟨D - 1, by omega⟩
  refine yi_E_of (M := zi_m142) rfl rfl ?_
  have hP : cl_P E I L R Y I L R Y := cl_P_r hC
  show yi_G zi_Ms d zi_m142 (0, [(0, .inr (.inr (some 10))), (1, .inl x), (2, .inl y)], [], (I, L, R, Y), 0, 0) _
  refine yi_G_run 1 (1, [(0, .inr (.inr (some 10))), (1, .inl x), (2, .inl y)], [.inr (.inr (some 10))], (I, L, R, Y), 0, 0) (fun _ => rfl) ?_
  obtain ⟨q1, e2, t3⟩ := cl_rf hP.1 (cl_10 hP.1) (k := 16) rfl
  refine cl_G_gr rfl (cl_T_K (cl_10 hP.1)) rfl rfl rfl e2 ?_
  refine yi_G_run 1 (5, [(0, .inr (.inr (some 10))), (1, .inl x), (2, .inl y)], [.inl x, .inr (.inr (some q1))], (I, L, R, Y), 0, 0) (fun _ => rfl) ?_
  refine yi_G_callv rfl rfl (cl_rcv t3 rfl) rfl (k_isPerson d (by omega) hP.1 t3 ) ?_
  rintro _ ⟨z4, rfl, hz4, x4a⟩
  show yi_G zi_Ms d zi_m142 (8, [(0, .inr (.inr (some 10))), (1, .inl x), (2, .inl y)], [.inl z4], (I, L, R, Y), 0, 0) _
  by_cases h5 : z4 = 0
  · refine yi_G_if1 true rfl (yi_eq_t h5) ?_
    refine yi_G_run 1 (23, [(0, .inr (.inr (some 10))), (1, .inl x), (2, .inl y)], [.inl (-1)], (I, L, R, Y), 0, 0) (fun _ => rfl) ?_
    exact yi_G_reti rfl rfl (⟨_, rfl⟩)
  · refine yi_G_if1 false rfl (yi_eq_f h5) ?_
    refine yi_G_run 1 (12, [(0, .inr (.inr (some 10))), (1, .inl x), (2, .inl y)], [.inr (.inr (some 10))], (I, L, R, Y), 0, 0) (fun _ => rfl) ?_
    refine cl_G_gr rfl (cl_T_K (cl_10 hP.1)) rfl rfl rfl e2 ?_
    refine yi_G_run 1 (16, [(0, .inr (.inr (some 10))), (1, .inl x), (2, .inl y)], [.inl y, .inr (.inr (some q1))], (I, L, R, Y), 0, 0) (fun _ => rfl) ?_
    refine yi_G_callv rfl rfl (cl_rcv t3 rfl) rfl (k_isDay d (by omega) hP.1 t3 ) ?_
    rintro _ ⟨z6, rfl, hz6, x6a⟩
    show yi_G zi_Ms d zi_m142 (19, [(0, .inr (.inr (some 10))), (1, .inl x), (2, .inl y)], [.inl z6], (I, L, R, Y), 0, 0) _
    by_cases h7 : z6 = 0
    · refine yi_G_if1 false rfl (yi_ne_f h7) ?_
      refine yi_G_run 1 (23, [(0, .inr (.inr (some 10))), (1, .inl x), (2, .inl y)], [.inl (-1)], (I, L, R, Y), 0, 0) (fun _ => rfl) ?_
      exact yi_G_reti rfl rfl (⟨_, rfl⟩)
    · refine yi_G_if1 true rfl (yi_ne_t h7) ?_
      refine yi_G_run 1 (25, [(0, .inr (.inr (some 10))), (1, .inl x), (2, .inl y)], [.inr (.inr (some 10))], (I, L, R, Y), 0, 0) (fun _ => rfl) ?_
      obtain ⟨q8, e9, t10⟩ := cl_rf hP.1 (cl_10 hP.1) (k := 6) rfl
      refine cl_G_gr rfl (cl_T_K (cl_10 hP.1)) rfl rfl rfl e9 ?_
      refine yi_G_run 2 (30, [(0, .inr (.inr (some 10))), (1, .inl x), (2, .inl y)], [.inl y, .inl x, .inr (.inr (some q8))], (I, L, R, Y), 0, 0) (fun _ => rfl) ?_
      refine yi_G_callv rfl rfl (cl_rcv t10 rfl) rfl (k_cameOf d (by omega) hP.1 t10 ) ?_
      rintro _ ⟨z11, rfl⟩
      show yi_G zi_Ms d zi_m142 (33, [(0, .inr (.inr (some 10))), (1, .inl x), (2, .inl y)], [.inl z11], (I, L, R, Y), 0, 0) _
      exact yi_G_reti rfl rfl (⟨_, rfl⟩)
theorem k_wordA (D : Nat) (hD : 5 ≤ D) {E : List Nat} {I L : cl_I} {R : cl_Rr} {Y : cl_Y} (hC : cl_C E I L R Y) {x : Int} {y : Int} {w : Int} : yi_E zi_Ms D 188 [.inr (.inr (some 10)), .inl x, .inl y, .inl w] (I, L, R, Y) (fun r => ∃ z, r = (some (.inl z), (I, L, R, Y), 0, 0)) := by
  obtain ⟨d, rfl⟩ : ∃ d, D = d + 1 := ⟨D - 1, by omega⟩
  refine yi_E_of (M := zi_m188) rfl rfl ?_
  have hP : cl_P E I L R Y I L R Y := cl_P_r hC
  show yi_G zi_Ms d zi_m188 (0, [(0, .inr (.inr (some 10))), (1, .inl x), (2, .inl y), (3, .inl w)], [], (I, L, R, Y), 0, 0) _
  refine yi_G_run 1 (1, [(0, .inr (.inr (some 10))), (1, .inl x), (2, .inl y), (3, .inl w)], [.inr (.inr (some 10))], (I, L, R, Y), 0, 0) (fun _ => rfl) ?_
  refine cl_G_gr rfl (cl_T_K (cl_10 hP.1)) rfl rfl rfl (hP.1.2.2.2.1.2.2.2.2.2.2.2.1) ?_
  refine yi_G_callv rfl rfl (cl_rcv (cl_58 hP.1) rfl) rfl (k_size d (by omega) hP.1 (cl_58 hP.1) ) ?_
  rintro _ ⟨z1, rfl⟩
  show yi_G zi_Ms d zi_m188 (7, [(0, .inr (.inr (some 10))), (1, .inl x), (2, .inl y), (3, .inl w)], [.inl z1], (I, L, R, Y), 0, 0) _
  refine yi_G_run 2 (10, [(4, .inl z1), (0, .inr (.inr (some 10))), (1, .inl x), (2, .inl y), (3, .inl w)], [.inr (.inr (some 10))], (I, L, R, Y), 0, 0) (fun _ => rfl) ?_
  obtain ⟨q2, e3, t4⟩ := cl_rf hP.1 (cl_10 hP.1) (k := 16) rfl
  refine cl_G_gr rfl (cl_T_K (cl_10 hP.1)) rfl rfl rfl e3 ?_
  refine yi_G_run 3 (16, [(4, .inl z1), (0, .inr (.inr (some 10))), (1, .inl x), (2, .inl y), (3, .inl w)], [.inl w, .inl y, .inl x, .inr (.inr (some q2))], (I, L, R, Y), 0, 0) (fun _ => rfl) ?_
  refine yi_G_callv rfl rfl (cl_rcv t4 rfl) rfl (k_isWord d (by omega) hP.1 t4 ) ?_
  rintro _ ⟨z5, rfl, hz5, x5a⟩
  show yi_G zi_Ms d zi_m188 (19, [(4, .inl z1), (0, .inr (.inr (some 10))), (1, .inl x), (2, .inl y), (3, .inl w)], [.inl z5], (I, L, R, Y), 0, 0) _
  by_cases h6 : z5 = 0
  · refine yi_G_if1 true rfl (yi_eq_t h6) ?_
    refine yi_G_run 1 (28, [(4, .inl z1), (0, .inr (.inr (some 10))), (1, .inl x), (2, .inl y), (3, .inl w)], [.inl (-1)], (I, L, R, Y), 0, 0) (fun _ => rfl) ?_
    exact yi_G_reti rfl rfl (⟨_, rfl⟩)
  · refine yi_G_if1 false rfl (yi_eq_f h6) ?_
    refine yi_G_run 1 (24, [(4, .inl z1), (0, .inr (.inr (some 10))), (1, .inl x), (2, .inl y), (3, .inl w)], [.inl z1], (I, L, R, Y), 0, 0) (fun _ => rfl) ?_
    by_cases h7 : z1 = 0
    · refine yi_G_if1 false rfl (yi_ne_f h7) ?_
      refine yi_G_run 1 (28, [(4, .inl z1), (0, .inr (.inr (some 10))), (1, .inl x), (2, .inl y), (3, .inl w)], [.inl (-1)], (I, L, R, Y), 0, 0) (fun _ => rfl) ?_
      exact yi_G_reti rfl rfl (⟨_, rfl⟩)
    · refine yi_G_if1 true rfl (yi_ne_t h7) ?_
      refine yi_G_run 1 (30, [(4, .inl z1), (0, .inr (.inr (some 10))), (1, .inl x), (2, .inl y), (3, .inl w)], [.inr (.inr (some 10))], (I, L, R, Y), 0, 0) (fun _ => rfl) ?_
      refine cl_G_gr rfl (cl_T_K (cl_10 hP.1)) rfl rfl rfl (hP.1.2.2.2.1.2.2.2.2.2.2.2.1) ?_
      refine yi_G_run 1 (34, [(4, .inl z1), (0, .inr (.inr (some 10))), (1, .inl x), (2, .inl y), (3, .inl w)], [.inr (.inr (some 10)), .inr (.inr (some 58))], (I, L, R, Y), 0, 0) (fun _ => rfl) ?_
      refine cl_G_gr rfl (cl_T_K (cl_10 hP.1)) rfl rfl rfl (hP.1.2.2.2.1.2.2.2.2.2.2.1) ?_
      refine yi_G_run 3 (40, [(4, .inl z1), (0, .inr (.inr (some 10))), (1, .inl x), (2, .inl y), (3, .inl w)], [.inl w, .inl y, .inl x, .inr (.inr (some 34)), .inr (.inr (some 58))], (I, L, R, Y), 0, 0) (fun _ => rfl) ?_
      refine yi_G_calls rfl rfl (k_wordNumber d (by omega) hP.1  ) ?_
      rintro _ ⟨z8, rfl⟩
      show yi_G zi_Ms d zi_m188 (43, [(4, .inl z1), (0, .inr (.inr (some 10))), (1, .inl x), (2, .inl y), (3, .inl w)], [.inl z8, .inr (.inr (some 34)), .inr (.inr (some 58))], (I, L, R, Y), 0, 0) _
      refine yi_G_callv rfl rfl (cl_rcv (cl_34 hP.1) rfl) rfl (k_wordRow d (by omega) hP.1 (cl_34 hP.1) ) ?_
      rintro _ ⟨q9, rfl, t9⟩
      show yi_G zi_Ms d zi_m188 (46, [(4, .inl z1), (0, .inr (.inr (some 10))), (1, .inl x), (2, .inl y), (3, .inl w)], [.inr (.inr (some q9)), .inr (.inr (some 58))], (I, L, R, Y), 0, 0) _
      refine yi_G_callv rfl rfl (cl_rcv (cl_58 hP.1) rfl) rfl (k_sizeWith d (by omega) hP.1 (cl_58 hP.1) t9 ) ?_
      rintro _ ⟨z10, rfl⟩
      show yi_G zi_Ms d zi_m188 (49, [(4, .inl z1), (0, .inr (.inr (some 10))), (1, .inl x), (2, .inl y), (3, .inl w)], [.inl z10], (I, L, R, Y), 0, 0) _
      refine yi_G_run 1 (51, [(4, .inl z1), (0, .inr (.inr (some 10))), (1, .inl x), (2, .inl y), (3, .inl w)], [.inl z1, .inl z10], (I, L, R, Y), 0, 0) (fun _ => rfl) ?_
      refine yi_G_calls rfl rfl (k_standing d (by omega) hP.1  ) ?_
      rintro _ ⟨z11, rfl⟩
      show yi_G zi_Ms d zi_m188 (54, [(4, .inl z1), (0, .inr (.inr (some 10))), (1, .inl x), (2, .inl y), (3, .inl w)], [.inl z11], (I, L, R, Y), 0, 0) _
      exact yi_G_reti rfl rfl (⟨_, rfl⟩)
theorem k_holdsA (D : Nat) (hD : 5 ≤ D) {E : List Nat} {I L : cl_I} {R : cl_Rr} {Y : cl_Y} (hC : cl_C E I L R Y) {x : Int} {y : Int} {w : Int} : yi_E zi_Ms D 159 [.inr (.inr (some 10)), .inl x, .inl y, .inl w] (I, L, R, Y) (fun r => ∃ z, r = (some (.inl z), (I, L, R, Y), 0, 0)) := by
  obtain ⟨d, rfl⟩ : ∃ d, D = d + 1 := ⟨D - 1, by omega⟩
  refine yi_E_of (M := zi_m159) rfl rfl ?_
  have hP : cl_P E I L R Y I L R Y := cl_P_r hC
  show yi_G zi_Ms d zi_m159 (0, [(0, .inr (.inr (some 10))), (1, .inl x), (2, .inl y), (3, .inl w)], [], (I, L, R, Y), 0, 0) _
  refine yi_G_run 1 (1, [(0, .inr (.inr (some 10))), (1, .inl x), (2, .inl y), (3, .inl w)], [.inr (.inr (some 10))], (I, L, R, Y), 0, 0) (fun _ => rfl) ?_
  obtain ⟨q1, e2, t3⟩ := cl_rf hP.1 (cl_10 hP.1) (k := 16) rfl
  refine cl_G_gr rfl (cl_T_K (cl_10 hP.1)) rfl rfl rfl e2 ?_
  refine yi_G_run 3 (7, [(0, .inr (.inr (some 10))), (1, .inl x), (2, .inl y), (3, .inl w)], [.inl w, .inl y, .inl x, .inr (.inr (some q1))], (I, L, R, Y), 0, 0) (fun _ => rfl) ?_
  refine yi_G_callv rfl rfl (cl_rcv t3 rfl) rfl (k_isWord d (by omega) hP.1 t3 ) ?_
  rintro _ ⟨z4, rfl, hz4, x4a⟩
  show yi_G zi_Ms d zi_m159 (10, [(0, .inr (.inr (some 10))), (1, .inl x), (2, .inl y), (3, .inl w)], [.inl z4], (I, L, R, Y), 0, 0) _
  by_cases h5 : z4 = 0
  · refine yi_G_if1 false rfl (yi_ne_f h5) ?_
    refine yi_G_run 1 (14, [(0, .inr (.inr (some 10))), (1, .inl x), (2, .inl y), (3, .inl w)], [.inl (-1)], (I, L, R, Y), 0, 0) (fun _ => rfl) ?_
    exact yi_G_reti rfl rfl (⟨_, rfl⟩)
  · refine yi_G_if1 true rfl (yi_ne_t h5) ?_
    refine yi_G_run 1 (16, [(0, .inr (.inr (some 10))), (1, .inl x), (2, .inl y), (3, .inl w)], [.inr (.inr (some 10))], (I, L, R, Y), 0, 0) (fun _ => rfl) ?_
    refine cl_G_gr rfl (cl_T_K (cl_10 hP.1)) rfl rfl rfl (hP.1.2.2.2.1.2.2.2.2.2.2.2.1) ?_
    refine yi_G_run 1 (20, [(0, .inr (.inr (some 10))), (1, .inl x), (2, .inl y), (3, .inl w)], [.inr (.inr (some 10)), .inr (.inr (some 58))], (I, L, R, Y), 0, 0) (fun _ => rfl) ?_
    refine cl_G_gr rfl (cl_T_K (cl_10 hP.1)) rfl rfl rfl (hP.1.2.2.2.1.2.2.2.2.2.2.1) ?_
    refine yi_G_run 3 (26, [(0, .inr (.inr (some 10))), (1, .inl x), (2, .inl y), (3, .inl w)], [.inl w, .inl y, .inl x, .inr (.inr (some 34)), .inr (.inr (some 58))], (I, L, R, Y), 0, 0) (fun _ => rfl) ?_
    refine yi_G_calls rfl rfl (k_wordNumber d (by omega) hP.1  ) ?_
    rintro _ ⟨z6, rfl⟩
    show yi_G zi_Ms d zi_m159 (29, [(0, .inr (.inr (some 10))), (1, .inl x), (2, .inl y), (3, .inl w)], [.inl z6, .inr (.inr (some 34)), .inr (.inr (some 58))], (I, L, R, Y), 0, 0) _
    refine yi_G_callv rfl rfl (cl_rcv (cl_34 hP.1) rfl) rfl (k_wordRow d (by omega) hP.1 (cl_34 hP.1) ) ?_
    rintro _ ⟨q7, rfl, t7⟩
    show yi_G zi_Ms d zi_m159 (32, [(0, .inr (.inr (some 10))), (1, .inl x), (2, .inl y), (3, .inl w)], [.inr (.inr (some q7)), .inr (.inr (some 58))], (I, L, R, Y), 0, 0) _
    refine yi_G_callv rfl rfl (cl_rcv (cl_58 hP.1) rfl) rfl (k_sizeWith d (by omega) hP.1 (cl_58 hP.1) t7 ) ?_
    rintro _ ⟨z8, rfl⟩
    show yi_G zi_Ms d zi_m159 (35, [(0, .inr (.inr (some 10))), (1, .inl x), (2, .inl y), (3, .inl w)], [.inl z8], (I, L, R, Y), 0, 0) _
    exact yi_G_reti rfl rfl (⟨_, rfl⟩)
theorem k_strikeA (D : Nat) (hD : 6 ≤ D) {E : List Nat} {I L : cl_I} {R : cl_Rr} {Y : cl_Y} (hC : cl_C E I L R Y) {x : Int} : yi_E zi_Ms D 177 [.inr (.inr (some 10)), .inl x] (I, L, R, Y) (fun r => ∃ z, ∃ I', ∃ L', ∃ R', ∃ Y', ∃ nc ns, r = (some (.inl z), (I', L', R', Y'), nc, ns) ∧ cl_P E I L R Y I' L' R' Y' ∧ nc ≤ 8 ∧ ns ≤ 700 ∧ (z = 0 ∨ z = 1)) := by
  obtain ⟨d, rfl⟩ : ∃ d, D = d + 1 := ⟨D - 1, by omega⟩
  refine yi_E_of (M := zi_m177) rfl rfl ?_
  have hP : cl_P E I L R Y I L R Y := cl_P_r hC
  show yi_G zi_Ms d zi_m177 (0, [(0, .inr (.inr (some 10))), (1, .inl x)], [], (I, L, R, Y), 0, 0) _
  refine yi_G_run 1 (1, [(0, .inr (.inr (some 10))), (1, .inl x)], [.inr (.inr (some 10))], (I, L, R, Y), 0, 0) (fun _ => rfl) ?_
  obtain ⟨q1, e2, t3⟩ := cl_rf hP.1 (cl_10 hP.1) (k := 6) rfl
  refine cl_G_gr rfl (cl_T_K (cl_10 hP.1)) rfl rfl rfl e2 ?_
  refine yi_G_run 1 (5, [(0, .inr (.inr (some 10))), (1, .inl x)], [.inl x, .inr (.inr (some q1))], (I, L, R, Y), 0, 0) (fun _ => rfl) ?_
  refine yi_G_callv rfl rfl (cl_rcv t3 rfl) rfl (k_sayingAt d (by omega) hP.1 t3 ) ?_
  rintro _ (⟨q4, rfl, t4⟩ | rfl)
  · show yi_G zi_Ms d zi_m177 (8, [(0, .inr (.inr (some 10))), (1, .inl x)], [.inr (.inr (some q4))], (I, L, R, Y), 0, 0) _
    refine yi_G_run 2 (10, [(2, .inr (.inr (some q4))), (0, .inr (.inr (some 10))), (1, .inl x)], [.inr (.inr (some q4))], (I, L, R, Y), 0, 0) (fun _ => rfl) ?_
    refine cl_G_nul false rfl rfl ?_
    refine yi_G_run 1 (14, [(2, .inr (.inr (some q4))), (0, .inr (.inr (some 10))), (1, .inl x)], [.inr (.inr (some 10))], (I, L, R, Y), 0, 0) (fun _ => rfl) ?_
    obtain ⟨q5, e6, t7⟩ := cl_rf hP.1 (cl_10 hP.1) (k := 16) rfl
    refine cl_G_gr rfl (cl_T_K (cl_10 hP.1)) rfl rfl rfl e6 ?_
    refine yi_G_run 1 (18, [(2, .inr (.inr (some q4))), (0, .inr (.inr (some 10))), (1, .inl x)], [.inr (.inr (some q4)), .inr (.inr (some q5))], (I, L, R, Y), 0, 0) (fun _ => rfl) ?_
    refine cl_G_gi rfl (cl_T_K t4) rfl rfl rfl ?_
    refine yi_G_callv rfl rfl (cl_rcv t7 rfl) rfl (k_kindOf d (by omega) hP.1 t7 ) ?_
    rintro _ ⟨z8, rfl⟩
    show yi_G zi_Ms d zi_m177 (24, [(2, .inr (.inr (some q4))), (0, .inr (.inr (some 10))), (1, .inl x)], [.inl z8], (I, L, R, Y), 0, 0) _
    refine yi_G_run 1 (25, [(2, .inr (.inr (some q4))), (0, .inr (.inr (some 10))), (1, .inl x)], [.inl 3, .inl z8], (I, L, R, Y), 0, 0) (fun _ => rfl) ?_
    by_cases h9 : z8 = 3
    · refine yi_G_if2 false rfl (yi_ne_f h9) ?_
      refine yi_G_run 1 (29, [(2, .inr (.inr (some q4))), (0, .inr (.inr (some 10))), (1, .inl x)], [.inl 0], (I, L, R, Y), 0, 0) (fun _ => rfl) ?_
      exact yi_G_retb rfl rfl (by decide) (⟨_, _, _, _, _, _, _, rfl, hP, by omega, by omega, by decide⟩)
    · refine yi_G_if2 true rfl (yi_ne_t h9) ?_
      refine yi_G_run 1 (31, [(2, .inr (.inr (some q4))), (0, .inr (.inr (some 10))), (1, .inl x)], [.inr (.inr (some 10))], (I, L, R, Y), 0, 0) (fun _ => rfl) ?_
      refine yi_G_callv rfl rfl (cl_rcv (cl_10 hP.1) rfl) rfl (k_rememberA d (by omega) hP.1  ) ?_
      rintro _ ⟨I10, L10, R10, Y10, nc10, ns10, rfl, hQ10, ca10, cb10⟩
      have hP10 := cl_P_t hP hQ10
      have t11 := cl_T_x t3 hQ10.2.1
      have t12 := cl_T_x t4 hQ10.2.1
      have t13 := cl_T_x t7 hQ10.2.1
      show yi_G zi_Ms d zi_m177 (34, [(2, .inr (.inr (some q4))), (0, .inr (.inr (some 10))), (1, .inl x)], [], (I10, L10, R10, Y10), 0 + nc10, 0 + ns10) _
      refine yi_G_run 1 (35, [(2, .inr (.inr (some q4))), (0, .inr (.inr (some 10))), (1, .inl x)], [.inr (.inr (some 10))], (I10, L10, R10, Y10), 0 + nc10, 0 + ns10) (fun _ => rfl) ?_
      obtain ⟨q14, e15, t16⟩ := cl_rf hP10.1 (cl_10 hP10.1) (k := 6) rfl
      refine cl_G_gr rfl (cl_T_K (cl_10 hP10.1)) rfl rfl rfl e15 ?_
      refine yi_G_run 1 (39, [(2, .inr (.inr (some q4))), (0, .inr (.inr (some 10))), (1, .inl x)], [.inl x, .inr (.inr (some q14))], (I10, L10, R10, Y10), 0 + nc10, 0 + ns10) (fun _ => rfl) ?_
      refine yi_G_callv rfl rfl (cl_rcv t16 rfl) rfl (k_removeSaying d (by omega) hP10.1 t16 ) ?_
      rintro _ ⟨I17, R17, rfl, hQ17⟩
      have hP17 := cl_P_t hP10 hQ17
      show yi_G zi_Ms d zi_m177 (42, [(2, .inr (.inr (some q4))), (0, .inr (.inr (some 10))), (1, .inl x)], [], (I17, L10, R17, Y10), 0 + nc10, 0 + ns10) _
      refine yi_G_run 1 (43, [(2, .inr (.inr (some q4))), (0, .inr (.inr (some 10))), (1, .inl x)], [.inr (.inr (some 10))], (I17, L10, R17, Y10), 0 + nc10, 0 + ns10) (fun _ => rfl) ?_
      refine yi_G_callv rfl rfl (cl_rcv (cl_10 hP17.1) rfl) rfl (k_refreshLeftA d (by omega) hP17.1  ) ?_
      rintro _ ⟨I18, L18, R18, Y18, nc18, ns18, rfl, hQ18, ca18, cb18⟩
      have hP18 := cl_P_t hP17 hQ18
      have t19 := cl_T_x t11 hQ18.2.1
      have t20 := cl_T_x t12 hQ18.2.1
      have t21 := cl_T_x t13 hQ18.2.1
      have t22 := cl_T_x t16 hQ18.2.1
      show yi_G zi_Ms d zi_m177 (46, [(2, .inr (.inr (some q4))), (0, .inr (.inr (some 10))), (1, .inl x)], [], (I18, L18, R18, Y18), 0 + nc10 + nc18, 0 + ns10 + ns18) _
      refine yi_G_run 1 (47, [(2, .inr (.inr (some q4))), (0, .inr (.inr (some 10))), (1, .inl x)], [.inl 1], (I18, L18, R18, Y18), 0 + nc10 + nc18, 0 + ns10 + ns18) (fun _ => rfl) ?_
      exact yi_G_retb rfl rfl (by decide) (⟨_, _, _, _, _, _, _, rfl, hP18, by omega, by omega, by decide⟩)
  · show yi_G zi_Ms d zi_m177 (8, [(0, .inr (.inr (some 10))), (1, .inl x)], [.inr (.inr none)], (I, L, R, Y), 0, 0) _
    refine yi_G_run 2 (10, [(2, .inr (.inr none)), (0, .inr (.inr (some 10))), (1, .inl x)], [.inr (.inr none)], (I, L, R, Y), 0, 0) (fun _ => rfl) ?_
    refine cl_G_nul true rfl rfl ?_
    refine yi_G_run 1 (29, [(2, .inr (.inr none)), (0, .inr (.inr (some 10))), (1, .inl x)], [.inl 0], (I, L, R, Y), 0, 0) (fun _ => rfl) ?_
    exact yi_G_retb rfl rfl (by decide) (⟨_, _, _, _, _, _, _, rfl, hP, by omega, by omega, by decide⟩)
theorem k_comeA (D : Nat) (hD : 6 ≤ D) {E : List Nat} {I L : cl_I} {R : cl_Rr} {Y : cl_Y} (hC : cl_C E I L R Y) {x : Int} {y : Int} : yi_E zi_Ms D 145 [.inr (.inr (some 10)), .inl x, .inl y] (I, L, R, Y) (fun r => ∃ z, ∃ I', ∃ L', ∃ R', ∃ Y', ∃ nc ns, r = (some (.inl z), (I', L', R', Y'), nc, ns) ∧ cl_P E I L R Y I' L' R' Y' ∧ nc ≤ 8 ∧ ns ≤ 700 ∧ (z = 0 ∨ z = 1)) := by
  obtain ⟨d, rfl⟩ : ∃ d, D = d + 1 := ⟨D - 1, by omega⟩
  refine yi_E_of (M := zi_m145) rfl rfl ?_
  have hP : cl_P E I L R Y I L R Y := cl_P_r hC
  show yi_G zi_Ms d zi_m145 (0, [(0, .inr (.inr (some 10))), (1, .inl x), (2, .inl y)], [], (I, L, R, Y), 0, 0) _
  refine yi_G_run 1 (1, [(0, .inr (.inr (some 10))), (1, .inl x), (2, .inl y)], [.inr (.inr (some 10))], (I, L, R, Y), 0, 0) (fun _ => rfl) ?_
  obtain ⟨q1, e2, t3⟩ := cl_rf hP.1 (cl_10 hP.1) (k := 6) rfl
  refine cl_G_gr rfl (cl_T_K (cl_10 hP.1)) rfl rfl rfl e2 ?_
  refine cl_G_gi rfl (cl_T_K t3) rfl rfl rfl ?_
  refine yi_G_run 2 (9, [(3, .inl (I q1 7)), (0, .inr (.inr (some 10))), (1, .inl x), (2, .inl y)], [.inr (.inr (some 10))], (I, L, R, Y), 0, 0) (fun _ => rfl) ?_
  obtain ⟨q4, e5, t6⟩ := cl_rf hP.1 (cl_10 hP.1) (k := 16) rfl
  refine cl_G_gr rfl (cl_T_K (cl_10 hP.1)) rfl rfl rfl e5 ?_
  refine yi_G_run 3 (15, [(3, .inl (I q1 7)), (0, .inr (.inr (some 10))), (1, .inl x), (2, .inl y)], [.inl y, .inl (I q1 7), .inl x, .inr (.inr (some q4))], (I, L, R, Y), 0, 0) (fun _ => rfl) ?_
  refine yi_G_callv rfl rfl (cl_rcv t6 rfl) rfl (k_isWord d (by omega) hP.1 t6 ) ?_
  rintro _ ⟨z7, rfl, hz7, x7a⟩
  show yi_G zi_Ms d zi_m145 (18, [(3, .inl (I q1 7)), (0, .inr (.inr (some 10))), (1, .inl x), (2, .inl y)], [.inl z7], (I, L, R, Y), 0, 0) _
  by_cases h8 : z7 = 0
  · refine yi_G_if1 true rfl (yi_eq_t h8) ?_
    refine yi_G_run 1 (35, [(3, .inl (I q1 7)), (0, .inr (.inr (some 10))), (1, .inl x), (2, .inl y)], [.inl 0], (I, L, R, Y), 0, 0) (fun _ => rfl) ?_
    exact yi_G_retb rfl rfl (by decide) (⟨_, _, _, _, _, _, _, rfl, hP, by omega, by omega, by decide⟩)
  · refine yi_G_if1 false rfl (yi_eq_f h8) ?_
    refine yi_G_run 1 (22, [(3, .inl (I q1 7)), (0, .inr (.inr (some 10))), (1, .inl x), (2, .inl y)], [.inr (.inr (some 10))], (I, L, R, Y), 0, 0) (fun _ => rfl) ?_
    refine cl_G_gr rfl (cl_T_K (cl_10 hP.1)) rfl rfl rfl e2 ?_
    refine yi_G_run 2 (27, [(3, .inl (I q1 7)), (0, .inr (.inr (some 10))), (1, .inl x), (2, .inl y)], [.inl (I q1 7), .inl x, .inr (.inr (some q1))], (I, L, R, Y), 0, 0) (fun _ => rfl) ?_
    refine yi_G_callv rfl rfl (cl_rcv t3 rfl) rfl (k_cameOf d (by omega) hP.1 t3 ) ?_
    rintro _ ⟨z9, rfl⟩
    show yi_G zi_Ms d zi_m145 (30, [(3, .inl (I q1 7)), (0, .inr (.inr (some 10))), (1, .inl x), (2, .inl y)], [.inl z9], (I, L, R, Y), 0, 0) _
    refine yi_G_run 1 (31, [(3, .inl (I q1 7)), (0, .inr (.inr (some 10))), (1, .inl x), (2, .inl y)], [.inl (-1), .inl z9], (I, L, R, Y), 0, 0) (fun _ => rfl) ?_
    by_cases h10 : z9 = (-1)
    · refine yi_G_if2 true rfl (yi_eq_t h10) ?_
      refine yi_G_run 1 (37, [(3, .inl (I q1 7)), (0, .inr (.inr (some 10))), (1, .inl x), (2, .inl y)], [.inr (.inr (some 10))], (I, L, R, Y), 0, 0) (fun _ => rfl) ?_
      refine cl_G_gr rfl (cl_T_K (cl_10 hP.1)) rfl rfl rfl (hP.1.2.2.2.1.2.2.2.2.2.2.1) ?_
      refine yi_G_run 3 (43, [(3, .inl (I q1 7)), (0, .inr (.inr (some 10))), (1, .inl x), (2, .inl y)], [.inl y, .inl (I q1 7), .inl x, .inr (.inr (some 34))], (I, L, R, Y), 0, 0) (fun _ => rfl) ?_
      refine yi_G_calls rfl rfl (k_wordNumber d (by omega) hP.1  ) ?_
      rintro _ ⟨z11, rfl⟩
      show yi_G zi_Ms d zi_m145 (46, [(3, .inl (I q1 7)), (0, .inr (.inr (some 10))), (1, .inl x), (2, .inl y)], [.inl z11, .inr (.inr (some 34))], (I, L, R, Y), 0, 0) _
      refine yi_G_callv rfl rfl (cl_rcv (cl_34 hP.1) rfl) rfl (k_wordRow d (by omega) hP.1 (cl_34 hP.1) ) ?_
      rintro _ ⟨q12, rfl, t12⟩
      show yi_G zi_Ms d zi_m145 (49, [(3, .inl (I q1 7)), (0, .inr (.inr (some 10))), (1, .inl x), (2, .inl y)], [.inr (.inr (some q12))], (I, L, R, Y), 0, 0) _
      refine yi_G_run 2 (52, [(4, .inr (.inr (some q12))), (3, .inl (I q1 7)), (0, .inr (.inr (some 10))), (1, .inl x), (2, .inl y)], [.inr (.inr (some 10))], (I, L, R, Y), 0, 0) (fun _ => rfl) ?_
      refine cl_G_gr rfl (cl_T_K (cl_10 hP.1)) rfl rfl rfl (hP.1.2.2.2.1.2.2.2.2.2.2.2.1) ?_
      refine yi_G_run 1 (57, [(4, .inr (.inr (some q12))), (3, .inl (I q1 7)), (0, .inr (.inr (some 10))), (1, .inl x), (2, .inl y)], [.inr (.inr (some q12)), .inr (.inr (some 58))], (I, L, R, Y), 0, 0) (fun _ => rfl) ?_
      refine yi_G_callv rfl rfl (cl_rcv (cl_58 hP.1) rfl) rfl (k_meets d (by omega) hP.1 (cl_58 hP.1) t12 ) ?_
      rintro _ ⟨z13, rfl, hz13⟩
      show yi_G zi_Ms d zi_m145 (60, [(4, .inr (.inr (some q12))), (3, .inl (I q1 7)), (0, .inr (.inr (some 10))), (1, .inl x), (2, .inl y)], [.inl z13], (I, L, R, Y), 0, 0) _
      by_cases h14 : z13 = 0
      · refine yi_G_if1 false rfl (yi_ne_f h14) ?_
        refine yi_G_run 1 (64, [(4, .inr (.inr (some q12))), (3, .inl (I q1 7)), (0, .inr (.inr (some 10))), (1, .inl x), (2, .inl y)], [.inl 0], (I, L, R, Y), 0, 0) (fun _ => rfl) ?_
        exact yi_G_retb rfl rfl (by decide) (⟨_, _, _, _, _, _, _, rfl, hP, by omega, by omega, by decide⟩)
      · refine yi_G_if1 true rfl (yi_ne_t h14) ?_
        refine yi_G_run 1 (66, [(4, .inr (.inr (some q12))), (3, .inl (I q1 7)), (0, .inr (.inr (some 10))), (1, .inl x), (2, .inl y)], [.inr (.inr (some 10))], (I, L, R, Y), 0, 0) (fun _ => rfl) ?_
        refine yi_G_callv rfl rfl (cl_rcv (cl_10 hP.1) rfl) rfl (k_rememberA d (by omega) hP.1  ) ?_
        rintro _ ⟨I15, L15, R15, Y15, nc15, ns15, rfl, hQ15, ca15, cb15⟩
        have hP15 := cl_P_t hP hQ15
        have t16 := cl_T_x t3 hQ15.2.1
        have t17 := cl_T_x t6 hQ15.2.1
        have t18 := cl_T_x t12 hQ15.2.1
        show yi_G zi_Ms d zi_m145 (69, [(4, .inr (.inr (some q12))), (3, .inl (I q1 7)), (0, .inr (.inr (some 10))), (1, .inl x), (2, .inl y)], [], (I15, L15, R15, Y15), 0 + nc15, 0 + ns15) _
        refine yi_G_run 1 (70, [(4, .inr (.inr (some q12))), (3, .inl (I q1 7)), (0, .inr (.inr (some 10))), (1, .inl x), (2, .inl y)], [.inr (.inr (some 10))], (I15, L15, R15, Y15), 0 + nc15, 0 + ns15) (fun _ => rfl) ?_
        obtain ⟨q19, e20, t21⟩ := cl_rf hP15.1 (cl_10 hP15.1) (k := 6) rfl
        refine cl_G_gr rfl (cl_T_K (cl_10 hP15.1)) rfl rfl rfl e20 ?_
        refine yi_G_run 3 (76, [(4, .inr (.inr (some q12))), (3, .inl (I q1 7)), (0, .inr (.inr (some 10))), (1, .inl x), (2, .inl y)], [.inr (.inr (some 10)), .inl y, .inl x, .inr (.inr (some q19))], (I15, L15, R15, Y15), 0 + nc15, 0 + ns15) (fun _ => rfl) ?_
        obtain ⟨q22, e23, t24⟩ := cl_rf hP15.1 (cl_10 hP15.1) (k := 16) rfl
        refine cl_G_gr rfl (cl_T_K (cl_10 hP15.1)) rfl rfl rfl e23 ?_
        have b25 := cl_rd hP15.1 t24 (k := 15) (lo := 0) (hi := 4) rfl
        refine cl_G_gi rfl (cl_T_K t24) rfl rfl rfl ?_
        refine yi_G_callv rfl rfl (cl_rcv t21 rfl) rfl (k_setCame d (by omega) hP15.1 t21 (by omega)) ?_
        rintro _ ⟨I26, rfl, hQ26⟩
        have hP26 := cl_P_t hP15 hQ26
        show yi_G zi_Ms d zi_m145 (85, [(4, .inr (.inr (some q12))), (3, .inl (I q1 7)), (0, .inr (.inr (some 10))), (1, .inl x), (2, .inl y)], [], (I26, L15, R15, Y15), 0 + nc15, 0 + ns15) _
        refine yi_G_run 1 (86, [(4, .inr (.inr (some q12))), (3, .inl (I q1 7)), (0, .inr (.inr (some 10))), (1, .inl x), (2, .inl y)], [.inr (.inr (some 10))], (I26, L15, R15, Y15), 0 + nc15, 0 + ns15) (fun _ => rfl) ?_
        refine cl_G_gr rfl (cl_T_K (cl_10 hP26.1)) rfl rfl rfl (hP26.1.2.2.2.1.2.2.2.2.2.2.2.1) ?_
        refine yi_G_run 1 (91, [(4, .inr (.inr (some q12))), (3, .inl (I q1 7)), (0, .inr (.inr (some 10))), (1, .inl x), (2, .inl y)], [.inr (.inr (some q12)), .inr (.inr (some 58))], (I26, L15, R15, Y15), 0 + nc15, 0 + ns15) (fun _ => rfl) ?_
        refine yi_G_callv rfl rfl (cl_rcv (cl_58 hP26.1) rfl) rfl (k_keep d (by omega) hP26.1 (cl_58 hP26.1) t18 ) ?_
        rintro _ ⟨L27, rfl, hQ27⟩
        have hP27 := cl_P_t hP26 hQ27
        show yi_G zi_Ms d zi_m145 (94, [(4, .inr (.inr (some q12))), (3, .inl (I q1 7)), (0, .inr (.inr (some 10))), (1, .inl x), (2, .inl y)], [], (I26, L27, R15, Y15), 0 + nc15, 0 + ns15) _
        refine yi_G_run 1 (95, [(4, .inr (.inr (some q12))), (3, .inl (I q1 7)), (0, .inr (.inr (some 10))), (1, .inl x), (2, .inl y)], [.inl 1], (I26, L27, R15, Y15), 0 + nc15, 0 + ns15) (fun _ => rfl) ?_
        exact yi_G_retb rfl rfl (by decide) (⟨_, _, _, _, _, _, _, rfl, hP27, by omega, by omega, by decide⟩)
    · refine yi_G_if2 false rfl (yi_eq_f h10) ?_
      refine yi_G_run 1 (35, [(3, .inl (I q1 7)), (0, .inr (.inr (some 10))), (1, .inl x), (2, .inl y)], [.inl 0], (I, L, R, Y), 0, 0) (fun _ => rfl) ?_
      exact yi_G_retb rfl rfl (by decide) (⟨_, _, _, _, _, _, _, rfl, hP, by omega, by omega, by decide⟩)
theorem k_promiseA (D : Nat) (hD : 6 ≤ D) {E : List Nat} {I L : cl_I} {R : cl_Rr} {Y : cl_Y} (hC : cl_C E I L R Y) {x : Int} {y : Int} : yi_E zi_Ms D 166 [.inr (.inr (some 10)), .inl x, .inl y] (I, L, R, Y) (fun r => ∃ z, ∃ I', ∃ L', ∃ R', ∃ Y', ∃ nc ns, r = (some (.inl z), (I', L', R', Y'), nc, ns) ∧ cl_P E I L R Y I' L' R' Y' ∧ nc ≤ 8 ∧ ns ≤ 700) := by
  obtain ⟨d, rfl⟩ : ∃ d, D = d + 1 := ⟨D - 1, by omega⟩
  refine yi_E_of (M := zi_m166) rfl rfl ?_
  have hP : cl_P E I L R Y I L R Y := cl_P_r hC
  show yi_G zi_Ms d zi_m166 (0, [(0, .inr (.inr (some 10))), (1, .inl x), (2, .inl y)], [], (I, L, R, Y), 0, 0) _
  refine yi_G_run 1 (1, [(0, .inr (.inr (some 10))), (1, .inl x), (2, .inl y)], [.inr (.inr (some 10))], (I, L, R, Y), 0, 0) (fun _ => rfl) ?_
  obtain ⟨q1, e2, t3⟩ := cl_rf hP.1 (cl_10 hP.1) (k := 16) rfl
  refine cl_G_gr rfl (cl_T_K (cl_10 hP.1)) rfl rfl rfl e2 ?_
  refine yi_G_run 1 (5, [(0, .inr (.inr (some 10))), (1, .inl x), (2, .inl y)], [.inl x, .inr (.inr (some q1))], (I, L, R, Y), 0, 0) (fun _ => rfl) ?_
  refine yi_G_callv rfl rfl (cl_rcv t3 rfl) rfl (k_isPerson d (by omega) hP.1 t3 ) ?_
  rintro _ ⟨z4, rfl, hz4, x4a⟩
  show yi_G zi_Ms d zi_m166 (8, [(0, .inr (.inr (some 10))), (1, .inl x), (2, .inl y)], [.inl z4], (I, L, R, Y), 0, 0) _
  by_cases h5 : z4 = 0
  · refine yi_G_if1 true rfl (yi_eq_t h5) ?_
    refine yi_G_run 1 (34, [(0, .inr (.inr (some 10))), (1, .inl x), (2, .inl y)], [.inl (-1)], (I, L, R, Y), 0, 0) (fun _ => rfl) ?_
    exact yi_G_reti rfl rfl (⟨_, _, _, _, _, _, _, rfl, hP, by omega, by omega⟩)
  · refine yi_G_if1 false rfl (yi_eq_f h5) ?_
    refine yi_G_run 1 (12, [(0, .inr (.inr (some 10))), (1, .inl x), (2, .inl y)], [.inl y], (I, L, R, Y), 0, 0) (fun _ => rfl) ?_
    by_cases h6 : y < 0
    · refine yi_G_if1 true rfl (yi_lt_t h6) ?_
      refine yi_G_run 1 (34, [(0, .inr (.inr (some 10))), (1, .inl x), (2, .inl y)], [.inl (-1)], (I, L, R, Y), 0, 0) (fun _ => rfl) ?_
      exact yi_G_reti rfl rfl (⟨_, _, _, _, _, _, _, rfl, hP, by omega, by omega⟩)
    · refine yi_G_if1 false rfl (yi_lt_f h6) ?_
      refine yi_G_run 2 (18, [(0, .inr (.inr (some 10))), (1, .inl x), (2, .inl y)], [.inl 99, .inl y], (I, L, R, Y), 0, 0) (fun _ => rfl) ?_
      by_cases h7 : 99 < y
      · refine yi_G_if2 true rfl (yi_gt_t h7) ?_
        refine yi_G_run 1 (34, [(0, .inr (.inr (some 10))), (1, .inl x), (2, .inl y)], [.inl (-1)], (I, L, R, Y), 0, 0) (fun _ => rfl) ?_
        exact yi_G_reti rfl rfl (⟨_, _, _, _, _, _, _, rfl, hP, by omega, by omega⟩)
      · refine yi_G_if2 false rfl (yi_gt_f h7) ?_
        refine yi_G_run 1 (22, [(0, .inr (.inr (some 10))), (1, .inl x), (2, .inl y)], [.inr (.inr (some 10))], (I, L, R, Y), 0, 0) (fun _ => rfl) ?_
        obtain ⟨q8, e9, t10⟩ := cl_rf hP.1 (cl_10 hP.1) (k := 6) rfl
        refine cl_G_gr rfl (cl_T_K (cl_10 hP.1)) rfl rfl rfl e9 ?_
        have b11 := cl_rd hP.1 t10 (k := 8) (lo := 0) (hi := 20) rfl
        refine cl_G_gi rfl (cl_T_K t10) rfl rfl rfl ?_
        refine yi_G_run 1 (30, [(0, .inr (.inr (some 10))), (1, .inl x), (2, .inl y)], [.inl 20, .inl (I q8 8)], (I, L, R, Y), 0, 0) (fun _ => rfl) ?_
        by_cases h12 : (I q8 8) < 20
        · refine yi_G_if2 true rfl (yi_lt_t h12) ?_
          refine yi_G_run 1 (36, [(0, .inr (.inr (some 10))), (1, .inl x), (2, .inl y)], [.inr (.inr (some 10))], (I, L, R, Y), 0, 0) (fun _ => rfl) ?_
          refine yi_G_callv rfl rfl (cl_rcv (cl_10 hP.1) rfl) rfl (k_rememberA d (by omega) hP.1  ) ?_
          rintro _ ⟨I13, L13, R13, Y13, nc13, ns13, rfl, hQ13, ca13, cb13⟩
          have hP13 := cl_P_t hP hQ13
          have t14 := cl_T_x t3 hQ13.2.1
          have t15 := cl_T_x t10 hQ13.2.1
          show yi_G zi_Ms d zi_m166 (39, [(0, .inr (.inr (some 10))), (1, .inl x), (2, .inl y)], [], (I13, L13, R13, Y13), 0 + nc13, 0 + ns13) _
          refine yi_G_run 1 (40, [(0, .inr (.inr (some 10))), (1, .inl x), (2, .inl y)], [.inr (.inr (some 10))], (I13, L13, R13, Y13), 0 + nc13, 0 + ns13) (fun _ => rfl) ?_
          obtain ⟨q16, e17, t18⟩ := cl_rf hP13.1 (cl_10 hP13.1) (k := 6) rfl
          refine cl_G_gr rfl (cl_T_K (cl_10 hP13.1)) rfl rfl rfl e17 ?_
          refine yi_G_run 2 (45, [(0, .inr (.inr (some 10))), (1, .inl x), (2, .inl y)], [.inl y, .inl x, .inr (.inr (some q16))], (I13, L13, R13, Y13), 0 + nc13, 0 + ns13) (fun _ => rfl) ?_
          refine yi_G_callv rfl rfl (cl_rcv t18 rfl) rfl (k_addPromise d (by omega) hP13.1 t18 ) ?_
          rintro _ ⟨I19, rfl, hQ19⟩
          have hP19 := cl_P_t hP13 hQ19
          show yi_G zi_Ms d zi_m166 (48, [(0, .inr (.inr (some 10))), (1, .inl x), (2, .inl y)], [], (I19, L13, R13, Y13), 0 + nc13, 0 + ns13) _
          refine yi_G_run 1 (49, [(0, .inr (.inr (some 10))), (1, .inl x), (2, .inl y)], [.inr (.inr (some 10))], (I19, L13, R13, Y13), 0 + nc13, 0 + ns13) (fun _ => rfl) ?_
          refine cl_G_gr rfl (cl_T_K (cl_10 hP19.1)) rfl rfl rfl e17 ?_
          have b20 := cl_rd hP19.1 t18 (k := 8) (lo := 0) (hi := 20) rfl
          refine cl_G_gi rfl (cl_T_K t18) rfl rfl rfl ?_
          exact yi_G_reti rfl rfl (⟨_, _, _, _, _, _, _, rfl, hP19, by omega, by omega⟩)
        · refine yi_G_if2 false rfl (yi_lt_f h12) ?_
          refine yi_G_run 1 (34, [(0, .inr (.inr (some 10))), (1, .inl x), (2, .inl y)], [.inl (-1)], (I, L, R, Y), 0, 0) (fun _ => rfl) ?_
          exact yi_G_reti rfl rfl (⟨_, _, _, _, _, _, _, rfl, hP, by omega, by omega⟩)
theorem k_undoA (D : Nat) (hD : 6 ≤ D) {E : List Nat} {I L : cl_I} {R : cl_Rr} {Y : cl_Y} (hC : cl_C E I L R Y) : yi_E zi_Ms D 181 [.inr (.inr (some 10))] (I, L, R, Y) (fun r => ∃ z, ∃ I', ∃ L', ∃ R', ∃ Y', ∃ nc ns, r = (some (.inl z), (I', L', R', Y'), nc, ns) ∧ cl_P E I L R Y I' L' R' Y' ∧ nc ≤ 8 ∧ ns ≤ 700 ∧ (z = 0 ∨ z = 1)) := by
  obtain ⟨d, rfl⟩ : ∃ d, D = d + 1 := ⟨D - 1, by omega⟩
  refine yi_E_of (M := zi_m181) rfl rfl ?_
  have hP : cl_P E I L R Y I L R Y := cl_P_r hC
  show yi_G zi_Ms d zi_m181 (0, [(0, .inr (.inr (some 10)))], [], (I, L, R, Y), 0, 0) _
  refine yi_G_run 1 (1, [(0, .inr (.inr (some 10)))], [.inr (.inr (some 10))], (I, L, R, Y), 0, 0) (fun _ => rfl) ?_
  have b1 := cl_rd hP.1 (cl_10 hP.1) (k := 18) (lo := 0) (hi := 16) rfl
  refine cl_G_gi rfl (cl_T_K (cl_10 hP.1)) rfl rfl rfl ?_
  by_cases h2 : 0 < (I 10 18)
  · refine yi_G_if1 true rfl (yi_gt_t h2) ?_
    refine yi_G_run 2 (11, [(0, .inr (.inr (some 10)))], [.inr (.inr (some 10)), .inr (.inr (some 10))], (I, L, R, Y), 0, 0) (fun _ => rfl) ?_
    have b3 := cl_rd hP.1 (cl_10 hP.1) (k := 18) (lo := 0) (hi := 16) rfl
    refine cl_G_gi rfl (cl_T_K (cl_10 hP.1)) rfl rfl rfl ?_
    refine yi_G_run 1 (15, [(0, .inr (.inr (some 10)))], [.inl 1, .inl (I 10 18), .inr (.inr (some 10))], (I, L, R, Y), 0, 0) (fun _ => rfl) ?_
    refine yi_G_isub rfl ((I 10 18) - 1) (yi_wn (by omega) (by omega)) ?_
    refine cl_G_pi rfl (cl_T_K (cl_10 hP.1)) rfl rfl rfl ?_
    have hP4 := cl_P_uI (k := 18) (v := (I 10 18) - 1) hP (cl_10 hP.1) (by decide) (cl_hv rfl (by omega) (by omega))
    generalize w5 : yi_u I 10 18 ((I 10 18) - 1) = I6 at hP4 ⊢
    refine yi_G_run 1 (20, [(0, .inr (.inr (some 10)))], [.inr (.inr (some 10))], (I6, L, R, Y), 0, 0) (fun _ => rfl) ?_
    obtain ⟨q7, e8, t9, n10⟩ := cl_rn hP4.1 (cl_10 hP4.1) (k := 7) (m := 15) rfl
    refine cl_G_gr rfl (cl_T_K (cl_10 hP4.1)) rfl rfl rfl e8 ?_
    refine yi_G_run 1 (24, [(0, .inr (.inr (some 10)))], [.inr (.inr (some 10)), .inr (.inr (some q7))], (I6, L, R, Y), 0, 0) (fun _ => rfl) ?_
    have b11 := cl_rd hP4.1 (cl_10 hP4.1) (k := 17) (lo := 0) (hi := 15) rfl
    have r12 : I6 10 17 = I 10 17 := by rw [← w5, yi_u_ne _ _ (fun z => absurd z.2 (by decide))]
    refine cl_G_gi rfl (cl_T_K (cl_10 hP4.1)) rfl rfl rfl ?_
    refine yi_G_run 1 (28, [(0, .inr (.inr (some 10)))], [.inr (.inr (some 10)), .inl (I6 10 17), .inr (.inr (some q7))], (I6, L, R, Y), 0, 0) (fun _ => rfl) ?_
    have b13 := cl_rd hP4.1 (cl_10 hP4.1) (k := 18) (lo := 0) (hi := 16) rfl
    have r14 : I6 10 18 = (I 10 18) - 1 := by rw [← w5, yi_u_eq]
    refine cl_G_gi rfl (cl_T_K (cl_10 hP4.1)) rfl rfl rfl ?_
    refine yi_G_iadd rfl ((I6 10 17) + (I6 10 18)) (yi_wn (by omega) (by omega)) ?_
    refine yi_G_run 1 (34, [(0, .inr (.inr (some 10)))], [.inl 16, .inl ((I6 10 17) + (I6 10 18)), .inr (.inr (some q7))], (I6, L, R, Y), 0, 0) (fun _ => rfl) ?_
    refine yi_G_calls rfl rfl (k_floorMod d (by omega) hP4.1  (by omega) (by omega)) ?_
    rintro _ ⟨z15, rfl, x15a⟩
    show yi_G zi_Ms d zi_m181 (37, [(0, .inr (.inr (some 10)))], [.inl z15, .inr (.inr (some q7))], (I6, L, R, Y), 0, 0) _
    rcases cl_ro hP4.1 t9 (k := z15.toNat) rfl with e17 | ⟨q16, e17, t18⟩
    · refine cl_G_aald rfl t9 (by omega) (by omega) (by omega) e17 ?_
      refine yi_G_run 2 (40, [(1, .inr (.inr none)), (0, .inr (.inr (some 10)))], [.inr (.inr none)], (I6, L, R, Y), 0, 0) (fun _ => rfl) ?_
      refine cl_G_nnl true rfl rfl ?_
      refine yi_G_run 1 (44, [(1, .inr (.inr none)), (0, .inr (.inr (some 10)))], [.inl 0], (I6, L, R, Y), 0, 0) (fun _ => rfl) ?_
      exact yi_G_retb rfl rfl (by decide) (⟨_, _, _, _, _, _, _, rfl, hP4, by omega, by omega, by decide⟩)
    · refine cl_G_aald rfl t9 (by omega) (by omega) (by omega) e17 ?_
      refine yi_G_run 2 (40, [(1, .inr (.inr (some q16))), (0, .inr (.inr (some 10)))], [.inr (.inr (some q16))], (I6, L, R, Y), 0, 0) (fun _ => rfl) ?_
      refine cl_G_nnl false rfl rfl ?_
      refine yi_G_run 1 (46, [(1, .inr (.inr (some q16))), (0, .inr (.inr (some 10)))], [.inr (.inr (some 10))], (I6, L, R, Y), 0, 0) (fun _ => rfl) ?_
      obtain ⟨q19, e20, t21⟩ := cl_rf hP4.1 (cl_10 hP4.1) (k := 6) rfl
      refine cl_G_gr rfl (cl_T_K (cl_10 hP4.1)) rfl rfl rfl e20 ?_
      rcases cl_ro hP4.1 t21 (k := 5) rfl with e23 | ⟨q22, e23, t24⟩
      · refine cl_G_gr rfl (cl_T_K t21) rfl rfl rfl e23 ?_
        refine yi_G_run 2 (54, [(2, .inr (.inr none)), (1, .inr (.inr (some q16))), (0, .inr (.inr (some 10)))], [.inr (.inr (some 10))], (I6, L, R, Y), 0, 0) (fun _ => rfl) ?_
        refine cl_G_gr rfl (cl_T_K (cl_10 hP4.1)) rfl rfl rfl e20 ?_
        refine yi_G_run 1 (58, [(2, .inr (.inr none)), (1, .inr (.inr (some q16))), (0, .inr (.inr (some 10)))], [.inr (.inr (some q16)), .inr (.inr (some q19))], (I6, L, R, Y), 0, 0) (fun _ => rfl) ?_
        refine yi_G_callv rfl rfl (cl_rcv t21 rfl) rfl (k_copyS d (by omega) hP4.1 t21 t18 ) ?_
        rintro _ ⟨I25, R25, rfl, hQ25⟩
        have hP25 := cl_P_t hP4 hQ25
        show yi_G zi_Ms d zi_m181 (61, [(2, .inr (.inr none)), (1, .inr (.inr (some q16))), (0, .inr (.inr (some 10)))], [], (I25, L, R25, Y), 0, 0) _
        refine yi_G_run 1 (62, [(2, .inr (.inr none)), (1, .inr (.inr (some q16))), (0, .inr (.inr (some 10)))], [.inr (.inr (some 10))], (I25, L, R25, Y), 0, 0) (fun _ => rfl) ?_
        obtain ⟨q26, e27, t28⟩ := cl_rf hP25.1 (cl_10 hP25.1) (k := 6) rfl
        refine cl_G_gr rfl (cl_T_K (cl_10 hP25.1)) rfl rfl rfl e27 ?_
        refine yi_G_run 1 (66, [(2, .inr (.inr none)), (1, .inr (.inr (some q16))), (0, .inr (.inr (some 10)))], [.inr (.inr none), .inr (.inr (some q26))], (I25, L, R25, Y), 0, 0) (fun _ => rfl) ?_
        refine cl_G_pr rfl (cl_T_K t28) rfl rfl rfl ?_
        have hP29 := cl_P_uR (k := 5) (v := none) hP25 t28 (by decide) (by decide) (cl_hrn rfl)
        generalize w30 : cl_u R25 q26 5 none = R31 at hP29 ⊢
        have e32 : R31 10 6 = some q26 := by rw [← w30, cl_u_ne _ _ (fun z => cl_ne (cl_10 hP25.1) t28 (by decide) z.1)]; exact e27
        have e33 : R31 q26 5 = none := by rw [← w30, cl_u_eq]
        refine yi_G_run 1 (70, [(2, .inr (.inr none)), (1, .inr (.inr (some q16))), (0, .inr (.inr (some 10)))], [.inr (.inr (some 10))], (I25, L, R31, Y), 0, 0) (fun _ => rfl) ?_
        refine yi_G_callv rfl rfl (cl_rcv (cl_10 hP29.1) rfl) rfl (k_refreshLeftA d (by omega) hP29.1  ) ?_
        rintro _ ⟨I34, L34, R34, Y34, nc34, ns34, rfl, hQ34, ca34, cb34⟩
        have hP34 := cl_P_t hP29 hQ34
        have t35 := cl_T_x t9 hQ34.2.1
        have n36 := (cl_T_n t9 hQ34.2.1).trans n10
        have t37 := cl_T_x t18 hQ34.2.1
        have t38 := cl_T_x t21 hQ34.2.1
        have t39 := cl_T_x t28 hQ34.2.1
        show yi_G zi_Ms d zi_m181 (73, [(2, .inr (.inr none)), (1, .inr (.inr (some q16))), (0, .inr (.inr (some 10)))], [], (I34, L34, R34, Y34), 0 + nc34, 0 + ns34) _
        refine yi_G_run 1 (74, [(2, .inr (.inr none)), (1, .inr (.inr (some q16))), (0, .inr (.inr (some 10)))], [.inl 1], (I34, L34, R34, Y34), 0 + nc34, 0 + ns34) (fun _ => rfl) ?_
        exact yi_G_retb rfl rfl (by decide) (⟨_, _, _, _, _, _, _, rfl, hP34, by omega, by omega, by decide⟩)
      · refine cl_G_gr rfl (cl_T_K t21) rfl rfl rfl e23 ?_
        refine yi_G_run 2 (54, [(2, .inr (.inr (some q22))), (1, .inr (.inr (some q16))), (0, .inr (.inr (some 10)))], [.inr (.inr (some 10))], (I6, L, R, Y), 0, 0) (fun _ => rfl) ?_
        refine cl_G_gr rfl (cl_T_K (cl_10 hP4.1)) rfl rfl rfl e20 ?_
        refine yi_G_run 1 (58, [(2, .inr (.inr (some q22))), (1, .inr (.inr (some q16))), (0, .inr (.inr (some 10)))], [.inr (.inr (some q16)), .inr (.inr (some q19))], (I6, L, R, Y), 0, 0) (fun _ => rfl) ?_
        refine yi_G_callv rfl rfl (cl_rcv t21 rfl) rfl (k_copyS d (by omega) hP4.1 t21 t18 ) ?_
        rintro _ ⟨I40, R40, rfl, hQ40⟩
        have hP40 := cl_P_t hP4 hQ40
        show yi_G zi_Ms d zi_m181 (61, [(2, .inr (.inr (some q22))), (1, .inr (.inr (some q16))), (0, .inr (.inr (some 10)))], [], (I40, L, R40, Y), 0, 0) _
        refine yi_G_run 1 (62, [(2, .inr (.inr (some q22))), (1, .inr (.inr (some q16))), (0, .inr (.inr (some 10)))], [.inr (.inr (some 10))], (I40, L, R40, Y), 0, 0) (fun _ => rfl) ?_
        obtain ⟨q41, e42, t43⟩ := cl_rf hP40.1 (cl_10 hP40.1) (k := 6) rfl
        refine cl_G_gr rfl (cl_T_K (cl_10 hP40.1)) rfl rfl rfl e42 ?_
        refine yi_G_run 1 (66, [(2, .inr (.inr (some q22))), (1, .inr (.inr (some q16))), (0, .inr (.inr (some 10)))], [.inr (.inr (some q22)), .inr (.inr (some q41))], (I40, L, R40, Y), 0, 0) (fun _ => rfl) ?_
        refine cl_G_pr rfl (cl_T_K t43) rfl rfl rfl ?_
        have hP44 := cl_P_uR (k := 5) (v := (some q22)) hP40 t43 (by decide) (by decide) (cl_hro rfl t24)
        generalize w45 : cl_u R40 q41 5 (some q22) = R46 at hP44 ⊢
        have e47 : R46 10 6 = some q41 := by rw [← w45, cl_u_ne _ _ (fun z => cl_ne (cl_10 hP40.1) t43 (by decide) z.1)]; exact e42
        have e48 : R46 q41 5 = some q22 := by rw [← w45, cl_u_eq]
        refine yi_G_run 1 (70, [(2, .inr (.inr (some q22))), (1, .inr (.inr (some q16))), (0, .inr (.inr (some 10)))], [.inr (.inr (some 10))], (I40, L, R46, Y), 0, 0) (fun _ => rfl) ?_
        refine yi_G_callv rfl rfl (cl_rcv (cl_10 hP44.1) rfl) rfl (k_refreshLeftA d (by omega) hP44.1  ) ?_
        rintro _ ⟨I49, L49, R49, Y49, nc49, ns49, rfl, hQ49, ca49, cb49⟩
        have hP49 := cl_P_t hP44 hQ49
        have t50 := cl_T_x t9 hQ49.2.1
        have n51 := (cl_T_n t9 hQ49.2.1).trans n10
        have t52 := cl_T_x t18 hQ49.2.1
        have t53 := cl_T_x t21 hQ49.2.1
        have t54 := cl_T_x t24 hQ49.2.1
        have t55 := cl_T_x t43 hQ49.2.1
        show yi_G zi_Ms d zi_m181 (73, [(2, .inr (.inr (some q22))), (1, .inr (.inr (some q16))), (0, .inr (.inr (some 10)))], [], (I49, L49, R49, Y49), 0 + nc49, 0 + ns49) _
        refine yi_G_run 1 (74, [(2, .inr (.inr (some q22))), (1, .inr (.inr (some q16))), (0, .inr (.inr (some 10)))], [.inl 1], (I49, L49, R49, Y49), 0 + nc49, 0 + ns49) (fun _ => rfl) ?_
        exact yi_G_retb rfl rfl (by decide) (⟨_, _, _, _, _, _, _, rfl, hP49, by omega, by omega, by decide⟩)
  · refine yi_G_if1 false rfl (yi_gt_f h2) ?_
    refine yi_G_run 1 (8, [(0, .inr (.inr (some 10)))], [.inl 0], (I, L, R, Y), 0, 0) (fun _ => rfl) ?_
    exact yi_G_retb rfl rfl (by decide) (⟨_, _, _, _, _, _, _, rfl, hP, by omega, by omega, by decide⟩)
theorem k_countA (D : Nat) (hD : 5 ≤ D) {E : List Nat} {I L : cl_I} {R : cl_Rr} {Y : cl_Y} (hC : cl_C E I L R Y) {x : Int} : yi_E zi_Ms D 146 [.inr (.inr (some 10)), .inl x] (I, L, R, Y) (fun r => ∃ z, r = (some (.inl z), (I, L, R, Y), 0, 0)) := by
  obtain ⟨d, rfl⟩ : ∃ d, D = d + 1 := ⟨D - 1, by omega⟩
  refine yi_E_of (M := zi_m146) rfl rfl ?_
  have hP : cl_P E I L R Y I L R Y := cl_P_r hC
  show yi_G zi_Ms d zi_m146 (0, [(0, .inr (.inr (some 10))), (1, .inl x)], [], (I, L, R, Y), 0, 0) _
  refine yi_G_run 1 (1, [(0, .inr (.inr (some 10))), (1, .inl x)], [.inl x], (I, L, R, Y), 0, 0) (fun _ => rfl) ?_
  by_cases h1 : x = 0
  · refine yi_G_tsi 0 rfl (by omega) (by decide) rfl ?_
    refine yi_G_run 1 (65, [(0, .inr (.inr (some 10))), (1, .inl x)], [.inr (.inr (some 10))], (I, L, R, Y), 0, 0) (fun _ => rfl) ?_
    obtain ⟨q2, e3, t4⟩ := cl_rf hP.1 (cl_10 hP.1) (k := 16) rfl
    refine cl_G_gr rfl (cl_T_K (cl_10 hP.1)) rfl rfl rfl e3 ?_
    have b5 := cl_rd hP.1 t4 (k := 14) (lo := 1) (hi := 6) rfl
    refine cl_G_gi rfl (cl_T_K t4) rfl rfl rfl ?_
    exact yi_G_reti rfl rfl (⟨_, rfl⟩)
  by_cases h6 : x = 1
  · refine yi_G_tsi 1 rfl (by omega) (by decide) rfl ?_
    refine yi_G_run 1 (73, [(0, .inr (.inr (some 10))), (1, .inl x)], [.inr (.inr (some 10))], (I, L, R, Y), 0, 0) (fun _ => rfl) ?_
    obtain ⟨q7, e8, t9⟩ := cl_rf hP.1 (cl_10 hP.1) (k := 16) rfl
    refine cl_G_gr rfl (cl_T_K (cl_10 hP.1)) rfl rfl rfl e8 ?_
    have b10 := cl_rd hP.1 t9 (k := 15) (lo := 0) (hi := 4) rfl
    refine cl_G_gi rfl (cl_T_K t9) rfl rfl rfl ?_
    exact yi_G_reti rfl rfl (⟨_, rfl⟩)
  by_cases h11 : x = 2
  · refine yi_G_tsi 2 rfl (by omega) (by decide) rfl ?_
    refine yi_G_run 1 (81, [(0, .inr (.inr (some 10))), (1, .inl x)], [.inr (.inr (some 10))], (I, L, R, Y), 0, 0) (fun _ => rfl) ?_
    obtain ⟨q12, e13, t14⟩ := cl_rf hP.1 (cl_10 hP.1) (k := 16) rfl
    refine cl_G_gr rfl (cl_T_K (cl_10 hP.1)) rfl rfl rfl e13 ?_
    have b15 := cl_rd hP.1 t14 (k := 16) (lo := 0) (hi := 4) rfl
    refine cl_G_gi rfl (cl_T_K t14) rfl rfl rfl ?_
    exact yi_G_reti rfl rfl (⟨_, rfl⟩)
  by_cases h16 : x = 3
  · refine yi_G_tsi 3 rfl (by omega) (by decide) rfl ?_
    refine yi_G_run 1 (89, [(0, .inr (.inr (some 10))), (1, .inl x)], [.inr (.inr (some 10))], (I, L, R, Y), 0, 0) (fun _ => rfl) ?_
    obtain ⟨q17, e18, t19⟩ := cl_rf hP.1 (cl_10 hP.1) (k := 16) rfl
    refine cl_G_gr rfl (cl_T_K (cl_10 hP.1)) rfl rfl rfl e18 ?_
    have b20 := cl_rd hP.1 t19 (k := 17) (lo := 0) (hi := 5) rfl
    refine cl_G_gi rfl (cl_T_K t19) rfl rfl rfl ?_
    exact yi_G_reti rfl rfl (⟨_, rfl⟩)
  by_cases h21 : x = 4
  · refine yi_G_tsi 4 rfl (by omega) (by decide) rfl ?_
    refine yi_G_run 1 (97, [(0, .inr (.inr (some 10))), (1, .inl x)], [.inr (.inr (some 10))], (I, L, R, Y), 0, 0) (fun _ => rfl) ?_
    obtain ⟨q22, e23, t24⟩ := cl_rf hP.1 (cl_10 hP.1) (k := 16) rfl
    refine cl_G_gr rfl (cl_T_K (cl_10 hP.1)) rfl rfl rfl e23 ?_
    have b25 := cl_rd hP.1 t24 (k := 18) (lo := 0) (hi := 4) rfl
    refine cl_G_gi rfl (cl_T_K t24) rfl rfl rfl ?_
    exact yi_G_reti rfl rfl (⟨_, rfl⟩)
  by_cases h26 : x = 5
  · refine yi_G_tsi 5 rfl (by omega) (by decide) rfl ?_
    refine yi_G_run 1 (105, [(0, .inr (.inr (some 10))), (1, .inl x)], [.inr (.inr (some 10))], (I, L, R, Y), 0, 0) (fun _ => rfl) ?_
    obtain ⟨q27, e28, t29⟩ := cl_rf hP.1 (cl_10 hP.1) (k := 16) rfl
    refine cl_G_gr rfl (cl_T_K (cl_10 hP.1)) rfl rfl rfl e28 ?_
    have b30 := cl_rd hP.1 t29 (k := 19) (lo := 0) (hi := 6) rfl
    refine cl_G_gi rfl (cl_T_K t29) rfl rfl rfl ?_
    exact yi_G_reti rfl rfl (⟨_, rfl⟩)
  by_cases h31 : x = 6
  · refine yi_G_tsi 6 rfl (by omega) (by decide) rfl ?_
    refine yi_G_run 1 (113, [(0, .inr (.inr (some 10))), (1, .inl x)], [.inr (.inr (some 10))], (I, L, R, Y), 0, 0) (fun _ => rfl) ?_
    obtain ⟨q32, e33, t34⟩ := cl_rf hP.1 (cl_10 hP.1) (k := 6) rfl
    refine cl_G_gr rfl (cl_T_K (cl_10 hP.1)) rfl rfl rfl e33 ?_
    have b35 := cl_rd hP.1 t34 (k := 6) (lo := 0) (hi := 12) rfl
    refine cl_G_gi rfl (cl_T_K t34) rfl rfl rfl ?_
    exact yi_G_reti rfl rfl (⟨_, rfl⟩)
  by_cases h36 : x = 7
  · refine yi_G_tsi 7 rfl (by omega) (by decide) rfl ?_
    refine yi_G_run 1 (121, [(0, .inr (.inr (some 10))), (1, .inl x)], [.inr (.inr (some 10))], (I, L, R, Y), 0, 0) (fun _ => rfl) ?_
    obtain ⟨q37, e38, t39⟩ := cl_rf hP.1 (cl_10 hP.1) (k := 6) rfl
    refine cl_G_gr rfl (cl_T_K (cl_10 hP.1)) rfl rfl rfl e38 ?_
    refine cl_G_gi rfl (cl_T_K t39) rfl rfl rfl ?_
    exact yi_G_reti rfl rfl (⟨_, rfl⟩)
  by_cases h40 : x = 8
  · refine yi_G_tsi 8 rfl (by omega) (by decide) rfl ?_
    refine yi_G_run 1 (129, [(0, .inr (.inr (some 10))), (1, .inl x)], [.inr (.inr (some 10))], (I, L, R, Y), 0, 0) (fun _ => rfl) ?_
    obtain ⟨q41, e42, t43⟩ := cl_rf hP.1 (cl_10 hP.1) (k := 6) rfl
    refine cl_G_gr rfl (cl_T_K (cl_10 hP.1)) rfl rfl rfl e42 ?_
    have b44 := cl_rd hP.1 t43 (k := 8) (lo := 0) (hi := 20) rfl
    refine cl_G_gi rfl (cl_T_K t43) rfl rfl rfl ?_
    exact yi_G_reti rfl rfl (⟨_, rfl⟩)
  by_cases h45 : x = 9
  · refine yi_G_tsi 9 rfl (by omega) (by decide) rfl ?_
    refine yi_G_run 1 (137, [(0, .inr (.inr (some 10))), (1, .inl x)], [.inr (.inr (some 10))], (I, L, R, Y), 0, 0) (fun _ => rfl) ?_
    obtain ⟨q46, e47, t48⟩ := cl_rf hP.1 (cl_10 hP.1) (k := 6) rfl
    refine cl_G_gr rfl (cl_T_K (cl_10 hP.1)) rfl rfl rfl e47 ?_
    rcases cl_ro hP.1 t48 (k := 5) rfl with e50 | ⟨q49, e50, t51⟩
    · refine cl_G_gr rfl (cl_T_K t48) rfl rfl rfl e50 ?_
      refine cl_G_nnl true rfl rfl ?_
      refine yi_G_run 2 (151, [(0, .inr (.inr (some 10))), (1, .inl x)], [.inl 0], (I, L, R, Y), 0, 0) (fun _ => rfl) ?_
      exact yi_G_reti rfl rfl (⟨_, rfl⟩)
    · refine cl_G_gr rfl (cl_T_K t48) rfl rfl rfl e50 ?_
      refine cl_G_nnl false rfl rfl ?_
      refine yi_G_run 1 (151, [(0, .inr (.inr (some 10))), (1, .inl x)], [.inl 1], (I, L, R, Y), 0, 0) (fun _ => rfl) ?_
      exact yi_G_reti rfl rfl (⟨_, rfl⟩)
  by_cases h52 : x = 10
  · refine yi_G_tsi 10 rfl (by omega) (by decide) rfl ?_
    refine yi_G_run 1 (153, [(0, .inr (.inr (some 10))), (1, .inl x)], [.inr (.inr (some 10))], (I, L, R, Y), 0, 0) (fun _ => rfl) ?_
    have b53 := cl_rd hP.1 (cl_10 hP.1) (k := 18) (lo := 0) (hi := 16) rfl
    refine cl_G_gi rfl (cl_T_K (cl_10 hP.1)) rfl rfl rfl ?_
    exact yi_G_reti rfl rfl (⟨_, rfl⟩)
  by_cases h54 : x = 11
  · refine yi_G_tsi 11 rfl (by omega) (by decide) rfl ?_
    refine yi_G_run 1 (158, [(0, .inr (.inr (some 10))), (1, .inl x)], [.inr (.inr (some 10))], (I, L, R, Y), 0, 0) (fun _ => rfl) ?_
    refine cl_G_gr rfl (cl_T_K (cl_10 hP.1)) rfl rfl rfl (hP.1.2.2.2.1.2.2.2.2.1) ?_
    have b55 := cl_rd hP.1 (cl_12 hP.1) (k := 5) (lo := 0) (hi := 1000) rfl
    refine cl_G_gi rfl (cl_T_K (cl_12 hP.1)) rfl rfl rfl ?_
    exact yi_G_reti rfl rfl (⟨_, rfl⟩)
  refine yi_G_tso rfl (by omega) ?_
  refine yi_G_run 1 (166, [(0, .inr (.inr (some 10))), (1, .inl x)], [.inl (-1)], (I, L, R, Y), 0, 0) (fun _ => rfl) ?_
  exact yi_G_reti rfl rfl (⟨_, rfl⟩)
theorem k_wishA (D : Nat) (hD : 6 ≤ D) {E : List Nat} {I L : cl_I} {R : cl_Rr} {Y : cl_Y} (hC : cl_C E I L R Y) {x : Int} {y : Int} : yi_E zi_Ms D 187 [.inr (.inr (some 10)), .inl x, .inl y] (I, L, R, Y) (fun r => ∃ z, r = (some (.inl z), (I, L, R, Y), 0, 0)) := by
  obtain ⟨d, rfl⟩ : ∃ d, D = d + 1 := ⟨D - 1, by omega⟩
  refine yi_E_of (M := zi_m187) rfl rfl ?_
  have hP : cl_P E I L R Y I L R Y := cl_P_r hC
  show yi_G zi_Ms d zi_m187 (0, [(0, .inr (.inr (some 10))), (1, .inl x), (2, .inl y)], [], (I, L, R, Y), 0, 0) _
  refine yi_G_run 1 (1, [(0, .inr (.inr (some 10))), (1, .inl x), (2, .inl y)], [.inr (.inr (some 10))], (I, L, R, Y), 0, 0) (fun _ => rfl) ?_
  obtain ⟨q1, e2, t3⟩ := cl_rf hP.1 (cl_10 hP.1) (k := 16) rfl
  refine cl_G_gr rfl (cl_T_K (cl_10 hP.1)) rfl rfl rfl e2 ?_
  refine yi_G_run 1 (5, [(0, .inr (.inr (some 10))), (1, .inl x), (2, .inl y)], [.inl x, .inr (.inr (some q1))], (I, L, R, Y), 0, 0) (fun _ => rfl) ?_
  refine yi_G_callv rfl rfl (cl_rcv t3 rfl) rfl (k_isWish d (by omega) hP.1 t3 ) ?_
  rintro _ ⟨z4, rfl, hz4, x4a⟩
  show yi_G zi_Ms d zi_m187 (8, [(0, .inr (.inr (some 10))), (1, .inl x), (2, .inl y)], [.inl z4], (I, L, R, Y), 0, 0) _
  by_cases h5 : z4 = 0
  · refine yi_G_if1 false rfl (yi_ne_f h5) ?_
    refine yi_G_run 1 (12, [(0, .inr (.inr (some 10))), (1, .inl x), (2, .inl y)], [.inl (-1)], (I, L, R, Y), 0, 0) (fun _ => rfl) ?_
    exact yi_G_reti rfl rfl (⟨_, rfl⟩)
  · refine yi_G_if1 true rfl (yi_ne_t h5) ?_
    refine yi_G_run 1 (14, [(0, .inr (.inr (some 10))), (1, .inl x), (2, .inl y)], [.inl y], (I, L, R, Y), 0, 0) (fun _ => rfl) ?_
    by_cases h6 : y = 0
    · refine yi_G_tsi 0 rfl (by omega) (by decide) rfl ?_
      refine yi_G_run 1 (41, [(0, .inr (.inr (some 10))), (1, .inl x), (2, .inl y)], [.inr (.inr (some 10))], (I, L, R, Y), 0, 0) (fun _ => rfl) ?_
      refine cl_G_gr rfl (cl_T_K (cl_10 hP.1)) rfl rfl rfl e2 ?_
      refine yi_G_run 1 (45, [(0, .inr (.inr (some 10))), (1, .inl x), (2, .inl y)], [.inl x, .inr (.inr (some q1))], (I, L, R, Y), 0, 0) (fun _ => rfl) ?_
      refine yi_G_callv rfl rfl (cl_rcv t3 rfl) rfl (k_wishOwner d (by omega) hP.1 t3 ) ?_
      rintro _ ⟨z7, rfl⟩
      show yi_G zi_Ms d zi_m187 (48, [(0, .inr (.inr (some 10))), (1, .inl x), (2, .inl y)], [.inl z7], (I, L, R, Y), 0, 0) _
      exact yi_G_reti rfl rfl (⟨_, rfl⟩)
    by_cases h8 : y = 1
    · refine yi_G_tsi 1 rfl (by omega) (by decide) rfl ?_
      refine yi_G_run 1 (50, [(0, .inr (.inr (some 10))), (1, .inl x), (2, .inl y)], [.inr (.inr (some 10))], (I, L, R, Y), 0, 0) (fun _ => rfl) ?_
      refine cl_G_gr rfl (cl_T_K (cl_10 hP.1)) rfl rfl rfl e2 ?_
      refine yi_G_run 1 (54, [(0, .inr (.inr (some 10))), (1, .inl x), (2, .inl y)], [.inl x, .inr (.inr (some q1))], (I, L, R, Y), 0, 0) (fun _ => rfl) ?_
      refine yi_G_callv rfl rfl (cl_rcv t3 rfl) rfl (k_wishCoins d (by omega) hP.1 t3 ) ?_
      rintro _ ⟨z9, rfl⟩
      show yi_G zi_Ms d zi_m187 (57, [(0, .inr (.inr (some 10))), (1, .inl x), (2, .inl y)], [.inl z9], (I, L, R, Y), 0, 0) _
      exact yi_G_reti rfl rfl (⟨_, rfl⟩)
    by_cases h10 : y = 2
    · refine yi_G_tsi 2 rfl (by omega) (by decide) rfl ?_
      refine yi_G_run 1 (59, [(0, .inr (.inr (some 10))), (1, .inl x), (2, .inl y)], [.inr (.inr (some 10))], (I, L, R, Y), 0, 0) (fun _ => rfl) ?_
      refine cl_G_gr rfl (cl_T_K (cl_10 hP.1)) rfl rfl rfl (hP.1.2.2.2.1.2.2.2.2.2.2.2.1) ?_
      refine yi_G_run 1 (63, [(0, .inr (.inr (some 10))), (1, .inl x), (2, .inl y)], [.inr (.inr (some 10)), .inr (.inr (some 58))], (I, L, R, Y), 0, 0) (fun _ => rfl) ?_
      refine cl_G_gr rfl (cl_T_K (cl_10 hP.1)) rfl rfl rfl (hP.1.2.2.2.1.2.2.2.2.2.2.1) ?_
      refine yi_G_run 1 (67, [(0, .inr (.inr (some 10))), (1, .inl x), (2, .inl y)], [.inl x, .inr (.inr (some 34)), .inr (.inr (some 58))], (I, L, R, Y), 0, 0) (fun _ => rfl) ?_
      refine yi_G_callv rfl rfl (cl_rcv (cl_34 hP.1) rfl) rfl (k_wishRow d (by omega) hP.1 (cl_34 hP.1) ) ?_
      rintro _ ⟨q11, rfl, t11⟩
      show yi_G zi_Ms d zi_m187 (70, [(0, .inr (.inr (some 10))), (1, .inl x), (2, .inl y)], [.inr (.inr (some q11)), .inr (.inr (some 58))], (I, L, R, Y), 0, 0) _
      refine yi_G_callv rfl rfl (cl_rcv (cl_58 hP.1) rfl) rfl (k_sizeWith d (by omega) hP.1 (cl_58 hP.1) t11 ) ?_
      rintro _ ⟨z12, rfl⟩
      show yi_G zi_Ms d zi_m187 (73, [(0, .inr (.inr (some 10))), (1, .inl x), (2, .inl y)], [.inl z12], (I, L, R, Y), 0, 0) _
      exact yi_G_reti rfl rfl (⟨_, rfl⟩)
    refine yi_G_tso rfl (by omega) ?_
    refine yi_G_run 1 (75, [(0, .inr (.inr (some 10))), (1, .inl x), (2, .inl y)], [.inl (-1)], (I, L, R, Y), 0, 0) (fun _ => rfl) ?_
    exact yi_G_reti rfl rfl (⟨_, rfl⟩)
theorem k_makingA (D : Nat) (hD : 6 ≤ D) {E : List Nat} {I L : cl_I} {R : cl_Rr} {Y : cl_Y} (hC : cl_C E I L R Y) {x : Int} {y : Int} {w : Int} {v : Int} : yi_E zi_Ms D 164 [.inr (.inr (some 10)), .inl x, .inl y, .inl w, .inl v] (I, L, R, Y) (fun r => ∃ z, ∃ I', ∃ L', ∃ R', ∃ Y', ∃ nc ns, r = (some (.inl z), (I', L', R', Y'), nc, ns) ∧ cl_P E I L R Y I' L' R' Y' ∧ nc ≤ 1 ∧ ns ≤ 513) := by
  obtain ⟨d, rfl⟩ : ∃ d, D = d + 1 := ⟨D - 1, by omega⟩
  refine yi_E_of (M := zi_m164) rfl rfl ?_
  have hP : cl_P E I L R Y I L R Y := cl_P_r hC
  show yi_G zi_Ms d zi_m164 (0, [(0, .inr (.inr (some 10))), (1, .inl x), (2, .inl y), (3, .inl w), (4, .inl v)], [], (I, L, R, Y), 0, 0) _
  refine yi_G_run 1 (1, [(0, .inr (.inr (some 10))), (1, .inl x), (2, .inl y), (3, .inl w), (4, .inl v)], [.inr (.inr (some 10))], (I, L, R, Y), 0, 0) (fun _ => rfl) ?_
  obtain ⟨q1, e2, t3⟩ := cl_rf hP.1 (cl_10 hP.1) (k := 16) rfl
  refine cl_G_gr rfl (cl_T_K (cl_10 hP.1)) rfl rfl rfl e2 ?_
  refine yi_G_run 3 (7, [(0, .inr (.inr (some 10))), (1, .inl x), (2, .inl y), (3, .inl w), (4, .inl v)], [.inl w, .inl y, .inl x, .inr (.inr (some q1))], (I, L, R, Y), 0, 0) (fun _ => rfl) ?_
  refine yi_G_callv rfl rfl (cl_rcv t3 rfl) rfl (k_isWord d (by omega) hP.1 t3 ) ?_
  rintro _ ⟨z4, rfl, hz4, x4a⟩
  show yi_G zi_Ms d zi_m164 (10, [(0, .inr (.inr (some 10))), (1, .inl x), (2, .inl y), (3, .inl w), (4, .inl v)], [.inl z4], (I, L, R, Y), 0, 0) _
  by_cases h5 : z4 = 0
  · refine yi_G_if1 true rfl (yi_eq_t h5) ?_
    refine yi_G_run 1 (36, [(0, .inr (.inr (some 10))), (1, .inl x), (2, .inl y), (3, .inl w), (4, .inl v)], [.inl (-1)], (I, L, R, Y), 0, 0) (fun _ => rfl) ?_
    exact yi_G_reti rfl rfl (⟨_, _, _, _, _, _, _, rfl, hP, by omega, by omega⟩)
  · refine yi_G_if1 false rfl (yi_eq_f h5) ?_
    refine yi_G_run 2 (16, [(0, .inr (.inr (some 10))), (1, .inl x), (2, .inl y), (3, .inl w), (4, .inl v)], [.inl (-1), .inl v], (I, L, R, Y), 0, 0) (fun _ => rfl) ?_
    by_cases h6 : v < (-1)
    · refine yi_G_if2 true rfl (yi_lt_t h6) ?_
      refine yi_G_run 1 (36, [(0, .inr (.inr (some 10))), (1, .inl x), (2, .inl y), (3, .inl w), (4, .inl v)], [.inl (-1)], (I, L, R, Y), 0, 0) (fun _ => rfl) ?_
      exact yi_G_reti rfl rfl (⟨_, _, _, _, _, _, _, rfl, hP, by omega, by omega⟩)
    · refine yi_G_if2 false rfl (yi_lt_f h6) ?_
      refine yi_G_run 2 (22, [(0, .inr (.inr (some 10))), (1, .inl x), (2, .inl y), (3, .inl w), (4, .inl v)], [.inl 1, .inl v], (I, L, R, Y), 0, 0) (fun _ => rfl) ?_
      by_cases h7 : 1 < v
      · refine yi_G_if2 true rfl (yi_gt_t h7) ?_
        refine yi_G_run 1 (36, [(0, .inr (.inr (some 10))), (1, .inl x), (2, .inl y), (3, .inl w), (4, .inl v)], [.inl (-1)], (I, L, R, Y), 0, 0) (fun _ => rfl) ?_
        exact yi_G_reti rfl rfl (⟨_, _, _, _, _, _, _, rfl, hP, by omega, by omega⟩)
      · refine yi_G_if2 false rfl (yi_gt_f h7) ?_
        refine yi_G_run 1 (26, [(0, .inr (.inr (some 10))), (1, .inl x), (2, .inl y), (3, .inl w), (4, .inl v)], [.inr (.inr (some 10))], (I, L, R, Y), 0, 0) (fun _ => rfl) ?_
        refine cl_G_gr rfl (cl_T_K (cl_10 hP.1)) rfl rfl rfl (hP.1.2.2.2.1.2.2.2.2.2.2.2.1) ?_
        refine yi_G_callv rfl rfl (cl_rcv (cl_58 hP.1) rfl) rfl (k_isEmpty d (by omega) hP.1 (cl_58 hP.1) ) ?_
        rintro _ ⟨z8, rfl, hz8⟩
        show yi_G zi_Ms d zi_m164 (32, [(0, .inr (.inr (some 10))), (1, .inl x), (2, .inl y), (3, .inl w), (4, .inl v)], [.inl z8], (I, L, R, Y), 0, 0) _
        by_cases h9 : z8 = 0
        · refine yi_G_if1 true rfl (yi_eq_t h9) ?_
          refine yi_G_run 4 (41, [(0, .inr (.inr (some 10))), (1, .inl x), (2, .inl y), (3, .inl w), (4, .inl v)], [.inl w, .inl y, .inl x, .inr (.inr (some 10))], (I, L, R, Y), 0, 0) (fun _ => rfl) ?_
          refine yi_G_calls rfl rfl (k_wordNumber d (by omega) hP.1  ) ?_
          rintro _ ⟨z10, rfl⟩
          show yi_G zi_Ms d zi_m164 (44, [(0, .inr (.inr (some 10))), (1, .inl x), (2, .inl y), (3, .inl w), (4, .inl v)], [.inl z10, .inr (.inr (some 10))], (I, L, R, Y), 0, 0) _
          refine yi_G_callv rfl rfl (cl_rcv (cl_10 hP.1) rfl) rfl (k_findMakingA d (by omega) hP.1  ) ?_
          rintro _ ⟨z11, I11, L11, R11, Y11, nc11, ns11, rfl, hQ11, ca11, cb11⟩
          have hP11 := cl_P_t hP hQ11
          have t12 := cl_T_x t3 hQ11.2.1
          show yi_G zi_Ms d zi_m164 (47, [(0, .inr (.inr (some 10))), (1, .inl x), (2, .inl y), (3, .inl w), (4, .inl v)], [.inl z11], (I11, L11, R11, Y11), 0 + nc11, 0 + ns11) _
          refine yi_G_run 3 (52, [(5, .inl z11), (0, .inr (.inr (some 10))), (1, .inl x), (2, .inl y), (3, .inl w), (4, .inl v)], [.inl (-1), .inl z11], (I11, L11, R11, Y11), 0 + nc11, 0 + ns11) (fun _ => rfl) ?_
          by_cases h13 : z11 = (-1)
          · refine yi_G_if2 false rfl (yi_ne_f h13) ?_
            refine yi_G_run 1 (56, [(5, .inl z11), (0, .inr (.inr (some 10))), (1, .inl x), (2, .inl y), (3, .inl w), (4, .inl v)], [.inl (-1)], (I11, L11, R11, Y11), 0 + nc11, 0 + ns11) (fun _ => rfl) ?_
            exact yi_G_reti rfl rfl (⟨_, _, _, _, _, _, _, rfl, hP11, by omega, by omega⟩)
          · refine yi_G_if2 true rfl (yi_ne_t h13) ?_
            refine yi_G_run 6 (68, [(6, .inl (yi_iand z11 255)), (5, .inl z11), (0, .inr (.inr (some 10))), (1, .inl x), (2, .inl y), (3, .inl w), (4, .inl v)], [.inl (-1), .inl v], (I11, L11, R11, Y11), 0 + nc11, 0 + ns11) (fun _ => rfl) ?_
            by_cases h14 : v = (-1)
            · refine yi_G_if2 false rfl (yi_ne_f h14) ?_
              refine yi_G_run 1 (73, [(6, .inl (yi_iand z11 255)), (5, .inl z11), (0, .inr (.inr (some 10))), (1, .inl x), (2, .inl y), (3, .inl w), (4, .inl v)], [.inl (yi_iand z11 255)], (I11, L11, R11, Y11), 0 + nc11, 0 + ns11) (fun _ => rfl) ?_
              exact yi_G_reti rfl rfl (⟨_, _, _, _, _, _, _, rfl, hP11, by omega, by omega⟩)
            · refine yi_G_if2 true rfl (yi_ne_t h14) ?_
              refine yi_G_run 2 (78, [(6, .inl (yi_iand z11 255)), (5, .inl z11), (0, .inr (.inr (some 10))), (1, .inl x), (2, .inl y), (3, .inl w), (4, .inl v)], [.inl (yi_iand z11 255), .inl v], (I11, L11, R11, Y11), 0 + nc11, 0 + ns11) (fun _ => rfl) ?_
              by_cases h15 : v < (yi_iand z11 255)
              · refine yi_G_if2 true rfl (yi_lt_t h15) ?_
                refine yi_G_run 9 (97, [(6, .inl (yi_iand z11 255)), (5, .inl z11), (0, .inr (.inr (some 10))), (1, .inl x), (2, .inl y), (3, .inl w), (4, .inl v)], [.inl (yi_iand (yi_shr z11 (yi_w ((yi_w (v + 1)) * 8))) 255)], (I11, L11, R11, Y11), 0 + nc11, 0 + ns11) (fun _ => rfl) ?_
                exact yi_G_reti rfl rfl (⟨_, _, _, _, _, _, _, rfl, hP11, by omega, by omega⟩)
              · refine yi_G_if2 false rfl (yi_lt_f h15) ?_
                refine yi_G_run 1 (82, [(6, .inl (yi_iand z11 255)), (5, .inl z11), (0, .inr (.inr (some 10))), (1, .inl x), (2, .inl y), (3, .inl w), (4, .inl v)], [.inl (-1)], (I11, L11, R11, Y11), 0 + nc11, 0 + ns11) (fun _ => rfl) ?_
                exact yi_G_reti rfl rfl (⟨_, _, _, _, _, _, _, rfl, hP11, by omega, by omega⟩)
        · refine yi_G_if1 false rfl (yi_eq_f h9) ?_
          refine yi_G_run 1 (36, [(0, .inr (.inr (some 10))), (1, .inl x), (2, .inl y), (3, .inl w), (4, .inl v)], [.inl (-1)], (I, L, R, Y), 0, 0) (fun _ => rfl) ?_
          exact yi_G_reti rfl rfl (⟨_, _, _, _, _, _, _, rfl, hP, by omega, by omega⟩)
theorem k_widestA (D : Nat) (hD : 6 ≤ D) {E : List Nat} {I L : cl_I} {R : cl_Rr} {Y : cl_Y} (hC : cl_C E I L R Y) {x : Int} : yi_E zi_Ms D 185 [.inr (.inr (some 10)), .inl x] (I, L, R, Y) (fun r => ∃ z, ∃ I', r = (some (.inl z), (I', L, R, Y), 0, 0) ∧ cl_P E I L R Y I' L R Y) := by
  obtain ⟨d, rfl⟩ : ∃ d, D = d + 1 := ⟨D - 1, by omega⟩
  refine yi_E_of (M := zi_m185) rfl rfl ?_
  have hP : cl_P E I L R Y I L R Y := cl_P_r hC
  show yi_G zi_Ms d zi_m185 (0, [(0, .inr (.inr (some 10))), (1, .inl x)], [], (I, L, R, Y), 0, 0) _
  refine yi_G_run 1 (1, [(0, .inr (.inr (some 10))), (1, .inl x)], [.inr (.inr (some 10))], (I, L, R, Y), 0, 0) (fun _ => rfl) ?_
  refine yi_G_callv rfl rfl (cl_rcv (cl_10 hP.1) rfl) rfl (k_gatherOpenA d (by omega) hP.1  ) ?_
  rintro _ ⟨z1, I1, rfl, hQ1, x1a⟩
  have hP1 := cl_P_t hP hQ1
  show yi_G zi_Ms d zi_m185 (4, [(0, .inr (.inr (some 10))), (1, .inl x)], [.inl z1], (I1, L, R, Y), 0, 0) _
  refine yi_G_run 7 (13, [(5, .inl 0), (4, .inl 0), (3, .inl (-1)), (2, .inl z1), (0, .inr (.inr (some 10))), (1, .inl x)], [], (I1, L, R, Y), 0, 0) (fun _ => rfl) ?_
  have pt13 : ∀ (m_ : Nat) (j : Int) (be : Int) (bw : Int), (0 ≤ j ∧ j ≤ 96) → (96 - j).toNat = m_ → yi_G zi_Ms d zi_m185 (13, [(5, .inl j), (4, .inl be), (3, .inl bw), (2, .inl z1), (0, .inr (.inr (some 10))), (1, .inl x)], [], (I1, L, R, Y), 0, 0) (fun r => ∃ z, ∃ I', r = (some (.inl z), (I', L, R, Y), 0, 0) ∧ cl_P E I L R Y I' L R Y) := by
    intro m13
    induction m13 using Nat.strongRecOn with
    | _ m13 ih13 =>
    intro j be bw j0 hm13
    refine yi_G_run 2 (16, [(5, .inl j), (4, .inl be), (3, .inl bw), (2, .inl z1), (0, .inr (.inr (some 10))), (1, .inl x)], [.inl z1, .inl j], (I1, L, R, Y), 0, 0) (fun _ => rfl) ?_
    by_cases h2 : z1 ≤ j
    · refine yi_G_if2 true rfl (yi_ge_t h2) ?_
      refine yi_G_run 1 (97, [(5, .inl j), (4, .inl be), (3, .inl bw), (2, .inl z1), (0, .inr (.inr (some 10))), (1, .inl x)], [.inl bw], (I1, L, R, Y), 0, 0) (fun _ => rfl) ?_
      exact yi_G_reti rfl rfl (⟨_, _, rfl, hP1⟩)
    · refine yi_G_if2 false rfl (yi_ge_f h2) ?_
      refine yi_G_run 2 (22, [(5, .inl j), (4, .inl be), (3, .inl bw), (2, .inl z1), (0, .inr (.inr (some 10))), (1, .inl x)], [.inr (.inr (some 10)), .inl j], (I1, L, R, Y), 0, 0) (fun _ => rfl) ?_
      obtain ⟨q3, e4, t5, n6⟩ := cl_rn hP1.1 (cl_10 hP1.1) (k := 12) (m := 95) rfl
      refine cl_G_gr rfl (cl_T_K (cl_10 hP1.1)) rfl rfl rfl e4 ?_
      refine cl_G_len rfl t5 (by omega) ?_
      by_cases h7 : ((Y.2.1 q3 : Int)) ≤ j
      · refine yi_G_if2 true rfl (yi_ge_t h7) ?_
        refine yi_G_run 1 (97, [(5, .inl j), (4, .inl be), (3, .inl bw), (2, .inl z1), (0, .inr (.inr (some 10))), (1, .inl x)], [.inl bw], (I1, L, R, Y), 0, 0) (fun _ => rfl) ?_
        exact yi_G_reti rfl rfl (⟨_, _, rfl, hP1⟩)
      · refine yi_G_if2 false rfl (yi_ge_f h7) ?_
        refine yi_G_run 1 (30, [(5, .inl j), (4, .inl be), (3, .inl bw), (2, .inl z1), (0, .inr (.inr (some 10))), (1, .inl x)], [.inr (.inr (some 10))], (I1, L, R, Y), 0, 0) (fun _ => rfl) ?_
        refine cl_G_gr rfl (cl_T_K (cl_10 hP1.1)) rfl rfl rfl (hP1.1.2.2.2.1.2.2.2.2.2.2.2.1) ?_
        refine yi_G_run 1 (34, [(5, .inl j), (4, .inl be), (3, .inl bw), (2, .inl z1), (0, .inr (.inr (some 10))), (1, .inl x)], [.inr (.inr (some 10)), .inr (.inr (some 58))], (I1, L, R, Y), 0, 0) (fun _ => rfl) ?_
        refine cl_G_gr rfl (cl_T_K (cl_10 hP1.1)) rfl rfl rfl (hP1.1.2.2.2.1.2.2.2.2.2.2.1) ?_
        refine yi_G_run 1 (38, [(5, .inl j), (4, .inl be), (3, .inl bw), (2, .inl z1), (0, .inr (.inr (some 10))), (1, .inl x)], [.inr (.inr (some 10)), .inr (.inr (some 34)), .inr (.inr (some 58))], (I1, L, R, Y), 0, 0) (fun _ => rfl) ?_
        refine cl_G_gr rfl (cl_T_K (cl_10 hP1.1)) rfl rfl rfl e4 ?_
        refine yi_G_run 1 (43, [(5, .inl j), (4, .inl be), (3, .inl bw), (2, .inl z1), (0, .inr (.inr (some 10))), (1, .inl x)], [.inl j, .inr (.inr (some q3)), .inr (.inr (some 34)), .inr (.inr (some 58))], (I1, L, R, Y), 0, 0) (fun _ => rfl) ?_
        refine cl_G_iald rfl t5 (by omega) (by omega) ?_
        refine yi_G_callv rfl rfl (cl_rcv (cl_34 hP1.1) rfl) rfl (k_wordRow d (by omega) hP1.1 (cl_34 hP1.1) ) ?_
        rintro _ ⟨q8, rfl, t8⟩
        show yi_G zi_Ms d zi_m185 (47, [(5, .inl j), (4, .inl be), (3, .inl bw), (2, .inl z1), (0, .inr (.inr (some 10))), (1, .inl x)], [.inr (.inr (some q8)), .inr (.inr (some 58))], (I1, L, R, Y), 0, 0) _
        refine yi_G_callv rfl rfl (cl_rcv (cl_58 hP1.1) rfl) rfl (k_sizeWith d (by omega) hP1.1 (cl_58 hP1.1) t8 ) ?_
        rintro _ ⟨z9, rfl⟩
        show yi_G zi_Ms d zi_m185 (50, [(5, .inl j), (4, .inl be), (3, .inl bw), (2, .inl z1), (0, .inr (.inr (some 10))), (1, .inl x)], [.inl z9], (I1, L, R, Y), 0, 0) _
        refine yi_G_run 3 (54, [(6, .inl z9), (5, .inl j), (4, .inl be), (3, .inl bw), (2, .inl z1), (0, .inr (.inr (some 10))), (1, .inl x)], [.inl (-1), .inl bw], (I1, L, R, Y), 0, 0) (fun _ => rfl) ?_
        by_cases h10 : bw = (-1)
        · refine yi_G_if2 true rfl (yi_eq_t h10) ?_
          refine yi_G_run 1 (79, [(6, .inl z9), (5, .inl j), (4, .inl be), (3, .inl bw), (2, .inl z1), (0, .inr (.inr (some 10))), (1, .inl x)], [.inr (.inr (some 10))], (I1, L, R, Y), 0, 0) (fun _ => rfl) ?_
          refine cl_G_gr rfl (cl_T_K (cl_10 hP1.1)) rfl rfl rfl e4 ?_
          refine yi_G_run 1 (84, [(6, .inl z9), (5, .inl j), (4, .inl be), (3, .inl bw), (2, .inl z1), (0, .inr (.inr (some 10))), (1, .inl x)], [.inl j, .inr (.inr (some q3))], (I1, L, R, Y), 0, 0) (fun _ => rfl) ?_
          refine cl_G_iald rfl t5 (by omega) (by omega) ?_
          refine yi_G_run 3 (90, [(4, .inl z9), (3, .inl (I1 q3 (j.toNat))), (6, .inl z9), (5, .inl j), (2, .inl z1), (0, .inr (.inr (some 10))), (1, .inl x)], [], (I1, L, R, Y), 0, 0) (fun _ => rfl) ?_
          refine yi_G_iinc [(5, .inl (j + 1)), (4, .inl z9), (3, .inl (I1 q3 (j.toNat))), (6, .inl z9), (2, .inl z1), (0, .inr (.inr (some 10))), (1, .inl x)] rfl rfl rfl (by rw [show yi_w (j + 1) = j + 1 from (yi_wn (by omega) (by omega)).trans (by omega)]; rfl) ?_
          refine yi_G_run 1 (13, [(5, .inl (j + 1)), (4, .inl z9), (3, .inl (I1 q3 (j.toNat))), (6, .inl z9), (2, .inl z1), (0, .inr (.inr (some 10))), (1, .inl x)], [], (I1, L, R, Y), 0, 0) (fun _ => rfl) ?_
          refine yi_G_al (al := [(5, .inl (j + 1)), (4, .inl z9), (3, .inl (I1 q3 (j.toNat))), (2, .inl z1), (0, .inr (.inr (some 10))), (1, .inl x)]) (show ([5, 4, 3, 2, 0, 1] : List Nat).Nodup by decide) (show ([5, 4, 3, 6, 2, 0, 1] : List Nat).Nodup by decide) (yi_mc (List.mem_of_getElem? (i := 0) rfl) (yi_mc (List.mem_of_getElem? (i := 1) rfl) (yi_mc (List.mem_of_getElem? (i := 2) rfl) (yi_mc (List.mem_of_getElem? (i := 4) rfl) (yi_mc (List.mem_of_getElem? (i := 5) rfl) (yi_mc (List.mem_of_getElem? (i := 6) rfl) yi_mn)))))) ?_
          exact ih13 _ (by omega) (j + 1) z9 (I1 q3 (j.toNat)) (by omega) rfl
        · refine yi_G_if2 false rfl (yi_eq_f h10) ?_
          refine yi_G_run 1 (58, [(6, .inl z9), (5, .inl j), (4, .inl be), (3, .inl bw), (2, .inl z1), (0, .inr (.inr (some 10))), (1, .inl x)], [.inl x], (I1, L, R, Y), 0, 0) (fun _ => rfl) ?_
          by_cases h11 : x = 0
          · refine yi_G_if1 true rfl (yi_eq_t h11) ?_
            refine yi_G_run 2 (75, [(6, .inl z9), (5, .inl j), (4, .inl be), (3, .inl bw), (2, .inl z1), (0, .inr (.inr (some 10))), (1, .inl x)], [.inl be, .inl z9], (I1, L, R, Y), 0, 0) (fun _ => rfl) ?_
            by_cases h12 : z9 ≤ be
            · refine yi_G_if2 true rfl (yi_le_t h12) ?_
              refine yi_G_iinc [(5, .inl (j + 1)), (6, .inl z9), (4, .inl be), (3, .inl bw), (2, .inl z1), (0, .inr (.inr (some 10))), (1, .inl x)] rfl rfl rfl (by rw [show yi_w (j + 1) = j + 1 from (yi_wn (by omega) (by omega)).trans (by omega)]; rfl) ?_
              refine yi_G_run 1 (13, [(5, .inl (j + 1)), (6, .inl z9), (4, .inl be), (3, .inl bw), (2, .inl z1), (0, .inr (.inr (some 10))), (1, .inl x)], [], (I1, L, R, Y), 0, 0) (fun _ => rfl) ?_
              refine yi_G_al (al := [(5, .inl (j + 1)), (4, .inl be), (3, .inl bw), (2, .inl z1), (0, .inr (.inr (some 10))), (1, .inl x)]) (show ([5, 4, 3, 2, 0, 1] : List Nat).Nodup by decide) (show ([5, 6, 4, 3, 2, 0, 1] : List Nat).Nodup by decide) (yi_mc (List.mem_of_getElem? (i := 0) rfl) (yi_mc (List.mem_of_getElem? (i := 2) rfl) (yi_mc (List.mem_of_getElem? (i := 3) rfl) (yi_mc (List.mem_of_getElem? (i := 4) rfl) (yi_mc (List.mem_of_getElem? (i := 5) rfl) (yi_mc (List.mem_of_getElem? (i := 6) rfl) yi_mn)))))) ?_
              exact ih13 _ (by omega) (j + 1) be bw (by omega) rfl
            · refine yi_G_if2 false rfl (yi_le_f h12) ?_
              refine yi_G_run 1 (79, [(6, .inl z9), (5, .inl j), (4, .inl be), (3, .inl bw), (2, .inl z1), (0, .inr (.inr (some 10))), (1, .inl x)], [.inr (.inr (some 10))], (I1, L, R, Y), 0, 0) (fun _ => rfl) ?_
              refine cl_G_gr rfl (cl_T_K (cl_10 hP1.1)) rfl rfl rfl e4 ?_
              refine yi_G_run 1 (84, [(6, .inl z9), (5, .inl j), (4, .inl be), (3, .inl bw), (2, .inl z1), (0, .inr (.inr (some 10))), (1, .inl x)], [.inl j, .inr (.inr (some q3))], (I1, L, R, Y), 0, 0) (fun _ => rfl) ?_
              refine cl_G_iald rfl t5 (by omega) (by omega) ?_
              refine yi_G_run 3 (90, [(4, .inl z9), (3, .inl (I1 q3 (j.toNat))), (6, .inl z9), (5, .inl j), (2, .inl z1), (0, .inr (.inr (some 10))), (1, .inl x)], [], (I1, L, R, Y), 0, 0) (fun _ => rfl) ?_
              refine yi_G_iinc [(5, .inl (j + 1)), (4, .inl z9), (3, .inl (I1 q3 (j.toNat))), (6, .inl z9), (2, .inl z1), (0, .inr (.inr (some 10))), (1, .inl x)] rfl rfl rfl (by rw [show yi_w (j + 1) = j + 1 from (yi_wn (by omega) (by omega)).trans (by omega)]; rfl) ?_
              refine yi_G_run 1 (13, [(5, .inl (j + 1)), (4, .inl z9), (3, .inl (I1 q3 (j.toNat))), (6, .inl z9), (2, .inl z1), (0, .inr (.inr (some 10))), (1, .inl x)], [], (I1, L, R, Y), 0, 0) (fun _ => rfl) ?_
              refine yi_G_al (al := [(5, .inl (j + 1)), (4, .inl z9), (3, .inl (I1 q3 (j.toNat))), (2, .inl z1), (0, .inr (.inr (some 10))), (1, .inl x)]) (show ([5, 4, 3, 2, 0, 1] : List Nat).Nodup by decide) (show ([5, 4, 3, 6, 2, 0, 1] : List Nat).Nodup by decide) (yi_mc (List.mem_of_getElem? (i := 0) rfl) (yi_mc (List.mem_of_getElem? (i := 1) rfl) (yi_mc (List.mem_of_getElem? (i := 2) rfl) (yi_mc (List.mem_of_getElem? (i := 4) rfl) (yi_mc (List.mem_of_getElem? (i := 5) rfl) (yi_mc (List.mem_of_getElem? (i := 6) rfl) yi_mn)))))) ?_
              exact ih13 _ (by omega) (j + 1) z9 (I1 q3 (j.toNat)) (by omega) rfl
          · refine yi_G_if1 false rfl (yi_eq_f h11) ?_
            refine yi_G_run 2 (65, [(6, .inl z9), (5, .inl j), (4, .inl be), (3, .inl bw), (2, .inl z1), (0, .inr (.inr (some 10))), (1, .inl x)], [.inl be, .inl z9], (I1, L, R, Y), 0, 0) (fun _ => rfl) ?_
            by_cases h13 : be ≤ z9
            · refine yi_G_if2 true rfl (yi_ge_t h13) ?_
              refine yi_G_iinc [(5, .inl (j + 1)), (6, .inl z9), (4, .inl be), (3, .inl bw), (2, .inl z1), (0, .inr (.inr (some 10))), (1, .inl x)] rfl rfl rfl (by rw [show yi_w (j + 1) = j + 1 from (yi_wn (by omega) (by omega)).trans (by omega)]; rfl) ?_
              refine yi_G_run 1 (13, [(5, .inl (j + 1)), (6, .inl z9), (4, .inl be), (3, .inl bw), (2, .inl z1), (0, .inr (.inr (some 10))), (1, .inl x)], [], (I1, L, R, Y), 0, 0) (fun _ => rfl) ?_
              refine yi_G_al (al := [(5, .inl (j + 1)), (4, .inl be), (3, .inl bw), (2, .inl z1), (0, .inr (.inr (some 10))), (1, .inl x)]) (show ([5, 4, 3, 2, 0, 1] : List Nat).Nodup by decide) (show ([5, 6, 4, 3, 2, 0, 1] : List Nat).Nodup by decide) (yi_mc (List.mem_of_getElem? (i := 0) rfl) (yi_mc (List.mem_of_getElem? (i := 2) rfl) (yi_mc (List.mem_of_getElem? (i := 3) rfl) (yi_mc (List.mem_of_getElem? (i := 4) rfl) (yi_mc (List.mem_of_getElem? (i := 5) rfl) (yi_mc (List.mem_of_getElem? (i := 6) rfl) yi_mn)))))) ?_
              exact ih13 _ (by omega) (j + 1) be bw (by omega) rfl
            · refine yi_G_if2 false rfl (yi_ge_f h13) ?_
              refine yi_G_run 2 (79, [(6, .inl z9), (5, .inl j), (4, .inl be), (3, .inl bw), (2, .inl z1), (0, .inr (.inr (some 10))), (1, .inl x)], [.inr (.inr (some 10))], (I1, L, R, Y), 0, 0) (fun _ => rfl) ?_
              refine cl_G_gr rfl (cl_T_K (cl_10 hP1.1)) rfl rfl rfl e4 ?_
              refine yi_G_run 1 (84, [(6, .inl z9), (5, .inl j), (4, .inl be), (3, .inl bw), (2, .inl z1), (0, .inr (.inr (some 10))), (1, .inl x)], [.inl j, .inr (.inr (some q3))], (I1, L, R, Y), 0, 0) (fun _ => rfl) ?_
              refine cl_G_iald rfl t5 (by omega) (by omega) ?_
              refine yi_G_run 3 (90, [(4, .inl z9), (3, .inl (I1 q3 (j.toNat))), (6, .inl z9), (5, .inl j), (2, .inl z1), (0, .inr (.inr (some 10))), (1, .inl x)], [], (I1, L, R, Y), 0, 0) (fun _ => rfl) ?_
              refine yi_G_iinc [(5, .inl (j + 1)), (4, .inl z9), (3, .inl (I1 q3 (j.toNat))), (6, .inl z9), (2, .inl z1), (0, .inr (.inr (some 10))), (1, .inl x)] rfl rfl rfl (by rw [show yi_w (j + 1) = j + 1 from (yi_wn (by omega) (by omega)).trans (by omega)]; rfl) ?_
              refine yi_G_run 1 (13, [(5, .inl (j + 1)), (4, .inl z9), (3, .inl (I1 q3 (j.toNat))), (6, .inl z9), (2, .inl z1), (0, .inr (.inr (some 10))), (1, .inl x)], [], (I1, L, R, Y), 0, 0) (fun _ => rfl) ?_
              refine yi_G_al (al := [(5, .inl (j + 1)), (4, .inl z9), (3, .inl (I1 q3 (j.toNat))), (2, .inl z1), (0, .inr (.inr (some 10))), (1, .inl x)]) (show ([5, 4, 3, 2, 0, 1] : List Nat).Nodup by decide) (show ([5, 4, 3, 6, 2, 0, 1] : List Nat).Nodup by decide) (yi_mc (List.mem_of_getElem? (i := 0) rfl) (yi_mc (List.mem_of_getElem? (i := 1) rfl) (yi_mc (List.mem_of_getElem? (i := 2) rfl) (yi_mc (List.mem_of_getElem? (i := 4) rfl) (yi_mc (List.mem_of_getElem? (i := 5) rfl) (yi_mc (List.mem_of_getElem? (i := 6) rfl) yi_mn)))))) ?_
              exact ih13 _ (by omega) (j + 1) z9 (I1 q3 (j.toNat)) (by omega) rfl
  exact pt13 _ 0 0 (-1) (by omega) rfl
theorem k_shortedA (D : Nat) (hD : 6 ≤ D) {E : List Nat} {I L : cl_I} {R : cl_Rr} {Y : cl_Y} (hC : cl_C E I L R Y) : yi_E zi_Ms D 174 [.inr (.inr (some 10))] (I, L, R, Y) (fun r => ∃ z, r = (some (.inl z), (I, L, R, Y), 0, 0)) := by
  obtain ⟨d, rfl⟩ : ∃ d, D = d + 1 := ⟨D - 1, by omega⟩
  refine yi_E_of (M := zi_m174) rfl rfl ?_
  have hP : cl_P E I L R Y I L R Y := cl_P_r hC
  show yi_G zi_Ms d zi_m174 (0, [(0, .inr (.inr (some 10)))], [], (I, L, R, Y), 0, 0) _
  refine yi_G_run 1 (1, [(0, .inr (.inr (some 10)))], [.inr (.inr (some 10))], (I, L, R, Y), 0, 0) (fun _ => rfl) ?_
  obtain ⟨q1, e2, t3⟩ := cl_rf hP.1 (cl_10 hP.1) (k := 16) rfl
  refine cl_G_gr rfl (cl_T_K (cl_10 hP.1)) rfl rfl rfl e2 ?_
  have b4 := cl_rd hP.1 t3 (k := 14) (lo := 1) (hi := 6) rfl
  refine cl_G_gi rfl (cl_T_K t3) rfl rfl rfl ?_
  refine yi_G_run 1 (8, [(0, .inr (.inr (some 10)))], [.inr (.inr (some 10)), .inl (I q1 14)], (I, L, R, Y), 0, 0) (fun _ => rfl) ?_
  obtain ⟨q5, e6, t7⟩ := cl_rf hP.1 (cl_10 hP.1) (k := 6) rfl
  refine cl_G_gr rfl (cl_T_K (cl_10 hP.1)) rfl rfl rfl e6 ?_
  refine cl_G_gi rfl (cl_T_K t7) rfl rfl rfl ?_
  refine yi_G_run 8 (22, [(3, .inl 0), (2, .inl (-1)), (1, .inl (yi_w ((yi_w ((I q1 14) - (I q5 7))) + 1))), (0, .inr (.inr (some 10)))], [], (I, L, R, Y), 0, 0) (fun _ => rfl) ?_
  have pt22 : ∀ (m_ : Nat) (j : Int) (y : Int), (0 ≤ j ∧ j ≤ 20) → (20 - j).toNat = m_ → yi_G zi_Ms d zi_m174 (22, [(3, .inl j), (2, .inl y), (1, .inl (yi_w ((yi_w ((I q1 14) - (I q5 7))) + 1))), (0, .inr (.inr (some 10)))], [], (I, L, R, Y), 0, 0) (fun r => ∃ z, r = (some (.inl z), (I, L, R, Y), 0, 0)) := by
    intro m22
    induction m22 using Nat.strongRecOn with
    | _ m22 ih22 =>
    intro j y j0 hm22
    refine yi_G_run 2 (24, [(3, .inl j), (2, .inl y), (1, .inl (yi_w ((yi_w ((I q1 14) - (I q5 7))) + 1))), (0, .inr (.inr (some 10)))], [.inr (.inr (some 10)), .inl j], (I, L, R, Y), 0, 0) (fun _ => rfl) ?_
    refine cl_G_gr rfl (cl_T_K (cl_10 hP.1)) rfl rfl rfl e6 ?_
    have b8 := cl_rd hP.1 t7 (k := 8) (lo := 0) (hi := 20) rfl
    refine cl_G_gi rfl (cl_T_K t7) rfl rfl rfl ?_
    by_cases h9 : (I q5 8) ≤ j
    · refine yi_G_if2 true rfl (yi_ge_t h9) ?_
      refine yi_G_run 1 (82, [(3, .inl j), (2, .inl y), (1, .inl (yi_w ((yi_w ((I q1 14) - (I q5 7))) + 1))), (0, .inr (.inr (some 10)))], [.inl y], (I, L, R, Y), 0, 0) (fun _ => rfl) ?_
      exact yi_G_reti rfl rfl (⟨_, rfl⟩)
    · refine yi_G_if2 false rfl (yi_ge_f h9) ?_
      refine yi_G_run 1 (34, [(3, .inl j), (2, .inl y), (1, .inl (yi_w ((yi_w ((I q1 14) - (I q5 7))) + 1))), (0, .inr (.inr (some 10)))], [.inr (.inr (some 10))], (I, L, R, Y), 0, 0) (fun _ => rfl) ?_
      refine cl_G_gr rfl (cl_T_K (cl_10 hP.1)) rfl rfl rfl e6 ?_
      refine yi_G_run 1 (38, [(3, .inl j), (2, .inl y), (1, .inl (yi_w ((yi_w ((I q1 14) - (I q5 7))) + 1))), (0, .inr (.inr (some 10)))], [.inl j, .inr (.inr (some q5))], (I, L, R, Y), 0, 0) (fun _ => rfl) ?_
      refine yi_G_callv rfl rfl (cl_rcv t7 rfl) rfl (k_promisedTall d (by omega) hP.1 t7 ) ?_
      rintro _ ⟨z10, rfl⟩
      show yi_G zi_Ms d zi_m174 (41, [(3, .inl j), (2, .inl y), (1, .inl (yi_w ((yi_w ((I q1 14) - (I q5 7))) + 1))), (0, .inr (.inr (some 10)))], [.inl z10], (I, L, R, Y), 0, 0) _
      refine yi_G_run 3 (46, [(4, .inl z10), (3, .inl j), (2, .inl y), (1, .inl (yi_w ((yi_w ((I q1 14) - (I q5 7))) + 1))), (0, .inr (.inr (some 10)))], [.inl y, .inl z10], (I, L, R, Y), 0, 0) (fun _ => rfl) ?_
      by_cases h11 : z10 ≤ y
      · refine yi_G_if2 true rfl (yi_le_t h11) ?_
        refine yi_G_iinc [(3, .inl (j + 1)), (4, .inl z10), (2, .inl y), (1, .inl (yi_w ((yi_w ((I q1 14) - (I q5 7))) + 1))), (0, .inr (.inr (some 10)))] rfl rfl rfl (by rw [show yi_w (j + 1) = j + 1 from (yi_wn (by omega) (by omega)).trans (by omega)]; rfl) ?_
        refine yi_G_run 1 (22, [(3, .inl (j + 1)), (4, .inl z10), (2, .inl y), (1, .inl (yi_w ((yi_w ((I q1 14) - (I q5 7))) + 1))), (0, .inr (.inr (some 10)))], [], (I, L, R, Y), 0, 0) (fun _ => rfl) ?_
        refine yi_G_al (al := [(3, .inl (j + 1)), (2, .inl y), (1, .inl (yi_w ((yi_w ((I q1 14) - (I q5 7))) + 1))), (0, .inr (.inr (some 10)))]) (show ([3, 2, 1, 0] : List Nat).Nodup by decide) (show ([3, 4, 2, 1, 0] : List Nat).Nodup by decide) (yi_mc (List.mem_of_getElem? (i := 0) rfl) (yi_mc (List.mem_of_getElem? (i := 2) rfl) (yi_mc (List.mem_of_getElem? (i := 3) rfl) (yi_mc (List.mem_of_getElem? (i := 4) rfl) yi_mn)))) ?_
        exact ih22 _ (by omega) (j + 1) y (by omega) rfl
      · refine yi_G_if2 false rfl (yi_le_f h11) ?_
        refine yi_G_run 1 (50, [(4, .inl z10), (3, .inl j), (2, .inl y), (1, .inl (yi_w ((yi_w ((I q1 14) - (I q5 7))) + 1))), (0, .inr (.inr (some 10)))], [.inr (.inr (some 10))], (I, L, R, Y), 0, 0) (fun _ => rfl) ?_
        refine cl_G_gr rfl (cl_T_K (cl_10 hP.1)) rfl rfl rfl e6 ?_
        refine yi_G_run 1 (55, [(4, .inl z10), (3, .inl j), (2, .inl y), (1, .inl (yi_w ((yi_w ((I q1 14) - (I q5 7))) + 1))), (0, .inr (.inr (some 10)))], [.inl z10, .inr (.inr (some q5))], (I, L, R, Y), 0, 0) (fun _ => rfl) ?_
        refine yi_G_callv rfl rfl (cl_rcv t7 rfl) rfl (k_promisesFrom d (by omega) hP.1 t7 ) ?_
        rintro _ ⟨z12, rfl⟩
        show yi_G zi_Ms d zi_m174 (58, [(4, .inl z10), (3, .inl j), (2, .inl y), (1, .inl (yi_w ((yi_w ((I q1 14) - (I q5 7))) + 1))), (0, .inr (.inr (some 10)))], [.inl z12], (I, L, R, Y), 0, 0) _
        refine yi_G_run 1 (59, [(4, .inl z10), (3, .inl j), (2, .inl y), (1, .inl (yi_w ((yi_w ((I q1 14) - (I q5 7))) + 1))), (0, .inr (.inr (some 10)))], [.inr (.inr (some 10)), .inl z12], (I, L, R, Y), 0, 0) (fun _ => rfl) ?_
        refine cl_G_gr rfl (cl_T_K (cl_10 hP.1)) rfl rfl rfl e2 ?_
        refine yi_G_run 1 (64, [(4, .inl z10), (3, .inl j), (2, .inl y), (1, .inl (yi_w ((yi_w ((I q1 14) - (I q5 7))) + 1))), (0, .inr (.inr (some 10)))], [.inl z10, .inr (.inr (some q1)), .inl z12], (I, L, R, Y), 0, 0) (fun _ => rfl) ?_
        refine yi_G_callv rfl rfl (cl_rcv t3 rfl) rfl (k_peopleFrom d (by omega) hP.1 t3 ) ?_
        rintro _ ⟨z13, rfl⟩
        show yi_G zi_Ms d zi_m174 (67, [(4, .inl z10), (3, .inl j), (2, .inl y), (1, .inl (yi_w ((yi_w ((I q1 14) - (I q5 7))) + 1))), (0, .inr (.inr (some 10)))], [.inl z13, .inl z12], (I, L, R, Y), 0, 0) _
        refine yi_G_run 2 (69, [(4, .inl z10), (3, .inl j), (2, .inl y), (1, .inl (yi_w ((yi_w ((I q1 14) - (I q5 7))) + 1))), (0, .inr (.inr (some 10)))], [.inl (yi_w (z13 * (yi_w ((yi_w ((I q1 14) - (I q5 7))) + 1)))), .inl z12], (I, L, R, Y), 0, 0) (fun _ => rfl) ?_
        by_cases h14 : z12 ≤ (yi_w (z13 * (yi_w ((yi_w ((I q1 14) - (I q5 7))) + 1))))
        · refine yi_G_if2 true rfl (yi_le_t h14) ?_
          refine yi_G_iinc [(3, .inl (j + 1)), (4, .inl z10), (2, .inl y), (1, .inl (yi_w ((yi_w ((I q1 14) - (I q5 7))) + 1))), (0, .inr (.inr (some 10)))] rfl rfl rfl (by rw [show yi_w (j + 1) = j + 1 from (yi_wn (by omega) (by omega)).trans (by omega)]; rfl) ?_
          refine yi_G_run 1 (22, [(3, .inl (j + 1)), (4, .inl z10), (2, .inl y), (1, .inl (yi_w ((yi_w ((I q1 14) - (I q5 7))) + 1))), (0, .inr (.inr (some 10)))], [], (I, L, R, Y), 0, 0) (fun _ => rfl) ?_
          refine yi_G_al (al := [(3, .inl (j + 1)), (2, .inl y), (1, .inl (yi_w ((yi_w ((I q1 14) - (I q5 7))) + 1))), (0, .inr (.inr (some 10)))]) (show ([3, 2, 1, 0] : List Nat).Nodup by decide) (show ([3, 4, 2, 1, 0] : List Nat).Nodup by decide) (yi_mc (List.mem_of_getElem? (i := 0) rfl) (yi_mc (List.mem_of_getElem? (i := 2) rfl) (yi_mc (List.mem_of_getElem? (i := 3) rfl) (yi_mc (List.mem_of_getElem? (i := 4) rfl) yi_mn)))) ?_
          exact ih22 _ (by omega) (j + 1) y (by omega) rfl
        · refine yi_G_if2 false rfl (yi_le_f h14) ?_
          refine yi_G_run 2 (75, [(2, .inl z10), (4, .inl z10), (3, .inl j), (1, .inl (yi_w ((yi_w ((I q1 14) - (I q5 7))) + 1))), (0, .inr (.inr (some 10)))], [], (I, L, R, Y), 0, 0) (fun _ => rfl) ?_
          refine yi_G_iinc [(3, .inl (j + 1)), (2, .inl z10), (4, .inl z10), (1, .inl (yi_w ((yi_w ((I q1 14) - (I q5 7))) + 1))), (0, .inr (.inr (some 10)))] rfl rfl rfl (by rw [show yi_w (j + 1) = j + 1 from (yi_wn (by omega) (by omega)).trans (by omega)]; rfl) ?_
          refine yi_G_run 1 (22, [(3, .inl (j + 1)), (2, .inl z10), (4, .inl z10), (1, .inl (yi_w ((yi_w ((I q1 14) - (I q5 7))) + 1))), (0, .inr (.inr (some 10)))], [], (I, L, R, Y), 0, 0) (fun _ => rfl) ?_
          refine yi_G_al (al := [(3, .inl (j + 1)), (2, .inl z10), (1, .inl (yi_w ((yi_w ((I q1 14) - (I q5 7))) + 1))), (0, .inr (.inr (some 10)))]) (show ([3, 2, 1, 0] : List Nat).Nodup by decide) (show ([3, 2, 4, 1, 0] : List Nat).Nodup by decide) (yi_mc (List.mem_of_getElem? (i := 0) rfl) (yi_mc (List.mem_of_getElem? (i := 1) rfl) (yi_mc (List.mem_of_getElem? (i := 3) rfl) (yi_mc (List.mem_of_getElem? (i := 4) rfl) yi_mn)))) ?_
          exact ih22 _ (by omega) (j + 1) z10 (by omega) rfl
  exact pt22 _ 0 (-1) (by omega) rfl
theorem k_whyA (D : Nat) (hD : 6 ≤ D) {E : List Nat} {I L : cl_I} {R : cl_Rr} {Y : cl_Y} (hC : cl_C E I L R Y) : yi_E zi_Ms D 184 [.inr (.inr (some 10))] (I, L, R, Y) (fun r => ∃ z, ∃ I', ∃ L', ∃ R', ∃ Y', ∃ nc ns, r = (some (.inl z), (I', L', R', Y'), nc, ns) ∧ cl_P E I L R Y I' L' R' Y' ∧ nc ≤ 2 ∧ ns ≤ 4609) := by
  obtain ⟨d, rfl⟩ : ∃ d, D = d + 1 := ⟨D - 1, by omega⟩
  refine yi_E_of (M := zi_m184) rfl rfl ?_
  have hP : cl_P E I L R Y I L R Y := cl_P_r hC
  show yi_G zi_Ms d zi_m184 (0, [(0, .inr (.inr (some 10)))], [], (I, L, R, Y), 0, 0) _
  refine yi_G_run 1 (1, [(0, .inr (.inr (some 10)))], [.inr (.inr (some 10))], (I, L, R, Y), 0, 0) (fun _ => rfl) ?_
  refine yi_G_callv rfl rfl (cl_rcv (cl_10 hP.1) rfl) rfl (k_gatherAskedA d (by omega) hP.1  ) ?_
  rintro _ ⟨z1, I1, L1, R1, Y1, nc1, ns1, rfl, hQ1, ca1, cb1, hz1⟩
  have hP1 := cl_P_t hP hQ1
  show yi_G zi_Ms d zi_m184 (4, [(0, .inr (.inr (some 10)))], [.inl z1], (I1, L1, R1, Y1), 0 + nc1, 0 + ns1) _
  by_cases h2 : z1 = 0
  · refine yi_G_if1 false rfl (yi_ne_f h2) ?_
    refine yi_G_run 1 (8, [(0, .inr (.inr (some 10)))], [.inl (-1)], (I1, L1, R1, Y1), 0 + nc1, 0 + ns1) (fun _ => rfl) ?_
    exact yi_G_reti rfl rfl (⟨_, _, _, _, _, _, _, rfl, hP1, by omega, by omega⟩)
  · refine yi_G_if1 true rfl (yi_ne_t h2) ?_
    refine yi_G_run 2 (11, [(0, .inr (.inr (some 10)))], [.inr (.inr (some 10)), .inl 1], (I1, L1, R1, Y1), 0 + nc1, 0 + ns1) (fun _ => rfl) ?_
    obtain ⟨q3, e4, t5⟩ := cl_rf hP1.1 (cl_10 hP1.1) (k := 6) rfl
    refine cl_G_gr rfl (cl_T_K (cl_10 hP1.1)) rfl rfl rfl e4 ?_
    have b6 := cl_rd hP1.1 t5 (k := 6) (lo := 0) (hi := 12) rfl
    refine cl_G_gi rfl (cl_T_K t5) rfl rfl rfl ?_
    refine yi_G_run 2 (19, [(0, .inr (.inr (some 10)))], [.inl 1, .inl (yi_shl 1 (I1 q3 6))], (I1, L1, R1, Y1), 0 + nc1, 0 + ns1) (fun _ => rfl) ?_
    have sh := yi_shl1 (s := (I1 q3 6)) (by omega) (by omega)
    refine yi_G_isub rfl ((yi_shl 1 (I1 q3 6)) - 1) (yi_wn (by omega) (by omega)) ?_
    refine yi_G_run 2 (22, [(1, .inl ((yi_shl 1 (I1 q3 6)) - 1)), (0, .inr (.inr (some 10)))], [.inr (.inr (some 10))], (I1, L1, R1, Y1), 0 + nc1, 0 + ns1) (fun _ => rfl) ?_
    obtain ⟨q7, e8, t9⟩ := cl_rf hP1.1 (cl_10 hP1.1) (k := 4) rfl
    refine cl_G_gr rfl (cl_T_K (cl_10 hP1.1)) rfl rfl rfl e8 ?_
    refine yi_G_run 1 (26, [(1, .inl ((yi_shl 1 (I1 q3 6)) - 1)), (0, .inr (.inr (some 10)))], [.inl ((yi_shl 1 (I1 q3 6)) - 1), .inr (.inr (some q7))], (I1, L1, R1, Y1), 0 + nc1, 0 + ns1) (fun _ => rfl) ?_
    refine yi_G_callv rfl rfl (cl_rcv t9 rfl) rfl (k_agree d (by omega) hP1.1 t9 ) ?_
    rintro _ ⟨z10, rfl, hz10, x10a⟩
    show yi_G zi_Ms d zi_m184 (29, [(1, .inl ((yi_shl 1 (I1 q3 6)) - 1)), (0, .inr (.inr (some 10)))], [.inl z10], (I1, L1, R1, Y1), 0 + nc1, 0 + ns1) _
    by_cases h11 : z10 = 0
    · refine yi_G_if1 true rfl (yi_eq_t h11) ?_
      refine yi_G_run 4 (38, [(3, .inl 0), (2, .inl ((yi_shl 1 (I1 q3 6)) - 1)), (1, .inl ((yi_shl 1 (I1 q3 6)) - 1)), (0, .inr (.inr (some 10)))], [], (I1, L1, R1, Y1), 0 + nc1, 0 + ns1) (fun _ => rfl) ?_
      have pt38 : ∀ (m_ : Nat) (j : Int) (y : Int), (0 ≤ j ∧ j ≤ 4096) → (4096 - j).toNat = m_ → yi_G zi_Ms d zi_m184 (38, [(3, .inl j), (2, .inl y), (1, .inl ((yi_shl 1 (I1 q3 6)) - 1)), (0, .inr (.inr (some 10)))], [], (I1, L1, R1, Y1), 0 + nc1, 0 + ns1) (fun r => ∃ z, ∃ I', ∃ L', ∃ R', ∃ Y', ∃ nc ns, r = (some (.inl z), (I', L', R', Y'), nc, ns) ∧ cl_P E I L R Y I' L' R' Y' ∧ nc ≤ 2 ∧ ns ≤ 4609) := by
        intro m38
        induction m38 using Nat.strongRecOn with
        | _ m38 ih38 =>
        intro j y j0 hm38
        refine yi_G_run 2 (40, [(3, .inl j), (2, .inl y), (1, .inl ((yi_shl 1 (I1 q3 6)) - 1)), (0, .inr (.inr (some 10)))], [.inl ((yi_shl 1 (I1 q3 6)) - 1), .inl j], (I1, L1, R1, Y1), 0 + nc1, 0 + ns1) (fun _ => rfl) ?_
        by_cases h12 : ((yi_shl 1 (I1 q3 6)) - 1) < j
        · refine yi_G_if2 true rfl (yi_gt_t h12) ?_
          refine yi_G_run 1 (74, [(3, .inl j), (2, .inl y), (1, .inl ((yi_shl 1 (I1 q3 6)) - 1)), (0, .inr (.inr (some 10)))], [.inl y], (I1, L1, R1, Y1), 0 + nc1, 0 + ns1) (fun _ => rfl) ?_
          exact yi_G_reti rfl rfl (⟨_, _, _, _, _, _, _, rfl, hP1, by omega, by omega⟩)
        · refine yi_G_if2 false rfl (yi_gt_f h12) ?_
          refine yi_G_run 1 (44, [(3, .inl j), (2, .inl y), (1, .inl ((yi_shl 1 (I1 q3 6)) - 1)), (0, .inr (.inr (some 10)))], [.inr (.inr (some 10))], (I1, L1, R1, Y1), 0 + nc1, 0 + ns1) (fun _ => rfl) ?_
          refine cl_G_gr rfl (cl_T_K (cl_10 hP1.1)) rfl rfl rfl e8 ?_
          refine yi_G_run 1 (48, [(3, .inl j), (2, .inl y), (1, .inl ((yi_shl 1 (I1 q3 6)) - 1)), (0, .inr (.inr (some 10)))], [.inl j, .inr (.inr (some q7))], (I1, L1, R1, Y1), 0 + nc1, 0 + ns1) (fun _ => rfl) ?_
          refine yi_G_callv rfl rfl (cl_rcv t9 rfl) rfl (k_agree d (by omega) hP1.1 t9 ) ?_
          rintro _ ⟨z13, rfl, hz13, x13a⟩
          show yi_G zi_Ms d zi_m184 (51, [(3, .inl j), (2, .inl y), (1, .inl ((yi_shl 1 (I1 q3 6)) - 1)), (0, .inr (.inr (some 10)))], [.inl z13], (I1, L1, R1, Y1), 0 + nc1, 0 + ns1) _
          by_cases h14 : z13 = 0
          · refine yi_G_if1 false rfl (yi_ne_f h14) ?_
            refine yi_G_run 1 (55, [(3, .inl j), (2, .inl y), (1, .inl ((yi_shl 1 (I1 q3 6)) - 1)), (0, .inr (.inr (some 10)))], [.inl j], (I1, L1, R1, Y1), 0 + nc1, 0 + ns1) (fun _ => rfl) ?_
            refine yi_G_calls rfl rfl (k_bitCountI d (by omega) hP1.1  ) ?_
            rintro _ ⟨z15, rfl⟩
            show yi_G zi_Ms d zi_m184 (58, [(3, .inl j), (2, .inl y), (1, .inl ((yi_shl 1 (I1 q3 6)) - 1)), (0, .inr (.inr (some 10)))], [.inl z15], (I1, L1, R1, Y1), 0 + nc1, 0 + ns1) _
            refine yi_G_run 1 (59, [(3, .inl j), (2, .inl y), (1, .inl ((yi_shl 1 (I1 q3 6)) - 1)), (0, .inr (.inr (some 10)))], [.inl y, .inl z15], (I1, L1, R1, Y1), 0 + nc1, 0 + ns1) (fun _ => rfl) ?_
            refine yi_G_calls rfl rfl (k_bitCountI d (by omega) hP1.1  ) ?_
            rintro _ ⟨z16, rfl⟩
            show yi_G zi_Ms d zi_m184 (62, [(3, .inl j), (2, .inl y), (1, .inl ((yi_shl 1 (I1 q3 6)) - 1)), (0, .inr (.inr (some 10)))], [.inl z16, .inl z15], (I1, L1, R1, Y1), 0 + nc1, 0 + ns1) _
            by_cases h17 : z16 ≤ z15
            · refine yi_G_if2 true rfl (yi_ge_t h17) ?_
              refine yi_G_iinc [(3, .inl (j + 1)), (2, .inl y), (1, .inl ((yi_shl 1 (I1 q3 6)) - 1)), (0, .inr (.inr (some 10)))] rfl rfl rfl (by rw [show yi_w (j + 1) = j + 1 from (yi_wn (by omega) (by omega)).trans (by omega)]; rfl) ?_
              refine yi_G_run 1 (38, [(3, .inl (j + 1)), (2, .inl y), (1, .inl ((yi_shl 1 (I1 q3 6)) - 1)), (0, .inr (.inr (some 10)))], [], (I1, L1, R1, Y1), 0 + nc1, 0 + ns1) (fun _ => rfl) ?_
              exact ih38 _ (by omega) (j + 1) y (by omega) rfl
            · refine yi_G_if2 false rfl (yi_ge_f h17) ?_
              refine yi_G_run 2 (67, [(2, .inl j), (3, .inl j), (1, .inl ((yi_shl 1 (I1 q3 6)) - 1)), (0, .inr (.inr (some 10)))], [], (I1, L1, R1, Y1), 0 + nc1, 0 + ns1) (fun _ => rfl) ?_
              refine yi_G_iinc [(3, .inl (j + 1)), (2, .inl j), (1, .inl ((yi_shl 1 (I1 q3 6)) - 1)), (0, .inr (.inr (some 10)))] rfl rfl rfl (by rw [show yi_w (j + 1) = j + 1 from (yi_wn (by omega) (by omega)).trans (by omega)]; rfl) ?_
              refine yi_G_run 1 (38, [(3, .inl (j + 1)), (2, .inl j), (1, .inl ((yi_shl 1 (I1 q3 6)) - 1)), (0, .inr (.inr (some 10)))], [], (I1, L1, R1, Y1), 0 + nc1, 0 + ns1) (fun _ => rfl) ?_
              exact ih38 _ (by omega) (j + 1) j (by omega) rfl
          · refine yi_G_if1 true rfl (yi_ne_t h14) ?_
            refine yi_G_iinc [(3, .inl (j + 1)), (2, .inl y), (1, .inl ((yi_shl 1 (I1 q3 6)) - 1)), (0, .inr (.inr (some 10)))] rfl rfl rfl (by rw [show yi_w (j + 1) = j + 1 from (yi_wn (by omega) (by omega)).trans (by omega)]; rfl) ?_
            refine yi_G_run 1 (38, [(3, .inl (j + 1)), (2, .inl y), (1, .inl ((yi_shl 1 (I1 q3 6)) - 1)), (0, .inr (.inr (some 10)))], [], (I1, L1, R1, Y1), 0 + nc1, 0 + ns1) (fun _ => rfl) ?_
            exact ih38 _ (by omega) (j + 1) y (by omega) rfl
      exact pt38 _ 0 ((yi_shl 1 (I1 q3 6)) - 1) (by omega) rfl
    · refine yi_G_if1 false rfl (yi_eq_f h11) ?_
      refine yi_G_run 1 (33, [(1, .inl ((yi_shl 1 (I1 q3 6)) - 1)), (0, .inr (.inr (some 10)))], [.inl (-1)], (I1, L1, R1, Y1), 0 + nc1, 0 + ns1) (fun _ => rfl) ?_
      exact yi_G_reti rfl rfl (⟨_, _, _, _, _, _, _, rfl, hP1, by omega, by omega⟩)
theorem k_struckA (D : Nat) (hD : 6 ≤ D) {E : List Nat} {I L : cl_I} {R : cl_Rr} {Y : cl_Y} (hC : cl_C E I L R Y) : yi_E zi_Ms D 178 [.inr (.inr (some 10))] (I, L, R, Y) (fun r => ∃ z, ∃ I', ∃ L', ∃ R', ∃ Y', ∃ nc ns, r = (some (.inl z), (I', L', R', Y'), nc, ns) ∧ cl_P E I L R Y I' L' R' Y' ∧ nc ≤ 2 ∧ ns ≤ 4609) := by
  obtain ⟨d, rfl⟩ : ∃ d, D = d + 1 := ⟨D - 1, by omega⟩
  refine yi_E_of (M := zi_m178) rfl rfl ?_
  have hP : cl_P E I L R Y I L R Y := cl_P_r hC
  show yi_G zi_Ms d zi_m178 (0, [(0, .inr (.inr (some 10)))], [], (I, L, R, Y), 0, 0) _
  refine yi_G_run 1 (1, [(0, .inr (.inr (some 10)))], [.inr (.inr (some 10))], (I, L, R, Y), 0, 0) (fun _ => rfl) ?_
  refine yi_G_callv rfl rfl (cl_rcv (cl_10 hP.1) rfl) rfl (k_gatherAskedA d (by omega) hP.1  ) ?_
  rintro _ ⟨z1, I1, L1, R1, Y1, nc1, ns1, rfl, hQ1, ca1, cb1, hz1⟩
  have hP1 := cl_P_t hP hQ1
  show yi_G zi_Ms d zi_m178 (4, [(0, .inr (.inr (some 10)))], [.inl z1], (I1, L1, R1, Y1), 0 + nc1, 0 + ns1) _
  by_cases h2 : z1 = 0
  · refine yi_G_if1 false rfl (yi_ne_f h2) ?_
    refine yi_G_run 1 (8, [(0, .inr (.inr (some 10)))], [.inl (-1)], (I1, L1, R1, Y1), 0 + nc1, 0 + ns1) (fun _ => rfl) ?_
    exact yi_G_reti rfl rfl (⟨_, _, _, _, _, _, _, rfl, hP1, by omega, by omega⟩)
  · refine yi_G_if1 true rfl (yi_ne_t h2) ?_
    refine yi_G_run 2 (11, [(0, .inr (.inr (some 10)))], [.inr (.inr (some 10)), .inl 1], (I1, L1, R1, Y1), 0 + nc1, 0 + ns1) (fun _ => rfl) ?_
    obtain ⟨q3, e4, t5⟩ := cl_rf hP1.1 (cl_10 hP1.1) (k := 6) rfl
    refine cl_G_gr rfl (cl_T_K (cl_10 hP1.1)) rfl rfl rfl e4 ?_
    have b6 := cl_rd hP1.1 t5 (k := 6) (lo := 0) (hi := 12) rfl
    refine cl_G_gi rfl (cl_T_K t5) rfl rfl rfl ?_
    refine yi_G_run 2 (19, [(0, .inr (.inr (some 10)))], [.inl 1, .inl (yi_shl 1 (I1 q3 6))], (I1, L1, R1, Y1), 0 + nc1, 0 + ns1) (fun _ => rfl) ?_
    have sh := yi_shl1 (s := (I1 q3 6)) (by omega) (by omega)
    refine yi_G_isub rfl ((yi_shl 1 (I1 q3 6)) - 1) (yi_wn (by omega) (by omega)) ?_
    refine yi_G_run 2 (22, [(1, .inl ((yi_shl 1 (I1 q3 6)) - 1)), (0, .inr (.inr (some 10)))], [.inr (.inr (some 10))], (I1, L1, R1, Y1), 0 + nc1, 0 + ns1) (fun _ => rfl) ?_
    refine yi_G_callv rfl rfl (cl_rcv (cl_10 hP1.1) rfl) rfl (k_grandSayingsA d (by omega) hP1.1  ) ?_
    rintro _ ⟨z7, rfl⟩
    show yi_G zi_Ms d zi_m178 (25, [(1, .inl ((yi_shl 1 (I1 q3 6)) - 1)), (0, .inr (.inr (some 10)))], [.inl z7], (I1, L1, R1, Y1), 0 + nc1, 0 + ns1) _
    refine yi_G_run 5 (31, [(4, .inl 0), (3, .inl (-1)), (2, .inl z7), (1, .inl ((yi_shl 1 (I1 q3 6)) - 1)), (0, .inr (.inr (some 10)))], [], (I1, L1, R1, Y1), 0 + nc1, 0 + ns1) (fun _ => rfl) ?_
    have pt31 : ∀ (m_ : Nat) (j : Int) (y : Int), (0 ≤ j ∧ j ≤ 4096) → (4096 - j).toNat = m_ → yi_G zi_Ms d zi_m178 (31, [(4, .inl j), (3, .inl y), (2, .inl z7), (1, .inl ((yi_shl 1 (I1 q3 6)) - 1)), (0, .inr (.inr (some 10)))], [], (I1, L1, R1, Y1), 0 + nc1, 0 + ns1) (fun r => ∃ z, ∃ I', ∃ L', ∃ R', ∃ Y', ∃ nc ns, r = (some (.inl z), (I', L', R', Y'), nc, ns) ∧ cl_P E I L R Y I' L' R' Y' ∧ nc ≤ 2 ∧ ns ≤ 4609) := by
      intro m31
      induction m31 using Nat.strongRecOn with
      | _ m31 ih31 =>
      intro j y j0 hm31
      refine yi_G_run 2 (34, [(4, .inl j), (3, .inl y), (2, .inl z7), (1, .inl ((yi_shl 1 (I1 q3 6)) - 1)), (0, .inr (.inr (some 10)))], [.inl ((yi_shl 1 (I1 q3 6)) - 1), .inl j], (I1, L1, R1, Y1), 0 + nc1, 0 + ns1) (fun _ => rfl) ?_
      by_cases h8 : ((yi_shl 1 (I1 q3 6)) - 1) < j
      · refine yi_G_if2 true rfl (yi_gt_t h8) ?_
        refine yi_G_run 1 (97, [(4, .inl j), (3, .inl y), (2, .inl z7), (1, .inl ((yi_shl 1 (I1 q3 6)) - 1)), (0, .inr (.inr (some 10)))], [.inl y], (I1, L1, R1, Y1), 0 + nc1, 0 + ns1) (fun _ => rfl) ?_
        exact yi_G_reti rfl rfl (⟨_, _, _, _, _, _, _, rfl, hP1, by omega, by omega⟩)
      · refine yi_G_if2 false rfl (yi_gt_f h8) ?_
        refine yi_G_run 2 (39, [(4, .inl j), (3, .inl y), (2, .inl z7), (1, .inl ((yi_shl 1 (I1 q3 6)) - 1)), (0, .inr (.inr (some 10)))], [.inl (-1), .inl y], (I1, L1, R1, Y1), 0 + nc1, 0 + ns1) (fun _ => rfl) ?_
        by_cases h9 : y = (-1)
        · refine yi_G_if2 true rfl (yi_eq_t h9) ?_
          refine yi_G_run 4 (63, [(5, .inl 1), (4, .inl j), (3, .inl y), (2, .inl z7), (1, .inl ((yi_shl 1 (I1 q3 6)) - 1)), (0, .inr (.inr (some 10)))], [.inl 1], (I1, L1, R1, Y1), 0 + nc1, 0 + ns1) (fun _ => rfl) ?_
          refine yi_G_if1 false rfl (by decide) ?_
          refine yi_G_run 3 (70, [(5, .inl 1), (4, .inl j), (3, .inl y), (2, .inl z7), (1, .inl ((yi_shl 1 (I1 q3 6)) - 1)), (0, .inr (.inr (some 10)))], [.inl (yi_iand j z7)], (I1, L1, R1, Y1), 0 + nc1, 0 + ns1) (fun _ => rfl) ?_
          by_cases h10 : (yi_iand j z7) = 0
          · refine yi_G_if1 false rfl (yi_ne_f h10) ?_
            refine yi_G_run 1 (74, [(5, .inl 1), (4, .inl j), (3, .inl y), (2, .inl z7), (1, .inl ((yi_shl 1 (I1 q3 6)) - 1)), (0, .inr (.inr (some 10)))], [.inr (.inr (some 10))], (I1, L1, R1, Y1), 0 + nc1, 0 + ns1) (fun _ => rfl) ?_
            obtain ⟨q11, e12, t13⟩ := cl_rf hP1.1 (cl_10 hP1.1) (k := 4) rfl
            refine cl_G_gr rfl (cl_T_K (cl_10 hP1.1)) rfl rfl rfl e12 ?_
            refine yi_G_run 3 (81, [(5, .inl 1), (4, .inl j), (3, .inl y), (2, .inl z7), (1, .inl ((yi_shl 1 (I1 q3 6)) - 1)), (0, .inr (.inr (some 10)))], [.inl (yi_ixor ((yi_shl 1 (I1 q3 6)) - 1) j), .inr (.inr (some q11))], (I1, L1, R1, Y1), 0 + nc1, 0 + ns1) (fun _ => rfl) ?_
            refine yi_G_callv rfl rfl (cl_rcv t13 rfl) rfl (k_agree d (by omega) hP1.1 t13 ) ?_
            rintro _ ⟨z14, rfl, hz14, x14a⟩
            show yi_G zi_Ms d zi_m178 (84, [(5, .inl 1), (4, .inl j), (3, .inl y), (2, .inl z7), (1, .inl ((yi_shl 1 (I1 q3 6)) - 1)), (0, .inr (.inr (some 10)))], [.inl z14], (I1, L1, R1, Y1), 0 + nc1, 0 + ns1) _
            by_cases h15 : z14 = 0
            · refine yi_G_if1 true rfl (yi_eq_t h15) ?_
              refine yi_G_iinc [(4, .inl (j + 1)), (5, .inl 1), (3, .inl y), (2, .inl z7), (1, .inl ((yi_shl 1 (I1 q3 6)) - 1)), (0, .inr (.inr (some 10)))] rfl rfl rfl (by rw [show yi_w (j + 1) = j + 1 from (yi_wn (by omega) (by omega)).trans (by omega)]; rfl) ?_
              refine yi_G_run 1 (31, [(4, .inl (j + 1)), (5, .inl 1), (3, .inl y), (2, .inl z7), (1, .inl ((yi_shl 1 (I1 q3 6)) - 1)), (0, .inr (.inr (some 10)))], [], (I1, L1, R1, Y1), 0 + nc1, 0 + ns1) (fun _ => rfl) ?_
              refine yi_G_al (al := [(4, .inl (j + 1)), (3, .inl y), (2, .inl z7), (1, .inl ((yi_shl 1 (I1 q3 6)) - 1)), (0, .inr (.inr (some 10)))]) (show ([4, 3, 2, 1, 0] : List Nat).Nodup by decide) (show ([4, 5, 3, 2, 1, 0] : List Nat).Nodup by decide) (yi_mc (List.mem_of_getElem? (i := 0) rfl) (yi_mc (List.mem_of_getElem? (i := 2) rfl) (yi_mc (List.mem_of_getElem? (i := 3) rfl) (yi_mc (List.mem_of_getElem? (i := 4) rfl) (yi_mc (List.mem_of_getElem? (i := 5) rfl) yi_mn))))) ?_
              exact ih31 _ (by omega) (j + 1) y (by omega) rfl
            · refine yi_G_if1 false rfl (yi_eq_f h15) ?_
              refine yi_G_run 2 (90, [(3, .inl j), (5, .inl 1), (4, .inl j), (2, .inl z7), (1, .inl ((yi_shl 1 (I1 q3 6)) - 1)), (0, .inr (.inr (some 10)))], [], (I1, L1, R1, Y1), 0 + nc1, 0 + ns1) (fun _ => rfl) ?_
              refine yi_G_iinc [(4, .inl (j + 1)), (3, .inl j), (5, .inl 1), (2, .inl z7), (1, .inl ((yi_shl 1 (I1 q3 6)) - 1)), (0, .inr (.inr (some 10)))] rfl rfl rfl (by rw [show yi_w (j + 1) = j + 1 from (yi_wn (by omega) (by omega)).trans (by omega)]; rfl) ?_
              refine yi_G_run 1 (31, [(4, .inl (j + 1)), (3, .inl j), (5, .inl 1), (2, .inl z7), (1, .inl ((yi_shl 1 (I1 q3 6)) - 1)), (0, .inr (.inr (some 10)))], [], (I1, L1, R1, Y1), 0 + nc1, 0 + ns1) (fun _ => rfl) ?_
              refine yi_G_al (al := [(4, .inl (j + 1)), (3, .inl j), (2, .inl z7), (1, .inl ((yi_shl 1 (I1 q3 6)) - 1)), (0, .inr (.inr (some 10)))]) (show ([4, 3, 2, 1, 0] : List Nat).Nodup by decide) (show ([4, 3, 5, 2, 1, 0] : List Nat).Nodup by decide) (yi_mc (List.mem_of_getElem? (i := 0) rfl) (yi_mc (List.mem_of_getElem? (i := 1) rfl) (yi_mc (List.mem_of_getElem? (i := 3) rfl) (yi_mc (List.mem_of_getElem? (i := 4) rfl) (yi_mc (List.mem_of_getElem? (i := 5) rfl) yi_mn))))) ?_
              exact ih31 _ (by omega) (j + 1) j (by omega) rfl
          · refine yi_G_if1 true rfl (yi_ne_t h10) ?_
            refine yi_G_iinc [(4, .inl (j + 1)), (5, .inl 1), (3, .inl y), (2, .inl z7), (1, .inl ((yi_shl 1 (I1 q3 6)) - 1)), (0, .inr (.inr (some 10)))] rfl rfl rfl (by rw [show yi_w (j + 1) = j + 1 from (yi_wn (by omega) (by omega)).trans (by omega)]; rfl) ?_
            refine yi_G_run 1 (31, [(4, .inl (j + 1)), (5, .inl 1), (3, .inl y), (2, .inl z7), (1, .inl ((yi_shl 1 (I1 q3 6)) - 1)), (0, .inr (.inr (some 10)))], [], (I1, L1, R1, Y1), 0 + nc1, 0 + ns1) (fun _ => rfl) ?_
            refine yi_G_al (al := [(4, .inl (j + 1)), (3, .inl y), (2, .inl z7), (1, .inl ((yi_shl 1 (I1 q3 6)) - 1)), (0, .inr (.inr (some 10)))]) (show ([4, 3, 2, 1, 0] : List Nat).Nodup by decide) (show ([4, 5, 3, 2, 1, 0] : List Nat).Nodup by decide) (yi_mc (List.mem_of_getElem? (i := 0) rfl) (yi_mc (List.mem_of_getElem? (i := 2) rfl) (yi_mc (List.mem_of_getElem? (i := 3) rfl) (yi_mc (List.mem_of_getElem? (i := 4) rfl) (yi_mc (List.mem_of_getElem? (i := 5) rfl) yi_mn))))) ?_
            exact ih31 _ (by omega) (j + 1) y (by omega) rfl
        · refine yi_G_if2 false rfl (yi_eq_f h9) ?_
          refine yi_G_run 1 (44, [(4, .inl j), (3, .inl y), (2, .inl z7), (1, .inl ((yi_shl 1 (I1 q3 6)) - 1)), (0, .inr (.inr (some 10)))], [.inl j], (I1, L1, R1, Y1), 0 + nc1, 0 + ns1) (fun _ => rfl) ?_
          refine yi_G_calls rfl rfl (k_bitCountI d (by omega) hP1.1  ) ?_
          rintro _ ⟨z16, rfl⟩
          show yi_G zi_Ms d zi_m178 (47, [(4, .inl j), (3, .inl y), (2, .inl z7), (1, .inl ((yi_shl 1 (I1 q3 6)) - 1)), (0, .inr (.inr (some 10)))], [.inl z16], (I1, L1, R1, Y1), 0 + nc1, 0 + ns1) _
          refine yi_G_run 1 (48, [(4, .inl j), (3, .inl y), (2, .inl z7), (1, .inl ((yi_shl 1 (I1 q3 6)) - 1)), (0, .inr (.inr (some 10)))], [.inl y, .inl z16], (I1, L1, R1, Y1), 0 + nc1, 0 + ns1) (fun _ => rfl) ?_
          refine yi_G_calls rfl rfl (k_bitCountI d (by omega) hP1.1  ) ?_
          rintro _ ⟨z17, rfl⟩
          show yi_G zi_Ms d zi_m178 (51, [(4, .inl j), (3, .inl y), (2, .inl z7), (1, .inl ((yi_shl 1 (I1 q3 6)) - 1)), (0, .inr (.inr (some 10)))], [.inl z17, .inl z16], (I1, L1, R1, Y1), 0 + nc1, 0 + ns1) _
          by_cases h18 : z17 ≤ z16
          · refine yi_G_if2 true rfl (yi_ge_t h18) ?_
            refine yi_G_run 3 (63, [(5, .inl 0), (4, .inl j), (3, .inl y), (2, .inl z7), (1, .inl ((yi_shl 1 (I1 q3 6)) - 1)), (0, .inr (.inr (some 10)))], [.inl 0], (I1, L1, R1, Y1), 0 + nc1, 0 + ns1) (fun _ => rfl) ?_
            refine yi_G_if1 true rfl (by decide) ?_
            refine yi_G_iinc [(4, .inl (j + 1)), (5, .inl 0), (3, .inl y), (2, .inl z7), (1, .inl ((yi_shl 1 (I1 q3 6)) - 1)), (0, .inr (.inr (some 10)))] rfl rfl rfl (by rw [show yi_w (j + 1) = j + 1 from (yi_wn (by omega) (by omega)).trans (by omega)]; rfl) ?_
            refine yi_G_run 1 (31, [(4, .inl (j + 1)), (5, .inl 0), (3, .inl y), (2, .inl z7), (1, .inl ((yi_shl 1 (I1 q3 6)) - 1)), (0, .inr (.inr (some 10)))], [], (I1, L1, R1, Y1), 0 + nc1, 0 + ns1) (fun _ => rfl) ?_
            refine yi_G_al (al := [(4, .inl (j + 1)), (3, .inl y), (2, .inl z7), (1, .inl ((yi_shl 1 (I1 q3 6)) - 1)), (0, .inr (.inr (some 10)))]) (show ([4, 3, 2, 1, 0] : List Nat).Nodup by decide) (show ([4, 5, 3, 2, 1, 0] : List Nat).Nodup by decide) (yi_mc (List.mem_of_getElem? (i := 0) rfl) (yi_mc (List.mem_of_getElem? (i := 2) rfl) (yi_mc (List.mem_of_getElem? (i := 3) rfl) (yi_mc (List.mem_of_getElem? (i := 4) rfl) (yi_mc (List.mem_of_getElem? (i := 5) rfl) yi_mn))))) ?_
            exact ih31 _ (by omega) (j + 1) y (by omega) rfl
          · refine yi_G_if2 false rfl (yi_ge_f h18) ?_
            refine yi_G_run 4 (63, [(5, .inl 1), (4, .inl j), (3, .inl y), (2, .inl z7), (1, .inl ((yi_shl 1 (I1 q3 6)) - 1)), (0, .inr (.inr (some 10)))], [.inl 1], (I1, L1, R1, Y1), 0 + nc1, 0 + ns1) (fun _ => rfl) ?_
            refine yi_G_if1 false rfl (by decide) ?_
            refine yi_G_run 3 (70, [(5, .inl 1), (4, .inl j), (3, .inl y), (2, .inl z7), (1, .inl ((yi_shl 1 (I1 q3 6)) - 1)), (0, .inr (.inr (some 10)))], [.inl (yi_iand j z7)], (I1, L1, R1, Y1), 0 + nc1, 0 + ns1) (fun _ => rfl) ?_
            by_cases h19 : (yi_iand j z7) = 0
            · refine yi_G_if1 false rfl (yi_ne_f h19) ?_
              refine yi_G_run 1 (74, [(5, .inl 1), (4, .inl j), (3, .inl y), (2, .inl z7), (1, .inl ((yi_shl 1 (I1 q3 6)) - 1)), (0, .inr (.inr (some 10)))], [.inr (.inr (some 10))], (I1, L1, R1, Y1), 0 + nc1, 0 + ns1) (fun _ => rfl) ?_
              obtain ⟨q20, e21, t22⟩ := cl_rf hP1.1 (cl_10 hP1.1) (k := 4) rfl
              refine cl_G_gr rfl (cl_T_K (cl_10 hP1.1)) rfl rfl rfl e21 ?_
              refine yi_G_run 3 (81, [(5, .inl 1), (4, .inl j), (3, .inl y), (2, .inl z7), (1, .inl ((yi_shl 1 (I1 q3 6)) - 1)), (0, .inr (.inr (some 10)))], [.inl (yi_ixor ((yi_shl 1 (I1 q3 6)) - 1) j), .inr (.inr (some q20))], (I1, L1, R1, Y1), 0 + nc1, 0 + ns1) (fun _ => rfl) ?_
              refine yi_G_callv rfl rfl (cl_rcv t22 rfl) rfl (k_agree d (by omega) hP1.1 t22 ) ?_
              rintro _ ⟨z23, rfl, hz23, x23a⟩
              show yi_G zi_Ms d zi_m178 (84, [(5, .inl 1), (4, .inl j), (3, .inl y), (2, .inl z7), (1, .inl ((yi_shl 1 (I1 q3 6)) - 1)), (0, .inr (.inr (some 10)))], [.inl z23], (I1, L1, R1, Y1), 0 + nc1, 0 + ns1) _
              by_cases h24 : z23 = 0
              · refine yi_G_if1 true rfl (yi_eq_t h24) ?_
                refine yi_G_iinc [(4, .inl (j + 1)), (5, .inl 1), (3, .inl y), (2, .inl z7), (1, .inl ((yi_shl 1 (I1 q3 6)) - 1)), (0, .inr (.inr (some 10)))] rfl rfl rfl (by rw [show yi_w (j + 1) = j + 1 from (yi_wn (by omega) (by omega)).trans (by omega)]; rfl) ?_
                refine yi_G_run 1 (31, [(4, .inl (j + 1)), (5, .inl 1), (3, .inl y), (2, .inl z7), (1, .inl ((yi_shl 1 (I1 q3 6)) - 1)), (0, .inr (.inr (some 10)))], [], (I1, L1, R1, Y1), 0 + nc1, 0 + ns1) (fun _ => rfl) ?_
                refine yi_G_al (al := [(4, .inl (j + 1)), (3, .inl y), (2, .inl z7), (1, .inl ((yi_shl 1 (I1 q3 6)) - 1)), (0, .inr (.inr (some 10)))]) (show ([4, 3, 2, 1, 0] : List Nat).Nodup by decide) (show ([4, 5, 3, 2, 1, 0] : List Nat).Nodup by decide) (yi_mc (List.mem_of_getElem? (i := 0) rfl) (yi_mc (List.mem_of_getElem? (i := 2) rfl) (yi_mc (List.mem_of_getElem? (i := 3) rfl) (yi_mc (List.mem_of_getElem? (i := 4) rfl) (yi_mc (List.mem_of_getElem? (i := 5) rfl) yi_mn))))) ?_
                exact ih31 _ (by omega) (j + 1) y (by omega) rfl
              · refine yi_G_if1 false rfl (yi_eq_f h24) ?_
                refine yi_G_run 2 (90, [(3, .inl j), (5, .inl 1), (4, .inl j), (2, .inl z7), (1, .inl ((yi_shl 1 (I1 q3 6)) - 1)), (0, .inr (.inr (some 10)))], [], (I1, L1, R1, Y1), 0 + nc1, 0 + ns1) (fun _ => rfl) ?_
                refine yi_G_iinc [(4, .inl (j + 1)), (3, .inl j), (5, .inl 1), (2, .inl z7), (1, .inl ((yi_shl 1 (I1 q3 6)) - 1)), (0, .inr (.inr (some 10)))] rfl rfl rfl (by rw [show yi_w (j + 1) = j + 1 from (yi_wn (by omega) (by omega)).trans (by omega)]; rfl) ?_
                refine yi_G_run 1 (31, [(4, .inl (j + 1)), (3, .inl j), (5, .inl 1), (2, .inl z7), (1, .inl ((yi_shl 1 (I1 q3 6)) - 1)), (0, .inr (.inr (some 10)))], [], (I1, L1, R1, Y1), 0 + nc1, 0 + ns1) (fun _ => rfl) ?_
                refine yi_G_al (al := [(4, .inl (j + 1)), (3, .inl j), (2, .inl z7), (1, .inl ((yi_shl 1 (I1 q3 6)) - 1)), (0, .inr (.inr (some 10)))]) (show ([4, 3, 2, 1, 0] : List Nat).Nodup by decide) (show ([4, 3, 5, 2, 1, 0] : List Nat).Nodup by decide) (yi_mc (List.mem_of_getElem? (i := 0) rfl) (yi_mc (List.mem_of_getElem? (i := 1) rfl) (yi_mc (List.mem_of_getElem? (i := 3) rfl) (yi_mc (List.mem_of_getElem? (i := 4) rfl) (yi_mc (List.mem_of_getElem? (i := 5) rfl) yi_mn))))) ?_
                exact ih31 _ (by omega) (j + 1) j (by omega) rfl
            · refine yi_G_if1 true rfl (yi_ne_t h19) ?_
              refine yi_G_iinc [(4, .inl (j + 1)), (5, .inl 1), (3, .inl y), (2, .inl z7), (1, .inl ((yi_shl 1 (I1 q3 6)) - 1)), (0, .inr (.inr (some 10)))] rfl rfl rfl (by rw [show yi_w (j + 1) = j + 1 from (yi_wn (by omega) (by omega)).trans (by omega)]; rfl) ?_
              refine yi_G_run 1 (31, [(4, .inl (j + 1)), (5, .inl 1), (3, .inl y), (2, .inl z7), (1, .inl ((yi_shl 1 (I1 q3 6)) - 1)), (0, .inr (.inr (some 10)))], [], (I1, L1, R1, Y1), 0 + nc1, 0 + ns1) (fun _ => rfl) ?_
              refine yi_G_al (al := [(4, .inl (j + 1)), (3, .inl y), (2, .inl z7), (1, .inl ((yi_shl 1 (I1 q3 6)) - 1)), (0, .inr (.inr (some 10)))]) (show ([4, 3, 2, 1, 0] : List Nat).Nodup by decide) (show ([4, 5, 3, 2, 1, 0] : List Nat).Nodup by decide) (yi_mc (List.mem_of_getElem? (i := 0) rfl) (yi_mc (List.mem_of_getElem? (i := 2) rfl) (yi_mc (List.mem_of_getElem? (i := 3) rfl) (yi_mc (List.mem_of_getElem? (i := 4) rfl) (yi_mc (List.mem_of_getElem? (i := 5) rfl) yi_mn))))) ?_
              exact ih31 _ (by omega) (j + 1) y (by omega) rfl
    exact pt31 _ 0 (-1) (by omega) rfl
theorem k_auctionA (D : Nat) (hD : 6 ≤ D) {E : List Nat} {I L : cl_I} {R : cl_Rr} {Y : cl_Y} (hC : cl_C E I L R Y) {x : Int} : yi_E zi_Ms D 141 [.inr (.inr (some 10)), .inl x] (I, L, R, Y) (fun r => ∃ z, ∃ I', ∃ L', ∃ R', ∃ Y', ∃ nc ns, r = (some (.inl z), (I', L', R', Y'), nc, ns) ∧ cl_P E I L R Y I' L' R' Y' ∧ nc ≤ 1 ∧ ns ≤ 4096) := by
  obtain ⟨d, rfl⟩ : ∃ d, D = d + 1 := ⟨D - 1, by omega⟩
  refine yi_E_of (M := zi_m141) rfl rfl ?_
  have hP : cl_P E I L R Y I L R Y := cl_P_r hC
  show yi_G zi_Ms d zi_m141 (0, [(0, .inr (.inr (some 10))), (1, .inl x)], [], (I, L, R, Y), 0, 0) _
  refine yi_G_run 1 (1, [(0, .inr (.inr (some 10))), (1, .inl x)], [.inl x], (I, L, R, Y), 0, 0) (fun _ => rfl) ?_
  by_cases h1 : x < 0
  · refine yi_G_if1 true rfl (yi_lt_t h1) ?_
    refine yi_G_run 1 (10, [(0, .inr (.inr (some 10))), (1, .inl x)], [.inl (-1)], (I, L, R, Y), 0, 0) (fun _ => rfl) ?_
    exact yi_G_reti rfl rfl (⟨_, _, _, _, _, _, _, rfl, hP, by omega, by omega⟩)
  · refine yi_G_if1 false rfl (yi_lt_f h1) ?_
    refine yi_G_run 2 (6, [(0, .inr (.inr (some 10))), (1, .inl x)], [.inl 1, .inl x], (I, L, R, Y), 0, 0) (fun _ => rfl) ?_
    by_cases h2 : x ≤ 1
    · refine yi_G_if2 true rfl (yi_le_t h2) ?_
      refine yi_G_run 1 (12, [(0, .inr (.inr (some 10))), (1, .inl x)], [.inr (.inr (some 10))], (I, L, R, Y), 0, 0) (fun _ => rfl) ?_
      refine yi_G_callv rfl rfl (cl_rcv (cl_10 hP.1) rfl) rfl (k_gatherWishesA d (by omega) hP.1  ) ?_
      rintro _ ⟨I3, L3, R3, Y3, nc3, ns3, rfl, hQ3, ca3, cb3⟩
      have hP3 := cl_P_t hP hQ3
      show yi_G zi_Ms d zi_m141 (15, [(0, .inr (.inr (some 10))), (1, .inl x)], [], (I3, L3, R3, Y3), 0 + nc3, 0 + ns3) _
      refine yi_G_run 6 (22, [(4, .inl 1), (3, .inl 0), (2, .inl 0), (0, .inr (.inr (some 10))), (1, .inl x)], [], (I3, L3, R3, Y3), 0 + nc3, 0 + ns3) (fun _ => rfl) ?_
      have pt22 : ∀ (m_ : Nat) (j : Int) (y : Int) (w : Int), (0 ≤ j ∧ j ≤ 4096) → (4096 - j).toNat = m_ → yi_G zi_Ms d zi_m141 (22, [(4, .inl j), (3, .inl y), (2, .inl w), (0, .inr (.inr (some 10))), (1, .inl x)], [], (I3, L3, R3, Y3), 0 + nc3, 0 + ns3) (fun r => ∃ z, ∃ I', ∃ L', ∃ R', ∃ Y', ∃ nc ns, r = (some (.inl z), (I', L', R', Y'), nc, ns) ∧ cl_P E I L R Y I' L' R' Y' ∧ nc ≤ 1 ∧ ns ≤ 4096) := by
        intro m22
        induction m22 using Nat.strongRecOn with
        | _ m22 ih22 =>
        intro j y w j0 hm22
        refine yi_G_run 3 (26, [(4, .inl j), (3, .inl y), (2, .inl w), (0, .inr (.inr (some 10))), (1, .inl x)], [.inr (.inr (some 10)), .inl 1, .inl j], (I3, L3, R3, Y3), 0 + nc3, 0 + ns3) (fun _ => rfl) ?_
        obtain ⟨q4, e5, t6⟩ := cl_rf hP3.1 (cl_10 hP3.1) (k := 16) rfl
        refine cl_G_gr rfl (cl_T_K (cl_10 hP3.1)) rfl rfl rfl e5 ?_
        have b7 := cl_rd hP3.1 t6 (k := 19) (lo := 0) (hi := 6) rfl
        refine cl_G_gi rfl (cl_T_K t6) rfl rfl rfl ?_
        refine yi_G_run 1 (33, [(4, .inl j), (3, .inl y), (2, .inl w), (0, .inr (.inr (some 10))), (1, .inl x)], [.inl (yi_shl 1 (I3 q4 19)), .inl j], (I3, L3, R3, Y3), 0 + nc3, 0 + ns3) (fun _ => rfl) ?_
        have sh := yi_shl1 (s := (I3 q4 19)) (by omega) (by omega)
        by_cases h8 : (yi_shl 1 (I3 q4 19)) ≤ j
        · refine yi_G_if2 true rfl (yi_ge_t h8) ?_
          refine yi_G_run 1 (105, [(4, .inl j), (3, .inl y), (2, .inl w), (0, .inr (.inr (some 10))), (1, .inl x)], [.inl x], (I3, L3, R3, Y3), 0 + nc3, 0 + ns3) (fun _ => rfl) ?_
          by_cases h9 : x = 0
          · refine yi_G_if1 false rfl (yi_ne_f h9) ?_
            refine yi_G_run 2 (113, [(4, .inl j), (3, .inl y), (2, .inl w), (0, .inr (.inr (some 10))), (1, .inl x)], [.inl y], (I3, L3, R3, Y3), 0 + nc3, 0 + ns3) (fun _ => rfl) ?_
            exact yi_G_reti rfl rfl (⟨_, _, _, _, _, _, _, rfl, hP3, by omega, by omega⟩)
          · refine yi_G_if1 true rfl (yi_ne_t h9) ?_
            refine yi_G_run 1 (113, [(4, .inl j), (3, .inl y), (2, .inl w), (0, .inr (.inr (some 10))), (1, .inl x)], [.inl w], (I3, L3, R3, Y3), 0 + nc3, 0 + ns3) (fun _ => rfl) ?_
            exact yi_G_reti rfl rfl (⟨_, _, _, _, _, _, _, rfl, hP3, by omega, by omega⟩)
        · refine yi_G_if2 false rfl (yi_ge_f h8) ?_
          refine yi_G_run 2 (39, [(4, .inl j), (3, .inl y), (2, .inl w), (0, .inr (.inr (some 10))), (1, .inl x)], [.inl j, .inr (.inr (some 10))], (I3, L3, R3, Y3), 0 + nc3, 0 + ns3) (fun _ => rfl) ?_
          refine yi_G_callv rfl rfl (cl_rcv (cl_10 hP3.1) rfl) rfl (k_coinsOfA d (by omega) hP3.1  ) ?_
          rintro _ ⟨z10, rfl⟩
          show yi_G zi_Ms d zi_m141 (42, [(4, .inl j), (3, .inl y), (2, .inl w), (0, .inr (.inr (some 10))), (1, .inl x)], [.inl z10], (I3, L3, R3, Y3), 0 + nc3, 0 + ns3) _
          refine yi_G_run 3 (47, [(5, .inl z10), (4, .inl j), (3, .inl y), (2, .inl w), (0, .inr (.inr (some 10))), (1, .inl x)], [.inl y, .inl z10], (I3, L3, R3, Y3), 0 + nc3, 0 + ns3) (fun _ => rfl) ?_
          by_cases h11 : z10 = y
          · refine yi_G_if2 false rfl (yi_ne_f h11) ?_
            refine yi_G_run 1 (52, [(5, .inl z10), (4, .inl j), (3, .inl y), (2, .inl w), (0, .inr (.inr (some 10))), (1, .inl x)], [.inl j], (I3, L3, R3, Y3), 0 + nc3, 0 + ns3) (fun _ => rfl) ?_
            refine yi_G_calls rfl rfl (k_bitCountI d (by omega) hP3.1  ) ?_
            rintro _ ⟨z12, rfl⟩
            show yi_G zi_Ms d zi_m141 (55, [(5, .inl z10), (4, .inl j), (3, .inl y), (2, .inl w), (0, .inr (.inr (some 10))), (1, .inl x)], [.inl z12], (I3, L3, R3, Y3), 0 + nc3, 0 + ns3) _
            refine yi_G_run 1 (56, [(5, .inl z10), (4, .inl j), (3, .inl y), (2, .inl w), (0, .inr (.inr (some 10))), (1, .inl x)], [.inl w, .inl z12], (I3, L3, R3, Y3), 0 + nc3, 0 + ns3) (fun _ => rfl) ?_
            refine yi_G_calls rfl rfl (k_bitCountI d (by omega) hP3.1  ) ?_
            rintro _ ⟨z13, rfl⟩
            show yi_G zi_Ms d zi_m141 (59, [(5, .inl z10), (4, .inl j), (3, .inl y), (2, .inl w), (0, .inr (.inr (some 10))), (1, .inl x)], [.inl z13, .inl z12], (I3, L3, R3, Y3), 0 + nc3, 0 + ns3) _
            by_cases h14 : z13 ≤ z12
            · refine yi_G_if2 true rfl (yi_ge_t h14) ?_
              refine yi_G_run 4 (72, [(6, .inl 0), (5, .inl z10), (4, .inl j), (3, .inl y), (2, .inl w), (0, .inr (.inr (some 10))), (1, .inl x)], [.inl y, .inl z10], (I3, L3, R3, Y3), 0 + nc3, 0 + ns3) (fun _ => rfl) ?_
              by_cases h15 : y < z10
              · refine yi_G_if2 true rfl (yi_gt_t h15) ?_
                refine yi_G_run 1 (81, [(6, .inl 0), (5, .inl z10), (4, .inl j), (3, .inl y), (2, .inl w), (0, .inr (.inr (some 10))), (1, .inl x)], [.inr (.inr (some 10))], (I3, L3, R3, Y3), 0 + nc3, 0 + ns3) (fun _ => rfl) ?_
                obtain ⟨q16, e17, t18⟩ := cl_rf hP3.1 (cl_10 hP3.1) (k := 4) rfl
                refine cl_G_gr rfl (cl_T_K (cl_10 hP3.1)) rfl rfl rfl e17 ?_
                refine yi_G_run 1 (86, [(6, .inl 0), (5, .inl z10), (4, .inl j), (3, .inl y), (2, .inl w), (0, .inr (.inr (some 10))), (1, .inl x)], [.inl j, .inr (.inr (some q16))], (I3, L3, R3, Y3), 0 + nc3, 0 + ns3) (fun _ => rfl) ?_
                refine yi_G_callv rfl rfl (cl_rcv t18 rfl) rfl (k_agree d (by omega) hP3.1 t18 ) ?_
                rintro _ ⟨z19, rfl, hz19, x19a⟩
                show yi_G zi_Ms d zi_m141 (89, [(6, .inl 0), (5, .inl z10), (4, .inl j), (3, .inl y), (2, .inl w), (0, .inr (.inr (some 10))), (1, .inl x)], [.inl z19], (I3, L3, R3, Y3), 0 + nc3, 0 + ns3) _
                by_cases h20 : z19 = 0
                · refine yi_G_if1 true rfl (yi_eq_t h20) ?_
                  refine yi_G_iinc [(4, .inl (j + 1)), (6, .inl 0), (5, .inl z10), (3, .inl y), (2, .inl w), (0, .inr (.inr (some 10))), (1, .inl x)] rfl rfl rfl (by rw [show yi_w (j + 1) = j + 1 from (yi_wn (by omega) (by omega)).trans (by omega)]; rfl) ?_
                  refine yi_G_run 1 (22, [(4, .inl (j + 1)), (6, .inl 0), (5, .inl z10), (3, .inl y), (2, .inl w), (0, .inr (.inr (some 10))), (1, .inl x)], [], (I3, L3, R3, Y3), 0 + nc3, 0 + ns3) (fun _ => rfl) ?_
                  refine yi_G_al (al := [(4, .inl (j + 1)), (3, .inl y), (2, .inl w), (0, .inr (.inr (some 10))), (1, .inl x)]) (show ([4, 3, 2, 0, 1] : List Nat).Nodup by decide) (show ([4, 6, 5, 3, 2, 0, 1] : List Nat).Nodup by decide) (yi_mc (List.mem_of_getElem? (i := 0) rfl) (yi_mc (List.mem_of_getElem? (i := 3) rfl) (yi_mc (List.mem_of_getElem? (i := 4) rfl) (yi_mc (List.mem_of_getElem? (i := 5) rfl) (yi_mc (List.mem_of_getElem? (i := 6) rfl) yi_mn))))) ?_
                  exact ih22 _ (by omega) (j + 1) y w (by omega) rfl
                · refine yi_G_if1 false rfl (yi_eq_f h20) ?_
                  refine yi_G_run 4 (98, [(3, .inl z10), (2, .inl j), (6, .inl 0), (5, .inl z10), (4, .inl j), (0, .inr (.inr (some 10))), (1, .inl x)], [], (I3, L3, R3, Y3), 0 + nc3, 0 + ns3) (fun _ => rfl) ?_
                  refine yi_G_iinc [(4, .inl (j + 1)), (3, .inl z10), (2, .inl j), (6, .inl 0), (5, .inl z10), (0, .inr (.inr (some 10))), (1, .inl x)] rfl rfl rfl (by rw [show yi_w (j + 1) = j + 1 from (yi_wn (by omega) (by omega)).trans (by omega)]; rfl) ?_
                  refine yi_G_run 1 (22, [(4, .inl (j + 1)), (3, .inl z10), (2, .inl j), (6, .inl 0), (5, .inl z10), (0, .inr (.inr (some 10))), (1, .inl x)], [], (I3, L3, R3, Y3), 0 + nc3, 0 + ns3) (fun _ => rfl) ?_
                  refine yi_G_al (al := [(4, .inl (j + 1)), (3, .inl z10), (2, .inl j), (0, .inr (.inr (some 10))), (1, .inl x)]) (show ([4, 3, 2, 0, 1] : List Nat).Nodup by decide) (show ([4, 3, 2, 6, 5, 0, 1] : List Nat).Nodup by decide) (yi_mc (List.mem_of_getElem? (i := 0) rfl) (yi_mc (List.mem_of_getElem? (i := 1) rfl) (yi_mc (List.mem_of_getElem? (i := 2) rfl) (yi_mc (List.mem_of_getElem? (i := 5) rfl) (yi_mc (List.mem_of_getElem? (i := 6) rfl) yi_mn))))) ?_
                  exact ih22 _ (by omega) (j + 1) z10 j (by omega) rfl
              · refine yi_G_if2 false rfl (yi_gt_f h15) ?_
                refine yi_G_run 1 (77, [(6, .inl 0), (5, .inl z10), (4, .inl j), (3, .inl y), (2, .inl w), (0, .inr (.inr (some 10))), (1, .inl x)], [.inl 0], (I3, L3, R3, Y3), 0 + nc3, 0 + ns3) (fun _ => rfl) ?_
                refine yi_G_if1 true rfl (by decide) ?_
                refine yi_G_iinc [(4, .inl (j + 1)), (6, .inl 0), (5, .inl z10), (3, .inl y), (2, .inl w), (0, .inr (.inr (some 10))), (1, .inl x)] rfl rfl rfl (by rw [show yi_w (j + 1) = j + 1 from (yi_wn (by omega) (by omega)).trans (by omega)]; rfl) ?_
                refine yi_G_run 1 (22, [(4, .inl (j + 1)), (6, .inl 0), (5, .inl z10), (3, .inl y), (2, .inl w), (0, .inr (.inr (some 10))), (1, .inl x)], [], (I3, L3, R3, Y3), 0 + nc3, 0 + ns3) (fun _ => rfl) ?_
                refine yi_G_al (al := [(4, .inl (j + 1)), (3, .inl y), (2, .inl w), (0, .inr (.inr (some 10))), (1, .inl x)]) (show ([4, 3, 2, 0, 1] : List Nat).Nodup by decide) (show ([4, 6, 5, 3, 2, 0, 1] : List Nat).Nodup by decide) (yi_mc (List.mem_of_getElem? (i := 0) rfl) (yi_mc (List.mem_of_getElem? (i := 3) rfl) (yi_mc (List.mem_of_getElem? (i := 4) rfl) (yi_mc (List.mem_of_getElem? (i := 5) rfl) (yi_mc (List.mem_of_getElem? (i := 6) rfl) yi_mn))))) ?_
                exact ih22 _ (by omega) (j + 1) y w (by omega) rfl
            · refine yi_G_if2 false rfl (yi_ge_f h14) ?_
              refine yi_G_run 5 (72, [(6, .inl 1), (5, .inl z10), (4, .inl j), (3, .inl y), (2, .inl w), (0, .inr (.inr (some 10))), (1, .inl x)], [.inl y, .inl z10], (I3, L3, R3, Y3), 0 + nc3, 0 + ns3) (fun _ => rfl) ?_
              by_cases h21 : y < z10
              · refine yi_G_if2 true rfl (yi_gt_t h21) ?_
                refine yi_G_run 1 (81, [(6, .inl 1), (5, .inl z10), (4, .inl j), (3, .inl y), (2, .inl w), (0, .inr (.inr (some 10))), (1, .inl x)], [.inr (.inr (some 10))], (I3, L3, R3, Y3), 0 + nc3, 0 + ns3) (fun _ => rfl) ?_
                obtain ⟨q22, e23, t24⟩ := cl_rf hP3.1 (cl_10 hP3.1) (k := 4) rfl
                refine cl_G_gr rfl (cl_T_K (cl_10 hP3.1)) rfl rfl rfl e23 ?_
                refine yi_G_run 1 (86, [(6, .inl 1), (5, .inl z10), (4, .inl j), (3, .inl y), (2, .inl w), (0, .inr (.inr (some 10))), (1, .inl x)], [.inl j, .inr (.inr (some q22))], (I3, L3, R3, Y3), 0 + nc3, 0 + ns3) (fun _ => rfl) ?_
                refine yi_G_callv rfl rfl (cl_rcv t24 rfl) rfl (k_agree d (by omega) hP3.1 t24 ) ?_
                rintro _ ⟨z25, rfl, hz25, x25a⟩
                show yi_G zi_Ms d zi_m141 (89, [(6, .inl 1), (5, .inl z10), (4, .inl j), (3, .inl y), (2, .inl w), (0, .inr (.inr (some 10))), (1, .inl x)], [.inl z25], (I3, L3, R3, Y3), 0 + nc3, 0 + ns3) _
                by_cases h26 : z25 = 0
                · refine yi_G_if1 true rfl (yi_eq_t h26) ?_
                  refine yi_G_iinc [(4, .inl (j + 1)), (6, .inl 1), (5, .inl z10), (3, .inl y), (2, .inl w), (0, .inr (.inr (some 10))), (1, .inl x)] rfl rfl rfl (by rw [show yi_w (j + 1) = j + 1 from (yi_wn (by omega) (by omega)).trans (by omega)]; rfl) ?_
                  refine yi_G_run 1 (22, [(4, .inl (j + 1)), (6, .inl 1), (5, .inl z10), (3, .inl y), (2, .inl w), (0, .inr (.inr (some 10))), (1, .inl x)], [], (I3, L3, R3, Y3), 0 + nc3, 0 + ns3) (fun _ => rfl) ?_
                  refine yi_G_al (al := [(4, .inl (j + 1)), (3, .inl y), (2, .inl w), (0, .inr (.inr (some 10))), (1, .inl x)]) (show ([4, 3, 2, 0, 1] : List Nat).Nodup by decide) (show ([4, 6, 5, 3, 2, 0, 1] : List Nat).Nodup by decide) (yi_mc (List.mem_of_getElem? (i := 0) rfl) (yi_mc (List.mem_of_getElem? (i := 3) rfl) (yi_mc (List.mem_of_getElem? (i := 4) rfl) (yi_mc (List.mem_of_getElem? (i := 5) rfl) (yi_mc (List.mem_of_getElem? (i := 6) rfl) yi_mn))))) ?_
                  exact ih22 _ (by omega) (j + 1) y w (by omega) rfl
                · refine yi_G_if1 false rfl (yi_eq_f h26) ?_
                  refine yi_G_run 4 (98, [(3, .inl z10), (2, .inl j), (6, .inl 1), (5, .inl z10), (4, .inl j), (0, .inr (.inr (some 10))), (1, .inl x)], [], (I3, L3, R3, Y3), 0 + nc3, 0 + ns3) (fun _ => rfl) ?_
                  refine yi_G_iinc [(4, .inl (j + 1)), (3, .inl z10), (2, .inl j), (6, .inl 1), (5, .inl z10), (0, .inr (.inr (some 10))), (1, .inl x)] rfl rfl rfl (by rw [show yi_w (j + 1) = j + 1 from (yi_wn (by omega) (by omega)).trans (by omega)]; rfl) ?_
                  refine yi_G_run 1 (22, [(4, .inl (j + 1)), (3, .inl z10), (2, .inl j), (6, .inl 1), (5, .inl z10), (0, .inr (.inr (some 10))), (1, .inl x)], [], (I3, L3, R3, Y3), 0 + nc3, 0 + ns3) (fun _ => rfl) ?_
                  refine yi_G_al (al := [(4, .inl (j + 1)), (3, .inl z10), (2, .inl j), (0, .inr (.inr (some 10))), (1, .inl x)]) (show ([4, 3, 2, 0, 1] : List Nat).Nodup by decide) (show ([4, 3, 2, 6, 5, 0, 1] : List Nat).Nodup by decide) (yi_mc (List.mem_of_getElem? (i := 0) rfl) (yi_mc (List.mem_of_getElem? (i := 1) rfl) (yi_mc (List.mem_of_getElem? (i := 2) rfl) (yi_mc (List.mem_of_getElem? (i := 5) rfl) (yi_mc (List.mem_of_getElem? (i := 6) rfl) yi_mn))))) ?_
                  exact ih22 _ (by omega) (j + 1) z10 j (by omega) rfl
              · refine yi_G_if2 false rfl (yi_gt_f h21) ?_
                refine yi_G_run 1 (77, [(6, .inl 1), (5, .inl z10), (4, .inl j), (3, .inl y), (2, .inl w), (0, .inr (.inr (some 10))), (1, .inl x)], [.inl 1], (I3, L3, R3, Y3), 0 + nc3, 0 + ns3) (fun _ => rfl) ?_
                refine yi_G_if1 false rfl (by decide) ?_
                refine yi_G_run 1 (81, [(6, .inl 1), (5, .inl z10), (4, .inl j), (3, .inl y), (2, .inl w), (0, .inr (.inr (some 10))), (1, .inl x)], [.inr (.inr (some 10))], (I3, L3, R3, Y3), 0 + nc3, 0 + ns3) (fun _ => rfl) ?_
                obtain ⟨q27, e28, t29⟩ := cl_rf hP3.1 (cl_10 hP3.1) (k := 4) rfl
                refine cl_G_gr rfl (cl_T_K (cl_10 hP3.1)) rfl rfl rfl e28 ?_
                refine yi_G_run 1 (86, [(6, .inl 1), (5, .inl z10), (4, .inl j), (3, .inl y), (2, .inl w), (0, .inr (.inr (some 10))), (1, .inl x)], [.inl j, .inr (.inr (some q27))], (I3, L3, R3, Y3), 0 + nc3, 0 + ns3) (fun _ => rfl) ?_
                refine yi_G_callv rfl rfl (cl_rcv t29 rfl) rfl (k_agree d (by omega) hP3.1 t29 ) ?_
                rintro _ ⟨z30, rfl, hz30, x30a⟩
                show yi_G zi_Ms d zi_m141 (89, [(6, .inl 1), (5, .inl z10), (4, .inl j), (3, .inl y), (2, .inl w), (0, .inr (.inr (some 10))), (1, .inl x)], [.inl z30], (I3, L3, R3, Y3), 0 + nc3, 0 + ns3) _
                by_cases h31 : z30 = 0
                · refine yi_G_if1 true rfl (yi_eq_t h31) ?_
                  refine yi_G_iinc [(4, .inl (j + 1)), (6, .inl 1), (5, .inl z10), (3, .inl y), (2, .inl w), (0, .inr (.inr (some 10))), (1, .inl x)] rfl rfl rfl (by rw [show yi_w (j + 1) = j + 1 from (yi_wn (by omega) (by omega)).trans (by omega)]; rfl) ?_
                  refine yi_G_run 1 (22, [(4, .inl (j + 1)), (6, .inl 1), (5, .inl z10), (3, .inl y), (2, .inl w), (0, .inr (.inr (some 10))), (1, .inl x)], [], (I3, L3, R3, Y3), 0 + nc3, 0 + ns3) (fun _ => rfl) ?_
                  refine yi_G_al (al := [(4, .inl (j + 1)), (3, .inl y), (2, .inl w), (0, .inr (.inr (some 10))), (1, .inl x)]) (show ([4, 3, 2, 0, 1] : List Nat).Nodup by decide) (show ([4, 6, 5, 3, 2, 0, 1] : List Nat).Nodup by decide) (yi_mc (List.mem_of_getElem? (i := 0) rfl) (yi_mc (List.mem_of_getElem? (i := 3) rfl) (yi_mc (List.mem_of_getElem? (i := 4) rfl) (yi_mc (List.mem_of_getElem? (i := 5) rfl) (yi_mc (List.mem_of_getElem? (i := 6) rfl) yi_mn))))) ?_
                  exact ih22 _ (by omega) (j + 1) y w (by omega) rfl
                · refine yi_G_if1 false rfl (yi_eq_f h31) ?_
                  refine yi_G_run 4 (98, [(3, .inl z10), (2, .inl j), (6, .inl 1), (5, .inl z10), (4, .inl j), (0, .inr (.inr (some 10))), (1, .inl x)], [], (I3, L3, R3, Y3), 0 + nc3, 0 + ns3) (fun _ => rfl) ?_
                  refine yi_G_iinc [(4, .inl (j + 1)), (3, .inl z10), (2, .inl j), (6, .inl 1), (5, .inl z10), (0, .inr (.inr (some 10))), (1, .inl x)] rfl rfl rfl (by rw [show yi_w (j + 1) = j + 1 from (yi_wn (by omega) (by omega)).trans (by omega)]; rfl) ?_
                  refine yi_G_run 1 (22, [(4, .inl (j + 1)), (3, .inl z10), (2, .inl j), (6, .inl 1), (5, .inl z10), (0, .inr (.inr (some 10))), (1, .inl x)], [], (I3, L3, R3, Y3), 0 + nc3, 0 + ns3) (fun _ => rfl) ?_
                  refine yi_G_al (al := [(4, .inl (j + 1)), (3, .inl z10), (2, .inl j), (0, .inr (.inr (some 10))), (1, .inl x)]) (show ([4, 3, 2, 0, 1] : List Nat).Nodup by decide) (show ([4, 3, 2, 6, 5, 0, 1] : List Nat).Nodup by decide) (yi_mc (List.mem_of_getElem? (i := 0) rfl) (yi_mc (List.mem_of_getElem? (i := 1) rfl) (yi_mc (List.mem_of_getElem? (i := 2) rfl) (yi_mc (List.mem_of_getElem? (i := 5) rfl) (yi_mc (List.mem_of_getElem? (i := 6) rfl) yi_mn))))) ?_
                  exact ih22 _ (by omega) (j + 1) z10 j (by omega) rfl
          · refine yi_G_if2 true rfl (yi_ne_t h11) ?_
            refine yi_G_run 4 (72, [(6, .inl 0), (5, .inl z10), (4, .inl j), (3, .inl y), (2, .inl w), (0, .inr (.inr (some 10))), (1, .inl x)], [.inl y, .inl z10], (I3, L3, R3, Y3), 0 + nc3, 0 + ns3) (fun _ => rfl) ?_
            by_cases h32 : y < z10
            · refine yi_G_if2 true rfl (yi_gt_t h32) ?_
              refine yi_G_run 1 (81, [(6, .inl 0), (5, .inl z10), (4, .inl j), (3, .inl y), (2, .inl w), (0, .inr (.inr (some 10))), (1, .inl x)], [.inr (.inr (some 10))], (I3, L3, R3, Y3), 0 + nc3, 0 + ns3) (fun _ => rfl) ?_
              obtain ⟨q33, e34, t35⟩ := cl_rf hP3.1 (cl_10 hP3.1) (k := 4) rfl
              refine cl_G_gr rfl (cl_T_K (cl_10 hP3.1)) rfl rfl rfl e34 ?_
              refine yi_G_run 1 (86, [(6, .inl 0), (5, .inl z10), (4, .inl j), (3, .inl y), (2, .inl w), (0, .inr (.inr (some 10))), (1, .inl x)], [.inl j, .inr (.inr (some q33))], (I3, L3, R3, Y3), 0 + nc3, 0 + ns3) (fun _ => rfl) ?_
              refine yi_G_callv rfl rfl (cl_rcv t35 rfl) rfl (k_agree d (by omega) hP3.1 t35 ) ?_
              rintro _ ⟨z36, rfl, hz36, x36a⟩
              show yi_G zi_Ms d zi_m141 (89, [(6, .inl 0), (5, .inl z10), (4, .inl j), (3, .inl y), (2, .inl w), (0, .inr (.inr (some 10))), (1, .inl x)], [.inl z36], (I3, L3, R3, Y3), 0 + nc3, 0 + ns3) _
              by_cases h37 : z36 = 0
              · refine yi_G_if1 true rfl (yi_eq_t h37) ?_
                refine yi_G_iinc [(4, .inl (j + 1)), (6, .inl 0), (5, .inl z10), (3, .inl y), (2, .inl w), (0, .inr (.inr (some 10))), (1, .inl x)] rfl rfl rfl (by rw [show yi_w (j + 1) = j + 1 from (yi_wn (by omega) (by omega)).trans (by omega)]; rfl) ?_
                refine yi_G_run 1 (22, [(4, .inl (j + 1)), (6, .inl 0), (5, .inl z10), (3, .inl y), (2, .inl w), (0, .inr (.inr (some 10))), (1, .inl x)], [], (I3, L3, R3, Y3), 0 + nc3, 0 + ns3) (fun _ => rfl) ?_
                refine yi_G_al (al := [(4, .inl (j + 1)), (3, .inl y), (2, .inl w), (0, .inr (.inr (some 10))), (1, .inl x)]) (show ([4, 3, 2, 0, 1] : List Nat).Nodup by decide) (show ([4, 6, 5, 3, 2, 0, 1] : List Nat).Nodup by decide) (yi_mc (List.mem_of_getElem? (i := 0) rfl) (yi_mc (List.mem_of_getElem? (i := 3) rfl) (yi_mc (List.mem_of_getElem? (i := 4) rfl) (yi_mc (List.mem_of_getElem? (i := 5) rfl) (yi_mc (List.mem_of_getElem? (i := 6) rfl) yi_mn))))) ?_
                exact ih22 _ (by omega) (j + 1) y w (by omega) rfl
              · refine yi_G_if1 false rfl (yi_eq_f h37) ?_
                refine yi_G_run 4 (98, [(3, .inl z10), (2, .inl j), (6, .inl 0), (5, .inl z10), (4, .inl j), (0, .inr (.inr (some 10))), (1, .inl x)], [], (I3, L3, R3, Y3), 0 + nc3, 0 + ns3) (fun _ => rfl) ?_
                refine yi_G_iinc [(4, .inl (j + 1)), (3, .inl z10), (2, .inl j), (6, .inl 0), (5, .inl z10), (0, .inr (.inr (some 10))), (1, .inl x)] rfl rfl rfl (by rw [show yi_w (j + 1) = j + 1 from (yi_wn (by omega) (by omega)).trans (by omega)]; rfl) ?_
                refine yi_G_run 1 (22, [(4, .inl (j + 1)), (3, .inl z10), (2, .inl j), (6, .inl 0), (5, .inl z10), (0, .inr (.inr (some 10))), (1, .inl x)], [], (I3, L3, R3, Y3), 0 + nc3, 0 + ns3) (fun _ => rfl) ?_
                refine yi_G_al (al := [(4, .inl (j + 1)), (3, .inl z10), (2, .inl j), (0, .inr (.inr (some 10))), (1, .inl x)]) (show ([4, 3, 2, 0, 1] : List Nat).Nodup by decide) (show ([4, 3, 2, 6, 5, 0, 1] : List Nat).Nodup by decide) (yi_mc (List.mem_of_getElem? (i := 0) rfl) (yi_mc (List.mem_of_getElem? (i := 1) rfl) (yi_mc (List.mem_of_getElem? (i := 2) rfl) (yi_mc (List.mem_of_getElem? (i := 5) rfl) (yi_mc (List.mem_of_getElem? (i := 6) rfl) yi_mn))))) ?_
                exact ih22 _ (by omega) (j + 1) z10 j (by omega) rfl
            · refine yi_G_if2 false rfl (yi_gt_f h32) ?_
              refine yi_G_run 1 (77, [(6, .inl 0), (5, .inl z10), (4, .inl j), (3, .inl y), (2, .inl w), (0, .inr (.inr (some 10))), (1, .inl x)], [.inl 0], (I3, L3, R3, Y3), 0 + nc3, 0 + ns3) (fun _ => rfl) ?_
              refine yi_G_if1 true rfl (by decide) ?_
              refine yi_G_iinc [(4, .inl (j + 1)), (6, .inl 0), (5, .inl z10), (3, .inl y), (2, .inl w), (0, .inr (.inr (some 10))), (1, .inl x)] rfl rfl rfl (by rw [show yi_w (j + 1) = j + 1 from (yi_wn (by omega) (by omega)).trans (by omega)]; rfl) ?_
              refine yi_G_run 1 (22, [(4, .inl (j + 1)), (6, .inl 0), (5, .inl z10), (3, .inl y), (2, .inl w), (0, .inr (.inr (some 10))), (1, .inl x)], [], (I3, L3, R3, Y3), 0 + nc3, 0 + ns3) (fun _ => rfl) ?_
              refine yi_G_al (al := [(4, .inl (j + 1)), (3, .inl y), (2, .inl w), (0, .inr (.inr (some 10))), (1, .inl x)]) (show ([4, 3, 2, 0, 1] : List Nat).Nodup by decide) (show ([4, 6, 5, 3, 2, 0, 1] : List Nat).Nodup by decide) (yi_mc (List.mem_of_getElem? (i := 0) rfl) (yi_mc (List.mem_of_getElem? (i := 3) rfl) (yi_mc (List.mem_of_getElem? (i := 4) rfl) (yi_mc (List.mem_of_getElem? (i := 5) rfl) (yi_mc (List.mem_of_getElem? (i := 6) rfl) yi_mn))))) ?_
              exact ih22 _ (by omega) (j + 1) y w (by omega) rfl
      exact pt22 _ 1 0 0 (by omega) rfl
    · refine yi_G_if2 false rfl (yi_le_f h2) ?_
      refine yi_G_run 1 (10, [(0, .inr (.inr (some 10))), (1, .inl x)], [.inl (-1)], (I, L, R, Y), 0, 0) (fun _ => rfl) ?_
      exact yi_G_reti rfl rfl (⟨_, _, _, _, _, _, _, rfl, hP, by omega, by omega⟩)
theorem k_keptA (D : Nat) (hD : 6 ≤ D) {E : List Nat} {I L : cl_I} {R : cl_Rr} {Y : cl_Y} (hC : cl_C E I L R Y) : yi_E zi_Ms D 160 [.inr (.inr (some 10))] (I, L, R, Y) (fun r => ∃ z, r = (some (.inl z), (I, L, R, Y), 0, 0)) := by
  obtain ⟨d, rfl⟩ : ∃ d, D = d + 1 := ⟨D - 1, by omega⟩
  refine yi_E_of (M := zi_m160) rfl rfl ?_
  have hP : cl_P E I L R Y I L R Y := cl_P_r hC
  show yi_G zi_Ms d zi_m160 (0, [(0, .inr (.inr (some 10)))], [], (I, L, R, Y), 0, 0) _
  refine yi_G_run 1 (1, [(0, .inr (.inr (some 10)))], [.inr (.inr (some 10))], (I, L, R, Y), 0, 0) (fun _ => rfl) ?_
  obtain ⟨q1, e2, t3⟩ := cl_rf hP.1 (cl_10 hP.1) (k := 16) rfl
  refine cl_G_gr rfl (cl_T_K (cl_10 hP.1)) rfl rfl rfl e2 ?_
  have b4 := cl_rd hP.1 t3 (k := 14) (lo := 1) (hi := 6) rfl
  refine cl_G_gi rfl (cl_T_K t3) rfl rfl rfl ?_
  refine yi_G_run 1 (8, [(0, .inr (.inr (some 10)))], [.inr (.inr (some 10)), .inl (I q1 14)], (I, L, R, Y), 0, 0) (fun _ => rfl) ?_
  obtain ⟨q5, e6, t7⟩ := cl_rf hP.1 (cl_10 hP.1) (k := 6) rfl
  refine cl_G_gr rfl (cl_T_K (cl_10 hP.1)) rfl rfl rfl e6 ?_
  refine cl_G_gi rfl (cl_T_K t7) rfl rfl rfl ?_
  refine yi_G_run 5 (19, [(1, .inl (yi_w ((yi_w ((I q1 14) - (I q5 7))) + 1))), (0, .inr (.inr (some 10)))], [.inr (.inr (some 10))], (I, L, R, Y), 0, 0) (fun _ => rfl) ?_
  refine cl_G_gr rfl (cl_T_K (cl_10 hP.1)) rfl rfl rfl e6 ?_
  have b8 := cl_rd hP.1 t7 (k := 8) (lo := 0) (hi := 20) rfl
  refine cl_G_gi rfl (cl_T_K t7) rfl rfl rfl ?_
  refine yi_G_run 3 (28, [(3, .inl 0), (2, .inl (I q5 8)), (1, .inl (yi_w ((yi_w ((I q1 14) - (I q5 7))) + 1))), (0, .inr (.inr (some 10)))], [], (I, L, R, Y), 0, 0) (fun _ => rfl) ?_
  have pt28 : ∀ (m_ : Nat) (j : Int) (y : Int), (0 ≤ j ∧ j ≤ 4096) → (4096 - j).toNat = m_ → yi_G zi_Ms d zi_m160 (28, [(3, .inl j), (2, .inl y), (1, .inl (yi_w ((yi_w ((I q1 14) - (I q5 7))) + 1))), (0, .inr (.inr (some 10)))], [], (I, L, R, Y), 0, 0) (fun r => ∃ z, r = (some (.inl z), (I, L, R, Y), 0, 0)) := by
    intro m28
    induction m28 using Nat.strongRecOn with
    | _ m28 ih28 =>
    intro j y j0 hm28
    refine yi_G_run 3 (31, [(3, .inl j), (2, .inl y), (1, .inl (yi_w ((yi_w ((I q1 14) - (I q5 7))) + 1))), (0, .inr (.inr (some 10)))], [.inr (.inr (some 10)), .inl 1, .inl j], (I, L, R, Y), 0, 0) (fun _ => rfl) ?_
    refine cl_G_gr rfl (cl_T_K (cl_10 hP.1)) rfl rfl rfl e2 ?_
    have b9 := cl_rd hP.1 t3 (k := 15) (lo := 0) (hi := 4) rfl
    refine cl_G_gi rfl (cl_T_K t3) rfl rfl rfl ?_
    refine yi_G_run 1 (38, [(3, .inl j), (2, .inl y), (1, .inl (yi_w ((yi_w ((I q1 14) - (I q5 7))) + 1))), (0, .inr (.inr (some 10)))], [.inl (yi_shl 1 (I q1 15)), .inl j], (I, L, R, Y), 0, 0) (fun _ => rfl) ?_
    have sh := yi_shl1 (s := (I q1 15)) (by omega) (by omega)
    by_cases h10 : (yi_shl 1 (I q1 15)) ≤ j
    · refine yi_G_if2 true rfl (yi_ge_t h10) ?_
      refine yi_G_run 1 (69, [(3, .inl j), (2, .inl y), (1, .inl (yi_w ((yi_w ((I q1 14) - (I q5 7))) + 1))), (0, .inr (.inr (some 10)))], [.inl y], (I, L, R, Y), 0, 0) (fun _ => rfl) ?_
      exact yi_G_reti rfl rfl (⟨_, rfl⟩)
    · refine yi_G_if2 false rfl (yi_ge_f h10) ?_
      refine yi_G_run 1 (42, [(3, .inl j), (2, .inl y), (1, .inl (yi_w ((yi_w ((I q1 14) - (I q5 7))) + 1))), (0, .inr (.inr (some 10)))], [.inl j], (I, L, R, Y), 0, 0) (fun _ => rfl) ?_
      refine yi_G_calls rfl rfl (k_bitCountI d (by omega) hP.1  ) ?_
      rintro _ ⟨z11, rfl⟩
      show yi_G zi_Ms d zi_m160 (45, [(3, .inl j), (2, .inl y), (1, .inl (yi_w ((yi_w ((I q1 14) - (I q5 7))) + 1))), (0, .inr (.inr (some 10)))], [.inl z11], (I, L, R, Y), 0, 0) _
      refine yi_G_run 4 (49, [(3, .inl j), (2, .inl y), (1, .inl (yi_w ((yi_w ((I q1 14) - (I q5 7))) + 1))), (0, .inr (.inr (some 10)))], [.inl j, .inr (.inr (some 10)), .inl (yi_w (z11 * (yi_w ((yi_w ((I q1 14) - (I q5 7))) + 1))))], (I, L, R, Y), 0, 0) (fun _ => rfl) ?_
      refine yi_G_callv rfl rfl (cl_rcv (cl_10 hP.1) rfl) rfl (k_promisesOutsideA d (by omega) hP.1  ) ?_
      rintro _ ⟨z12, rfl⟩
      show yi_G zi_Ms d zi_m160 (52, [(3, .inl j), (2, .inl y), (1, .inl (yi_w ((yi_w ((I q1 14) - (I q5 7))) + 1))), (0, .inr (.inr (some 10)))], [.inl z12, .inl (yi_w (z11 * (yi_w ((yi_w ((I q1 14) - (I q5 7))) + 1))))], (I, L, R, Y), 0, 0) _
      refine yi_G_run 4 (58, [(4, .inl (yi_w ((yi_w (z11 * (yi_w ((yi_w ((I q1 14) - (I q5 7))) + 1)))) + z12))), (3, .inl j), (2, .inl y), (1, .inl (yi_w ((yi_w ((I q1 14) - (I q5 7))) + 1))), (0, .inr (.inr (some 10)))], [.inl (yi_w ((yi_w (z11 * (yi_w ((yi_w ((I q1 14) - (I q5 7))) + 1)))) + z12)), .inl y], (I, L, R, Y), 0, 0) (fun _ => rfl) ?_
      refine cl_G_min rfl rfl cl_min ?_
      refine yi_G_run 1 (62, [(2, .inl (min y (yi_w ((yi_w (z11 * (yi_w ((yi_w ((I q1 14) - (I q5 7))) + 1)))) + z12)))), (4, .inl (yi_w ((yi_w (z11 * (yi_w ((yi_w ((I q1 14) - (I q5 7))) + 1)))) + z12))), (3, .inl j), (1, .inl (yi_w ((yi_w ((I q1 14) - (I q5 7))) + 1))), (0, .inr (.inr (some 10)))], [], (I, L, R, Y), 0, 0) (fun _ => rfl) ?_
      refine yi_G_iinc [(3, .inl (j + 1)), (2, .inl (min y (yi_w ((yi_w (z11 * (yi_w ((yi_w ((I q1 14) - (I q5 7))) + 1)))) + z12)))), (4, .inl (yi_w ((yi_w (z11 * (yi_w ((yi_w ((I q1 14) - (I q5 7))) + 1)))) + z12))), (1, .inl (yi_w ((yi_w ((I q1 14) - (I q5 7))) + 1))), (0, .inr (.inr (some 10)))] rfl rfl rfl (by rw [show yi_w (j + 1) = j + 1 from (yi_wn (by omega) (by omega)).trans (by omega)]; rfl) ?_
      refine yi_G_run 1 (28, [(3, .inl (j + 1)), (2, .inl (min y (yi_w ((yi_w (z11 * (yi_w ((yi_w ((I q1 14) - (I q5 7))) + 1)))) + z12)))), (4, .inl (yi_w ((yi_w (z11 * (yi_w ((yi_w ((I q1 14) - (I q5 7))) + 1)))) + z12))), (1, .inl (yi_w ((yi_w ((I q1 14) - (I q5 7))) + 1))), (0, .inr (.inr (some 10)))], [], (I, L, R, Y), 0, 0) (fun _ => rfl) ?_
      refine yi_G_al (al := [(3, .inl (j + 1)), (2, .inl (min y (yi_w ((yi_w (z11 * (yi_w ((yi_w ((I q1 14) - (I q5 7))) + 1)))) + z12)))), (1, .inl (yi_w ((yi_w ((I q1 14) - (I q5 7))) + 1))), (0, .inr (.inr (some 10)))]) (show ([3, 2, 1, 0] : List Nat).Nodup by decide) (show ([3, 2, 4, 1, 0] : List Nat).Nodup by decide) (yi_mc (List.mem_of_getElem? (i := 0) rfl) (yi_mc (List.mem_of_getElem? (i := 1) rfl) (yi_mc (List.mem_of_getElem? (i := 3) rfl) (yi_mc (List.mem_of_getElem? (i := 4) rfl) yi_mn)))) ?_
      exact ih28 _ (by omega) (j + 1) (min y (yi_w ((yi_w (z11 * (yi_w ((yi_w ((I q1 14) - (I q5 7))) + 1)))) + z12))) (by omega) rfl
  exact pt28 _ 0 (I q5 8) (by omega) rfl
theorem k_markA (D : Nat) (hD : 6 ≤ D) {E : List Nat} {I L : cl_I} {R : cl_Rr} {Y : cl_Y} (hC : cl_C E I L R Y) {x : Int} {y : Int} : yi_E zi_Ms D 165 [.inr (.inr (some 10)), .inl x, .inl y] (I, L, R, Y) (fun r => ∃ z, ∃ I', ∃ L', ∃ R', ∃ Y', ∃ nc ns, r = (some (.inl z), (I', L', R', Y'), nc, ns) ∧ cl_P E I L R Y I' L' R' Y' ∧ nc ≤ 8 ∧ ns ≤ 700 ∧ (z = 0 ∨ z = 1)) := by
  obtain ⟨d, rfl⟩ : ∃ d, D = d + 1 := ⟨D - 1, by omega⟩
  refine yi_E_of (M := zi_m165) rfl rfl ?_
  have hP : cl_P E I L R Y I L R Y := cl_P_r hC
  show yi_G zi_Ms d zi_m165 (0, [(0, .inr (.inr (some 10))), (1, .inl x), (2, .inl y)], [], (I, L, R, Y), 0, 0) _
  refine yi_G_run 1 (1, [(0, .inr (.inr (some 10))), (1, .inl x), (2, .inl y)], [.inl x], (I, L, R, Y), 0, 0) (fun _ => rfl) ?_
  by_cases h1 : x < 0
  · refine yi_G_if1 true rfl (yi_lt_t h1) ?_
    refine yi_G_run 1 (14, [(0, .inr (.inr (some 10))), (1, .inl x), (2, .inl y)], [.inl 0], (I, L, R, Y), 0, 0) (fun _ => rfl) ?_
    exact yi_G_retb rfl rfl (by decide) (⟨_, _, _, _, _, _, _, rfl, hP, by omega, by omega, by decide⟩)
  · refine yi_G_if1 false rfl (yi_lt_f h1) ?_
    refine yi_G_run 2 (6, [(0, .inr (.inr (some 10))), (1, .inl x), (2, .inl y)], [.inr (.inr (some 10)), .inl x], (I, L, R, Y), 0, 0) (fun _ => rfl) ?_
    obtain ⟨q2, e3, t4, n5⟩ := cl_rn hP.1 (cl_10 hP.1) (k := 8) (m := 3) rfl
    refine cl_G_gr rfl (cl_T_K (cl_10 hP.1)) rfl rfl rfl e3 ?_
    refine cl_G_len rfl t4 (by omega) ?_
    by_cases h6 : x < ((Y.2.1 q2 : Int))
    · refine yi_G_if2 true rfl (yi_lt_t h6) ?_
      refine yi_G_run 1 (16, [(0, .inr (.inr (some 10))), (1, .inl x), (2, .inl y)], [.inr (.inr (some 10))], (I, L, R, Y), 0, 0) (fun _ => rfl) ?_
      refine cl_G_gr rfl (cl_T_K (cl_10 hP.1)) rfl rfl rfl e3 ?_
      refine yi_G_run 1 (20, [(0, .inr (.inr (some 10))), (1, .inl x), (2, .inl y)], [.inl x, .inr (.inr (some q2))], (I, L, R, Y), 0, 0) (fun _ => rfl) ?_
      rcases cl_ro hP.1 t4 (k := x.toNat) rfl with e8 | ⟨q7, e8, t9⟩
      · refine cl_G_aald rfl t4 (by omega) (by omega) (by omega) e8 ?_
        refine yi_G_run 2 (23, [(3, .inr (.inr none)), (0, .inr (.inr (some 10))), (1, .inl x), (2, .inl y)], [.inl y], (I, L, R, Y), 0, 0) (fun _ => rfl) ?_
        by_cases h10 : y = 0
        · refine yi_G_if1 true rfl (yi_eq_t h10) ?_
          refine yi_G_run 1 (51, [(3, .inr (.inr none)), (0, .inr (.inr (some 10))), (1, .inl x), (2, .inl y)], [.inr (.inr none)], (I, L, R, Y), 0, 0) (fun _ => rfl) ?_
          refine cl_G_nnl true rfl rfl ?_
          refine cl_G_mko (m := 9) rfl hP rfl rfl (fun e11x I11 L11 R11 Y11 ee11 hP11 x11 tt11 z11 y11 k11 g11 m11 o11 => ?_)
          have n12 := (cl_T_n t4 x11).trans n5
          have t13 := tt11 _ _ t4
          have e14 := (o11 10 8 (cl_10 hP.1).2.1).1.trans e3
          have e15 := (o11 q2 (x.toNat) (t4).2.1).1.trans e8
          refine yi_G_run 1 (58, [(3, .inr (.inr none)), (0, .inr (.inr (some 10))), (1, .inl x), (2, .inl y)], [.inr (.inr (some e11x)), .inr (.inr (some e11x))], (I11, L11, R11, Y11), 0 + 1, 0 + 9) (fun _ => rfl) ?_
          refine cl_G_callx rfl rfl rfl rfl (k_Story0 d (by omega) hP11.1 g11 k11 m11 z11 y11  ) ?_
          rintro _ ⟨I16, L16, R16, Y16, nc16, ns16, rfl, hQ16, ca16, cb16, t16, x16a⟩
          have hP16 := cl_P_t hP11 hQ16
          have t17 := cl_T_x (cl_T_d t13) hQ16.2.1
          have n18 := (cl_T_n t13 hQ16.2.1).trans n12
          have e19 := (x16a 10 8 (cl_10 hP11.1).2.1 (by have := g11.2.2; omega)).2.trans e14
          have e20 := (x16a q2 (x.toNat) t13.2.1 (fun z => t13.2.2.2.1 (by rw [z]; simp))).2.trans e15
          show yi_G zi_Ms d zi_m165 (61, [(3, .inr (.inr none)), (0, .inr (.inr (some 10))), (1, .inl x), (2, .inl y)], [.inr (.inr (some e11x))], (I16, L16, R16, Y16), 0 + 1 + nc16, 0 + 9 + ns16) _
          refine yi_G_run 2 (63, [(3, .inr (.inr (some e11x))), (0, .inr (.inr (some 10))), (1, .inl x), (2, .inl y)], [.inr (.inr (some 10))], (I16, L16, R16, Y16), 0 + 1 + nc16, 0 + 9 + ns16) (fun _ => rfl) ?_
          refine cl_G_gr rfl (cl_T_K (cl_10 hP16.1)) rfl rfl rfl e19 ?_
          refine yi_G_run 2 (68, [(3, .inr (.inr (some e11x))), (0, .inr (.inr (some 10))), (1, .inl x), (2, .inl y)], [.inr (.inr (some e11x)), .inl x, .inr (.inr (some q2))], (I16, L16, R16, Y16), 0 + 1 + nc16, 0 + 9 + ns16) (fun _ => rfl) ?_
          refine cl_G_aast rfl t17 (by omega) rfl (by omega) (by omega) (Or.inr ⟨_, rfl, t16⟩) ?_
          have hP21 := cl_P_uR (k := (x.toNat)) (v := (some e11x)) hP16 t17 (by omega) (by omega) (cl_hro rfl t16)
          generalize w22 : cl_u R16 q2 (x.toNat) (some e11x) = R23 at hP21 ⊢
          have e24 : R23 10 8 = some q2 := by rw [← w22, cl_u_ne _ _ (fun z => cl_ne (cl_10 hP16.1) t17 (by decide) z.1)]; exact e19
          have e25 : R23 q2 (x.toNat) = some e11x := by rw [← w22, cl_u_eq]
          refine yi_G_run 2 (71, [(3, .inr (.inr (some e11x))), (0, .inr (.inr (some 10))), (1, .inl x), (2, .inl y)], [.inr (.inr (some 10)), .inr (.inr (some e11x))], (I16, L16, R23, Y16), 0 + 1 + nc16, 0 + 9 + ns16) (fun _ => rfl) ?_
          obtain ⟨q26, e27, t28⟩ := cl_rf hP21.1 (cl_10 hP21.1) (k := 6) rfl
          refine cl_G_gr rfl (cl_T_K (cl_10 hP21.1)) rfl rfl rfl e27 ?_
          refine yi_G_callv rfl rfl (cl_rcv t16 rfl) rfl (k_copyS d (by omega) hP21.1 t16 t28 ) ?_
          rintro _ ⟨I29, R29, rfl, hQ29⟩
          have hP29 := cl_P_t hP21 hQ29
          show yi_G zi_Ms d zi_m165 (77, [(3, .inr (.inr (some e11x))), (0, .inr (.inr (some 10))), (1, .inl x), (2, .inl y)], [], (I29, L16, R29, Y16), 0 + 1 + nc16, 0 + 9 + ns16) _
          refine yi_G_run 1 (78, [(3, .inr (.inr (some e11x))), (0, .inr (.inr (some 10))), (1, .inl x), (2, .inl y)], [.inl 1], (I29, L16, R29, Y16), 0 + 1 + nc16, 0 + 9 + ns16) (fun _ => rfl) ?_
          exact yi_G_retb rfl rfl (by decide) (⟨_, _, _, _, _, _, _, rfl, hP29, by omega, by omega, by decide⟩)
        · refine yi_G_if1 false rfl (yi_eq_f h10) ?_
          refine yi_G_run 1 (27, [(3, .inr (.inr none)), (0, .inr (.inr (some 10))), (1, .inl x), (2, .inl y)], [.inr (.inr none)], (I, L, R, Y), 0, 0) (fun _ => rfl) ?_
          refine cl_G_nnl true rfl rfl ?_
          refine yi_G_run 1 (31, [(3, .inr (.inr none)), (0, .inr (.inr (some 10))), (1, .inl x), (2, .inl y)], [.inl 0], (I, L, R, Y), 0, 0) (fun _ => rfl) ?_
          exact yi_G_retb rfl rfl (by decide) (⟨_, _, _, _, _, _, _, rfl, hP, by omega, by omega, by decide⟩)
      · refine cl_G_aald rfl t4 (by omega) (by omega) (by omega) e8 ?_
        refine yi_G_run 2 (23, [(3, .inr (.inr (some q7))), (0, .inr (.inr (some 10))), (1, .inl x), (2, .inl y)], [.inl y], (I, L, R, Y), 0, 0) (fun _ => rfl) ?_
        by_cases h30 : y = 0
        · refine yi_G_if1 true rfl (yi_eq_t h30) ?_
          refine yi_G_run 1 (51, [(3, .inr (.inr (some q7))), (0, .inr (.inr (some 10))), (1, .inl x), (2, .inl y)], [.inr (.inr (some q7))], (I, L, R, Y), 0, 0) (fun _ => rfl) ?_
          refine cl_G_nnl false rfl rfl ?_
          refine yi_G_run 2 (71, [(3, .inr (.inr (some q7))), (0, .inr (.inr (some 10))), (1, .inl x), (2, .inl y)], [.inr (.inr (some 10)), .inr (.inr (some q7))], (I, L, R, Y), 0, 0) (fun _ => rfl) ?_
          obtain ⟨q31, e32, t33⟩ := cl_rf hP.1 (cl_10 hP.1) (k := 6) rfl
          refine cl_G_gr rfl (cl_T_K (cl_10 hP.1)) rfl rfl rfl e32 ?_
          refine yi_G_callv rfl rfl (cl_rcv t9 rfl) rfl (k_copyS d (by omega) hP.1 t9 t33 ) ?_
          rintro _ ⟨I34, R34, rfl, hQ34⟩
          have hP34 := cl_P_t hP hQ34
          show yi_G zi_Ms d zi_m165 (77, [(3, .inr (.inr (some q7))), (0, .inr (.inr (some 10))), (1, .inl x), (2, .inl y)], [], (I34, L, R34, Y), 0, 0) _
          refine yi_G_run 1 (78, [(3, .inr (.inr (some q7))), (0, .inr (.inr (some 10))), (1, .inl x), (2, .inl y)], [.inl 1], (I34, L, R34, Y), 0, 0) (fun _ => rfl) ?_
          exact yi_G_retb rfl rfl (by decide) (⟨_, _, _, _, _, _, _, rfl, hP34, by omega, by omega, by decide⟩)
        · refine yi_G_if1 false rfl (yi_eq_f h30) ?_
          refine yi_G_run 1 (27, [(3, .inr (.inr (some q7))), (0, .inr (.inr (some 10))), (1, .inl x), (2, .inl y)], [.inr (.inr (some q7))], (I, L, R, Y), 0, 0) (fun _ => rfl) ?_
          refine cl_G_nnl false rfl rfl ?_
          refine yi_G_run 1 (33, [(3, .inr (.inr (some q7))), (0, .inr (.inr (some 10))), (1, .inl x), (2, .inl y)], [.inr (.inr (some 10))], (I, L, R, Y), 0, 0) (fun _ => rfl) ?_
          obtain ⟨q35, e36, t37⟩ := cl_rf hP.1 (cl_10 hP.1) (k := 6) rfl
          refine cl_G_gr rfl (cl_T_K (cl_10 hP.1)) rfl rfl rfl e36 ?_
          refine yi_G_run 1 (37, [(3, .inr (.inr (some q7))), (0, .inr (.inr (some 10))), (1, .inl x), (2, .inl y)], [.inr (.inr (some q7)), .inr (.inr (some q35))], (I, L, R, Y), 0, 0) (fun _ => rfl) ?_
          refine yi_G_callv rfl rfl (cl_rcv t37 rfl) rfl (k_copyS d (by omega) hP.1 t37 t9 ) ?_
          rintro _ ⟨I38, R38, rfl, hQ38⟩
          have hP38 := cl_P_t hP hQ38
          show yi_G zi_Ms d zi_m165 (40, [(3, .inr (.inr (some q7))), (0, .inr (.inr (some 10))), (1, .inl x), (2, .inl y)], [], (I38, L, R38, Y), 0, 0) _
          refine yi_G_run 1 (41, [(3, .inr (.inr (some q7))), (0, .inr (.inr (some 10))), (1, .inl x), (2, .inl y)], [.inr (.inr (some 10))], (I38, L, R38, Y), 0, 0) (fun _ => rfl) ?_
          refine yi_G_callv rfl rfl (cl_rcv (cl_10 hP38.1) rfl) rfl (k_forgetPastA d (by omega) hP38.1  ) ?_
          rintro _ ⟨I39, rfl, hQ39⟩
          have hP39 := cl_P_t hP38 hQ39
          show yi_G zi_Ms d zi_m165 (44, [(3, .inr (.inr (some q7))), (0, .inr (.inr (some 10))), (1, .inl x), (2, .inl y)], [], (I39, L, R38, Y), 0, 0) _
          refine yi_G_run 1 (45, [(3, .inr (.inr (some q7))), (0, .inr (.inr (some 10))), (1, .inl x), (2, .inl y)], [.inr (.inr (some 10))], (I39, L, R38, Y), 0, 0) (fun _ => rfl) ?_
          refine yi_G_callv rfl rfl (cl_rcv (cl_10 hP39.1) rfl) rfl (k_refreshLeftA d (by omega) hP39.1  ) ?_
          rintro _ ⟨I40, L40, R40, Y40, nc40, ns40, rfl, hQ40, ca40, cb40⟩
          have hP40 := cl_P_t hP39 hQ40
          have t41 := cl_T_x t4 hQ40.2.1
          have n42 := (cl_T_n t4 hQ40.2.1).trans n5
          have t43 := cl_T_x t9 hQ40.2.1
          have t44 := cl_T_x t37 hQ40.2.1
          show yi_G zi_Ms d zi_m165 (48, [(3, .inr (.inr (some q7))), (0, .inr (.inr (some 10))), (1, .inl x), (2, .inl y)], [], (I40, L40, R40, Y40), 0 + nc40, 0 + ns40) _
          refine yi_G_run 1 (49, [(3, .inr (.inr (some q7))), (0, .inr (.inr (some 10))), (1, .inl x), (2, .inl y)], [.inl 1], (I40, L40, R40, Y40), 0 + nc40, 0 + ns40) (fun _ => rfl) ?_
          exact yi_G_retb rfl rfl (by decide) (⟨_, _, _, _, _, _, _, rfl, hP40, by omega, by omega, by decide⟩)
    · refine yi_G_if2 false rfl (yi_lt_f h6) ?_
      refine yi_G_run 1 (14, [(0, .inr (.inr (some 10))), (1, .inl x), (2, .inl y)], [.inl 0], (I, L, R, Y), 0, 0) (fun _ => rfl) ?_
      exact yi_G_retb rfl rfl (by decide) (⟨_, _, _, _, _, _, _, rfl, hP, by omega, by omega, by decide⟩)
theorem k_vagueA (D : Nat) (hD : 8 ≤ D) {E : List Nat} {I L : cl_I} {R : cl_Rr} {Y : cl_Y} (hC : cl_C E I L R Y) {x : Int} {y : Int} {w : Int} : yi_E zi_Ms D 182 [.inr (.inr (some 10)), .inl x, .inl y, .inl w] (I, L, R, Y) (fun r => ∃ z, ∃ I', ∃ L', ∃ R', ∃ Y', ∃ nc ns, r = (some (.inl z), (I', L', R', Y'), nc, ns) ∧ cl_P E I L R Y I' L' R' Y' ∧ nc ≤ 27 ∧ ns ≤ 13851) := by
  obtain ⟨d, rfl⟩ : ∃ d, D = d + 1 := ⟨D - 1, by omega⟩
  refine yi_E_of (M := zi_m182) rfl rfl ?_
  have hP : cl_P E I L R Y I L R Y := cl_P_r hC
  show yi_G zi_Ms d zi_m182 (0, [(0, .inr (.inr (some 10))), (1, .inl x), (2, .inl y), (3, .inl w)], [], (I, L, R, Y), 0, 0) _
  refine yi_G_run 1 (1, [(0, .inr (.inr (some 10))), (1, .inl x), (2, .inl y), (3, .inl w)], [.inr (.inr (some 10))], (I, L, R, Y), 0, 0) (fun _ => rfl) ?_
  obtain ⟨q1, e2, t3⟩ := cl_rf hP.1 (cl_10 hP.1) (k := 16) rfl
  refine cl_G_gr rfl (cl_T_K (cl_10 hP.1)) rfl rfl rfl e2 ?_
  refine yi_G_run 1 (5, [(0, .inr (.inr (some 10))), (1, .inl x), (2, .inl y), (3, .inl w)], [.inl x, .inr (.inr (some q1))], (I, L, R, Y), 0, 0) (fun _ => rfl) ?_
  refine yi_G_callv rfl rfl (cl_rcv t3 rfl) rfl (k_isPerson d (by omega) hP.1 t3 ) ?_
  rintro _ ⟨z4, rfl, hz4, x4a⟩
  show yi_G zi_Ms d zi_m182 (8, [(0, .inr (.inr (some 10))), (1, .inl x), (2, .inl y), (3, .inl w)], [.inl z4], (I, L, R, Y), 0, 0) _
  by_cases h5 : z4 = 0
  · refine yi_G_if1 true rfl (yi_eq_t h5) ?_
    refine yi_G_run 1 (32, [(0, .inr (.inr (some 10))), (1, .inl x), (2, .inl y), (3, .inl w)], [.inl (-1)], (I, L, R, Y), 0, 0) (fun _ => rfl) ?_
    exact yi_G_reti rfl rfl (⟨_, _, _, _, _, _, _, rfl, hP, by omega, by omega⟩)
  · refine yi_G_if1 false rfl (yi_eq_f h5) ?_
    refine yi_G_run 1 (12, [(0, .inr (.inr (some 10))), (1, .inl x), (2, .inl y), (3, .inl w)], [.inr (.inr (some 10))], (I, L, R, Y), 0, 0) (fun _ => rfl) ?_
    refine cl_G_gr rfl (cl_T_K (cl_10 hP.1)) rfl rfl rfl e2 ?_
    refine yi_G_run 1 (16, [(0, .inr (.inr (some 10))), (1, .inl x), (2, .inl y), (3, .inl w)], [.inl y, .inr (.inr (some q1))], (I, L, R, Y), 0, 0) (fun _ => rfl) ?_
    refine yi_G_callv rfl rfl (cl_rcv t3 rfl) rfl (k_isEvent d (by omega) hP.1 t3 ) ?_
    rintro _ ⟨z6, rfl, hz6, x6a⟩
    show yi_G zi_Ms d zi_m182 (19, [(0, .inr (.inr (some 10))), (1, .inl x), (2, .inl y), (3, .inl w)], [.inl z6], (I, L, R, Y), 0, 0) _
    by_cases h7 : z6 = 0
    · refine yi_G_if1 true rfl (yi_eq_t h7) ?_
      refine yi_G_run 1 (32, [(0, .inr (.inr (some 10))), (1, .inl x), (2, .inl y), (3, .inl w)], [.inl (-1)], (I, L, R, Y), 0, 0) (fun _ => rfl) ?_
      exact yi_G_reti rfl rfl (⟨_, _, _, _, _, _, _, rfl, hP, by omega, by omega⟩)
    · refine yi_G_if1 false rfl (yi_eq_f h7) ?_
      refine yi_G_run 1 (23, [(0, .inr (.inr (some 10))), (1, .inl x), (2, .inl y), (3, .inl w)], [.inl w], (I, L, R, Y), 0, 0) (fun _ => rfl) ?_
      by_cases h8 : w < 0
      · refine yi_G_if1 true rfl (yi_lt_t h8) ?_
        refine yi_G_run 1 (32, [(0, .inr (.inr (some 10))), (1, .inl x), (2, .inl y), (3, .inl w)], [.inl (-1)], (I, L, R, Y), 0, 0) (fun _ => rfl) ?_
        exact yi_G_reti rfl rfl (⟨_, _, _, _, _, _, _, rfl, hP, by omega, by omega⟩)
      · refine yi_G_if1 false rfl (yi_lt_f h8) ?_
        refine yi_G_run 2 (28, [(0, .inr (.inr (some 10))), (1, .inl x), (2, .inl y), (3, .inl w)], [.inl 1, .inl w], (I, L, R, Y), 0, 0) (fun _ => rfl) ?_
        by_cases h9 : w ≤ 1
        · refine yi_G_if2 true rfl (yi_le_t h9) ?_
          refine yi_G_run 1 (34, [(0, .inr (.inr (some 10))), (1, .inl x), (2, .inl y), (3, .inl w)], [.inr (.inr (some 10))], (I, L, R, Y), 0, 0) (fun _ => rfl) ?_
          refine cl_G_gr rfl (cl_T_K (cl_10 hP.1)) rfl rfl rfl (hP.1.2.2.2.1.2.2.2.2.2.2.2.1) ?_
          refine yi_G_callv rfl rfl (cl_rcv (cl_58 hP.1) rfl) rfl (k_size d (by omega) hP.1 (cl_58 hP.1) ) ?_
          rintro _ ⟨z10, rfl⟩
          show yi_G zi_Ms d zi_m182 (40, [(0, .inr (.inr (some 10))), (1, .inl x), (2, .inl y), (3, .inl w)], [.inl z10], (I, L, R, Y), 0, 0) _
          refine yi_G_run 7 (50, [(6, .inl 0), (5, .inl (-1)), (4, .inl z10), (0, .inr (.inr (some 10))), (1, .inl x), (2, .inl y), (3, .inl w)], [.inr (.inr (some 10)), .inl 4], (I, L, R, Y), 0, 0) (fun _ => rfl) ?_
          refine cl_G_gr rfl (cl_T_K (cl_10 hP.1)) rfl rfl rfl e2 ?_
          have b11 := cl_rd hP.1 t3 (k := 14) (lo := 1) (hi := 6) rfl
          refine cl_G_gi rfl (cl_T_K t3) rfl rfl rfl ?_
          refine yi_G_imul rfl (4 * (I q1 14)) (yi_wn (by omega) (by omega)) ?_
          refine yi_G_run 1 (58, [(6, .inl 0), (5, .inl (-1)), (4, .inl z10), (0, .inr (.inr (some 10))), (1, .inl x), (2, .inl y), (3, .inl w)], [.inl 2, .inl (4 * (I q1 14))], (I, L, R, Y), 0, 0) (fun _ => rfl) ?_
          refine yi_G_iadd rfl ((4 * (I q1 14)) + 2) (yi_wn (by omega) (by omega)) ?_
          refine yi_G_run 3 (64, [(8, .inl 0), (7, .inl ((4 * (I q1 14)) + 2)), (6, .inl 0), (5, .inl (-1)), (4, .inl z10), (0, .inr (.inr (some 10))), (1, .inl x), (2, .inl y), (3, .inl w)], [], (I, L, R, Y), 0, 0) (fun _ => rfl) ?_
          have pt64 : ∀ (m_ : Nat) (j : Int) (be : Int) (wo : Int) (Ip64 : cl_I) (Lp64 : cl_I) (Rp64 : cl_Rr) (Yp64 : cl_Y) (ncp64 : Nat) (nsp64 : Nat), (cl_P E I L R Y Ip64 Lp64 Rp64 Yp64) → (0 ≤ j ∧ j ≤ 27) → ((ncp64 : Int) ≤ j ∧ (nsp64 : Int) ≤ 513 * j) → (27 - j).toNat = m_ → yi_G zi_Ms d zi_m182 (64, [(8, .inl j), (7, .inl ((4 * (I q1 14)) + 2)), (6, .inl be), (5, .inl wo), (4, .inl z10), (0, .inr (.inr (some 10))), (1, .inl x), (2, .inl y), (3, .inl w)], [], (Ip64, Lp64, Rp64, Yp64), ncp64, nsp64) (fun r => ∃ z, ∃ I', ∃ L', ∃ R', ∃ Y', ∃ nc ns, r = (some (.inl z), (I', L', R', Y'), nc, ns) ∧ cl_P E I L R Y I' L' R' Y' ∧ nc ≤ 27 ∧ ns ≤ 13851) := by
            intro m64
            induction m64 using Nat.strongRecOn with
            | _ m64 ih64 =>
            intro j be wo Ip64 Lp64 Rp64 Yp64 ncp64 nsp64 hPp64 j0 nn hm64
            refine yi_G_run 2 (68, [(8, .inl j), (7, .inl ((4 * (I q1 14)) + 2)), (6, .inl be), (5, .inl wo), (4, .inl z10), (0, .inr (.inr (some 10))), (1, .inl x), (2, .inl y), (3, .inl w)], [.inl ((4 * (I q1 14)) + 2), .inl j], (Ip64, Lp64, Rp64, Yp64), ncp64, nsp64) (fun _ => rfl) ?_
            by_cases h12 : ((4 * (I q1 14)) + 2) < j
            · refine yi_G_if2 true rfl (yi_gt_t h12) ?_
              refine yi_G_run 2 (116, [(8, .inl j), (7, .inl ((4 * (I q1 14)) + 2)), (6, .inl be), (5, .inl wo), (4, .inl z10), (0, .inr (.inr (some 10))), (1, .inl x), (2, .inl y), (3, .inl w)], [.inl (-1), .inl wo], (Ip64, Lp64, Rp64, Yp64), ncp64, nsp64) (fun _ => rfl) ?_
              by_cases h13 : wo = (-1)
              · refine yi_G_if2 true rfl (yi_eq_t h13) ?_
                refine yi_G_run 2 (130, [(8, .inl j), (7, .inl ((4 * (I q1 14)) + 2)), (6, .inl be), (5, .inl wo), (4, .inl z10), (0, .inr (.inr (some 10))), (1, .inl x), (2, .inl y), (3, .inl w)], [.inl wo], (Ip64, Lp64, Rp64, Yp64), ncp64, nsp64) (fun _ => rfl) ?_
                exact yi_G_reti rfl rfl (⟨_, _, _, _, _, _, _, rfl, hPp64, by omega, by omega⟩)
              · refine yi_G_if2 false rfl (yi_eq_f h13) ?_
                refine yi_G_run 1 (120, [(8, .inl j), (7, .inl ((4 * (I q1 14)) + 2)), (6, .inl be), (5, .inl wo), (4, .inl z10), (0, .inr (.inr (some 10))), (1, .inl x), (2, .inl y), (3, .inl w)], [.inl w], (Ip64, Lp64, Rp64, Yp64), ncp64, nsp64) (fun _ => rfl) ?_
                by_cases h14 : w = 0
                · refine yi_G_if1 false rfl (yi_ne_f h14) ?_
                  refine yi_G_run 2 (130, [(8, .inl j), (7, .inl ((4 * (I q1 14)) + 2)), (6, .inl be), (5, .inl wo), (4, .inl z10), (0, .inr (.inr (some 10))), (1, .inl x), (2, .inl y), (3, .inl w)], [.inl wo], (Ip64, Lp64, Rp64, Yp64), ncp64, nsp64) (fun _ => rfl) ?_
                  exact yi_G_reti rfl rfl (⟨_, _, _, _, _, _, _, rfl, hPp64, by omega, by omega⟩)
                · refine yi_G_if1 true rfl (yi_ne_t h14) ?_
                  refine yi_G_run 1 (130, [(8, .inl j), (7, .inl ((4 * (I q1 14)) + 2)), (6, .inl be), (5, .inl wo), (4, .inl z10), (0, .inr (.inr (some 10))), (1, .inl x), (2, .inl y), (3, .inl w)], [.inl be], (Ip64, Lp64, Rp64, Yp64), ncp64, nsp64) (fun _ => rfl) ?_
                  exact yi_G_reti rfl rfl (⟨_, _, _, _, _, _, _, rfl, hPp64, by omega, by omega⟩)
            · refine yi_G_if2 false rfl (yi_gt_f h12) ?_
              refine yi_G_run 5 (77, [(8, .inl j), (7, .inl ((4 * (I q1 14)) + 2)), (6, .inl be), (5, .inl wo), (4, .inl z10), (0, .inr (.inr (some 10))), (1, .inl x), (2, .inl y), (3, .inl w)], [.inl j, .inl y, .inl x, .inr (.inr (some 10)), .inr (.inr (some 10))], (Ip64, Lp64, Rp64, Yp64), ncp64, nsp64) (fun _ => rfl) ?_
              refine yi_G_callv rfl rfl (cl_rcv (cl_10 hPp64.1) rfl) rfl (k_vagueCodeA d (by omega) hPp64.1  ) ?_
              rintro _ ⟨z15, rfl⟩
              show yi_G zi_Ms d zi_m182 (80, [(8, .inl j), (7, .inl ((4 * (I q1 14)) + 2)), (6, .inl be), (5, .inl wo), (4, .inl z10), (0, .inr (.inr (some 10))), (1, .inl x), (2, .inl y), (3, .inl w)], [.inl z15, .inr (.inr (some 10))], (Ip64, Lp64, Rp64, Yp64), ncp64, nsp64) _
              refine yi_G_callv rfl rfl (cl_rcv (cl_10 hPp64.1) rfl) rfl (k_leftWithA d (by omega) hPp64.1  ) ?_
              rintro _ ⟨z16, I16, L16, R16, Y16, nc16, ns16, rfl, hQ16, ca16, cb16⟩
              have hP16 := cl_P_t hPp64 hQ16
              show yi_G zi_Ms d zi_m182 (83, [(8, .inl j), (7, .inl ((4 * (I q1 14)) + 2)), (6, .inl be), (5, .inl wo), (4, .inl z10), (0, .inr (.inr (some 10))), (1, .inl x), (2, .inl y), (3, .inl w)], [.inl z16], (I16, L16, R16, Y16), ncp64 + nc16, nsp64 + ns16) _
              refine yi_G_run 3 (89, [(9, .inl z16), (8, .inl j), (7, .inl ((4 * (I q1 14)) + 2)), (6, .inl be), (5, .inl wo), (4, .inl z10), (0, .inr (.inr (some 10))), (1, .inl x), (2, .inl y), (3, .inl w)], [.inl z10, .inl z16], (I16, L16, R16, Y16), ncp64 + nc16, nsp64 + ns16) (fun _ => rfl) ?_
              by_cases h17 : z10 ≤ z16
              · refine yi_G_if2 true rfl (yi_ge_t h17) ?_
                refine yi_G_iinc [(8, .inl (j + 1)), (9, .inl z16), (7, .inl ((4 * (I q1 14)) + 2)), (6, .inl be), (5, .inl wo), (4, .inl z10), (0, .inr (.inr (some 10))), (1, .inl x), (2, .inl y), (3, .inl w)] rfl rfl rfl (by rw [show yi_w (j + 1) = j + 1 from (yi_wn (by omega) (by omega)).trans (by omega)]; rfl) ?_
                refine yi_G_run 1 (64, [(8, .inl (j + 1)), (9, .inl z16), (7, .inl ((4 * (I q1 14)) + 2)), (6, .inl be), (5, .inl wo), (4, .inl z10), (0, .inr (.inr (some 10))), (1, .inl x), (2, .inl y), (3, .inl w)], [], (I16, L16, R16, Y16), ncp64 + nc16, nsp64 + ns16) (fun _ => rfl) ?_
                refine yi_G_al (al := [(8, .inl (j + 1)), (7, .inl ((4 * (I q1 14)) + 2)), (6, .inl be), (5, .inl wo), (4, .inl z10), (0, .inr (.inr (some 10))), (1, .inl x), (2, .inl y), (3, .inl w)]) (show ([8, 7, 6, 5, 4, 0, 1, 2, 3] : List Nat).Nodup by decide) (show ([8, 9, 7, 6, 5, 4, 0, 1, 2, 3] : List Nat).Nodup by decide) (yi_mc (List.mem_of_getElem? (i := 0) rfl) (yi_mc (List.mem_of_getElem? (i := 2) rfl) (yi_mc (List.mem_of_getElem? (i := 3) rfl) (yi_mc (List.mem_of_getElem? (i := 4) rfl) (yi_mc (List.mem_of_getElem? (i := 5) rfl) (yi_mc (List.mem_of_getElem? (i := 6) rfl) (yi_mc (List.mem_of_getElem? (i := 7) rfl) (yi_mc (List.mem_of_getElem? (i := 8) rfl) (yi_mc (List.mem_of_getElem? (i := 9) rfl) yi_mn))))))))) ?_
                exact ih64 _ (by omega) (j + 1) be wo I16 L16 R16 Y16 (ncp64 + nc16) (nsp64 + ns16) hP16 (by omega) (by omega) rfl
              · refine yi_G_if2 false rfl (yi_ge_f h17) ?_
                refine yi_G_run 2 (96, [(9, .inl z16), (8, .inl j), (7, .inl ((4 * (I q1 14)) + 2)), (6, .inl be), (5, .inl wo), (4, .inl z10), (0, .inr (.inr (some 10))), (1, .inl x), (2, .inl y), (3, .inl w)], [.inl be, .inl z16], (I16, L16, R16, Y16), ncp64 + nc16, nsp64 + ns16) (fun _ => rfl) ?_
                by_cases h18 : z16 ≤ be
                · refine yi_G_if2 true rfl (yi_le_t h18) ?_
                  refine yi_G_iinc [(8, .inl (j + 1)), (9, .inl z16), (7, .inl ((4 * (I q1 14)) + 2)), (6, .inl be), (5, .inl wo), (4, .inl z10), (0, .inr (.inr (some 10))), (1, .inl x), (2, .inl y), (3, .inl w)] rfl rfl rfl (by rw [show yi_w (j + 1) = j + 1 from (yi_wn (by omega) (by omega)).trans (by omega)]; rfl) ?_
                  refine yi_G_run 1 (64, [(8, .inl (j + 1)), (9, .inl z16), (7, .inl ((4 * (I q1 14)) + 2)), (6, .inl be), (5, .inl wo), (4, .inl z10), (0, .inr (.inr (some 10))), (1, .inl x), (2, .inl y), (3, .inl w)], [], (I16, L16, R16, Y16), ncp64 + nc16, nsp64 + ns16) (fun _ => rfl) ?_
                  refine yi_G_al (al := [(8, .inl (j + 1)), (7, .inl ((4 * (I q1 14)) + 2)), (6, .inl be), (5, .inl wo), (4, .inl z10), (0, .inr (.inr (some 10))), (1, .inl x), (2, .inl y), (3, .inl w)]) (show ([8, 7, 6, 5, 4, 0, 1, 2, 3] : List Nat).Nodup by decide) (show ([8, 9, 7, 6, 5, 4, 0, 1, 2, 3] : List Nat).Nodup by decide) (yi_mc (List.mem_of_getElem? (i := 0) rfl) (yi_mc (List.mem_of_getElem? (i := 2) rfl) (yi_mc (List.mem_of_getElem? (i := 3) rfl) (yi_mc (List.mem_of_getElem? (i := 4) rfl) (yi_mc (List.mem_of_getElem? (i := 5) rfl) (yi_mc (List.mem_of_getElem? (i := 6) rfl) (yi_mc (List.mem_of_getElem? (i := 7) rfl) (yi_mc (List.mem_of_getElem? (i := 8) rfl) (yi_mc (List.mem_of_getElem? (i := 9) rfl) yi_mn))))))))) ?_
                  exact ih64 _ (by omega) (j + 1) be wo I16 L16 R16 Y16 (ncp64 + nc16) (nsp64 + ns16) hP16 (by omega) (by omega) rfl
                · refine yi_G_if2 false rfl (yi_le_f h18) ?_
                  refine yi_G_run 4 (107, [(6, .inl z16), (5, .inl j), (9, .inl z16), (8, .inl j), (7, .inl ((4 * (I q1 14)) + 2)), (4, .inl z10), (0, .inr (.inr (some 10))), (1, .inl x), (2, .inl y), (3, .inl w)], [], (I16, L16, R16, Y16), ncp64 + nc16, nsp64 + ns16) (fun _ => rfl) ?_
                  refine yi_G_iinc [(8, .inl (j + 1)), (6, .inl z16), (5, .inl j), (9, .inl z16), (7, .inl ((4 * (I q1 14)) + 2)), (4, .inl z10), (0, .inr (.inr (some 10))), (1, .inl x), (2, .inl y), (3, .inl w)] rfl rfl rfl (by rw [show yi_w (j + 1) = j + 1 from (yi_wn (by omega) (by omega)).trans (by omega)]; rfl) ?_
                  refine yi_G_run 1 (64, [(8, .inl (j + 1)), (6, .inl z16), (5, .inl j), (9, .inl z16), (7, .inl ((4 * (I q1 14)) + 2)), (4, .inl z10), (0, .inr (.inr (some 10))), (1, .inl x), (2, .inl y), (3, .inl w)], [], (I16, L16, R16, Y16), ncp64 + nc16, nsp64 + ns16) (fun _ => rfl) ?_
                  refine yi_G_al (al := [(8, .inl (j + 1)), (7, .inl ((4 * (I q1 14)) + 2)), (6, .inl z16), (5, .inl j), (4, .inl z10), (0, .inr (.inr (some 10))), (1, .inl x), (2, .inl y), (3, .inl w)]) (show ([8, 7, 6, 5, 4, 0, 1, 2, 3] : List Nat).Nodup by decide) (show ([8, 6, 5, 9, 7, 4, 0, 1, 2, 3] : List Nat).Nodup by decide) (yi_mc (List.mem_of_getElem? (i := 0) rfl) (yi_mc (List.mem_of_getElem? (i := 4) rfl) (yi_mc (List.mem_of_getElem? (i := 1) rfl) (yi_mc (List.mem_of_getElem? (i := 2) rfl) (yi_mc (List.mem_of_getElem? (i := 5) rfl) (yi_mc (List.mem_of_getElem? (i := 6) rfl) (yi_mc (List.mem_of_getElem? (i := 7) rfl) (yi_mc (List.mem_of_getElem? (i := 8) rfl) (yi_mc (List.mem_of_getElem? (i := 9) rfl) yi_mn))))))))) ?_
                  exact ih64 _ (by omega) (j + 1) z16 j I16 L16 R16 Y16 (ncp64 + nc16) (nsp64 + ns16) hP16 (by omega) (by omega) rfl
          exact pt64 _ 0 0 (-1) I L R Y (0) (0) hP (by omega) (by omega) rfl
        · refine yi_G_if2 false rfl (yi_le_f h9) ?_
          refine yi_G_run 1 (32, [(0, .inr (.inr (some 10))), (1, .inl x), (2, .inl y), (3, .inl w)], [.inl (-1)], (I, L, R, Y), 0, 0) (fun _ => rfl) ?_
          exact yi_G_reti rfl rfl (⟨_, _, _, _, _, _, _, rfl, hP, by omega, by omega⟩)
theorem k_spanA (D : Nat) (hD : 8 ≤ D) {E : List Nat} {I L : cl_I} {R : cl_Rr} {Y : cl_Y} (hC : cl_C E I L R Y) {x : Int} {y : Int} {w : Int} : yi_E zi_Ms D 175 [.inr (.inr (some 10)), .inl x, .inl y, .inl w] (I, L, R, Y) (fun r => ∃ z, ∃ I', ∃ L', ∃ R', ∃ Y', ∃ nc ns, r = (some (.inl z), (I', L', R', Y'), nc, ns) ∧ cl_P E I L R Y I' L' R' Y' ∧ nc ≤ 6 ∧ ns ≤ 3078) := by
  obtain ⟨d, rfl⟩ : ∃ d, D = d + 1 := ⟨D - 1, by omega⟩
  refine yi_E_of (M := zi_m175) rfl rfl ?_
  have hP : cl_P E I L R Y I L R Y := cl_P_r hC
  show yi_G zi_Ms d zi_m175 (0, [(0, .inr (.inr (some 10))), (1, .inl x), (2, .inl y), (3, .inl w)], [], (I, L, R, Y), 0, 0) _
  refine yi_G_run 1 (1, [(0, .inr (.inr (some 10))), (1, .inl x), (2, .inl y), (3, .inl w)], [.inr (.inr (some 10))], (I, L, R, Y), 0, 0) (fun _ => rfl) ?_
  obtain ⟨q1, e2, t3⟩ := cl_rf hP.1 (cl_10 hP.1) (k := 16) rfl
  refine cl_G_gr rfl (cl_T_K (cl_10 hP.1)) rfl rfl rfl e2 ?_
  refine yi_G_run 1 (5, [(0, .inr (.inr (some 10))), (1, .inl x), (2, .inl y), (3, .inl w)], [.inl x, .inr (.inr (some q1))], (I, L, R, Y), 0, 0) (fun _ => rfl) ?_
  refine yi_G_callv rfl rfl (cl_rcv t3 rfl) rfl (k_isPerson d (by omega) hP.1 t3 ) ?_
  rintro _ ⟨z4, rfl, hz4, x4a⟩
  show yi_G zi_Ms d zi_m175 (8, [(0, .inr (.inr (some 10))), (1, .inl x), (2, .inl y), (3, .inl w)], [.inl z4], (I, L, R, Y), 0, 0) _
  by_cases h5 : z4 = 0
  · refine yi_G_if1 true rfl (yi_eq_t h5) ?_
    refine yi_G_run 1 (32, [(0, .inr (.inr (some 10))), (1, .inl x), (2, .inl y), (3, .inl w)], [.inl (-1)], (I, L, R, Y), 0, 0) (fun _ => rfl) ?_
    exact yi_G_reti rfl rfl (⟨_, _, _, _, _, _, _, rfl, hP, by omega, by omega⟩)
  · refine yi_G_if1 false rfl (yi_eq_f h5) ?_
    refine yi_G_run 1 (12, [(0, .inr (.inr (some 10))), (1, .inl x), (2, .inl y), (3, .inl w)], [.inr (.inr (some 10))], (I, L, R, Y), 0, 0) (fun _ => rfl) ?_
    refine cl_G_gr rfl (cl_T_K (cl_10 hP.1)) rfl rfl rfl e2 ?_
    refine yi_G_run 1 (16, [(0, .inr (.inr (some 10))), (1, .inl x), (2, .inl y), (3, .inl w)], [.inl y, .inr (.inr (some q1))], (I, L, R, Y), 0, 0) (fun _ => rfl) ?_
    refine yi_G_callv rfl rfl (cl_rcv t3 rfl) rfl (k_isEvent d (by omega) hP.1 t3 ) ?_
    rintro _ ⟨z6, rfl, hz6, x6a⟩
    show yi_G zi_Ms d zi_m175 (19, [(0, .inr (.inr (some 10))), (1, .inl x), (2, .inl y), (3, .inl w)], [.inl z6], (I, L, R, Y), 0, 0) _
    by_cases h7 : z6 = 0
    · refine yi_G_if1 true rfl (yi_eq_t h7) ?_
      refine yi_G_run 1 (32, [(0, .inr (.inr (some 10))), (1, .inl x), (2, .inl y), (3, .inl w)], [.inl (-1)], (I, L, R, Y), 0, 0) (fun _ => rfl) ?_
      exact yi_G_reti rfl rfl (⟨_, _, _, _, _, _, _, rfl, hP, by omega, by omega⟩)
    · refine yi_G_if1 false rfl (yi_eq_f h7) ?_
      refine yi_G_run 1 (23, [(0, .inr (.inr (some 10))), (1, .inl x), (2, .inl y), (3, .inl w)], [.inl w], (I, L, R, Y), 0, 0) (fun _ => rfl) ?_
      by_cases h8 : w < 0
      · refine yi_G_if1 true rfl (yi_lt_t h8) ?_
        refine yi_G_run 1 (32, [(0, .inr (.inr (some 10))), (1, .inl x), (2, .inl y), (3, .inl w)], [.inl (-1)], (I, L, R, Y), 0, 0) (fun _ => rfl) ?_
        exact yi_G_reti rfl rfl (⟨_, _, _, _, _, _, _, rfl, hP, by omega, by omega⟩)
      · refine yi_G_if1 false rfl (yi_lt_f h8) ?_
        refine yi_G_run 2 (28, [(0, .inr (.inr (some 10))), (1, .inl x), (2, .inl y), (3, .inl w)], [.inl 1, .inl w], (I, L, R, Y), 0, 0) (fun _ => rfl) ?_
        by_cases h9 : w ≤ 1
        · refine yi_G_if2 true rfl (yi_le_t h9) ?_
          refine yi_G_run 1 (34, [(0, .inr (.inr (some 10))), (1, .inl x), (2, .inl y), (3, .inl w)], [.inr (.inr (some 10))], (I, L, R, Y), 0, 0) (fun _ => rfl) ?_
          refine cl_G_gr rfl (cl_T_K (cl_10 hP.1)) rfl rfl rfl (hP.1.2.2.2.1.2.2.2.2.2.2.2.1) ?_
          refine yi_G_callv rfl rfl (cl_rcv (cl_58 hP.1) rfl) rfl (k_size d (by omega) hP.1 (cl_58 hP.1) ) ?_
          rintro _ ⟨z10, rfl⟩
          show yi_G zi_Ms d zi_m175 (40, [(0, .inr (.inr (some 10))), (1, .inl x), (2, .inl y), (3, .inl w)], [.inl z10], (I, L, R, Y), 0, 0) _
          refine yi_G_run 3 (45, [(5, .inl 1), (4, .inl z10), (0, .inr (.inr (some 10))), (1, .inl x), (2, .inl y), (3, .inl w)], [], (I, L, R, Y), 0, 0) (fun _ => rfl) ?_
          have pt45 : ∀ (m_ : Nat) (j : Int) (Ip45 : cl_I) (Lp45 : cl_I) (Rp45 : cl_Rr) (Yp45 : cl_Y) (ncp45 : Nat) (nsp45 : Nat), (cl_P E I L R Y Ip45 Lp45 Rp45 Yp45) → (1 ≤ j ∧ j ≤ 7) → ((ncp45 : Int) ≤ j - 1 ∧ (nsp45 : Int) ≤ 513 * (j - 1)) → (7 - j).toNat = m_ → yi_G zi_Ms d zi_m175 (45, [(5, .inl j), (4, .inl z10), (0, .inr (.inr (some 10))), (1, .inl x), (2, .inl y), (3, .inl w)], [], (Ip45, Lp45, Rp45, Yp45), ncp45, nsp45) (fun r => ∃ z, ∃ I', ∃ L', ∃ R', ∃ Y', ∃ nc ns, r = (some (.inl z), (I', L', R', Y'), nc, ns) ∧ cl_P E I L R Y I' L' R' Y' ∧ nc ≤ 6 ∧ ns ≤ 3078) := by
            intro m45
            induction m45 using Nat.strongRecOn with
            | _ m45 ih45 =>
            intro j Ip45 Lp45 Rp45 Yp45 ncp45 nsp45 hPp45 j0 nn hm45
            refine yi_G_run 2 (48, [(5, .inl j), (4, .inl z10), (0, .inr (.inr (some 10))), (1, .inl x), (2, .inl y), (3, .inl w)], [.inr (.inr (some 10)), .inl j], (Ip45, Lp45, Rp45, Yp45), ncp45, nsp45) (fun _ => rfl) ?_
            obtain ⟨q11, e12, t13⟩ := cl_rf hPp45.1 (cl_10 hPp45.1) (k := 16) rfl
            refine cl_G_gr rfl (cl_T_K (cl_10 hPp45.1)) rfl rfl rfl e12 ?_
            have b14 := cl_rd hPp45.1 t13 (k := 14) (lo := 1) (hi := 6) rfl
            refine cl_G_gi rfl (cl_T_K t13) rfl rfl rfl ?_
            by_cases h15 : (Ip45 q11 14) < j
            · refine yi_G_if2 true rfl (yi_gt_t h15) ?_
              refine yi_G_run 1 (101, [(5, .inl j), (4, .inl z10), (0, .inr (.inr (some 10))), (1, .inl x), (2, .inl y), (3, .inl w)], [.inl (-1)], (Ip45, Lp45, Rp45, Yp45), ncp45, nsp45) (fun _ => rfl) ?_
              exact yi_G_reti rfl rfl (⟨_, _, _, _, _, _, _, rfl, hPp45, by omega, by omega⟩)
            · refine yi_G_if2 false rfl (yi_gt_f h15) ?_
              refine yi_G_run 6 (64, [(5, .inl j), (4, .inl z10), (0, .inr (.inr (some 10))), (1, .inl x), (2, .inl y), (3, .inl w)], [.inl j, .inl 1, .inl y, .inl x, .inl 4, .inr (.inr (some 10))], (Ip45, Lp45, Rp45, Yp45), ncp45, nsp45) (fun _ => rfl) ?_
              refine yi_G_calls rfl rfl (k_clauseCode d (by omega) hPp45.1  ) ?_
              rintro _ ⟨z16, rfl⟩
              show yi_G zi_Ms d zi_m175 (67, [(5, .inl j), (4, .inl z10), (0, .inr (.inr (some 10))), (1, .inl x), (2, .inl y), (3, .inl w)], [.inl z16, .inr (.inr (some 10))], (Ip45, Lp45, Rp45, Yp45), ncp45, nsp45) _
              refine yi_G_callv rfl rfl (cl_rcv (cl_10 hPp45.1) rfl) rfl (k_leftWithA d (by omega) hPp45.1  ) ?_
              rintro _ ⟨z17, I17, L17, R17, Y17, nc17, ns17, rfl, hQ17, ca17, cb17⟩
              have hP17 := cl_P_t hPp45 hQ17
              have t18 := cl_T_x t13 hQ17.2.1
              show yi_G zi_Ms d zi_m175 (70, [(5, .inl j), (4, .inl z10), (0, .inr (.inr (some 10))), (1, .inl x), (2, .inl y), (3, .inl w)], [.inl z17], (I17, L17, R17, Y17), ncp45 + nc17, nsp45 + ns17) _
              refine yi_G_run 2 (73, [(6, .inl z17), (5, .inl j), (4, .inl z10), (0, .inr (.inr (some 10))), (1, .inl x), (2, .inl y), (3, .inl w)], [.inl w], (I17, L17, R17, Y17), ncp45 + nc17, nsp45 + ns17) (fun _ => rfl) ?_
              by_cases h19 : w = 0
              · refine yi_G_if1 false rfl (yi_ne_f h19) ?_
                refine yi_G_run 1 (78, [(6, .inl z17), (5, .inl j), (4, .inl z10), (0, .inr (.inr (some 10))), (1, .inl x), (2, .inl y), (3, .inl w)], [.inl z17], (I17, L17, R17, Y17), ncp45 + nc17, nsp45 + ns17) (fun _ => rfl) ?_
                by_cases h20 : z17 ≤ 0
                · refine yi_G_if1 true rfl (yi_le_t h20) ?_
                  refine yi_G_iinc [(5, .inl (j + 1)), (6, .inl z17), (4, .inl z10), (0, .inr (.inr (some 10))), (1, .inl x), (2, .inl y), (3, .inl w)] rfl rfl rfl (by rw [show yi_w (j + 1) = j + 1 from (yi_wn (by omega) (by omega)).trans (by omega)]; rfl) ?_
                  refine yi_G_run 1 (45, [(5, .inl (j + 1)), (6, .inl z17), (4, .inl z10), (0, .inr (.inr (some 10))), (1, .inl x), (2, .inl y), (3, .inl w)], [], (I17, L17, R17, Y17), ncp45 + nc17, nsp45 + ns17) (fun _ => rfl) ?_
                  refine yi_G_al (al := [(5, .inl (j + 1)), (4, .inl z10), (0, .inr (.inr (some 10))), (1, .inl x), (2, .inl y), (3, .inl w)]) (show ([5, 4, 0, 1, 2, 3] : List Nat).Nodup by decide) (show ([5, 6, 4, 0, 1, 2, 3] : List Nat).Nodup by decide) (yi_mc (List.mem_of_getElem? (i := 0) rfl) (yi_mc (List.mem_of_getElem? (i := 2) rfl) (yi_mc (List.mem_of_getElem? (i := 3) rfl) (yi_mc (List.mem_of_getElem? (i := 4) rfl) (yi_mc (List.mem_of_getElem? (i := 5) rfl) (yi_mc (List.mem_of_getElem? (i := 6) rfl) yi_mn)))))) ?_
                  exact ih45 _ (by omega) (j + 1) I17 L17 R17 Y17 (ncp45 + nc17) (nsp45 + ns17) hP17 (by omega) (by omega) rfl
                · refine yi_G_if1 false rfl (yi_le_f h20) ?_
                  refine yi_G_run 2 (93, [(6, .inl z17), (5, .inl j), (4, .inl z10), (0, .inr (.inr (some 10))), (1, .inl x), (2, .inl y), (3, .inl w)], [.inl j], (I17, L17, R17, Y17), ncp45 + nc17, nsp45 + ns17) (fun _ => rfl) ?_
                  exact yi_G_reti rfl rfl (⟨_, _, _, _, _, _, _, rfl, hP17, by omega, by omega⟩)
              · refine yi_G_if1 true rfl (yi_ne_t h19) ?_
                refine yi_G_run 2 (88, [(6, .inl z17), (5, .inl j), (4, .inl z10), (0, .inr (.inr (some 10))), (1, .inl x), (2, .inl y), (3, .inl w)], [.inl z10, .inl z17], (I17, L17, R17, Y17), ncp45 + nc17, nsp45 + ns17) (fun _ => rfl) ?_
                by_cases h21 : z17 = z10
                · refine yi_G_if2 false rfl (yi_ne_f h21) ?_
                  refine yi_G_run 1 (93, [(6, .inl z17), (5, .inl j), (4, .inl z10), (0, .inr (.inr (some 10))), (1, .inl x), (2, .inl y), (3, .inl w)], [.inl j], (I17, L17, R17, Y17), ncp45 + nc17, nsp45 + ns17) (fun _ => rfl) ?_
                  exact yi_G_reti rfl rfl (⟨_, _, _, _, _, _, _, rfl, hP17, by omega, by omega⟩)
                · refine yi_G_if2 true rfl (yi_ne_t h21) ?_
                  refine yi_G_iinc [(5, .inl (j + 1)), (6, .inl z17), (4, .inl z10), (0, .inr (.inr (some 10))), (1, .inl x), (2, .inl y), (3, .inl w)] rfl rfl rfl (by rw [show yi_w (j + 1) = j + 1 from (yi_wn (by omega) (by omega)).trans (by omega)]; rfl) ?_
                  refine yi_G_run 1 (45, [(5, .inl (j + 1)), (6, .inl z17), (4, .inl z10), (0, .inr (.inr (some 10))), (1, .inl x), (2, .inl y), (3, .inl w)], [], (I17, L17, R17, Y17), ncp45 + nc17, nsp45 + ns17) (fun _ => rfl) ?_
                  refine yi_G_al (al := [(5, .inl (j + 1)), (4, .inl z10), (0, .inr (.inr (some 10))), (1, .inl x), (2, .inl y), (3, .inl w)]) (show ([5, 4, 0, 1, 2, 3] : List Nat).Nodup by decide) (show ([5, 6, 4, 0, 1, 2, 3] : List Nat).Nodup by decide) (yi_mc (List.mem_of_getElem? (i := 0) rfl) (yi_mc (List.mem_of_getElem? (i := 2) rfl) (yi_mc (List.mem_of_getElem? (i := 3) rfl) (yi_mc (List.mem_of_getElem? (i := 4) rfl) (yi_mc (List.mem_of_getElem? (i := 5) rfl) (yi_mc (List.mem_of_getElem? (i := 6) rfl) yi_mn)))))) ?_
                  exact ih45 _ (by omega) (j + 1) I17 L17 R17 Y17 (ncp45 + nc17) (nsp45 + ns17) hP17 (by omega) (by omega) rfl
          exact pt45 _ 1 I L R Y (0) (0) hP (by omega) (by omega) rfl
        · refine yi_G_if2 false rfl (yi_le_f h9) ?_
          refine yi_G_run 1 (32, [(0, .inr (.inr (some 10))), (1, .inl x), (2, .inl y), (3, .inl w)], [.inl (-1)], (I, L, R, Y), 0, 0) (fun _ => rfl) ?_
          exact yi_G_reti rfl rfl (⟨_, _, _, _, _, _, _, rfl, hP, by omega, by omega⟩)
theorem k_yearA (D : Nat) (hD : 8 ≤ D) {E : List Nat} {I L : cl_I} {R : cl_Rr} {Y : cl_Y} (hC : cl_C E I L R Y) {x : Int} {y : Int} {w : Int} : yi_E zi_Ms D 190 [.inr (.inr (some 10)), .inl x, .inl y, .inl w] (I, L, R, Y) (fun r => ∃ z, ∃ I', ∃ L', ∃ R', ∃ Y', ∃ nc ns, r = (some (.inl z), (I', L', R', Y'), nc, ns) ∧ cl_P E I L R Y I' L' R' Y' ∧ nc ≤ 2 ∧ ns ≤ 1026) := by
  obtain ⟨d, rfl⟩ : ∃ d, D = d + 1 := ⟨D - 1, by omega⟩
  refine yi_E_of (M := zi_m190) rfl rfl ?_
  have hP : cl_P E I L R Y I L R Y := cl_P_r hC
  show yi_G zi_Ms d zi_m190 (0, [(0, .inr (.inr (some 10))), (1, .inl x), (2, .inl y), (3, .inl w)], [], (I, L, R, Y), 0, 0) _
  refine yi_G_run 1 (1, [(0, .inr (.inr (some 10))), (1, .inl x), (2, .inl y), (3, .inl w)], [.inl x], (I, L, R, Y), 0, 0) (fun _ => rfl) ?_
  by_cases h1 : x < 0
  · refine yi_G_if1 true rfl (yi_lt_t h1) ?_
    refine yi_G_run 3 (40, [(4, .inl 0), (0, .inr (.inr (some 10))), (1, .inl x), (2, .inl y), (3, .inl w)], [.inl 0], (I, L, R, Y), 0, 0) (fun _ => rfl) ?_
    refine yi_G_if1 true rfl (by decide) ?_
    refine yi_G_run 1 (74, [(4, .inl 0), (0, .inr (.inr (some 10))), (1, .inl x), (2, .inl y), (3, .inl w)], [.inl (-1)], (I, L, R, Y), 0, 0) (fun _ => rfl) ?_
    exact yi_G_reti rfl rfl (⟨_, _, _, _, _, _, _, rfl, hP, by omega, by omega⟩)
  · refine yi_G_if1 false rfl (yi_lt_f h1) ?_
    refine yi_G_run 2 (8, [(0, .inr (.inr (some 10))), (1, .inl x), (2, .inl y), (3, .inl w)], [.inl 9999, .inl x], (I, L, R, Y), 0, 0) (fun _ => rfl) ?_
    by_cases h2 : 9999 < x
    · refine yi_G_if2 true rfl (yi_gt_t h2) ?_
      refine yi_G_run 3 (40, [(4, .inl 0), (0, .inr (.inr (some 10))), (1, .inl x), (2, .inl y), (3, .inl w)], [.inl 0], (I, L, R, Y), 0, 0) (fun _ => rfl) ?_
      refine yi_G_if1 true rfl (by decide) ?_
      refine yi_G_run 1 (74, [(4, .inl 0), (0, .inr (.inr (some 10))), (1, .inl x), (2, .inl y), (3, .inl w)], [.inl (-1)], (I, L, R, Y), 0, 0) (fun _ => rfl) ?_
      exact yi_G_reti rfl rfl (⟨_, _, _, _, _, _, _, rfl, hP, by omega, by omega⟩)
    · refine yi_G_if2 false rfl (yi_gt_f h2) ?_
      refine yi_G_run 2 (13, [(0, .inr (.inr (some 10))), (1, .inl x), (2, .inl y), (3, .inl w)], [.inl 1, .inl y], (I, L, R, Y), 0, 0) (fun _ => rfl) ?_
      by_cases h3 : y < 1
      · refine yi_G_if2 true rfl (yi_lt_t h3) ?_
        refine yi_G_run 3 (40, [(4, .inl 0), (0, .inr (.inr (some 10))), (1, .inl x), (2, .inl y), (3, .inl w)], [.inl 0], (I, L, R, Y), 0, 0) (fun _ => rfl) ?_
        refine yi_G_if1 true rfl (by decide) ?_
        refine yi_G_run 1 (74, [(4, .inl 0), (0, .inr (.inr (some 10))), (1, .inl x), (2, .inl y), (3, .inl w)], [.inl (-1)], (I, L, R, Y), 0, 0) (fun _ => rfl) ?_
        exact yi_G_reti rfl rfl (⟨_, _, _, _, _, _, _, rfl, hP, by omega, by omega⟩)
      · refine yi_G_if2 false rfl (yi_lt_f h3) ?_
        refine yi_G_run 2 (19, [(0, .inr (.inr (some 10))), (1, .inl x), (2, .inl y), (3, .inl w)], [.inl 60, .inl y], (I, L, R, Y), 0, 0) (fun _ => rfl) ?_
        by_cases h4 : 60 < y
        · refine yi_G_if2 true rfl (yi_gt_t h4) ?_
          refine yi_G_run 3 (40, [(4, .inl 0), (0, .inr (.inr (some 10))), (1, .inl x), (2, .inl y), (3, .inl w)], [.inl 0], (I, L, R, Y), 0, 0) (fun _ => rfl) ?_
          refine yi_G_if1 true rfl (by decide) ?_
          refine yi_G_run 1 (74, [(4, .inl 0), (0, .inr (.inr (some 10))), (1, .inl x), (2, .inl y), (3, .inl w)], [.inl (-1)], (I, L, R, Y), 0, 0) (fun _ => rfl) ?_
          exact yi_G_reti rfl rfl (⟨_, _, _, _, _, _, _, rfl, hP, by omega, by omega⟩)
        · refine yi_G_if2 false rfl (yi_gt_f h4) ?_
          refine yi_G_run 1 (23, [(0, .inr (.inr (some 10))), (1, .inl x), (2, .inl y), (3, .inl w)], [.inl w], (I, L, R, Y), 0, 0) (fun _ => rfl) ?_
          by_cases h5 : w < 0
          · refine yi_G_if1 true rfl (yi_lt_t h5) ?_
            refine yi_G_run 3 (40, [(4, .inl 0), (0, .inr (.inr (some 10))), (1, .inl x), (2, .inl y), (3, .inl w)], [.inl 0], (I, L, R, Y), 0, 0) (fun _ => rfl) ?_
            refine yi_G_if1 true rfl (by decide) ?_
            refine yi_G_run 1 (74, [(4, .inl 0), (0, .inr (.inr (some 10))), (1, .inl x), (2, .inl y), (3, .inl w)], [.inl (-1)], (I, L, R, Y), 0, 0) (fun _ => rfl) ?_
            exact yi_G_reti rfl rfl (⟨_, _, _, _, _, _, _, rfl, hP, by omega, by omega⟩)
          · refine yi_G_if1 false rfl (yi_lt_f h5) ?_
            refine yi_G_run 2 (28, [(0, .inr (.inr (some 10))), (1, .inl x), (2, .inl y), (3, .inl w)], [.inl 2, .inl w], (I, L, R, Y), 0, 0) (fun _ => rfl) ?_
            by_cases h6 : 2 < w
            · refine yi_G_if2 true rfl (yi_gt_t h6) ?_
              refine yi_G_run 3 (40, [(4, .inl 0), (0, .inr (.inr (some 10))), (1, .inl x), (2, .inl y), (3, .inl w)], [.inl 0], (I, L, R, Y), 0, 0) (fun _ => rfl) ?_
              refine yi_G_if1 true rfl (by decide) ?_
              refine yi_G_run 1 (74, [(4, .inl 0), (0, .inr (.inr (some 10))), (1, .inl x), (2, .inl y), (3, .inl w)], [.inl (-1)], (I, L, R, Y), 0, 0) (fun _ => rfl) ?_
              exact yi_G_reti rfl rfl (⟨_, _, _, _, _, _, _, rfl, hP, by omega, by omega⟩)
            · refine yi_G_if2 false rfl (yi_gt_f h6) ?_
              refine yi_G_run 4 (40, [(4, .inl 1), (0, .inr (.inr (some 10))), (1, .inl x), (2, .inl y), (3, .inl w)], [.inl 1], (I, L, R, Y), 0, 0) (fun _ => rfl) ?_
              refine yi_G_if1 false rfl (by decide) ?_
              refine yi_G_run 1 (44, [(4, .inl 1), (0, .inr (.inr (some 10))), (1, .inl x), (2, .inl y), (3, .inl w)], [.inr (.inr (some 10))], (I, L, R, Y), 0, 0) (fun _ => rfl) ?_
              obtain ⟨q7, e8, t9⟩ := cl_rf hP.1 (cl_10 hP.1) (k := 16) rfl
              refine cl_G_gr rfl (cl_T_K (cl_10 hP.1)) rfl rfl rfl e8 ?_
              have b10 := cl_rd hP.1 t9 (k := 17) (lo := 0) (hi := 5) rfl
              refine cl_G_gi rfl (cl_T_K t9) rfl rfl rfl ?_
              by_cases h11 : (I q7 17) = 0
              · refine yi_G_if1 true rfl (yi_eq_t h11) ?_
                refine yi_G_run 1 (74, [(4, .inl 1), (0, .inr (.inr (some 10))), (1, .inl x), (2, .inl y), (3, .inl w)], [.inl (-1)], (I, L, R, Y), 0, 0) (fun _ => rfl) ?_
                exact yi_G_reti rfl rfl (⟨_, _, _, _, _, _, _, rfl, hP, by omega, by omega⟩)
              · refine yi_G_if1 false rfl (yi_eq_f h11) ?_
                refine yi_G_run 1 (54, [(4, .inl 1), (0, .inr (.inr (some 10))), (1, .inl x), (2, .inl y), (3, .inl w)], [.inr (.inr (some 10))], (I, L, R, Y), 0, 0) (fun _ => rfl) ?_
                refine cl_G_gr rfl (cl_T_K (cl_10 hP.1)) rfl rfl rfl e8 ?_
                have b12 := cl_rd hP.1 t9 (k := 15) (lo := 0) (hi := 4) rfl
                refine cl_G_gi rfl (cl_T_K t9) rfl rfl rfl ?_
                by_cases h13 : (I q7 15) = 0
                · refine yi_G_if1 true rfl (yi_eq_t h13) ?_
                  refine yi_G_run 1 (74, [(4, .inl 1), (0, .inr (.inr (some 10))), (1, .inl x), (2, .inl y), (3, .inl w)], [.inl (-1)], (I, L, R, Y), 0, 0) (fun _ => rfl) ?_
                  exact yi_G_reti rfl rfl (⟨_, _, _, _, _, _, _, rfl, hP, by omega, by omega⟩)
                · refine yi_G_if1 false rfl (yi_eq_f h13) ?_
                  refine yi_G_run 1 (64, [(4, .inl 1), (0, .inr (.inr (some 10))), (1, .inl x), (2, .inl y), (3, .inl w)], [.inr (.inr (some 10))], (I, L, R, Y), 0, 0) (fun _ => rfl) ?_
                  refine cl_G_gr rfl (cl_T_K (cl_10 hP.1)) rfl rfl rfl e8 ?_
                  have b14 := cl_rd hP.1 t9 (k := 16) (lo := 0) (hi := 4) rfl
                  refine cl_G_gi rfl (cl_T_K t9) rfl rfl rfl ?_
                  by_cases h15 : (I q7 16) = 0
                  · refine yi_G_if1 false rfl (yi_ne_f h15) ?_
                    refine yi_G_run 1 (74, [(4, .inl 1), (0, .inr (.inr (some 10))), (1, .inl x), (2, .inl y), (3, .inl w)], [.inl (-1)], (I, L, R, Y), 0, 0) (fun _ => rfl) ?_
                    exact yi_G_reti rfl rfl (⟨_, _, _, _, _, _, _, rfl, hP, by omega, by omega⟩)
                  · refine yi_G_if1 true rfl (yi_ne_t h15) ?_
                    refine yi_G_run 3 (78, [(4, .inl 1), (0, .inr (.inr (some 10))), (1, .inl x), (2, .inl y), (3, .inl w)], [.inl y, .inl x, .inr (.inr (some 10))], (I, L, R, Y), 0, 0) (fun _ => rfl) ?_
                    refine yi_G_callv rfl rfl (cl_rcv (cl_10 hP.1) rfl) rfl (k_runYearA d (by omega) hP.1  (by omega) (by omega)) ?_
                    rintro _ ⟨z16, I16, L16, R16, Y16, nc16, ns16, rfl, hQ16, ca16, cb16⟩
                    have hP16 := cl_P_t hP hQ16
                    have t17 := cl_T_x t9 hQ16.2.1
                    show yi_G zi_Ms d zi_m190 (81, [(4, .inl 1), (0, .inr (.inr (some 10))), (1, .inl x), (2, .inl y), (3, .inl w)], [.inl z16], (I16, L16, R16, Y16), 0 + nc16, 0 + ns16) _
                    refine yi_G_run 2 (84, [(5, .inl z16), (4, .inl 1), (0, .inr (.inr (some 10))), (1, .inl x), (2, .inl y), (3, .inl w)], [.inl w], (I16, L16, R16, Y16), 0 + nc16, 0 + ns16) (fun _ => rfl) ?_
                    by_cases h18 : w = 0
                    · refine yi_G_if1 false rfl (yi_ne_f h18) ?_
                      refine yi_G_run 1 (89, [(5, .inl z16), (4, .inl 1), (0, .inr (.inr (some 10))), (1, .inl x), (2, .inl y), (3, .inl w)], [.inl z16], (I16, L16, R16, Y16), 0 + nc16, 0 + ns16) (fun _ => rfl) ?_
                      exact yi_G_reti rfl rfl (⟨_, _, _, _, _, _, _, rfl, hP16, by omega, by omega⟩)
                    · refine yi_G_if1 true rfl (yi_ne_t h18) ?_
                      refine yi_G_run 2 (92, [(5, .inl z16), (4, .inl 1), (0, .inr (.inr (some 10))), (1, .inl x), (2, .inl y), (3, .inl w)], [.inl 1, .inl w], (I16, L16, R16, Y16), 0 + nc16, 0 + ns16) (fun _ => rfl) ?_
                      by_cases h19 : w = 1
                      · refine yi_G_if2 false rfl (yi_ne_f h19) ?_
                        refine yi_G_run 1 (96, [(5, .inl z16), (4, .inl 1), (0, .inr (.inr (some 10))), (1, .inl x), (2, .inl y), (3, .inl w)], [.inr (.inr (some 10))], (I16, L16, R16, Y16), 0 + nc16, 0 + ns16) (fun _ => rfl) ?_
                        refine cl_G_gr rfl (cl_T_K (cl_10 hP16.1)) rfl rfl rfl (hP16.1.2.2.2.1.2.2.2.2.2.2.2.2.1) ?_
                        refine yi_G_callv rfl rfl (cl_rcv (cl_60 hP16.1) rfl) rfl (k_size d (by omega) hP16.1 (cl_60 hP16.1) ) ?_
                        rintro _ ⟨z20, rfl⟩
                        show yi_G zi_Ms d zi_m190 (102, [(5, .inl z16), (4, .inl 1), (0, .inr (.inr (some 10))), (1, .inl x), (2, .inl y), (3, .inl w)], [.inl z20], (I16, L16, R16, Y16), 0 + nc16, 0 + ns16) _
                        exact yi_G_reti rfl rfl (⟨_, _, _, _, _, _, _, rfl, hP16, by omega, by omega⟩)
                      · refine yi_G_if2 true rfl (yi_ne_t h19) ?_
                        refine yi_G_run 4 (109, [(7, .inl 1), (6, .inl 0), (5, .inl z16), (4, .inl 1), (0, .inr (.inr (some 10))), (1, .inl x), (2, .inl y), (3, .inl w)], [], (I16, L16, R16, Y16), 0 + nc16, 0 + ns16) (fun _ => rfl) ?_
                        have pt109 : ∀ (m_ : Nat) (j : Int) (be : Int), (1 ≤ j ∧ j ≤ 5) → (0 ≤ be ∧ be ≤ 4) → (5 - j).toNat = m_ → yi_G zi_Ms d zi_m190 (109, [(7, .inl j), (6, .inl be), (5, .inl z16), (4, .inl 1), (0, .inr (.inr (some 10))), (1, .inl x), (2, .inl y), (3, .inl w)], [], (I16, L16, R16, Y16), 0 + nc16, 0 + ns16) (fun r => ∃ z, ∃ I', ∃ L', ∃ R', ∃ Y', ∃ nc ns, r = (some (.inl z), (I', L', R', Y'), nc, ns) ∧ cl_P E I L R Y I' L' R' Y' ∧ nc ≤ 2 ∧ ns ≤ 1026) := by
                          intro m109
                          induction m109 using Nat.strongRecOn with
                          | _ m109 ih109 =>
                          intro j be j0 be0 hm109
                          refine yi_G_run 2 (112, [(7, .inl j), (6, .inl be), (5, .inl z16), (4, .inl 1), (0, .inr (.inr (some 10))), (1, .inl x), (2, .inl y), (3, .inl w)], [.inr (.inr (some 10)), .inl j], (I16, L16, R16, Y16), 0 + nc16, 0 + ns16) (fun _ => rfl) ?_
                          obtain ⟨q21, e22, t23⟩ := cl_rf hP16.1 (cl_10 hP16.1) (k := 16) rfl
                          refine cl_G_gr rfl (cl_T_K (cl_10 hP16.1)) rfl rfl rfl e22 ?_
                          have b24 := cl_rd hP16.1 t23 (k := 17) (lo := 0) (hi := 5) rfl
                          refine cl_G_gi rfl (cl_T_K t23) rfl rfl rfl ?_
                          by_cases h25 : (I16 q21 17) ≤ j
                          · refine yi_G_if2 true rfl (yi_ge_t h25) ?_
                            refine yi_G_run 1 (160, [(7, .inl j), (6, .inl be), (5, .inl z16), (4, .inl 1), (0, .inr (.inr (some 10))), (1, .inl x), (2, .inl y), (3, .inl w)], [.inl be], (I16, L16, R16, Y16), 0 + nc16, 0 + ns16) (fun _ => rfl) ?_
                            exact yi_G_reti rfl rfl (⟨_, _, _, _, _, _, _, rfl, hP16, by omega, by omega⟩)
                          · refine yi_G_if2 false rfl (yi_ge_f h25) ?_
                            refine yi_G_run 2 (124, [(7, .inl j), (6, .inl be), (5, .inl z16), (4, .inl 1), (0, .inr (.inr (some 10))), (1, .inl x), (2, .inl y), (3, .inl w)], [.inr (.inr (some 10)), .inl j], (I16, L16, R16, Y16), 0 + nc16, 0 + ns16) (fun _ => rfl) ?_
                            obtain ⟨q26, e27, t28, n29⟩ := cl_rn hP16.1 (cl_10 hP16.1) (k := 14) (m := 4) rfl
                            refine cl_G_gr rfl (cl_T_K (cl_10 hP16.1)) rfl rfl rfl e27 ?_
                            refine cl_G_len rfl t28 (by omega) ?_
                            by_cases h30 : ((Y16.2.1 q26 : Int)) ≤ j
                            · refine yi_G_if2 true rfl (yi_ge_t h30) ?_
                              refine yi_G_run 1 (160, [(7, .inl j), (6, .inl be), (5, .inl z16), (4, .inl 1), (0, .inr (.inr (some 10))), (1, .inl x), (2, .inl y), (3, .inl w)], [.inl be], (I16, L16, R16, Y16), 0 + nc16, 0 + ns16) (fun _ => rfl) ?_
                              exact yi_G_reti rfl rfl (⟨_, _, _, _, _, _, _, rfl, hP16, by omega, by omega⟩)
                            · refine yi_G_if2 false rfl (yi_ge_f h30) ?_
                              refine yi_G_run 1 (132, [(7, .inl j), (6, .inl be), (5, .inl z16), (4, .inl 1), (0, .inr (.inr (some 10))), (1, .inl x), (2, .inl y), (3, .inl w)], [.inr (.inr (some 10))], (I16, L16, R16, Y16), 0 + nc16, 0 + ns16) (fun _ => rfl) ?_
                              refine cl_G_gr rfl (cl_T_K (cl_10 hP16.1)) rfl rfl rfl e27 ?_
                              refine yi_G_run 1 (137, [(7, .inl j), (6, .inl be), (5, .inl z16), (4, .inl 1), (0, .inr (.inr (some 10))), (1, .inl x), (2, .inl y), (3, .inl w)], [.inl j, .inr (.inr (some q26))], (I16, L16, R16, Y16), 0 + nc16, 0 + ns16) (fun _ => rfl) ?_
                              refine cl_G_iald rfl t28 (by omega) (by omega) ?_
                              refine yi_G_run 1 (139, [(7, .inl j), (6, .inl be), (5, .inl z16), (4, .inl 1), (0, .inr (.inr (some 10))), (1, .inl x), (2, .inl y), (3, .inl w)], [.inr (.inr (some 10)), .inl (I16 q26 (j.toNat))], (I16, L16, R16, Y16), 0 + nc16, 0 + ns16) (fun _ => rfl) ?_
                              refine cl_G_gr rfl (cl_T_K (cl_10 hP16.1)) rfl rfl rfl e27 ?_
                              refine yi_G_run 1 (144, [(7, .inl j), (6, .inl be), (5, .inl z16), (4, .inl 1), (0, .inr (.inr (some 10))), (1, .inl x), (2, .inl y), (3, .inl w)], [.inl be, .inr (.inr (some q26)), .inl (I16 q26 (j.toNat))], (I16, L16, R16, Y16), 0 + nc16, 0 + ns16) (fun _ => rfl) ?_
                              refine cl_G_iald rfl t28 (by omega) (by omega) ?_
                              by_cases h31 : (I16 q26 (j.toNat)) ≤ (I16 q26 (be.toNat))
                              · refine yi_G_if2 true rfl (yi_le_t h31) ?_
                                refine yi_G_iinc [(7, .inl (j + 1)), (6, .inl be), (5, .inl z16), (4, .inl 1), (0, .inr (.inr (some 10))), (1, .inl x), (2, .inl y), (3, .inl w)] rfl rfl rfl (by rw [show yi_w (j + 1) = j + 1 from (yi_wn (by omega) (by omega)).trans (by omega)]; rfl) ?_
                                refine yi_G_run 1 (109, [(7, .inl (j + 1)), (6, .inl be), (5, .inl z16), (4, .inl 1), (0, .inr (.inr (some 10))), (1, .inl x), (2, .inl y), (3, .inl w)], [], (I16, L16, R16, Y16), 0 + nc16, 0 + ns16) (fun _ => rfl) ?_
                                exact ih109 _ (by omega) (j + 1) be (by omega) (by omega) rfl
                              · refine yi_G_if2 false rfl (yi_le_f h31) ?_
                                refine yi_G_run 2 (152, [(6, .inl j), (7, .inl j), (5, .inl z16), (4, .inl 1), (0, .inr (.inr (some 10))), (1, .inl x), (2, .inl y), (3, .inl w)], [], (I16, L16, R16, Y16), 0 + nc16, 0 + ns16) (fun _ => rfl) ?_
                                refine yi_G_iinc [(7, .inl (j + 1)), (6, .inl j), (5, .inl z16), (4, .inl 1), (0, .inr (.inr (some 10))), (1, .inl x), (2, .inl y), (3, .inl w)] rfl rfl rfl (by rw [show yi_w (j + 1) = j + 1 from (yi_wn (by omega) (by omega)).trans (by omega)]; rfl) ?_
                                refine yi_G_run 1 (109, [(7, .inl (j + 1)), (6, .inl j), (5, .inl z16), (4, .inl 1), (0, .inr (.inr (some 10))), (1, .inl x), (2, .inl y), (3, .inl w)], [], (I16, L16, R16, Y16), 0 + nc16, 0 + ns16) (fun _ => rfl) ?_
                                exact ih109 _ (by omega) (j + 1) j (by omega) (by omega) rfl
                        exact pt109 _ 1 0 (by omega) (by omega) rfl
theorem k_duelA (D : Nat) (hD : 6 ≤ D) {E : List Nat} {I L : cl_I} {R : cl_Rr} {Y : cl_Y} (hC : cl_C E I L R Y) {x : Int} {y : Int} {w : Int} : yi_E zi_Ms D 147 [.inr (.inr (some 10)), .inl x, .inl y, .inl w] (I, L, R, Y) (fun r => ∃ z, ∃ I', ∃ L', ∃ R', ∃ Y', ∃ nc ns, r = (some (.inl z), (I', L', R', Y'), nc, ns) ∧ cl_P E I L R Y I' L' R' Y' ∧ nc ≤ 1 ∧ ns ≤ 4096) := by
  obtain ⟨d, rfl⟩ : ∃ d, D = d + 1 := ⟨D - 1, by omega⟩
  refine yi_E_of (M := zi_m147) rfl rfl ?_
  have hP : cl_P E I L R Y I L R Y := cl_P_r hC
  show yi_G zi_Ms d zi_m147 (0, [(0, .inr (.inr (some 10))), (1, .inl x), (2, .inl y), (3, .inl w)], [], (I, L, R, Y), 0, 0) _
  refine yi_G_run 1 (1, [(0, .inr (.inr (some 10))), (1, .inl x), (2, .inl y), (3, .inl w)], [.inr (.inr (some 10))], (I, L, R, Y), 0, 0) (fun _ => rfl) ?_
  obtain ⟨q1, e2, t3⟩ := cl_rf hP.1 (cl_10 hP.1) (k := 16) rfl
  refine cl_G_gr rfl (cl_T_K (cl_10 hP.1)) rfl rfl rfl e2 ?_
  refine yi_G_run 1 (5, [(0, .inr (.inr (some 10))), (1, .inl x), (2, .inl y), (3, .inl w)], [.inl x, .inr (.inr (some q1))], (I, L, R, Y), 0, 0) (fun _ => rfl) ?_
  refine yi_G_callv rfl rfl (cl_rcv t3 rfl) rfl (k_isProphet d (by omega) hP.1 t3 ) ?_
  rintro _ ⟨z4, rfl, hz4, x4a⟩
  show yi_G zi_Ms d zi_m147 (8, [(0, .inr (.inr (some 10))), (1, .inl x), (2, .inl y), (3, .inl w)], [.inl z4], (I, L, R, Y), 0, 0) _
  by_cases h5 : z4 = 0
  · refine yi_G_if1 true rfl (yi_eq_t h5) ?_
    refine yi_G_run 1 (37, [(0, .inr (.inr (some 10))), (1, .inl x), (2, .inl y), (3, .inl w)], [.inl (-1)], (I, L, R, Y), 0, 0) (fun _ => rfl) ?_
    exact yi_G_reti rfl rfl (⟨_, _, _, _, _, _, _, rfl, hP, by omega, by omega⟩)
  · refine yi_G_if1 false rfl (yi_eq_f h5) ?_
    refine yi_G_run 1 (12, [(0, .inr (.inr (some 10))), (1, .inl x), (2, .inl y), (3, .inl w)], [.inr (.inr (some 10))], (I, L, R, Y), 0, 0) (fun _ => rfl) ?_
    refine cl_G_gr rfl (cl_T_K (cl_10 hP.1)) rfl rfl rfl e2 ?_
    refine yi_G_run 1 (16, [(0, .inr (.inr (some 10))), (1, .inl x), (2, .inl y), (3, .inl w)], [.inl y, .inr (.inr (some q1))], (I, L, R, Y), 0, 0) (fun _ => rfl) ?_
    refine yi_G_callv rfl rfl (cl_rcv t3 rfl) rfl (k_isProphet d (by omega) hP.1 t3 ) ?_
    rintro _ ⟨z6, rfl, hz6, x6a⟩
    show yi_G zi_Ms d zi_m147 (19, [(0, .inr (.inr (some 10))), (1, .inl x), (2, .inl y), (3, .inl w)], [.inl z6], (I, L, R, Y), 0, 0) _
    by_cases h7 : z6 = 0
    · refine yi_G_if1 true rfl (yi_eq_t h7) ?_
      refine yi_G_run 1 (37, [(0, .inr (.inr (some 10))), (1, .inl x), (2, .inl y), (3, .inl w)], [.inl (-1)], (I, L, R, Y), 0, 0) (fun _ => rfl) ?_
      exact yi_G_reti rfl rfl (⟨_, _, _, _, _, _, _, rfl, hP, by omega, by omega⟩)
    · refine yi_G_if1 false rfl (yi_eq_f h7) ?_
      refine yi_G_run 2 (24, [(0, .inr (.inr (some 10))), (1, .inl x), (2, .inl y), (3, .inl w)], [.inl y, .inl x], (I, L, R, Y), 0, 0) (fun _ => rfl) ?_
      by_cases h8 : x = y
      · refine yi_G_if2 true rfl (yi_eq_t h8) ?_
        refine yi_G_run 1 (37, [(0, .inr (.inr (some 10))), (1, .inl x), (2, .inl y), (3, .inl w)], [.inl (-1)], (I, L, R, Y), 0, 0) (fun _ => rfl) ?_
        exact yi_G_reti rfl rfl (⟨_, _, _, _, _, _, _, rfl, hP, by omega, by omega⟩)
      · refine yi_G_if2 false rfl (yi_eq_f h8) ?_
        refine yi_G_run 1 (28, [(0, .inr (.inr (some 10))), (1, .inl x), (2, .inl y), (3, .inl w)], [.inl w], (I, L, R, Y), 0, 0) (fun _ => rfl) ?_
        by_cases h9 : w < 0
        · refine yi_G_if1 true rfl (yi_lt_t h9) ?_
          refine yi_G_run 1 (37, [(0, .inr (.inr (some 10))), (1, .inl x), (2, .inl y), (3, .inl w)], [.inl (-1)], (I, L, R, Y), 0, 0) (fun _ => rfl) ?_
          exact yi_G_reti rfl rfl (⟨_, _, _, _, _, _, _, rfl, hP, by omega, by omega⟩)
        · refine yi_G_if1 false rfl (yi_lt_f h9) ?_
          refine yi_G_run 2 (33, [(0, .inr (.inr (some 10))), (1, .inl x), (2, .inl y), (3, .inl w)], [.inl 1, .inl w], (I, L, R, Y), 0, 0) (fun _ => rfl) ?_
          by_cases h10 : w ≤ 1
          · refine yi_G_if2 true rfl (yi_le_t h10) ?_
            refine yi_G_run 1 (39, [(0, .inr (.inr (some 10))), (1, .inl x), (2, .inl y), (3, .inl w)], [.inr (.inr (some 10))], (I, L, R, Y), 0, 0) (fun _ => rfl) ?_
            refine yi_G_callv rfl rfl (cl_rcv (cl_10 hP.1) rfl) rfl (k_gatherWishesA d (by omega) hP.1  ) ?_
            rintro _ ⟨I11, L11, R11, Y11, nc11, ns11, rfl, hQ11, ca11, cb11⟩
            have hP11 := cl_P_t hP hQ11
            have t12 := cl_T_x t3 hQ11.2.1
            show yi_G zi_Ms d zi_m147 (42, [(0, .inr (.inr (some 10))), (1, .inl x), (2, .inl y), (3, .inl w)], [], (I11, L11, R11, Y11), 0 + nc11, 0 + ns11) _
            refine yi_G_run 1 (43, [(0, .inr (.inr (some 10))), (1, .inl x), (2, .inl y), (3, .inl w)], [.inr (.inr (some 10))], (I11, L11, R11, Y11), 0 + nc11, 0 + ns11) (fun _ => rfl) ?_
            obtain ⟨q13, e14, t15⟩ := cl_rf hP11.1 (cl_10 hP11.1) (k := 16) rfl
            refine cl_G_gr rfl (cl_T_K (cl_10 hP11.1)) rfl rfl rfl e14 ?_
            refine yi_G_run 1 (47, [(0, .inr (.inr (some 10))), (1, .inl x), (2, .inl y), (3, .inl w)], [.inl x, .inr (.inr (some q13))], (I11, L11, R11, Y11), 0 + nc11, 0 + ns11) (fun _ => rfl) ?_
            refine yi_G_callv rfl rfl (cl_rcv t15 rfl) rfl (k_wishesOf d (by omega) hP11.1 t15 ) ?_
            rintro _ ⟨z16, rfl⟩
            show yi_G zi_Ms d zi_m147 (50, [(0, .inr (.inr (some 10))), (1, .inl x), (2, .inl y), (3, .inl w)], [.inl z16], (I11, L11, R11, Y11), 0 + nc11, 0 + ns11) _
            refine yi_G_run 2 (53, [(4, .inl z16), (0, .inr (.inr (some 10))), (1, .inl x), (2, .inl y), (3, .inl w)], [.inr (.inr (some 10))], (I11, L11, R11, Y11), 0 + nc11, 0 + ns11) (fun _ => rfl) ?_
            refine cl_G_gr rfl (cl_T_K (cl_10 hP11.1)) rfl rfl rfl e14 ?_
            refine yi_G_run 1 (57, [(4, .inl z16), (0, .inr (.inr (some 10))), (1, .inl x), (2, .inl y), (3, .inl w)], [.inl y, .inr (.inr (some q13))], (I11, L11, R11, Y11), 0 + nc11, 0 + ns11) (fun _ => rfl) ?_
            refine yi_G_callv rfl rfl (cl_rcv t15 rfl) rfl (k_wishesOf d (by omega) hP11.1 t15 ) ?_
            rintro _ ⟨z17, rfl⟩
            show yi_G zi_Ms d zi_m147 (60, [(4, .inl z16), (0, .inr (.inr (some 10))), (1, .inl x), (2, .inl y), (3, .inl w)], [.inl z17], (I11, L11, R11, Y11), 0 + nc11, 0 + ns11) _
            refine yi_G_run 5 (67, [(6, .inl (-1)), (5, .inl z17), (4, .inl z16), (0, .inr (.inr (some 10))), (1, .inl x), (2, .inl y), (3, .inl w)], [.inr (.inr (some 10)), .inl 1], (I11, L11, R11, Y11), 0 + nc11, 0 + ns11) (fun _ => rfl) ?_
            refine cl_G_gr rfl (cl_T_K (cl_10 hP11.1)) rfl rfl rfl e14 ?_
            have b18 := cl_rd hP11.1 t15 (k := 19) (lo := 0) (hi := 6) rfl
            refine cl_G_gi rfl (cl_T_K t15) rfl rfl rfl ?_
            refine yi_G_run 2 (75, [(6, .inl (-1)), (5, .inl z17), (4, .inl z16), (0, .inr (.inr (some 10))), (1, .inl x), (2, .inl y), (3, .inl w)], [.inl 1, .inl (yi_shl 1 (I11 q13 19))], (I11, L11, R11, Y11), 0 + nc11, 0 + ns11) (fun _ => rfl) ?_
            have sh := yi_shl1 (s := (I11 q13 19)) (by omega) (by omega)
            refine yi_G_isub rfl ((yi_shl 1 (I11 q13 19)) - 1) (yi_wn (by omega) (by omega)) ?_
            refine yi_G_run 1 (78, [(7, .inl ((yi_shl 1 (I11 q13 19)) - 1)), (6, .inl (-1)), (5, .inl z17), (4, .inl z16), (0, .inr (.inr (some 10))), (1, .inl x), (2, .inl y), (3, .inl w)], [], (I11, L11, R11, Y11), 0 + nc11, 0 + ns11) (fun _ => rfl) ?_
            have pt78 : ∀ (m_ : Nat) (j : Int) (wi : Int) (Ip78 : cl_I), (cl_P E I L R Y Ip78 L11 R11 Y11) → (-1 ≤ j ∧ j ≤ 4096) → (j + 1).toNat = m_ → yi_G zi_Ms d zi_m147 (78, [(7, .inl j), (6, .inl wi), (5, .inl z17), (4, .inl z16), (0, .inr (.inr (some 10))), (1, .inl x), (2, .inl y), (3, .inl w)], [], (Ip78, L11, R11, Y11), 0 + nc11, 0 + ns11) (fun r => ∃ z, ∃ I', ∃ L', ∃ R', ∃ Y', ∃ nc ns, r = (some (.inl z), (I', L', R', Y'), nc, ns) ∧ cl_P E I L R Y I' L' R' Y' ∧ nc ≤ 1 ∧ ns ≤ 4096) := by
              intro m78
              induction m78 using Nat.strongRecOn with
              | _ m78 ih78 =>
              intro j wi Ip78 hPp78 j0 hm78
              refine yi_G_run 1 (80, [(7, .inl j), (6, .inl wi), (5, .inl z17), (4, .inl z16), (0, .inr (.inr (some 10))), (1, .inl x), (2, .inl y), (3, .inl w)], [.inl j], (Ip78, L11, R11, Y11), 0 + nc11, 0 + ns11) (fun _ => rfl) ?_
              by_cases h19 : j < 0
              · refine yi_G_if1 true rfl (yi_lt_t h19) ?_
                refine yi_G_run 2 (156, [(7, .inl j), (6, .inl wi), (5, .inl z17), (4, .inl z16), (0, .inr (.inr (some 10))), (1, .inl x), (2, .inl y), (3, .inl w)], [.inl 1, .inl w], (Ip78, L11, R11, Y11), 0 + nc11, 0 + ns11) (fun _ => rfl) ?_
                by_cases h20 : w = 1
                · refine yi_G_if2 false rfl (yi_ne_f h20) ?_
                  refine yi_G_run 2 (175, [(7, .inl j), (6, .inl wi), (5, .inl z17), (4, .inl z16), (0, .inr (.inr (some 10))), (1, .inl x), (2, .inl y), (3, .inl w)], [.inl wi], (Ip78, L11, R11, Y11), 0 + nc11, 0 + ns11) (fun _ => rfl) ?_
                  exact yi_G_reti rfl rfl (⟨_, _, _, _, _, _, _, rfl, hPp78, by omega, by omega⟩)
                · refine yi_G_if2 true rfl (yi_ne_t h20) ?_
                  refine yi_G_run 2 (167, [(7, .inl j), (6, .inl wi), (5, .inl z17), (4, .inl z16), (0, .inr (.inr (some 10))), (1, .inl x), (2, .inl y), (3, .inl w)], [.inl (-1), .inl wi], (Ip78, L11, R11, Y11), 0 + nc11, 0 + ns11) (fun _ => rfl) ?_
                  by_cases h21 : wi = (-1)
                  · refine yi_G_if2 false rfl (yi_ne_f h21) ?_
                    refine yi_G_run 2 (175, [(7, .inl j), (6, .inl wi), (5, .inl z17), (4, .inl z16), (0, .inr (.inr (some 10))), (1, .inl x), (2, .inl y), (3, .inl w)], [.inl 0], (Ip78, L11, R11, Y11), 0 + nc11, 0 + ns11) (fun _ => rfl) ?_
                    exact yi_G_reti rfl rfl (⟨_, _, _, _, _, _, _, rfl, hPp78, by omega, by omega⟩)
                  · refine yi_G_if2 true rfl (yi_ne_t h21) ?_
                    refine yi_G_run 1 (175, [(7, .inl j), (6, .inl wi), (5, .inl z17), (4, .inl z16), (0, .inr (.inr (some 10))), (1, .inl x), (2, .inl y), (3, .inl w)], [.inl 1], (Ip78, L11, R11, Y11), 0 + nc11, 0 + ns11) (fun _ => rfl) ?_
                    exact yi_G_reti rfl rfl (⟨_, _, _, _, _, _, _, rfl, hPp78, by omega, by omega⟩)
              · refine yi_G_if1 false rfl (yi_lt_f h19) ?_
                refine yi_G_run 1 (85, [(7, .inl j), (6, .inl wi), (5, .inl z17), (4, .inl z16), (0, .inr (.inr (some 10))), (1, .inl x), (2, .inl y), (3, .inl w)], [.inl j], (Ip78, L11, R11, Y11), 0 + nc11, 0 + ns11) (fun _ => rfl) ?_
                refine yi_G_calls rfl rfl (k_bitCountI d (by omega) hPp78.1  ) ?_
                rintro _ ⟨z22, rfl⟩
                show yi_G zi_Ms d zi_m147 (88, [(7, .inl j), (6, .inl wi), (5, .inl z17), (4, .inl z16), (0, .inr (.inr (some 10))), (1, .inl x), (2, .inl y), (3, .inl w)], [.inl z22], (Ip78, L11, R11, Y11), 0 + nc11, 0 + ns11) _
                refine yi_G_run 2 (90, [(7, .inl j), (6, .inl wi), (5, .inl z17), (4, .inl z16), (0, .inr (.inr (some 10))), (1, .inl x), (2, .inl y), (3, .inl w)], [.inl (yi_iand z22 1)], (Ip78, L11, R11, Y11), 0 + nc11, 0 + ns11) (fun _ => rfl) ?_
                by_cases h23 : (yi_iand z22 1) = 0
                · refine yi_G_if1 false rfl (yi_ne_f h23) ?_
                  refine yi_G_run 6 (105, [(8, .inl 1), (7, .inl j), (6, .inl wi), (5, .inl z17), (4, .inl z16), (0, .inr (.inr (some 10))), (1, .inl x), (2, .inl y), (3, .inl w)], [.inl 1, .inl j, .inr (.inr (some 10))], (Ip78, L11, R11, Y11), 0 + nc11, 0 + ns11) (fun _ => rfl) ?_
                  refine yi_G_if1 false rfl (by decide) ?_
                  refine yi_G_run 2 (115, [(8, .inl 1), (7, .inl j), (6, .inl wi), (5, .inl z17), (4, .inl z16), (0, .inr (.inr (some 10))), (1, .inl x), (2, .inl y), (3, .inl w)], [.inl z16, .inl j, .inr (.inr (some 10))], (Ip78, L11, R11, Y11), 0 + nc11, 0 + ns11) (fun _ => rfl) ?_
                  refine yi_G_callv rfl rfl (cl_rcv (cl_10 hPp78.1) rfl) rfl (k_winningWishA d (by omega) hPp78.1  ) ?_
                  rintro _ ⟨z24, rfl⟩
                  show yi_G zi_Ms d zi_m147 (118, [(8, .inl 1), (7, .inl j), (6, .inl wi), (5, .inl z17), (4, .inl z16), (0, .inr (.inr (some 10))), (1, .inl x), (2, .inl y), (3, .inl w)], [.inl z24], (Ip78, L11, R11, Y11), 0 + nc11, 0 + ns11) _
                  refine yi_G_run 3 (123, [(6, .inl z24), (8, .inl 1), (7, .inl j), (5, .inl z17), (4, .inl z16), (0, .inr (.inr (some 10))), (1, .inl x), (2, .inl y), (3, .inl w)], [.inr (.inr (some 10)), .inl j], (Ip78, L11, R11, Y11), 0 + nc11, 0 + ns11) (fun _ => rfl) ?_
                  obtain ⟨q25, e26, t27, n28⟩ := cl_rn hPp78.1 (cl_10 hPp78.1) (k := 15) (m := 63) rfl
                  refine cl_G_gr rfl (cl_T_K (cl_10 hPp78.1)) rfl rfl rfl e26 ?_
                  refine cl_G_len rfl t27 (by omega) ?_
                  by_cases h29 : ((Y11.2.1 q25 : Int)) ≤ j
                  · refine yi_G_if2 true rfl (yi_ge_t h29) ?_
                    refine yi_G_iinc [(7, .inl (j - 1)), (6, .inl z24), (8, .inl 1), (5, .inl z17), (4, .inl z16), (0, .inr (.inr (some 10))), (1, .inl x), (2, .inl y), (3, .inl w)] rfl rfl rfl (by rw [show yi_w (j + (-1)) = j - 1 from (yi_wn (by omega) (by omega)).trans (by omega)]; rfl) ?_
                    refine yi_G_run 1 (78, [(7, .inl (j - 1)), (6, .inl z24), (8, .inl 1), (5, .inl z17), (4, .inl z16), (0, .inr (.inr (some 10))), (1, .inl x), (2, .inl y), (3, .inl w)], [], (Ip78, L11, R11, Y11), 0 + nc11, 0 + ns11) (fun _ => rfl) ?_
                    refine yi_G_al (al := [(7, .inl (j - 1)), (6, .inl z24), (5, .inl z17), (4, .inl z16), (0, .inr (.inr (some 10))), (1, .inl x), (2, .inl y), (3, .inl w)]) (show ([7, 6, 5, 4, 0, 1, 2, 3] : List Nat).Nodup by decide) (show ([7, 6, 8, 5, 4, 0, 1, 2, 3] : List Nat).Nodup by decide) (yi_mc (List.mem_of_getElem? (i := 0) rfl) (yi_mc (List.mem_of_getElem? (i := 1) rfl) (yi_mc (List.mem_of_getElem? (i := 3) rfl) (yi_mc (List.mem_of_getElem? (i := 4) rfl) (yi_mc (List.mem_of_getElem? (i := 5) rfl) (yi_mc (List.mem_of_getElem? (i := 6) rfl) (yi_mc (List.mem_of_getElem? (i := 7) rfl) (yi_mc (List.mem_of_getElem? (i := 8) rfl) yi_mn)))))))) ?_
                    exact ih78 _ (by omega) (j - 1) z24 Ip78 hPp78 (by omega) rfl
                  · refine yi_G_if2 false rfl (yi_ge_f h29) ?_
                    refine yi_G_run 1 (131, [(6, .inl z24), (8, .inl 1), (7, .inl j), (5, .inl z17), (4, .inl z16), (0, .inr (.inr (some 10))), (1, .inl x), (2, .inl y), (3, .inl w)], [.inr (.inr (some 10))], (Ip78, L11, R11, Y11), 0 + nc11, 0 + ns11) (fun _ => rfl) ?_
                    refine cl_G_gr rfl (cl_T_K (cl_10 hPp78.1)) rfl rfl rfl e26 ?_
                    refine yi_G_run 3 (139, [(6, .inl z24), (8, .inl 1), (7, .inl j), (5, .inl z17), (4, .inl z16), (0, .inr (.inr (some 10))), (1, .inl x), (2, .inl y), (3, .inl w)], [.inl (-1), .inl z24, .inl j, .inr (.inr (some q25))], (Ip78, L11, R11, Y11), 0 + nc11, 0 + ns11) (fun _ => rfl) ?_
                    by_cases h30 : z24 = (-1)
                    · refine yi_G_if2 true rfl (yi_eq_t h30) ?_
                      refine yi_G_run 1 (147, [(6, .inl z24), (8, .inl 1), (7, .inl j), (5, .inl z17), (4, .inl z16), (0, .inr (.inr (some 10))), (1, .inl x), (2, .inl y), (3, .inl w)], [.inl 0, .inl j, .inr (.inr (some q25))], (Ip78, L11, R11, Y11), 0 + nc11, 0 + ns11) (fun _ => rfl) ?_
                      refine cl_G_bast rfl t27 (by omega) (by omega) (by omega) ?_
                      have hP31 := cl_P_uI (k := (j.toNat)) (v := 0) hPp78 t27 (by omega) (cl_hv0 rfl)
                      generalize w32 : yi_u Ip78 q25 (j.toNat) 0 = I33 at hP31 ⊢
                      refine yi_G_iinc [(7, .inl (j - 1)), (6, .inl z24), (8, .inl 1), (5, .inl z17), (4, .inl z16), (0, .inr (.inr (some 10))), (1, .inl x), (2, .inl y), (3, .inl w)] rfl rfl rfl (by rw [show yi_w (j + (-1)) = j - 1 from (yi_wn (by omega) (by omega)).trans (by omega)]; rfl) ?_
                      refine yi_G_run 1 (78, [(7, .inl (j - 1)), (6, .inl z24), (8, .inl 1), (5, .inl z17), (4, .inl z16), (0, .inr (.inr (some 10))), (1, .inl x), (2, .inl y), (3, .inl w)], [], (I33, L11, R11, Y11), 0 + nc11, 0 + ns11) (fun _ => rfl) ?_
                      refine yi_G_al (al := [(7, .inl (j - 1)), (6, .inl z24), (5, .inl z17), (4, .inl z16), (0, .inr (.inr (some 10))), (1, .inl x), (2, .inl y), (3, .inl w)]) (show ([7, 6, 5, 4, 0, 1, 2, 3] : List Nat).Nodup by decide) (show ([7, 6, 8, 5, 4, 0, 1, 2, 3] : List Nat).Nodup by decide) (yi_mc (List.mem_of_getElem? (i := 0) rfl) (yi_mc (List.mem_of_getElem? (i := 1) rfl) (yi_mc (List.mem_of_getElem? (i := 3) rfl) (yi_mc (List.mem_of_getElem? (i := 4) rfl) (yi_mc (List.mem_of_getElem? (i := 5) rfl) (yi_mc (List.mem_of_getElem? (i := 6) rfl) (yi_mc (List.mem_of_getElem? (i := 7) rfl) (yi_mc (List.mem_of_getElem? (i := 8) rfl) yi_mn)))))))) ?_
                      exact ih78 _ (by omega) (j - 1) z24 I33 hP31 (by omega) rfl
                    · refine yi_G_if2 false rfl (yi_eq_f h30) ?_
                      refine yi_G_run 2 (147, [(6, .inl z24), (8, .inl 1), (7, .inl j), (5, .inl z17), (4, .inl z16), (0, .inr (.inr (some 10))), (1, .inl x), (2, .inl y), (3, .inl w)], [.inl 1, .inl j, .inr (.inr (some q25))], (Ip78, L11, R11, Y11), 0 + nc11, 0 + ns11) (fun _ => rfl) ?_
                      refine cl_G_bast rfl t27 (by omega) (by omega) (by omega) ?_
                      have hP34 := cl_P_uI (k := (j.toNat)) (v := 1) hPp78 t27 (by omega) (cl_hv0 rfl)
                      generalize w35 : yi_u Ip78 q25 (j.toNat) 1 = I36 at hP34 ⊢
                      refine yi_G_iinc [(7, .inl (j - 1)), (6, .inl z24), (8, .inl 1), (5, .inl z17), (4, .inl z16), (0, .inr (.inr (some 10))), (1, .inl x), (2, .inl y), (3, .inl w)] rfl rfl rfl (by rw [show yi_w (j + (-1)) = j - 1 from (yi_wn (by omega) (by omega)).trans (by omega)]; rfl) ?_
                      refine yi_G_run 1 (78, [(7, .inl (j - 1)), (6, .inl z24), (8, .inl 1), (5, .inl z17), (4, .inl z16), (0, .inr (.inr (some 10))), (1, .inl x), (2, .inl y), (3, .inl w)], [], (I36, L11, R11, Y11), 0 + nc11, 0 + ns11) (fun _ => rfl) ?_
                      refine yi_G_al (al := [(7, .inl (j - 1)), (6, .inl z24), (5, .inl z17), (4, .inl z16), (0, .inr (.inr (some 10))), (1, .inl x), (2, .inl y), (3, .inl w)]) (show ([7, 6, 5, 4, 0, 1, 2, 3] : List Nat).Nodup by decide) (show ([7, 6, 8, 5, 4, 0, 1, 2, 3] : List Nat).Nodup by decide) (yi_mc (List.mem_of_getElem? (i := 0) rfl) (yi_mc (List.mem_of_getElem? (i := 1) rfl) (yi_mc (List.mem_of_getElem? (i := 3) rfl) (yi_mc (List.mem_of_getElem? (i := 4) rfl) (yi_mc (List.mem_of_getElem? (i := 5) rfl) (yi_mc (List.mem_of_getElem? (i := 6) rfl) (yi_mc (List.mem_of_getElem? (i := 7) rfl) (yi_mc (List.mem_of_getElem? (i := 8) rfl) yi_mn)))))))) ?_
                      exact ih78 _ (by omega) (j - 1) z24 I36 hP34 (by omega) rfl
                · refine yi_G_if1 true rfl (yi_ne_t h23) ?_
                  refine yi_G_run 5 (105, [(8, .inl 0), (7, .inl j), (6, .inl wi), (5, .inl z17), (4, .inl z16), (0, .inr (.inr (some 10))), (1, .inl x), (2, .inl y), (3, .inl w)], [.inl 0, .inl j, .inr (.inr (some 10))], (Ip78, L11, R11, Y11), 0 + nc11, 0 + ns11) (fun _ => rfl) ?_
                  refine yi_G_if1 true rfl (by decide) ?_
                  refine yi_G_run 1 (115, [(8, .inl 0), (7, .inl j), (6, .inl wi), (5, .inl z17), (4, .inl z16), (0, .inr (.inr (some 10))), (1, .inl x), (2, .inl y), (3, .inl w)], [.inl z17, .inl j, .inr (.inr (some 10))], (Ip78, L11, R11, Y11), 0 + nc11, 0 + ns11) (fun _ => rfl) ?_
                  refine yi_G_callv rfl rfl (cl_rcv (cl_10 hPp78.1) rfl) rfl (k_winningWishA d (by omega) hPp78.1  ) ?_
                  rintro _ ⟨z37, rfl⟩
                  show yi_G zi_Ms d zi_m147 (118, [(8, .inl 0), (7, .inl j), (6, .inl wi), (5, .inl z17), (4, .inl z16), (0, .inr (.inr (some 10))), (1, .inl x), (2, .inl y), (3, .inl w)], [.inl z37], (Ip78, L11, R11, Y11), 0 + nc11, 0 + ns11) _
                  refine yi_G_run 3 (123, [(6, .inl z37), (8, .inl 0), (7, .inl j), (5, .inl z17), (4, .inl z16), (0, .inr (.inr (some 10))), (1, .inl x), (2, .inl y), (3, .inl w)], [.inr (.inr (some 10)), .inl j], (Ip78, L11, R11, Y11), 0 + nc11, 0 + ns11) (fun _ => rfl) ?_
                  obtain ⟨q38, e39, t40, n41⟩ := cl_rn hPp78.1 (cl_10 hPp78.1) (k := 15) (m := 63) rfl
                  refine cl_G_gr rfl (cl_T_K (cl_10 hPp78.1)) rfl rfl rfl e39 ?_
                  refine cl_G_len rfl t40 (by omega) ?_
                  by_cases h42 : ((Y11.2.1 q38 : Int)) ≤ j
                  · refine yi_G_if2 true rfl (yi_ge_t h42) ?_
                    refine yi_G_iinc [(7, .inl (j - 1)), (6, .inl z37), (8, .inl 0), (5, .inl z17), (4, .inl z16), (0, .inr (.inr (some 10))), (1, .inl x), (2, .inl y), (3, .inl w)] rfl rfl rfl (by rw [show yi_w (j + (-1)) = j - 1 from (yi_wn (by omega) (by omega)).trans (by omega)]; rfl) ?_
                    refine yi_G_run 1 (78, [(7, .inl (j - 1)), (6, .inl z37), (8, .inl 0), (5, .inl z17), (4, .inl z16), (0, .inr (.inr (some 10))), (1, .inl x), (2, .inl y), (3, .inl w)], [], (Ip78, L11, R11, Y11), 0 + nc11, 0 + ns11) (fun _ => rfl) ?_
                    refine yi_G_al (al := [(7, .inl (j - 1)), (6, .inl z37), (5, .inl z17), (4, .inl z16), (0, .inr (.inr (some 10))), (1, .inl x), (2, .inl y), (3, .inl w)]) (show ([7, 6, 5, 4, 0, 1, 2, 3] : List Nat).Nodup by decide) (show ([7, 6, 8, 5, 4, 0, 1, 2, 3] : List Nat).Nodup by decide) (yi_mc (List.mem_of_getElem? (i := 0) rfl) (yi_mc (List.mem_of_getElem? (i := 1) rfl) (yi_mc (List.mem_of_getElem? (i := 3) rfl) (yi_mc (List.mem_of_getElem? (i := 4) rfl) (yi_mc (List.mem_of_getElem? (i := 5) rfl) (yi_mc (List.mem_of_getElem? (i := 6) rfl) (yi_mc (List.mem_of_getElem? (i := 7) rfl) (yi_mc (List.mem_of_getElem? (i := 8) rfl) yi_mn)))))))) ?_
                    exact ih78 _ (by omega) (j - 1) z37 Ip78 hPp78 (by omega) rfl
                  · refine yi_G_if2 false rfl (yi_ge_f h42) ?_
                    refine yi_G_run 1 (131, [(6, .inl z37), (8, .inl 0), (7, .inl j), (5, .inl z17), (4, .inl z16), (0, .inr (.inr (some 10))), (1, .inl x), (2, .inl y), (3, .inl w)], [.inr (.inr (some 10))], (Ip78, L11, R11, Y11), 0 + nc11, 0 + ns11) (fun _ => rfl) ?_
                    refine cl_G_gr rfl (cl_T_K (cl_10 hPp78.1)) rfl rfl rfl e39 ?_
                    refine yi_G_run 3 (139, [(6, .inl z37), (8, .inl 0), (7, .inl j), (5, .inl z17), (4, .inl z16), (0, .inr (.inr (some 10))), (1, .inl x), (2, .inl y), (3, .inl w)], [.inl (-1), .inl z37, .inl j, .inr (.inr (some q38))], (Ip78, L11, R11, Y11), 0 + nc11, 0 + ns11) (fun _ => rfl) ?_
                    by_cases h43 : z37 = (-1)
                    · refine yi_G_if2 true rfl (yi_eq_t h43) ?_
                      refine yi_G_run 1 (147, [(6, .inl z37), (8, .inl 0), (7, .inl j), (5, .inl z17), (4, .inl z16), (0, .inr (.inr (some 10))), (1, .inl x), (2, .inl y), (3, .inl w)], [.inl 0, .inl j, .inr (.inr (some q38))], (Ip78, L11, R11, Y11), 0 + nc11, 0 + ns11) (fun _ => rfl) ?_
                      refine cl_G_bast rfl t40 (by omega) (by omega) (by omega) ?_
                      have hP44 := cl_P_uI (k := (j.toNat)) (v := 0) hPp78 t40 (by omega) (cl_hv0 rfl)
                      generalize w45 : yi_u Ip78 q38 (j.toNat) 0 = I46 at hP44 ⊢
                      refine yi_G_iinc [(7, .inl (j - 1)), (6, .inl z37), (8, .inl 0), (5, .inl z17), (4, .inl z16), (0, .inr (.inr (some 10))), (1, .inl x), (2, .inl y), (3, .inl w)] rfl rfl rfl (by rw [show yi_w (j + (-1)) = j - 1 from (yi_wn (by omega) (by omega)).trans (by omega)]; rfl) ?_
                      refine yi_G_run 1 (78, [(7, .inl (j - 1)), (6, .inl z37), (8, .inl 0), (5, .inl z17), (4, .inl z16), (0, .inr (.inr (some 10))), (1, .inl x), (2, .inl y), (3, .inl w)], [], (I46, L11, R11, Y11), 0 + nc11, 0 + ns11) (fun _ => rfl) ?_
                      refine yi_G_al (al := [(7, .inl (j - 1)), (6, .inl z37), (5, .inl z17), (4, .inl z16), (0, .inr (.inr (some 10))), (1, .inl x), (2, .inl y), (3, .inl w)]) (show ([7, 6, 5, 4, 0, 1, 2, 3] : List Nat).Nodup by decide) (show ([7, 6, 8, 5, 4, 0, 1, 2, 3] : List Nat).Nodup by decide) (yi_mc (List.mem_of_getElem? (i := 0) rfl) (yi_mc (List.mem_of_getElem? (i := 1) rfl) (yi_mc (List.mem_of_getElem? (i := 3) rfl) (yi_mc (List.mem_of_getElem? (i := 4) rfl) (yi_mc (List.mem_of_getElem? (i := 5) rfl) (yi_mc (List.mem_of_getElem? (i := 6) rfl) (yi_mc (List.mem_of_getElem? (i := 7) rfl) (yi_mc (List.mem_of_getElem? (i := 8) rfl) yi_mn)))))))) ?_
                      exact ih78 _ (by omega) (j - 1) z37 I46 hP44 (by omega) rfl
                    · refine yi_G_if2 false rfl (yi_eq_f h43) ?_
                      refine yi_G_run 2 (147, [(6, .inl z37), (8, .inl 0), (7, .inl j), (5, .inl z17), (4, .inl z16), (0, .inr (.inr (some 10))), (1, .inl x), (2, .inl y), (3, .inl w)], [.inl 1, .inl j, .inr (.inr (some q38))], (Ip78, L11, R11, Y11), 0 + nc11, 0 + ns11) (fun _ => rfl) ?_
                      refine cl_G_bast rfl t40 (by omega) (by omega) (by omega) ?_
                      have hP47 := cl_P_uI (k := (j.toNat)) (v := 1) hPp78 t40 (by omega) (cl_hv0 rfl)
                      generalize w48 : yi_u Ip78 q38 (j.toNat) 1 = I49 at hP47 ⊢
                      refine yi_G_iinc [(7, .inl (j - 1)), (6, .inl z37), (8, .inl 0), (5, .inl z17), (4, .inl z16), (0, .inr (.inr (some 10))), (1, .inl x), (2, .inl y), (3, .inl w)] rfl rfl rfl (by rw [show yi_w (j + (-1)) = j - 1 from (yi_wn (by omega) (by omega)).trans (by omega)]; rfl) ?_
                      refine yi_G_run 1 (78, [(7, .inl (j - 1)), (6, .inl z37), (8, .inl 0), (5, .inl z17), (4, .inl z16), (0, .inr (.inr (some 10))), (1, .inl x), (2, .inl y), (3, .inl w)], [], (I49, L11, R11, Y11), 0 + nc11, 0 + ns11) (fun _ => rfl) ?_
                      refine yi_G_al (al := [(7, .inl (j - 1)), (6, .inl z37), (5, .inl z17), (4, .inl z16), (0, .inr (.inr (some 10))), (1, .inl x), (2, .inl y), (3, .inl w)]) (show ([7, 6, 5, 4, 0, 1, 2, 3] : List Nat).Nodup by decide) (show ([7, 6, 8, 5, 4, 0, 1, 2, 3] : List Nat).Nodup by decide) (yi_mc (List.mem_of_getElem? (i := 0) rfl) (yi_mc (List.mem_of_getElem? (i := 1) rfl) (yi_mc (List.mem_of_getElem? (i := 3) rfl) (yi_mc (List.mem_of_getElem? (i := 4) rfl) (yi_mc (List.mem_of_getElem? (i := 5) rfl) (yi_mc (List.mem_of_getElem? (i := 6) rfl) (yi_mc (List.mem_of_getElem? (i := 7) rfl) (yi_mc (List.mem_of_getElem? (i := 8) rfl) yi_mn)))))))) ?_
                      exact ih78 _ (by omega) (j - 1) z37 I49 hP47 (by omega) rfl
            exact pt78 _ ((yi_shl 1 (I11 q13 19)) - 1) (-1) I11 hP11 (by omega) rfl
          · refine yi_G_if2 false rfl (yi_le_f h10) ?_
            refine yi_G_run 1 (37, [(0, .inr (.inr (some 10))), (1, .inl x), (2, .inl y), (3, .inl w)], [.inl (-1)], (I, L, R, Y), 0, 0) (fun _ => rfl) ?_
            exact yi_G_reti rfl rfl (⟨_, _, _, _, _, _, _, rfl, hP, by omega, by omega⟩)
theorem k_knewA (D : Nat) (hD : 6 ≤ D) {E : List Nat} {I L : cl_I} {R : cl_Rr} {Y : cl_Y} (hC : cl_C E I L R Y) {x : Int} {w : Int} : yi_E zi_Ms D 161 [.inr (.inr (some 10)), .inl x, .inl w] (I, L, R, Y) (fun r => ∃ z, ∃ I', ∃ L', ∃ R', ∃ Y', ∃ nc ns, r = (some (.inl z), (I', L', R', Y'), nc, ns) ∧ cl_P E I L R Y I' L' R' Y' ∧ nc ≤ 1 ∧ ns ≤ 513) := by
  obtain ⟨d, rfl⟩ : ∃ d, D = d + 1 := ⟨D - 1, by omega⟩
  refine yi_E_of (M := zi_m161) rfl rfl ?_
  have hP : cl_P E I L R Y I L R Y := cl_P_r hC
  show yi_G zi_Ms d zi_m161 (0, [(0, .inr (.inr (some 10))), (1, .inl x), (2, .inl w)], [], (I, L, R, Y), 0, 0) _
  refine yi_G_run 1 (1, [(0, .inr (.inr (some 10))), (1, .inl x), (2, .inl w)], [.inr (.inr (some 10))], (I, L, R, Y), 0, 0) (fun _ => rfl) ?_
  obtain ⟨q1, e2, t3⟩ := cl_rf hP.1 (cl_10 hP.1) (k := 16) rfl
  refine cl_G_gr rfl (cl_T_K (cl_10 hP.1)) rfl rfl rfl e2 ?_
  refine yi_G_run 1 (5, [(0, .inr (.inr (some 10))), (1, .inl x), (2, .inl w)], [.inl x, .inr (.inr (some q1))], (I, L, R, Y), 0, 0) (fun _ => rfl) ?_
  refine yi_G_callv rfl rfl (cl_rcv t3 rfl) rfl (k_isProphet d (by omega) hP.1 t3 ) ?_
  rintro _ ⟨z4, rfl, hz4, x4a⟩
  show yi_G zi_Ms d zi_m161 (8, [(0, .inr (.inr (some 10))), (1, .inl x), (2, .inl w)], [.inl z4], (I, L, R, Y), 0, 0) _
  by_cases h5 : z4 = 0
  · refine yi_G_if1 true rfl (yi_eq_t h5) ?_
    refine yi_G_run 1 (21, [(0, .inr (.inr (some 10))), (1, .inl x), (2, .inl w)], [.inl (-1)], (I, L, R, Y), 0, 0) (fun _ => rfl) ?_
    exact yi_G_reti rfl rfl (⟨_, _, _, _, _, _, _, rfl, hP, by omega, by omega⟩)
  · refine yi_G_if1 false rfl (yi_eq_f h5) ?_
    refine yi_G_run 1 (12, [(0, .inr (.inr (some 10))), (1, .inl x), (2, .inl w)], [.inl w], (I, L, R, Y), 0, 0) (fun _ => rfl) ?_
    by_cases h6 : w < 0
    · refine yi_G_if1 true rfl (yi_lt_t h6) ?_
      refine yi_G_run 1 (21, [(0, .inr (.inr (some 10))), (1, .inl x), (2, .inl w)], [.inl (-1)], (I, L, R, Y), 0, 0) (fun _ => rfl) ?_
      exact yi_G_reti rfl rfl (⟨_, _, _, _, _, _, _, rfl, hP, by omega, by omega⟩)
    · refine yi_G_if1 false rfl (yi_lt_f h6) ?_
      refine yi_G_run 2 (17, [(0, .inr (.inr (some 10))), (1, .inl x), (2, .inl w)], [.inl 1, .inl w], (I, L, R, Y), 0, 0) (fun _ => rfl) ?_
      by_cases h7 : w ≤ 1
      · refine yi_G_if2 true rfl (yi_le_t h7) ?_
        refine yi_G_run 1 (23, [(0, .inr (.inr (some 10))), (1, .inl x), (2, .inl w)], [.inr (.inr (some 10))], (I, L, R, Y), 0, 0) (fun _ => rfl) ?_
        obtain ⟨q8, e9, t10⟩ := cl_rf hP.1 (cl_10 hP.1) (k := 6) rfl
        refine cl_G_gr rfl (cl_T_K (cl_10 hP.1)) rfl rfl rfl e9 ?_
        refine yi_G_run 1 (27, [(0, .inr (.inr (some 10))), (1, .inl x), (2, .inl w)], [.inl x, .inr (.inr (some q8))], (I, L, R, Y), 0, 0) (fun _ => rfl) ?_
        refine yi_G_callv rfl rfl (cl_rcv t10 rfl) rfl (k_sayingsOf d (by omega) hP.1 t10 ) ?_
        rintro _ ⟨z11, rfl⟩
        show yi_G zi_Ms d zi_m161 (30, [(0, .inr (.inr (some 10))), (1, .inl x), (2, .inl w)], [.inl z11], (I, L, R, Y), 0, 0) _
        refine yi_G_run 2 (32, [(3, .inl z11), (0, .inr (.inr (some 10))), (1, .inl x), (2, .inl w)], [.inr (.inr (some 10))], (I, L, R, Y), 0, 0) (fun _ => rfl) ?_
        refine cl_G_gr rfl (cl_T_K (cl_10 hP.1)) rfl rfl rfl (hP.1.2.2.2.1.2.2.2.2.2.2.2.2.1) ?_
        refine yi_G_run 1 (36, [(3, .inl z11), (0, .inr (.inr (some 10))), (1, .inl x), (2, .inl w)], [.inr (.inr (some 10)), .inr (.inr (some 60))], (I, L, R, Y), 0, 0) (fun _ => rfl) ?_
        refine cl_G_gr rfl (cl_T_K (cl_10 hP.1)) rfl rfl rfl (hP.1.2.2.2.1.2.2.2.2.2.2.1) ?_
        obtain ⟨q12, e13, t14⟩ := cl_rf hP.1 (cl_34 hP.1) (k := 0) rfl
        refine cl_G_gr rfl (cl_T_K (cl_34 hP.1)) rfl rfl rfl e13 ?_
        refine yi_G_callv rfl rfl (cl_rcv (cl_60 hP.1) rfl) rfl (k_copyFrom d (by omega) hP.1 (cl_60 hP.1) t14 ) ?_
        rintro _ ⟨I15, L15, R15, Y15, nc15, ns15, rfl, hQ15, ca15, cb15, x15a, x15b, x15c⟩
        have hP15 := cl_P_t hP hQ15
        have t16 := cl_T_x t3 hQ15.2.1
        have t17 := cl_T_x t10 hQ15.2.1
        have t18 := cl_T_x t14 hQ15.2.1
        show yi_G zi_Ms d zi_m161 (45, [(3, .inl z11), (0, .inr (.inr (some 10))), (1, .inl x), (2, .inl w)], [], (I15, L15, R15, Y15), 0 + nc15, 0 + ns15) _
        refine yi_G_run 2 (48, [(4, .inl 0), (3, .inl z11), (0, .inr (.inr (some 10))), (1, .inl x), (2, .inl w)], [], (I15, L15, R15, Y15), 0 + nc15, 0 + ns15) (fun _ => rfl) ?_
        have pt48 : ∀ (m_ : Nat) (j : Int) (Lp48 : cl_I), (cl_P E I L R Y I15 Lp48 R15 Y15) → (0 ≤ j ∧ j ≤ 12) → (12 - j).toNat = m_ → yi_G zi_Ms d zi_m161 (48, [(4, .inl j), (3, .inl z11), (0, .inr (.inr (some 10))), (1, .inl x), (2, .inl w)], [], (I15, Lp48, R15, Y15), 0 + nc15, 0 + ns15) (fun r => ∃ z, ∃ I', ∃ L', ∃ R', ∃ Y', ∃ nc ns, r = (some (.inl z), (I', L', R', Y'), nc, ns) ∧ cl_P E I L R Y I' L' R' Y' ∧ nc ≤ 1 ∧ ns ≤ 513) := by
          intro m48
          induction m48 using Nat.strongRecOn with
          | _ m48 ih48 =>
          intro j Lp48 hPp48 j0 hm48
          refine yi_G_run 2 (51, [(4, .inl j), (3, .inl z11), (0, .inr (.inr (some 10))), (1, .inl x), (2, .inl w)], [.inr (.inr (some 10)), .inl j], (I15, Lp48, R15, Y15), 0 + nc15, 0 + ns15) (fun _ => rfl) ?_
          obtain ⟨q19, e20, t21⟩ := cl_rf hPp48.1 (cl_10 hPp48.1) (k := 6) rfl
          refine cl_G_gr rfl (cl_T_K (cl_10 hPp48.1)) rfl rfl rfl e20 ?_
          have b22 := cl_rd hPp48.1 t21 (k := 6) (lo := 0) (hi := 12) rfl
          refine cl_G_gi rfl (cl_T_K t21) rfl rfl rfl ?_
          by_cases h23 : (I15 q19 6) ≤ j
          · refine yi_G_if2 true rfl (yi_ge_t h23) ?_
            refine yi_G_run 1 (89, [(4, .inl j), (3, .inl z11), (0, .inr (.inr (some 10))), (1, .inl x), (2, .inl w)], [.inl w], (I15, Lp48, R15, Y15), 0 + nc15, 0 + ns15) (fun _ => rfl) ?_
            by_cases h24 : w = 0
            · refine yi_G_if1 false rfl (yi_ne_f h24) ?_
              refine yi_G_run 1 (93, [(4, .inl j), (3, .inl z11), (0, .inr (.inr (some 10))), (1, .inl x), (2, .inl w)], [.inr (.inr (some 10))], (I15, Lp48, R15, Y15), 0 + nc15, 0 + ns15) (fun _ => rfl) ?_
              refine cl_G_gr rfl (cl_T_K (cl_10 hPp48.1)) rfl rfl rfl (hPp48.1.2.2.2.1.2.2.2.2.2.2.2.2.1) ?_
              refine yi_G_callv rfl rfl (cl_rcv (cl_60 hPp48.1) rfl) rfl (k_size d (by omega) hPp48.1 (cl_60 hPp48.1) ) ?_
              rintro _ ⟨z25, rfl⟩
              show yi_G zi_Ms d zi_m161 (99, [(4, .inl j), (3, .inl z11), (0, .inr (.inr (some 10))), (1, .inl x), (2, .inl w)], [.inl z25], (I15, Lp48, R15, Y15), 0 + nc15, 0 + ns15) _
              exact yi_G_reti rfl rfl (⟨_, _, _, _, _, _, _, rfl, hPp48, by omega, by omega⟩)
            · refine yi_G_if1 true rfl (yi_ne_t h24) ?_
              refine yi_G_run 4 (106, [(5, .inl 0), (4, .inl 0), (3, .inl z11), (0, .inr (.inr (some 10))), (1, .inl x), (2, .inl w)], [], (I15, Lp48, R15, Y15), 0 + nc15, 0 + ns15) (fun _ => rfl) ?_
              have pt106 : ∀ (m_ : Nat) (i : Int) (y : Int), (0 ≤ i ∧ i ≤ 12) → (12 - i).toNat = m_ → yi_G zi_Ms d zi_m161 (106, [(5, .inl i), (4, .inl y), (3, .inl z11), (0, .inr (.inr (some 10))), (1, .inl x), (2, .inl w)], [], (I15, Lp48, R15, Y15), 0 + nc15, 0 + ns15) (fun r => ∃ z, ∃ I', ∃ L', ∃ R', ∃ Y', ∃ nc ns, r = (some (.inl z), (I', L', R', Y'), nc, ns) ∧ cl_P E I L R Y I' L' R' Y' ∧ nc ≤ 1 ∧ ns ≤ 513) := by
                intro m106
                induction m106 using Nat.strongRecOn with
                | _ m106 ih106 =>
                intro i y i0 hm106
                refine yi_G_run 2 (109, [(5, .inl i), (4, .inl y), (3, .inl z11), (0, .inr (.inr (some 10))), (1, .inl x), (2, .inl w)], [.inr (.inr (some 10)), .inl i], (I15, Lp48, R15, Y15), 0 + nc15, 0 + ns15) (fun _ => rfl) ?_
                refine cl_G_gr rfl (cl_T_K (cl_10 hPp48.1)) rfl rfl rfl e20 ?_
                have b26 := cl_rd hPp48.1 t21 (k := 6) (lo := 0) (hi := 12) rfl
                refine cl_G_gi rfl (cl_T_K t21) rfl rfl rfl ?_
                by_cases h27 : (I15 q19 6) ≤ i
                · refine yi_G_if2 true rfl (yi_ge_t h27) ?_
                  refine yi_G_run 1 (160, [(5, .inl i), (4, .inl y), (3, .inl z11), (0, .inr (.inr (some 10))), (1, .inl x), (2, .inl w)], [.inl y], (I15, Lp48, R15, Y15), 0 + nc15, 0 + ns15) (fun _ => rfl) ?_
                  exact yi_G_reti rfl rfl (⟨_, _, _, _, _, _, _, rfl, hPp48, by omega, by omega⟩)
                · refine yi_G_if2 false rfl (yi_ge_f h27) ?_
                  refine yi_G_run 5 (124, [(5, .inl i), (4, .inl y), (3, .inl z11), (0, .inr (.inr (some 10))), (1, .inl x), (2, .inl w)], [.inl (yi_iand (yi_shr z11 i) 1)], (I15, Lp48, R15, Y15), 0 + nc15, 0 + ns15) (fun _ => rfl) ?_
                  by_cases h28 : (yi_iand (yi_shr z11 i) 1) = 0
                  · refine yi_G_if1 false rfl (yi_ne_f h28) ?_
                    refine yi_G_run 1 (128, [(5, .inl i), (4, .inl y), (3, .inl z11), (0, .inr (.inr (some 10))), (1, .inl x), (2, .inl w)], [.inr (.inr (some 10))], (I15, Lp48, R15, Y15), 0 + nc15, 0 + ns15) (fun _ => rfl) ?_
                    refine cl_G_gr rfl (cl_T_K (cl_10 hPp48.1)) rfl rfl rfl (hPp48.1.2.2.2.1.2.2.2.2.2.2.2.2.1) ?_
                    refine yi_G_run 2 (134, [(5, .inl i), (4, .inl y), (3, .inl z11), (0, .inr (.inr (some 10))), (1, .inl x), (2, .inl w)], [.inl i, .inr (.inr (some 10)), .inr (.inr (some 60))], (I15, Lp48, R15, Y15), 0 + nc15, 0 + ns15) (fun _ => rfl) ?_
                    refine yi_G_callv rfl rfl (cl_rcv (cl_10 hPp48.1) rfl) rfl (k_sayingRowA d (by omega) hPp48.1  ) ?_
                    rintro _ ⟨q29, rfl, t29⟩
                    show yi_G zi_Ms d zi_m161 (137, [(5, .inl i), (4, .inl y), (3, .inl z11), (0, .inr (.inr (some 10))), (1, .inl x), (2, .inl w)], [.inr (.inr (some q29)), .inr (.inr (some 60))], (I15, Lp48, R15, Y15), 0 + nc15, 0 + ns15) _
                    refine yi_G_callv rfl rfl (cl_rcv (cl_60 hPp48.1) rfl) rfl (k_within d (by omega) hPp48.1 (cl_60 hPp48.1) t29 ) ?_
                    rintro _ ⟨z30, rfl, hz30⟩
                    show yi_G zi_Ms d zi_m161 (140, [(5, .inl i), (4, .inl y), (3, .inl z11), (0, .inr (.inr (some 10))), (1, .inl x), (2, .inl w)], [.inl z30], (I15, Lp48, R15, Y15), 0 + nc15, 0 + ns15) _
                    by_cases h31 : z30 = 0
                    · refine yi_G_if1 true rfl (yi_eq_t h31) ?_
                      refine yi_G_iinc [(5, .inl (i + 1)), (4, .inl y), (3, .inl z11), (0, .inr (.inr (some 10))), (1, .inl x), (2, .inl w)] rfl rfl rfl (by rw [show yi_w (i + 1) = i + 1 from (yi_wn (by omega) (by omega)).trans (by omega)]; rfl) ?_
                      refine yi_G_run 1 (106, [(5, .inl (i + 1)), (4, .inl y), (3, .inl z11), (0, .inr (.inr (some 10))), (1, .inl x), (2, .inl w)], [], (I15, Lp48, R15, Y15), 0 + nc15, 0 + ns15) (fun _ => rfl) ?_
                      exact ih106 _ (by omega) (i + 1) y (by omega) rfl
                    · refine yi_G_if1 false rfl (yi_eq_f h31) ?_
                      refine yi_G_run 6 (152, [(4, .inl (yi_ior y (yi_shl 1 i))), (5, .inl i), (3, .inl z11), (0, .inr (.inr (some 10))), (1, .inl x), (2, .inl w)], [], (I15, Lp48, R15, Y15), 0 + nc15, 0 + ns15) (fun _ => rfl) ?_
                      refine yi_G_iinc [(5, .inl (i + 1)), (4, .inl (yi_ior y (yi_shl 1 i))), (3, .inl z11), (0, .inr (.inr (some 10))), (1, .inl x), (2, .inl w)] rfl rfl rfl (by rw [show yi_w (i + 1) = i + 1 from (yi_wn (by omega) (by omega)).trans (by omega)]; rfl) ?_
                      refine yi_G_run 1 (106, [(5, .inl (i + 1)), (4, .inl (yi_ior y (yi_shl 1 i))), (3, .inl z11), (0, .inr (.inr (some 10))), (1, .inl x), (2, .inl w)], [], (I15, Lp48, R15, Y15), 0 + nc15, 0 + ns15) (fun _ => rfl) ?_
                      exact ih106 _ (by omega) (i + 1) (yi_ior y (yi_shl 1 i)) (by omega) rfl
                  · refine yi_G_if1 true rfl (yi_ne_t h28) ?_
                    refine yi_G_iinc [(5, .inl (i + 1)), (4, .inl y), (3, .inl z11), (0, .inr (.inr (some 10))), (1, .inl x), (2, .inl w)] rfl rfl rfl (by rw [show yi_w (i + 1) = i + 1 from (yi_wn (by omega) (by omega)).trans (by omega)]; rfl) ?_
                    refine yi_G_run 1 (106, [(5, .inl (i + 1)), (4, .inl y), (3, .inl z11), (0, .inr (.inr (some 10))), (1, .inl x), (2, .inl w)], [], (I15, Lp48, R15, Y15), 0 + nc15, 0 + ns15) (fun _ => rfl) ?_
                    exact ih106 _ (by omega) (i + 1) y (by omega) rfl
              exact pt106 _ 0 0 (by omega) rfl
          · refine yi_G_if2 false rfl (yi_ge_f h23) ?_
            refine yi_G_run 5 (66, [(4, .inl j), (3, .inl z11), (0, .inr (.inr (some 10))), (1, .inl x), (2, .inl w)], [.inl (yi_iand (yi_shr z11 j) 1)], (I15, Lp48, R15, Y15), 0 + nc15, 0 + ns15) (fun _ => rfl) ?_
            by_cases h32 : (yi_iand (yi_shr z11 j) 1) = 0
            · refine yi_G_if1 true rfl (yi_eq_t h32) ?_
              refine yi_G_iinc [(4, .inl (j + 1)), (3, .inl z11), (0, .inr (.inr (some 10))), (1, .inl x), (2, .inl w)] rfl rfl rfl (by rw [show yi_w (j + 1) = j + 1 from (yi_wn (by omega) (by omega)).trans (by omega)]; rfl) ?_
              refine yi_G_run 1 (48, [(4, .inl (j + 1)), (3, .inl z11), (0, .inr (.inr (some 10))), (1, .inl x), (2, .inl w)], [], (I15, Lp48, R15, Y15), 0 + nc15, 0 + ns15) (fun _ => rfl) ?_
              exact ih48 _ (by omega) (j + 1) Lp48 hPp48 (by omega) rfl
            · refine yi_G_if1 false rfl (yi_eq_f h32) ?_
              refine yi_G_run 1 (70, [(4, .inl j), (3, .inl z11), (0, .inr (.inr (some 10))), (1, .inl x), (2, .inl w)], [.inr (.inr (some 10))], (I15, Lp48, R15, Y15), 0 + nc15, 0 + ns15) (fun _ => rfl) ?_
              refine cl_G_gr rfl (cl_T_K (cl_10 hPp48.1)) rfl rfl rfl (hPp48.1.2.2.2.1.2.2.2.2.2.2.2.2.1) ?_
              refine yi_G_run 2 (76, [(4, .inl j), (3, .inl z11), (0, .inr (.inr (some 10))), (1, .inl x), (2, .inl w)], [.inl j, .inr (.inr (some 10)), .inr (.inr (some 60))], (I15, Lp48, R15, Y15), 0 + nc15, 0 + ns15) (fun _ => rfl) ?_
              refine yi_G_callv rfl rfl (cl_rcv (cl_10 hPp48.1) rfl) rfl (k_sayingRowA d (by omega) hPp48.1  ) ?_
              rintro _ ⟨q33, rfl, t33⟩
              show yi_G zi_Ms d zi_m161 (79, [(4, .inl j), (3, .inl z11), (0, .inr (.inr (some 10))), (1, .inl x), (2, .inl w)], [.inr (.inr (some q33)), .inr (.inr (some 60))], (I15, Lp48, R15, Y15), 0 + nc15, 0 + ns15) _
              refine yi_G_callv rfl rfl (cl_rcv (cl_60 hPp48.1) rfl) rfl (k_keep d (by omega) hPp48.1 (cl_60 hPp48.1) t33 ) ?_
              rintro _ ⟨L34, rfl, hQ34⟩
              have hP34 := cl_P_t hPp48 hQ34
              show yi_G zi_Ms d zi_m161 (82, [(4, .inl j), (3, .inl z11), (0, .inr (.inr (some 10))), (1, .inl x), (2, .inl w)], [], (I15, L34, R15, Y15), 0 + nc15, 0 + ns15) _
              refine yi_G_iinc [(4, .inl (j + 1)), (3, .inl z11), (0, .inr (.inr (some 10))), (1, .inl x), (2, .inl w)] rfl rfl rfl (by rw [show yi_w (j + 1) = j + 1 from (yi_wn (by omega) (by omega)).trans (by omega)]; rfl) ?_
              refine yi_G_run 1 (48, [(4, .inl (j + 1)), (3, .inl z11), (0, .inr (.inr (some 10))), (1, .inl x), (2, .inl w)], [], (I15, L34, R15, Y15), 0 + nc15, 0 + ns15) (fun _ => rfl) ?_
              exact ih48 _ (by omega) (j + 1) L34 hP34 (by omega) rfl
        exact pt48 _ 0 L15 hP15 (by omega) rfl
      · refine yi_G_if2 false rfl (yi_le_f h7) ?_
        refine yi_G_run 1 (21, [(0, .inr (.inr (some 10))), (1, .inl x), (2, .inl w)], [.inl (-1)], (I, L, R, Y), 0, 0) (fun _ => rfl) ?_
        exact yi_G_reti rfl rfl (⟨_, _, _, _, _, _, _, rfl, hP, by omega, by omega⟩)
