/-! The class: the calls that read the tape, first, fair. -/
theorem k_askA (D : Nat) (hD : 24 ≤ D) {E : List Nat} {I L : cl_I} {R : cl_Rr} {Y : cl_Y} (hC : cl_C E I L R Y) : yi_E zi_Ms D 139 [.inr (.inr (some 10))] (I, L, R, Y) (fun r => ∃ z, ∃ I', ∃ L', ∃ R', ∃ Y', ∃ nc ns, r = (some (.inl z), (I', L', R', Y'), nc, ns) ∧ cl_P E (yi_u I 12 5 0) L R Y I' L' R' Y' ∧ nc ≤ 4 ∧ ns ≤ 1029) := by
  obtain ⟨d, rfl⟩ : ∃ d, D = d + 1 := ⟨D - 1, by omega⟩
  refine yi_E_of (M := zi_m139) rfl rfl ?_
  have hP : cl_P E I L R Y I L R Y := cl_P_r hC
  show yi_G zi_Ms d zi_m139 (0, [(0, .inr (.inr (some 10)))], [], (I, L, R, Y), 0, 0) _
  refine yi_G_run 1 (1, [(0, .inr (.inr (some 10)))], [.inr (.inr (some 10))], (I, L, R, Y), 0, 0) (fun _ => rfl) ?_
  refine cl_G_gr rfl (cl_T_K (cl_10 hP.1)) rfl rfl rfl (hP.1.2.2.2.1.2.2.2.2.1) ?_
  refine yi_G_callv rfl rfl (cl_rcv (cl_12 hP.1) rfl) rfl (k_cut d (by omega) hP.1  ) ?_
  rintro _ ⟨I1, L1, rfl, hQ1, x1a, x1b⟩
  have hP1 := cl_P_t0 hP hQ1
  show yi_G zi_Ms d zi_m139 (7, [(0, .inr (.inr (some 10)))], [], (I1, L1, R, Y), 0, 0) _
  refine yi_G_run 1 (8, [(0, .inr (.inr (some 10)))], [.inr (.inr (some 10))], (I1, L1, R, Y), 0, 0) (fun _ => rfl) ?_
  refine cl_G_gr rfl (cl_T_K (cl_10 hP1.1)) rfl rfl rfl (hP1.1.2.2.2.1.2.2.2.1) ?_
  refine yi_G_run 1 (12, [(0, .inr (.inr (some 10)))], [.inr (.inr (some 10)), .inr (.inr (some 11))], (I1, L1, R, Y), 0, 0) (fun _ => rfl) ?_
  obtain ⟨q2, e3, t4⟩ := cl_rf hP1.1 (cl_10 hP1.1) (k := 16) rfl
  refine cl_G_gr rfl (cl_T_K (cl_10 hP1.1)) rfl rfl rfl e3 ?_
  refine yi_G_callv rfl rfl (cl_rcv (cl_11 hP1.1) rfl) rfl (k_readAskedR d (by omega) hP1.1 t4 (by omega)) ?_
  rintro _ ⟨z5, I5, L5, R5, rfl, hQ5⟩
  have hP5 := cl_P_t hP1 hQ5
  show yi_G zi_Ms d zi_m139 (18, [(0, .inr (.inr (some 10)))], [.inl z5], (I5, L5, R5, Y), 0, 0) _
  refine yi_G_run 2 (20, [(1, .inl z5), (0, .inr (.inr (some 10)))], [.inl z5], (I5, L5, R5, Y), 0, 0) (fun _ => rfl) ?_
  by_cases h6 : z5 = 0
  · refine yi_G_if1 true rfl (yi_eq_t h6) ?_
    refine yi_G_run 1 (26, [(1, .inl z5), (0, .inr (.inr (some 10)))], [.inr (.inr (some 10))], (I5, L5, R5, Y), 0, 0) (fun _ => rfl) ?_
    refine cl_G_gr rfl (cl_T_K (cl_10 hP5.1)) rfl rfl rfl (hP5.1.2.2.2.1.2.2.2.2.2.2.1) ?_
    refine yi_G_run 1 (30, [(1, .inl z5), (0, .inr (.inr (some 10)))], [.inr (.inr (some 10)), .inr (.inr (some 34))], (I5, L5, R5, Y), 0, 0) (fun _ => rfl) ?_
    refine cl_G_gr rfl (cl_T_K (cl_10 hP5.1)) rfl rfl rfl (hP5.1.2.2.2.1.2.2.2.1) ?_
    obtain ⟨q7, e8, t9, n10⟩ := cl_rn hP5.1 (cl_11 hP5.1) (k := 2) (m := 1001) rfl
    refine cl_G_gr rfl (cl_T_K (cl_11 hP5.1)) rfl rfl rfl e8 ?_
    refine yi_G_run 2 (38, [(1, .inl z5), (0, .inr (.inr (some 10)))], [.inr (.inr (some 10)), .inl 0, .inr (.inr (some q7)), .inr (.inr (some 34))], (I5, L5, R5, Y), 0, 0) (fun _ => rfl) ?_
    refine cl_G_gr rfl (cl_T_K (cl_10 hP5.1)) rfl rfl rfl (hP5.1.2.2.2.1.2.2.2.1) ?_
    have b11 := cl_rd hP5.1 (cl_11 hP5.1) (k := 3) (lo := 0) (hi := 1002) rfl
    refine cl_G_gi rfl (cl_T_K (cl_11 hP5.1)) rfl rfl rfl ?_
    refine yi_G_run 1 (45, [(1, .inl z5), (0, .inr (.inr (some 10)))], [.inr (.inr (some 10)), .inl (I5 11 3), .inl 0, .inr (.inr (some q7)), .inr (.inr (some 34))], (I5, L5, R5, Y), 0, 0) (fun _ => rfl) ?_
    refine cl_G_gr rfl (cl_T_K (cl_10 hP5.1)) rfl rfl rfl (hP5.1.2.2.2.1.2.2.2.2.2.2.2.2.1) ?_
    refine yi_G_callv rfl rfl (cl_rcv (cl_34 hP5.1) rfl) rfl (k_solve d (by omega) hP5.1 (cl_34 hP5.1) t9 (cl_60 hP5.1) ) ?_
    rintro _ ⟨I12, L12, R12, Y12, nc12, ns12, rfl, hQ12, ca12, cb12, x12a, x12b, x12c⟩
    have hP12 := cl_P_t hP5 hQ12
    have t13 := cl_T_x t4 hQ12.2.1
    have t14 := cl_T_x t9 hQ12.2.1
    have n15 := (cl_T_n t9 hQ12.2.1).trans n10
    show yi_G zi_Ms d zi_m139 (51, [(1, .inl z5), (0, .inr (.inr (some 10)))], [], (I12, L12, R12, Y12), 0 + nc12, 0 + ns12) _
    refine yi_G_run 1 (52, [(1, .inl z5), (0, .inr (.inr (some 10)))], [.inr (.inr (some 10))], (I12, L12, R12, Y12), 0 + nc12, 0 + ns12) (fun _ => rfl) ?_
    obtain ⟨q16, e17, t18⟩ := cl_rf hP12.1 (cl_10 hP12.1) (k := 6) rfl
    refine cl_G_gr rfl (cl_T_K (cl_10 hP12.1)) rfl rfl rfl e17 ?_
    refine yi_G_run 1 (56, [(1, .inl z5), (0, .inr (.inr (some 10)))], [.inr (.inr (some 10)), .inr (.inr (some q16))], (I12, L12, R12, Y12), 0 + nc12, 0 + ns12) (fun _ => rfl) ?_
    refine cl_G_gr rfl (cl_T_K (cl_10 hP12.1)) rfl rfl rfl (hP12.1.2.2.2.1.2.2.2.2.2.2.2.2.1) ?_
    refine yi_G_callv rfl rfl (cl_rcv (cl_60 hP12.1) rfl) rfl (k_copyOut d (by omega) hP12.1 (cl_60 hP12.1) ) ?_
    rintro _ ⟨q19, I19, L19, R19, Y19, nc19, ns19, rfl, hQ19, ca19, cb19, t19⟩
    have hP19 := cl_P_t hP12 hQ19
    have t20 := cl_T_x t13 hQ19.2.1
    have t21 := cl_T_x t14 hQ19.2.1
    have n22 := (cl_T_n t14 hQ19.2.1).trans n15
    have t23 := cl_T_x t18 hQ19.2.1
    show yi_G zi_Ms d zi_m139 (62, [(1, .inl z5), (0, .inr (.inr (some 10)))], [.inr (.inr (some q19)), .inr (.inr (some q16))], (I19, L19, R19, Y19), 0 + nc12 + nc19, 0 + ns12 + ns19) _
    refine cl_G_pr rfl (cl_T_K t23) rfl rfl rfl ?_
    have hP24 := cl_P_uR (k := 5) (v := (some q19)) hP19 t23 (by decide) (by decide) (cl_hro rfl t19)
    generalize w25 : cl_u R19 q16 5 (some q19) = R26 at hP24 ⊢
    have e27 : R26 q16 5 = some q19 := by rw [← w25, cl_u_eq]
    refine yi_G_run 1 (66, [(1, .inl z5), (0, .inr (.inr (some 10)))], [.inl 0], (I19, L19, R26, Y19), 0 + nc12 + nc19, 0 + ns12 + ns19) (fun _ => rfl) ?_
    exact yi_G_reti rfl rfl (⟨_, _, _, _, _, _, _, rfl, hP24, by omega, by omega⟩)
  · refine yi_G_if1 false rfl (yi_eq_f h6) ?_
    refine yi_G_run 1 (24, [(1, .inl z5), (0, .inr (.inr (some 10)))], [.inl z5], (I5, L5, R5, Y), 0, 0) (fun _ => rfl) ?_
    exact yi_G_reti rfl rfl (⟨_, _, _, _, _, _, _, rfl, hP5, by omega, by omega⟩)
theorem k_copyOut2 (D : Nat) (hD : 3 ≤ D) {E : List Nat} {I L : cl_I} {R : cl_Rr} {Y : cl_Y} (hC : cl_C E I L R Y) {p : Nat} (tp : cl_T E Y p 5) : yi_E zi_Ms D 201 [.inr (.inr (some p))] (I, L, R, Y) (fun r => ∃ q, ∃ I', ∃ L', ∃ R', ∃ Y', ∃ nc ns, r = (some (.inr (.inr (some q))), (I', L', R', Y'), nc, ns) ∧ cl_P E I L R Y I' L' R' Y' ∧ nc ≤ 3 ∧ ns ≤ 516 ∧ cl_T E Y' q 5 ∧ (∀ q k, q < Y.2.2 → I' q k = I q k ∧ R' q k = R q k)) := by
  obtain ⟨d, rfl⟩ : ∃ d, D = d + 1 := ⟨D - 1, by omega⟩
  refine yi_E_of (M := zi_m201) rfl rfl ?_
  have hP : cl_P E I L R Y I L R Y := cl_P_r hC
  show yi_G zi_Ms d zi_m201 (0, [(0, .inr (.inr (some p)))], [], (I, L, R, Y), 0, 0) _
  refine cl_G_mko (m := 2) rfl hP rfl rfl (fun e1x I1 L1 R1 Y1 ee1 hP1 x1 tt1 z1 y1 k1 g1 m1 o1 => ?_)
  have t2 := tt1 _ _ tp
  refine yi_G_run 1 (4, [(0, .inr (.inr (some p)))], [.inr (.inr (some e1x)), .inr (.inr (some e1x))], (I1, L1, R1, Y1), 0 + 1, 0 + 2) (fun _ => rfl) ?_
  refine cl_G_callx rfl rfl rfl rfl (k_FS0 d (by omega) hP1.1 g1 k1 m1 z1 y1  ) ?_
  rintro _ ⟨I3, L3, R3, Y3, nc3, ns3, rfl, hQ3, ca3, cb3, t3, x3a⟩
  have hP3 := cl_P_t hP1 hQ3
  have t4 := cl_T_x (cl_T_d t2) hQ3.2.1
  show yi_G zi_Ms d zi_m201 (7, [(0, .inr (.inr (some p)))], [.inr (.inr (some e1x))], (I3, L3, R3, Y3), 0 + 1 + nc3, 0 + 2 + ns3) _
  refine yi_G_run 3 (10, [(1, .inr (.inr (some e1x))), (0, .inr (.inr (some p)))], [.inr (.inr (some p)), .inr (.inr (some e1x))], (I3, L3, R3, Y3), 0 + 1 + nc3, 0 + 2 + ns3) (fun _ => rfl) ?_
  refine yi_G_callv rfl rfl (cl_rcv t3 rfl) rfl (k_copyFrom d (by omega) hP3.1 t3 t4 ) ?_
  rintro _ ⟨I5, L5, R5, Y5, nc5, ns5, rfl, hQ5, ca5, cb5, x5a, x5b, x5c⟩
  have hP5 := cl_P_t hP3 hQ5
  have t6 := cl_T_x t4 hQ5.2.1
  have t7 := cl_T_x t3 hQ5.2.1
  show yi_G zi_Ms d zi_m201 (13, [(1, .inr (.inr (some e1x))), (0, .inr (.inr (some p)))], [], (I5, L5, R5, Y5), 0 + 1 + nc3 + nc5, 0 + 2 + ns3 + ns5) _
  refine yi_G_run 1 (14, [(1, .inr (.inr (some e1x))), (0, .inr (.inr (some p)))], [.inr (.inr (some e1x))], (I5, L5, R5, Y5), 0 + 1 + nc3 + nc5, 0 + 2 + ns3 + ns5) (fun _ => rfl) ?_
  have lt1_ := hP1.2.1.1
  have lt2_ := hP3.2.1.1
  exact cl_G_reta rfl rfl rfl (⟨_, _, _, _, _, _, _, rfl, hP5, by omega, by omega, t7, (fun q k hq => by have l1 : q < Y1.2.2 := Nat.lt_of_lt_of_le hq (by omega); have ne : q ≠ e1x := (by omega); have a1 := x5c q k (by omega) ne; have a2 := x3a q k (by omega) ne; have a3 := o1 q k hq; exact ⟨a1.1.trans (a2.1.trans a3.2), a1.2.trans (a2.2.trans a3.1)⟩)⟩)
theorem k_tellA (D : Nat) (hD : 24 ≤ D) {E : List Nat} {I L : cl_I} {R : cl_Rr} {Y : cl_Y} (hC : cl_C E I L R Y) : yi_E zi_Ms D 180 [.inr (.inr (some 10))] (I, L, R, Y) (fun r => ∃ z, ∃ I', ∃ L', ∃ R', ∃ Y', ∃ nc ns, r = (some (.inl z), (I', L', R', Y'), nc, ns) ∧ cl_P E (yi_u I 12 5 0) L R Y I' L' R' Y' ∧ nc ≤ 12 ∧ ns ≤ 1200) := by
  obtain ⟨d, rfl⟩ : ∃ d, D = d + 1 := ⟨D - 1, by omega⟩
  refine yi_E_of (M := zi_m180) rfl rfl ?_
  have hP : cl_P E I L R Y I L R Y := cl_P_r hC
  show yi_G zi_Ms d zi_m180 (0, [(0, .inr (.inr (some 10)))], [], (I, L, R, Y), 0, 0) _
  refine yi_G_run 1 (1, [(0, .inr (.inr (some 10)))], [.inr (.inr (some 10))], (I, L, R, Y), 0, 0) (fun _ => rfl) ?_
  refine cl_G_gr rfl (cl_T_K (cl_10 hP.1)) rfl rfl rfl (hP.1.2.2.2.1.2.2.2.2.1) ?_
  refine yi_G_callv rfl rfl (cl_rcv (cl_12 hP.1) rfl) rfl (k_cut d (by omega) hP.1  ) ?_
  rintro _ ⟨I1, L1, rfl, hQ1, x1a, x1b⟩
  have hP1 := cl_P_t0 hP hQ1
  show yi_G zi_Ms d zi_m180 (7, [(0, .inr (.inr (some 10)))], [], (I1, L1, R, Y), 0, 0) _
  refine yi_G_run 1 (8, [(0, .inr (.inr (some 10)))], [.inr (.inr (some 10))], (I1, L1, R, Y), 0, 0) (fun _ => rfl) ?_
  refine cl_G_gr rfl (cl_T_K (cl_10 hP1.1)) rfl rfl rfl (hP1.1.2.2.2.1.2.2.2.1) ?_
  refine yi_G_run 1 (12, [(0, .inr (.inr (some 10)))], [.inr (.inr (some 10)), .inr (.inr (some 11))], (I1, L1, R, Y), 0, 0) (fun _ => rfl) ?_
  obtain ⟨q2, e3, t4⟩ := cl_rf hP1.1 (cl_10 hP1.1) (k := 16) rfl
  refine cl_G_gr rfl (cl_T_K (cl_10 hP1.1)) rfl rfl rfl e3 ?_
  refine yi_G_callv rfl rfl (cl_rcv (cl_11 hP1.1) rfl) rfl (k_readSayingR d (by omega) hP1.1 t4 (by omega)) ?_
  rintro _ ⟨z5, I5, L5, R5, rfl, hQ5⟩
  have hP5 := cl_P_t hP1 hQ5
  show yi_G zi_Ms d zi_m180 (18, [(0, .inr (.inr (some 10)))], [.inl z5], (I5, L5, R5, Y), 0, 0) _
  refine yi_G_run 2 (20, [(1, .inl z5), (0, .inr (.inr (some 10)))], [.inl z5], (I5, L5, R5, Y), 0, 0) (fun _ => rfl) ?_
  by_cases h6 : z5 = 0
  · refine yi_G_if1 true rfl (yi_eq_t h6) ?_
    refine yi_G_run 1 (26, [(1, .inl z5), (0, .inr (.inr (some 10)))], [.inr (.inr (some 10))], (I5, L5, R5, Y), 0, 0) (fun _ => rfl) ?_
    obtain ⟨q7, e8, t9⟩ := cl_rf hP5.1 (cl_10 hP5.1) (k := 6) rfl
    refine cl_G_gr rfl (cl_T_K (cl_10 hP5.1)) rfl rfl rfl e8 ?_
    have b10 := cl_rd hP5.1 t9 (k := 6) (lo := 0) (hi := 12) rfl
    refine cl_G_gi rfl (cl_T_K t9) rfl rfl rfl ?_
    refine yi_G_run 1 (34, [(1, .inl z5), (0, .inr (.inr (some 10)))], [.inl 12, .inl (I5 q7 6)], (I5, L5, R5, Y), 0, 0) (fun _ => rfl) ?_
    by_cases h11 : (I5 q7 6) < 12
    · refine yi_G_if2 true rfl (yi_lt_t h11) ?_
      refine yi_G_run 1 (41, [(1, .inl z5), (0, .inr (.inr (some 10)))], [.inr (.inr (some 10))], (I5, L5, R5, Y), 0, 0) (fun _ => rfl) ?_
      refine cl_G_gr rfl (cl_T_K (cl_10 hP5.1)) rfl rfl rfl (hP5.1.2.2.2.1.2.2.2.1) ?_
      refine cl_G_gi rfl (cl_T_K (cl_11 hP5.1)) rfl rfl rfl ?_
      refine yi_G_run 2 (49, [(2, .inl (I5 11 4)), (1, .inl z5), (0, .inr (.inr (some 10)))], [.inr (.inr (some 10))], (I5, L5, R5, Y), 0, 0) (fun _ => rfl) ?_
      obtain ⟨q12, e13, t14⟩ := cl_rf hP5.1 (cl_10 hP5.1) (k := 16) rfl
      refine cl_G_gr rfl (cl_T_K (cl_10 hP5.1)) rfl rfl rfl e13 ?_
      refine yi_G_run 1 (53, [(2, .inl (I5 11 4)), (1, .inl z5), (0, .inr (.inr (some 10)))], [.inl (I5 11 4), .inr (.inr (some q12))], (I5, L5, R5, Y), 0, 0) (fun _ => rfl) ?_
      refine yi_G_callv rfl rfl (cl_rcv t14 rfl) rfl (k_kindOf d (by omega) hP5.1 t14 ) ?_
      rintro _ ⟨z15, rfl⟩
      show yi_G zi_Ms d zi_m180 (56, [(2, .inl (I5 11 4)), (1, .inl z5), (0, .inr (.inr (some 10)))], [.inl z15], (I5, L5, R5, Y), 0, 0) _
      refine yi_G_run 1 (57, [(2, .inl (I5 11 4)), (1, .inl z5), (0, .inr (.inr (some 10)))], [.inl 4, .inl z15], (I5, L5, R5, Y), 0, 0) (fun _ => rfl) ?_
      by_cases h16 : z15 = 4
      · refine yi_G_if2 false rfl (yi_ne_f h16) ?_
        refine yi_G_run 1 (61, [(2, .inl (I5 11 4)), (1, .inl z5), (0, .inr (.inr (some 10)))], [.inr (.inr (some 10))], (I5, L5, R5, Y), 0, 0) (fun _ => rfl) ?_
        refine cl_G_gr rfl (cl_T_K (cl_10 hP5.1)) rfl rfl rfl (hP5.1.2.2.2.1.2.2.2.1) ?_
        refine cl_G_gi rfl (cl_T_K (cl_11 hP5.1)) rfl rfl rfl ?_
        by_cases h17 : (I5 11 5) = 0
        · refine yi_G_if1 true rfl (yi_eq_t h17) ?_
          refine yi_G_run 1 (74, [(2, .inl (I5 11 4)), (1, .inl z5), (0, .inr (.inr (some 10)))], [.inr (.inr (some 10))], (I5, L5, R5, Y), 0, 0) (fun _ => rfl) ?_
          refine cl_G_gr rfl (cl_T_K (cl_10 hP5.1)) rfl rfl rfl (hP5.1.2.2.2.1.2.2.2.2.2.2.1) ?_
          refine yi_G_run 1 (78, [(2, .inl (I5 11 4)), (1, .inl z5), (0, .inr (.inr (some 10)))], [.inr (.inr (some 10)), .inr (.inr (some 34))], (I5, L5, R5, Y), 0, 0) (fun _ => rfl) ?_
          refine cl_G_gr rfl (cl_T_K (cl_10 hP5.1)) rfl rfl rfl (hP5.1.2.2.2.1.2.2.2.1) ?_
          obtain ⟨q18, e19, t20, n21⟩ := cl_rn hP5.1 (cl_11 hP5.1) (k := 2) (m := 1001) rfl
          refine cl_G_gr rfl (cl_T_K (cl_11 hP5.1)) rfl rfl rfl e19 ?_
          refine yi_G_run 2 (86, [(2, .inl (I5 11 4)), (1, .inl z5), (0, .inr (.inr (some 10)))], [.inr (.inr (some 10)), .inl 0, .inr (.inr (some q18)), .inr (.inr (some 34))], (I5, L5, R5, Y), 0, 0) (fun _ => rfl) ?_
          refine cl_G_gr rfl (cl_T_K (cl_10 hP5.1)) rfl rfl rfl (hP5.1.2.2.2.1.2.2.2.1) ?_
          have b22 := cl_rd hP5.1 (cl_11 hP5.1) (k := 3) (lo := 0) (hi := 1002) rfl
          refine cl_G_gi rfl (cl_T_K (cl_11 hP5.1)) rfl rfl rfl ?_
          refine yi_G_run 1 (93, [(2, .inl (I5 11 4)), (1, .inl z5), (0, .inr (.inr (some 10)))], [.inr (.inr (some 10)), .inl (I5 11 3), .inl 0, .inr (.inr (some q18)), .inr (.inr (some 34))], (I5, L5, R5, Y), 0, 0) (fun _ => rfl) ?_
          refine cl_G_gr rfl (cl_T_K (cl_10 hP5.1)) rfl rfl rfl (hP5.1.2.2.2.1.2.2.2.2.2.2.2.2.1) ?_
          refine yi_G_callv rfl rfl (cl_rcv (cl_34 hP5.1) rfl) rfl (k_solve d (by omega) hP5.1 (cl_34 hP5.1) t20 (cl_60 hP5.1) ) ?_
          rintro _ ⟨I23, L23, R23, Y23, nc23, ns23, rfl, hQ23, ca23, cb23, x23a, x23b, x23c⟩
          have hP23 := cl_P_t hP5 hQ23
          have t24 := cl_T_x t4 hQ23.2.1
          have t25 := cl_T_x t9 hQ23.2.1
          have t26 := cl_T_x t14 hQ23.2.1
          have t27 := cl_T_x t20 hQ23.2.1
          have n28 := (cl_T_n t20 hQ23.2.1).trans n21
          show yi_G zi_Ms d zi_m180 (99, [(2, .inl (I5 11 4)), (1, .inl z5), (0, .inr (.inr (some 10)))], [], (I23, L23, R23, Y23), 0 + nc23, 0 + ns23) _
          refine yi_G_run 1 (100, [(2, .inl (I5 11 4)), (1, .inl z5), (0, .inr (.inr (some 10)))], [.inr (.inr (some 10))], (I23, L23, R23, Y23), 0 + nc23, 0 + ns23) (fun _ => rfl) ?_
          refine cl_G_gr rfl (cl_T_K (cl_10 hP23.1)) rfl rfl rfl (hP23.1.2.2.2.1.2.2.2.2.2.2.2.1) ?_
          refine yi_G_run 1 (104, [(2, .inl (I5 11 4)), (1, .inl z5), (0, .inr (.inr (some 10)))], [.inr (.inr (some 10)), .inr (.inr (some 58))], (I23, L23, R23, Y23), 0 + nc23, 0 + ns23) (fun _ => rfl) ?_
          refine cl_G_gr rfl (cl_T_K (cl_10 hP23.1)) rfl rfl rfl (hP23.1.2.2.2.1.2.2.2.2.2.2.2.2.1) ?_
          refine yi_G_callv rfl rfl (cl_rcv (cl_58 hP23.1) rfl) rfl (k_sizeWith d (by omega) hP23.1 (cl_58 hP23.1) (cl_60 hP23.1) ) ?_
          rintro _ ⟨z29, rfl⟩
          show yi_G zi_Ms d zi_m180 (110, [(2, .inl (I5 11 4)), (1, .inl z5), (0, .inr (.inr (some 10)))], [.inl z29], (I23, L23, R23, Y23), 0 + nc23, 0 + ns23) _
          refine yi_G_run 2 (112, [(3, .inl z29), (2, .inl (I5 11 4)), (1, .inl z5), (0, .inr (.inr (some 10)))], [.inl z29], (I23, L23, R23, Y23), 0 + nc23, 0 + ns23) (fun _ => rfl) ?_
          by_cases h30 : z29 = 0
          · refine yi_G_if1 false rfl (yi_ne_f h30) ?_
            refine yi_G_run 1 (116, [(3, .inl z29), (2, .inl (I5 11 4)), (1, .inl z5), (0, .inr (.inr (some 10)))], [.inl (-1)], (I23, L23, R23, Y23), 0 + nc23, 0 + ns23) (fun _ => rfl) ?_
            exact yi_G_reti rfl rfl (⟨_, _, _, _, _, _, _, rfl, hP23, by omega, by omega⟩)
          · refine yi_G_if1 true rfl (yi_ne_t h30) ?_
            refine yi_G_run 1 (118, [(3, .inl z29), (2, .inl (I5 11 4)), (1, .inl z5), (0, .inr (.inr (some 10)))], [.inr (.inr (some 10))], (I23, L23, R23, Y23), 0 + nc23, 0 + ns23) (fun _ => rfl) ?_
            refine yi_G_callv rfl rfl (cl_rcv (cl_10 hP23.1) rfl) rfl (k_rememberA d (by omega) hP23.1  ) ?_
            rintro _ ⟨I31, L31, R31, Y31, nc31, ns31, rfl, hQ31, ca31, cb31⟩
            have hP31 := cl_P_t hP23 hQ31
            have t32 := cl_T_x t24 hQ31.2.1
            have t33 := cl_T_x t25 hQ31.2.1
            have t34 := cl_T_x t26 hQ31.2.1
            have t35 := cl_T_x t27 hQ31.2.1
            have n36 := (cl_T_n t27 hQ31.2.1).trans n28
            show yi_G zi_Ms d zi_m180 (121, [(3, .inl z29), (2, .inl (I5 11 4)), (1, .inl z5), (0, .inr (.inr (some 10)))], [], (I31, L31, R31, Y31), 0 + nc23 + nc31, 0 + ns23 + ns31) _
            refine yi_G_run 1 (122, [(3, .inl z29), (2, .inl (I5 11 4)), (1, .inl z5), (0, .inr (.inr (some 10)))], [.inr (.inr (some 10))], (I31, L31, R31, Y31), 0 + nc23 + nc31, 0 + ns23 + ns31) (fun _ => rfl) ?_
            obtain ⟨q37, e38, t39⟩ := cl_rf hP31.1 (cl_10 hP31.1) (k := 3) rfl
            refine cl_G_gr rfl (cl_T_K (cl_10 hP31.1)) rfl rfl rfl e38 ?_
            refine yi_G_run 1 (126, [(3, .inl z29), (2, .inl (I5 11 4)), (1, .inl z5), (0, .inr (.inr (some 10)))], [.inr (.inr (some 10)), .inr (.inr (some q37))], (I31, L31, R31, Y31), 0 + nc23 + nc31, 0 + ns23 + ns31) (fun _ => rfl) ?_
            obtain ⟨q40, e41, t42⟩ := cl_rf hP31.1 (cl_10 hP31.1) (k := 16) rfl
            refine cl_G_gr rfl (cl_T_K (cl_10 hP31.1)) rfl rfl rfl e41 ?_
            obtain ⟨q43, e44, t45⟩ := cl_rf hP31.1 t42 (k := 12) rfl
            have n46 := cl_nb hP31.1 t45
            refine cl_G_gr rfl (cl_T_K t42) rfl rfl rfl e44 ?_
            refine yi_G_run 1 (133, [(3, .inl z29), (2, .inl (I5 11 4)), (1, .inl z5), (0, .inr (.inr (some 10)))], [.inr (.inr (some 10)), .inr (.inr (some q43)), .inr (.inr (some q37))], (I31, L31, R31, Y31), 0 + nc23 + nc31, 0 + ns23 + ns31) (fun _ => rfl) ?_
            refine cl_G_gr rfl (cl_T_K (cl_10 hP31.1)) rfl rfl rfl (hP31.1.2.2.2.1.2.2.2.2.2.2.2.1) ?_
            refine yi_G_callv rfl rfl (cl_rcv (cl_58 hP31.1) rfl) rfl (k_size d (by omega) hP31.1 (cl_58 hP31.1) ) ?_
            rintro _ ⟨z47, rfl⟩
            show yi_G zi_Ms d zi_m180 (139, [(3, .inl z29), (2, .inl (I5 11 4)), (1, .inl z5), (0, .inr (.inr (some 10)))], [.inl z47, .inr (.inr (some q43)), .inr (.inr (some q37))], (I31, L31, R31, Y31), 0 + nc23 + nc31, 0 + ns23 + ns31) _
            refine yi_G_run 2 (141, [(3, .inl z29), (2, .inl (I5 11 4)), (1, .inl z5), (0, .inr (.inr (some 10)))], [.inr (.inr (some 10)), .inl z29, .inl z47, .inr (.inr (some q43)), .inr (.inr (some q37))], (I31, L31, R31, Y31), 0 + nc23 + nc31, 0 + ns23 + ns31) (fun _ => rfl) ?_
            obtain ⟨q48, e49, t50⟩ := cl_rf hP31.1 (cl_10 hP31.1) (k := 6) rfl
            refine cl_G_gr rfl (cl_T_K (cl_10 hP31.1)) rfl rfl rfl e49 ?_
            have b51 := cl_rd hP31.1 t50 (k := 6) (lo := 0) (hi := 12) rfl
            refine cl_G_gi rfl (cl_T_K t50) rfl rfl rfl ?_
            refine yi_G_callv rfl rfl (cl_rcv t39 rfl) rfl (k_priceOf d (by omega) hP31.1 t39 t45 ) ?_
            rintro _ ⟨z52, I52, rfl, hQ52⟩
            have hP52 := cl_P_t hP31 hQ52
            show yi_G zi_Ms d zi_m180 (150, [(3, .inl z29), (2, .inl (I5 11 4)), (1, .inl z5), (0, .inr (.inr (some 10)))], [.inl z52], (I52, L31, R31, Y31), 0 + nc23 + nc31, 0 + ns23 + ns31) _
            refine yi_G_run 2 (153, [(4, .inl z52), (3, .inl z29), (2, .inl (I5 11 4)), (1, .inl z5), (0, .inr (.inr (some 10)))], [.inr (.inr (some 10))], (I52, L31, R31, Y31), 0 + nc23 + nc31, 0 + ns23 + ns31) (fun _ => rfl) ?_
            refine cl_G_gr rfl (cl_T_K (cl_10 hP52.1)) rfl rfl rfl e49 ?_
            refine cl_G_mko (m := 4) rfl hP52 rfl rfl (fun e53x I53 L53 R53 Y53 ee53 hP53 x53 tt53 z53 y53 k53 g53 m53 o53 => ?_)
            have t54 := tt53 _ _ t32
            have t55 := tt53 _ _ t33
            have t56 := tt53 _ _ t34
            have n57 := (cl_T_n t35 x53).trans n36
            have t58 := tt53 _ _ t35
            have t59 := tt53 _ _ t39
            have t60 := tt53 _ _ t42
            have t61 := tt53 _ _ t45
            have t62 := tt53 _ _ t50
            have e63 := (o53 10 3 (cl_10 hP52.1).2.1).1.trans e38
            have e64 := (o53 10 16 (cl_10 hP52.1).2.1).1.trans e41
            have e65 := (o53 q40 12 (t42).2.1).1.trans e44
            have e66 := (o53 10 6 (cl_10 hP52.1).2.1).1.trans e49
            refine yi_G_run 5 (165, [(4, .inl z52), (3, .inl z29), (2, .inl (I5 11 4)), (1, .inl z5), (0, .inr (.inr (some 10)))], [.inr (.inr (some 10)), .inl z29, .inl z52, .inl (I5 11 4), .inr (.inr (some e53x)), .inr (.inr (some e53x)), .inr (.inr (some q48))], (I53, L53, R53, Y53), 0 + nc23 + nc31 + 1, 0 + ns23 + ns31 + 4) (fun _ => rfl) ?_
            refine cl_G_gr rfl (cl_T_K (cl_10 hP53.1)) rfl rfl rfl (hP53.1.2.2.2.1.2.2.2.2.2.2.2.2.1) ?_
            refine yi_G_callv rfl rfl (cl_rcv (cl_60 hP53.1) rfl) rfl (k_copyOut2 d (by omega) hP53.1 (cl_60 hP53.1) ) ?_
            rintro _ ⟨q67, I67, L67, R67, Y67, nc67, ns67, rfl, hQ67, ca67, cb67, t67, x67a⟩
            have hP67 := cl_P_t hP53 hQ67
            have t68 := cl_T_x t54 hQ67.2.1
            have t69 := cl_T_x t55 hQ67.2.1
            have t70 := cl_T_x t56 hQ67.2.1
            have t71 := cl_T_x t58 hQ67.2.1
            have n72 := (cl_T_n t58 hQ67.2.1).trans n57
            have t73 := cl_T_x t59 hQ67.2.1
            have t74 := cl_T_x t60 hQ67.2.1
            have t75 := cl_T_x t61 hQ67.2.1
            have n76 := cl_T_n t61 hQ67.2.1
            have t77 := cl_T_x t62 hQ67.2.1
            have g78 : 10 ≤ e53x ∧ e53x < _ ∧ 108 < e53x := ⟨g53.1, Nat.lt_of_lt_of_le g53.2.1 (hQ67.2.1).1, g53.2.2⟩
            have k79 := ((hQ67.2.1).2 e53x g53.2.1).1.trans k53
            show yi_G zi_Ms d zi_m180 (171, [(4, .inl z52), (3, .inl z29), (2, .inl (I5 11 4)), (1, .inl z5), (0, .inr (.inr (some 10)))], [.inr (.inr (some q67)), .inl z29, .inl z52, .inl (I5 11 4), .inr (.inr (some e53x)), .inr (.inr (some e53x)), .inr (.inr (some q48))], (I67, L67, R67, Y67), 0 + nc23 + nc31 + 1 + nc67, 0 + ns23 + ns31 + 4 + ns67) _
            refine cl_G_callx rfl rfl rfl rfl (k_Saying0 d (by omega) hP67.1 g78 k79 m53 (fun k => (x67a e53x k g53.2.1).1.trans (z53 k)) (fun k => (x67a e53x k g53.2.1).2.trans (y53 k)) t67 ) ?_
            rintro _ ⟨I80, L80, R80, Y80, nc80, ns80, rfl, hQ80, ca80, cb80, t80, x80a⟩
            have hP80 := cl_P_t hP67 hQ80
            have t81 := cl_T_x (cl_T_d t68) hQ80.2.1
            have t82 := cl_T_x (cl_T_d t69) hQ80.2.1
            have t83 := cl_T_x (cl_T_d t70) hQ80.2.1
            have t84 := cl_T_x (cl_T_d t71) hQ80.2.1
            have n85 := (cl_T_n t71 hQ80.2.1).trans n72
            have t86 := cl_T_x (cl_T_d t73) hQ80.2.1
            have t87 := cl_T_x (cl_T_d t74) hQ80.2.1
            have t88 := cl_T_x (cl_T_d t75) hQ80.2.1
            have n89 := cl_T_n t75 hQ80.2.1
            have t90 := cl_T_x (cl_T_d t77) hQ80.2.1
            have t91 := cl_T_x (cl_T_d t67) hQ80.2.1
            show yi_G zi_Ms d zi_m180 (174, [(4, .inl z52), (3, .inl z29), (2, .inl (I5 11 4)), (1, .inl z5), (0, .inr (.inr (some 10)))], [.inr (.inr (some e53x)), .inr (.inr (some q48))], (I80, L80, R80, Y80), 0 + nc23 + nc31 + 1 + nc67 + nc80, 0 + ns23 + ns31 + 4 + ns67 + ns80) _
            refine yi_G_callv rfl rfl (cl_rcv t90 rfl) rfl (k_addSaying d (by omega) hP80.1 t90 t80 ) ?_
            rintro _ ⟨I92, R92, rfl, hQ92⟩
            have hP92 := cl_P_t hP80 hQ92
            show yi_G zi_Ms d zi_m180 (177, [(4, .inl z52), (3, .inl z29), (2, .inl (I5 11 4)), (1, .inl z5), (0, .inr (.inr (some 10)))], [], (I92, L80, R92, Y80), 0 + nc23 + nc31 + 1 + nc67 + nc80, 0 + ns23 + ns31 + 4 + ns67 + ns80) _
            refine yi_G_run 1 (178, [(4, .inl z52), (3, .inl z29), (2, .inl (I5 11 4)), (1, .inl z5), (0, .inr (.inr (some 10)))], [.inr (.inr (some 10))], (I92, L80, R92, Y80), 0 + nc23 + nc31 + 1 + nc67 + nc80, 0 + ns23 + ns31 + 4 + ns67 + ns80) (fun _ => rfl) ?_
            obtain ⟨q93, e94, t95⟩ := cl_rf hP92.1 (cl_10 hP92.1) (k := 6) rfl
            refine cl_G_gr rfl (cl_T_K (cl_10 hP92.1)) rfl rfl rfl e94 ?_
            refine yi_G_run 2 (184, [(4, .inl z52), (3, .inl z29), (2, .inl (I5 11 4)), (1, .inl z5), (0, .inr (.inr (some 10)))], [.inl z52, .inl (I5 11 4), .inr (.inr (some q93))], (I92, L80, R92, Y80), 0 + nc23 + nc31 + 1 + nc67 + nc80, 0 + ns23 + ns31 + 4 + ns67 + ns80) (fun _ => rfl) ?_
            refine yi_G_callv rfl rfl (cl_rcv t95 rfl) rfl (k_pay d (by omega) hP92.1 t95 ) ?_
            rintro _ ⟨I96, rfl, hQ96⟩
            have hP96 := cl_P_t hP92 hQ96
            show yi_G zi_Ms d zi_m180 (187, [(4, .inl z52), (3, .inl z29), (2, .inl (I5 11 4)), (1, .inl z5), (0, .inr (.inr (some 10)))], [], (I96, L80, R92, Y80), 0 + nc23 + nc31 + 1 + nc67 + nc80, 0 + ns23 + ns31 + 4 + ns67 + ns80) _
            refine yi_G_run 1 (188, [(4, .inl z52), (3, .inl z29), (2, .inl (I5 11 4)), (1, .inl z5), (0, .inr (.inr (some 10)))], [.inr (.inr (some 10))], (I96, L80, R92, Y80), 0 + nc23 + nc31 + 1 + nc67 + nc80, 0 + ns23 + ns31 + 4 + ns67 + ns80) (fun _ => rfl) ?_
            refine cl_G_gr rfl (cl_T_K (cl_10 hP96.1)) rfl rfl rfl (hP96.1.2.2.2.1.2.2.2.2.2.2.2.1) ?_
            refine yi_G_run 1 (192, [(4, .inl z52), (3, .inl z29), (2, .inl (I5 11 4)), (1, .inl z5), (0, .inr (.inr (some 10)))], [.inr (.inr (some 10)), .inr (.inr (some 58))], (I96, L80, R92, Y80), 0 + nc23 + nc31 + 1 + nc67 + nc80, 0 + ns23 + ns31 + 4 + ns67 + ns80) (fun _ => rfl) ?_
            refine cl_G_gr rfl (cl_T_K (cl_10 hP96.1)) rfl rfl rfl (hP96.1.2.2.2.1.2.2.2.2.2.2.2.2.1) ?_
            refine yi_G_callv rfl rfl (cl_rcv (cl_58 hP96.1) rfl) rfl (k_keep d (by omega) hP96.1 (cl_58 hP96.1) (cl_60 hP96.1) ) ?_
            rintro _ ⟨L97, rfl, hQ97⟩
            have hP97 := cl_P_t hP96 hQ97
            show yi_G zi_Ms d zi_m180 (198, [(4, .inl z52), (3, .inl z29), (2, .inl (I5 11 4)), (1, .inl z5), (0, .inr (.inr (some 10)))], [], (I96, L97, R92, Y80), 0 + nc23 + nc31 + 1 + nc67 + nc80, 0 + ns23 + ns31 + 4 + ns67 + ns80) _
            refine yi_G_run 1 (199, [(4, .inl z52), (3, .inl z29), (2, .inl (I5 11 4)), (1, .inl z5), (0, .inr (.inr (some 10)))], [.inl 0], (I96, L97, R92, Y80), 0 + nc23 + nc31 + 1 + nc67 + nc80, 0 + ns23 + ns31 + 4 + ns67 + ns80) (fun _ => rfl) ?_
            exact yi_G_reti rfl rfl (⟨_, _, _, _, _, _, _, rfl, hP97, by omega, by omega⟩)
        · refine yi_G_if1 false rfl (yi_eq_f h17) ?_
          refine yi_G_run 1 (72, [(2, .inl (I5 11 4)), (1, .inl z5), (0, .inr (.inr (some 10)))], [.inl (-2)], (I5, L5, R5, Y), 0, 0) (fun _ => rfl) ?_
          exact yi_G_reti rfl rfl (⟨_, _, _, _, _, _, _, rfl, hP5, by omega, by omega⟩)
      · refine yi_G_if2 true rfl (yi_ne_t h16) ?_
        refine yi_G_run 1 (74, [(2, .inl (I5 11 4)), (1, .inl z5), (0, .inr (.inr (some 10)))], [.inr (.inr (some 10))], (I5, L5, R5, Y), 0, 0) (fun _ => rfl) ?_
        refine cl_G_gr rfl (cl_T_K (cl_10 hP5.1)) rfl rfl rfl (hP5.1.2.2.2.1.2.2.2.2.2.2.1) ?_
        refine yi_G_run 1 (78, [(2, .inl (I5 11 4)), (1, .inl z5), (0, .inr (.inr (some 10)))], [.inr (.inr (some 10)), .inr (.inr (some 34))], (I5, L5, R5, Y), 0, 0) (fun _ => rfl) ?_
        refine cl_G_gr rfl (cl_T_K (cl_10 hP5.1)) rfl rfl rfl (hP5.1.2.2.2.1.2.2.2.1) ?_
        obtain ⟨q98, e99, t100, n101⟩ := cl_rn hP5.1 (cl_11 hP5.1) (k := 2) (m := 1001) rfl
        refine cl_G_gr rfl (cl_T_K (cl_11 hP5.1)) rfl rfl rfl e99 ?_
        refine yi_G_run 2 (86, [(2, .inl (I5 11 4)), (1, .inl z5), (0, .inr (.inr (some 10)))], [.inr (.inr (some 10)), .inl 0, .inr (.inr (some q98)), .inr (.inr (some 34))], (I5, L5, R5, Y), 0, 0) (fun _ => rfl) ?_
        refine cl_G_gr rfl (cl_T_K (cl_10 hP5.1)) rfl rfl rfl (hP5.1.2.2.2.1.2.2.2.1) ?_
        have b102 := cl_rd hP5.1 (cl_11 hP5.1) (k := 3) (lo := 0) (hi := 1002) rfl
        refine cl_G_gi rfl (cl_T_K (cl_11 hP5.1)) rfl rfl rfl ?_
        refine yi_G_run 1 (93, [(2, .inl (I5 11 4)), (1, .inl z5), (0, .inr (.inr (some 10)))], [.inr (.inr (some 10)), .inl (I5 11 3), .inl 0, .inr (.inr (some q98)), .inr (.inr (some 34))], (I5, L5, R5, Y), 0, 0) (fun _ => rfl) ?_
        refine cl_G_gr rfl (cl_T_K (cl_10 hP5.1)) rfl rfl rfl (hP5.1.2.2.2.1.2.2.2.2.2.2.2.2.1) ?_
        refine yi_G_callv rfl rfl (cl_rcv (cl_34 hP5.1) rfl) rfl (k_solve d (by omega) hP5.1 (cl_34 hP5.1) t100 (cl_60 hP5.1) ) ?_
        rintro _ ⟨I103, L103, R103, Y103, nc103, ns103, rfl, hQ103, ca103, cb103, x103a, x103b, x103c⟩
        have hP103 := cl_P_t hP5 hQ103
        have t104 := cl_T_x t4 hQ103.2.1
        have t105 := cl_T_x t9 hQ103.2.1
        have t106 := cl_T_x t14 hQ103.2.1
        have t107 := cl_T_x t100 hQ103.2.1
        have n108 := (cl_T_n t100 hQ103.2.1).trans n101
        show yi_G zi_Ms d zi_m180 (99, [(2, .inl (I5 11 4)), (1, .inl z5), (0, .inr (.inr (some 10)))], [], (I103, L103, R103, Y103), 0 + nc103, 0 + ns103) _
        refine yi_G_run 1 (100, [(2, .inl (I5 11 4)), (1, .inl z5), (0, .inr (.inr (some 10)))], [.inr (.inr (some 10))], (I103, L103, R103, Y103), 0 + nc103, 0 + ns103) (fun _ => rfl) ?_
        refine cl_G_gr rfl (cl_T_K (cl_10 hP103.1)) rfl rfl rfl (hP103.1.2.2.2.1.2.2.2.2.2.2.2.1) ?_
        refine yi_G_run 1 (104, [(2, .inl (I5 11 4)), (1, .inl z5), (0, .inr (.inr (some 10)))], [.inr (.inr (some 10)), .inr (.inr (some 58))], (I103, L103, R103, Y103), 0 + nc103, 0 + ns103) (fun _ => rfl) ?_
        refine cl_G_gr rfl (cl_T_K (cl_10 hP103.1)) rfl rfl rfl (hP103.1.2.2.2.1.2.2.2.2.2.2.2.2.1) ?_
        refine yi_G_callv rfl rfl (cl_rcv (cl_58 hP103.1) rfl) rfl (k_sizeWith d (by omega) hP103.1 (cl_58 hP103.1) (cl_60 hP103.1) ) ?_
        rintro _ ⟨z109, rfl⟩
        show yi_G zi_Ms d zi_m180 (110, [(2, .inl (I5 11 4)), (1, .inl z5), (0, .inr (.inr (some 10)))], [.inl z109], (I103, L103, R103, Y103), 0 + nc103, 0 + ns103) _
        refine yi_G_run 2 (112, [(3, .inl z109), (2, .inl (I5 11 4)), (1, .inl z5), (0, .inr (.inr (some 10)))], [.inl z109], (I103, L103, R103, Y103), 0 + nc103, 0 + ns103) (fun _ => rfl) ?_
        by_cases h110 : z109 = 0
        · refine yi_G_if1 false rfl (yi_ne_f h110) ?_
          refine yi_G_run 1 (116, [(3, .inl z109), (2, .inl (I5 11 4)), (1, .inl z5), (0, .inr (.inr (some 10)))], [.inl (-1)], (I103, L103, R103, Y103), 0 + nc103, 0 + ns103) (fun _ => rfl) ?_
          exact yi_G_reti rfl rfl (⟨_, _, _, _, _, _, _, rfl, hP103, by omega, by omega⟩)
        · refine yi_G_if1 true rfl (yi_ne_t h110) ?_
          refine yi_G_run 1 (118, [(3, .inl z109), (2, .inl (I5 11 4)), (1, .inl z5), (0, .inr (.inr (some 10)))], [.inr (.inr (some 10))], (I103, L103, R103, Y103), 0 + nc103, 0 + ns103) (fun _ => rfl) ?_
          refine yi_G_callv rfl rfl (cl_rcv (cl_10 hP103.1) rfl) rfl (k_rememberA d (by omega) hP103.1  ) ?_
          rintro _ ⟨I111, L111, R111, Y111, nc111, ns111, rfl, hQ111, ca111, cb111⟩
          have hP111 := cl_P_t hP103 hQ111
          have t112 := cl_T_x t104 hQ111.2.1
          have t113 := cl_T_x t105 hQ111.2.1
          have t114 := cl_T_x t106 hQ111.2.1
          have t115 := cl_T_x t107 hQ111.2.1
          have n116 := (cl_T_n t107 hQ111.2.1).trans n108
          show yi_G zi_Ms d zi_m180 (121, [(3, .inl z109), (2, .inl (I5 11 4)), (1, .inl z5), (0, .inr (.inr (some 10)))], [], (I111, L111, R111, Y111), 0 + nc103 + nc111, 0 + ns103 + ns111) _
          refine yi_G_run 1 (122, [(3, .inl z109), (2, .inl (I5 11 4)), (1, .inl z5), (0, .inr (.inr (some 10)))], [.inr (.inr (some 10))], (I111, L111, R111, Y111), 0 + nc103 + nc111, 0 + ns103 + ns111) (fun _ => rfl) ?_
          obtain ⟨q117, e118, t119⟩ := cl_rf hP111.1 (cl_10 hP111.1) (k := 3) rfl
          refine cl_G_gr rfl (cl_T_K (cl_10 hP111.1)) rfl rfl rfl e118 ?_
          refine yi_G_run 1 (126, [(3, .inl z109), (2, .inl (I5 11 4)), (1, .inl z5), (0, .inr (.inr (some 10)))], [.inr (.inr (some 10)), .inr (.inr (some q117))], (I111, L111, R111, Y111), 0 + nc103 + nc111, 0 + ns103 + ns111) (fun _ => rfl) ?_
          obtain ⟨q120, e121, t122⟩ := cl_rf hP111.1 (cl_10 hP111.1) (k := 16) rfl
          refine cl_G_gr rfl (cl_T_K (cl_10 hP111.1)) rfl rfl rfl e121 ?_
          obtain ⟨q123, e124, t125⟩ := cl_rf hP111.1 t122 (k := 12) rfl
          have n126 := cl_nb hP111.1 t125
          refine cl_G_gr rfl (cl_T_K t122) rfl rfl rfl e124 ?_
          refine yi_G_run 1 (133, [(3, .inl z109), (2, .inl (I5 11 4)), (1, .inl z5), (0, .inr (.inr (some 10)))], [.inr (.inr (some 10)), .inr (.inr (some q123)), .inr (.inr (some q117))], (I111, L111, R111, Y111), 0 + nc103 + nc111, 0 + ns103 + ns111) (fun _ => rfl) ?_
          refine cl_G_gr rfl (cl_T_K (cl_10 hP111.1)) rfl rfl rfl (hP111.1.2.2.2.1.2.2.2.2.2.2.2.1) ?_
          refine yi_G_callv rfl rfl (cl_rcv (cl_58 hP111.1) rfl) rfl (k_size d (by omega) hP111.1 (cl_58 hP111.1) ) ?_
          rintro _ ⟨z127, rfl⟩
          show yi_G zi_Ms d zi_m180 (139, [(3, .inl z109), (2, .inl (I5 11 4)), (1, .inl z5), (0, .inr (.inr (some 10)))], [.inl z127, .inr (.inr (some q123)), .inr (.inr (some q117))], (I111, L111, R111, Y111), 0 + nc103 + nc111, 0 + ns103 + ns111) _
          refine yi_G_run 2 (141, [(3, .inl z109), (2, .inl (I5 11 4)), (1, .inl z5), (0, .inr (.inr (some 10)))], [.inr (.inr (some 10)), .inl z109, .inl z127, .inr (.inr (some q123)), .inr (.inr (some q117))], (I111, L111, R111, Y111), 0 + nc103 + nc111, 0 + ns103 + ns111) (fun _ => rfl) ?_
          obtain ⟨q128, e129, t130⟩ := cl_rf hP111.1 (cl_10 hP111.1) (k := 6) rfl
          refine cl_G_gr rfl (cl_T_K (cl_10 hP111.1)) rfl rfl rfl e129 ?_
          have b131 := cl_rd hP111.1 t130 (k := 6) (lo := 0) (hi := 12) rfl
          refine cl_G_gi rfl (cl_T_K t130) rfl rfl rfl ?_
          refine yi_G_callv rfl rfl (cl_rcv t119 rfl) rfl (k_priceOf d (by omega) hP111.1 t119 t125 ) ?_
          rintro _ ⟨z132, I132, rfl, hQ132⟩
          have hP132 := cl_P_t hP111 hQ132
          show yi_G zi_Ms d zi_m180 (150, [(3, .inl z109), (2, .inl (I5 11 4)), (1, .inl z5), (0, .inr (.inr (some 10)))], [.inl z132], (I132, L111, R111, Y111), 0 + nc103 + nc111, 0 + ns103 + ns111) _
          refine yi_G_run 2 (153, [(4, .inl z132), (3, .inl z109), (2, .inl (I5 11 4)), (1, .inl z5), (0, .inr (.inr (some 10)))], [.inr (.inr (some 10))], (I132, L111, R111, Y111), 0 + nc103 + nc111, 0 + ns103 + ns111) (fun _ => rfl) ?_
          refine cl_G_gr rfl (cl_T_K (cl_10 hP132.1)) rfl rfl rfl e129 ?_
          refine cl_G_mko (m := 4) rfl hP132 rfl rfl (fun e133x I133 L133 R133 Y133 ee133 hP133 x133 tt133 z133 y133 k133 g133 m133 o133 => ?_)
          have t134 := tt133 _ _ t112
          have t135 := tt133 _ _ t113
          have t136 := tt133 _ _ t114
          have n137 := (cl_T_n t115 x133).trans n116
          have t138 := tt133 _ _ t115
          have t139 := tt133 _ _ t119
          have t140 := tt133 _ _ t122
          have t141 := tt133 _ _ t125
          have t142 := tt133 _ _ t130
          have e143 := (o133 10 3 (cl_10 hP132.1).2.1).1.trans e118
          have e144 := (o133 10 16 (cl_10 hP132.1).2.1).1.trans e121
          have e145 := (o133 q120 12 (t122).2.1).1.trans e124
          have e146 := (o133 10 6 (cl_10 hP132.1).2.1).1.trans e129
          refine yi_G_run 5 (165, [(4, .inl z132), (3, .inl z109), (2, .inl (I5 11 4)), (1, .inl z5), (0, .inr (.inr (some 10)))], [.inr (.inr (some 10)), .inl z109, .inl z132, .inl (I5 11 4), .inr (.inr (some e133x)), .inr (.inr (some e133x)), .inr (.inr (some q128))], (I133, L133, R133, Y133), 0 + nc103 + nc111 + 1, 0 + ns103 + ns111 + 4) (fun _ => rfl) ?_
          refine cl_G_gr rfl (cl_T_K (cl_10 hP133.1)) rfl rfl rfl (hP133.1.2.2.2.1.2.2.2.2.2.2.2.2.1) ?_
          refine yi_G_callv rfl rfl (cl_rcv (cl_60 hP133.1) rfl) rfl (k_copyOut2 d (by omega) hP133.1 (cl_60 hP133.1) ) ?_
          rintro _ ⟨q147, I147, L147, R147, Y147, nc147, ns147, rfl, hQ147, ca147, cb147, t147, x147a⟩
          have hP147 := cl_P_t hP133 hQ147
          have t148 := cl_T_x t134 hQ147.2.1
          have t149 := cl_T_x t135 hQ147.2.1
          have t150 := cl_T_x t136 hQ147.2.1
          have t151 := cl_T_x t138 hQ147.2.1
          have n152 := (cl_T_n t138 hQ147.2.1).trans n137
          have t153 := cl_T_x t139 hQ147.2.1
          have t154 := cl_T_x t140 hQ147.2.1
          have t155 := cl_T_x t141 hQ147.2.1
          have n156 := cl_T_n t141 hQ147.2.1
          have t157 := cl_T_x t142 hQ147.2.1
          have g158 : 10 ≤ e133x ∧ e133x < _ ∧ 108 < e133x := ⟨g133.1, Nat.lt_of_lt_of_le g133.2.1 (hQ147.2.1).1, g133.2.2⟩
          have k159 := ((hQ147.2.1).2 e133x g133.2.1).1.trans k133
          show yi_G zi_Ms d zi_m180 (171, [(4, .inl z132), (3, .inl z109), (2, .inl (I5 11 4)), (1, .inl z5), (0, .inr (.inr (some 10)))], [.inr (.inr (some q147)), .inl z109, .inl z132, .inl (I5 11 4), .inr (.inr (some e133x)), .inr (.inr (some e133x)), .inr (.inr (some q128))], (I147, L147, R147, Y147), 0 + nc103 + nc111 + 1 + nc147, 0 + ns103 + ns111 + 4 + ns147) _
          refine cl_G_callx rfl rfl rfl rfl (k_Saying0 d (by omega) hP147.1 g158 k159 m133 (fun k => (x147a e133x k g133.2.1).1.trans (z133 k)) (fun k => (x147a e133x k g133.2.1).2.trans (y133 k)) t147 ) ?_
          rintro _ ⟨I160, L160, R160, Y160, nc160, ns160, rfl, hQ160, ca160, cb160, t160, x160a⟩
          have hP160 := cl_P_t hP147 hQ160
          have t161 := cl_T_x (cl_T_d t148) hQ160.2.1
          have t162 := cl_T_x (cl_T_d t149) hQ160.2.1
          have t163 := cl_T_x (cl_T_d t150) hQ160.2.1
          have t164 := cl_T_x (cl_T_d t151) hQ160.2.1
          have n165 := (cl_T_n t151 hQ160.2.1).trans n152
          have t166 := cl_T_x (cl_T_d t153) hQ160.2.1
          have t167 := cl_T_x (cl_T_d t154) hQ160.2.1
          have t168 := cl_T_x (cl_T_d t155) hQ160.2.1
          have n169 := cl_T_n t155 hQ160.2.1
          have t170 := cl_T_x (cl_T_d t157) hQ160.2.1
          have t171 := cl_T_x (cl_T_d t147) hQ160.2.1
          show yi_G zi_Ms d zi_m180 (174, [(4, .inl z132), (3, .inl z109), (2, .inl (I5 11 4)), (1, .inl z5), (0, .inr (.inr (some 10)))], [.inr (.inr (some e133x)), .inr (.inr (some q128))], (I160, L160, R160, Y160), 0 + nc103 + nc111 + 1 + nc147 + nc160, 0 + ns103 + ns111 + 4 + ns147 + ns160) _
          refine yi_G_callv rfl rfl (cl_rcv t170 rfl) rfl (k_addSaying d (by omega) hP160.1 t170 t160 ) ?_
          rintro _ ⟨I172, R172, rfl, hQ172⟩
          have hP172 := cl_P_t hP160 hQ172
          show yi_G zi_Ms d zi_m180 (177, [(4, .inl z132), (3, .inl z109), (2, .inl (I5 11 4)), (1, .inl z5), (0, .inr (.inr (some 10)))], [], (I172, L160, R172, Y160), 0 + nc103 + nc111 + 1 + nc147 + nc160, 0 + ns103 + ns111 + 4 + ns147 + ns160) _
          refine yi_G_run 1 (178, [(4, .inl z132), (3, .inl z109), (2, .inl (I5 11 4)), (1, .inl z5), (0, .inr (.inr (some 10)))], [.inr (.inr (some 10))], (I172, L160, R172, Y160), 0 + nc103 + nc111 + 1 + nc147 + nc160, 0 + ns103 + ns111 + 4 + ns147 + ns160) (fun _ => rfl) ?_
          obtain ⟨q173, e174, t175⟩ := cl_rf hP172.1 (cl_10 hP172.1) (k := 6) rfl
          refine cl_G_gr rfl (cl_T_K (cl_10 hP172.1)) rfl rfl rfl e174 ?_
          refine yi_G_run 2 (184, [(4, .inl z132), (3, .inl z109), (2, .inl (I5 11 4)), (1, .inl z5), (0, .inr (.inr (some 10)))], [.inl z132, .inl (I5 11 4), .inr (.inr (some q173))], (I172, L160, R172, Y160), 0 + nc103 + nc111 + 1 + nc147 + nc160, 0 + ns103 + ns111 + 4 + ns147 + ns160) (fun _ => rfl) ?_
          refine yi_G_callv rfl rfl (cl_rcv t175 rfl) rfl (k_pay d (by omega) hP172.1 t175 ) ?_
          rintro _ ⟨I176, rfl, hQ176⟩
          have hP176 := cl_P_t hP172 hQ176
          show yi_G zi_Ms d zi_m180 (187, [(4, .inl z132), (3, .inl z109), (2, .inl (I5 11 4)), (1, .inl z5), (0, .inr (.inr (some 10)))], [], (I176, L160, R172, Y160), 0 + nc103 + nc111 + 1 + nc147 + nc160, 0 + ns103 + ns111 + 4 + ns147 + ns160) _
          refine yi_G_run 1 (188, [(4, .inl z132), (3, .inl z109), (2, .inl (I5 11 4)), (1, .inl z5), (0, .inr (.inr (some 10)))], [.inr (.inr (some 10))], (I176, L160, R172, Y160), 0 + nc103 + nc111 + 1 + nc147 + nc160, 0 + ns103 + ns111 + 4 + ns147 + ns160) (fun _ => rfl) ?_
          refine cl_G_gr rfl (cl_T_K (cl_10 hP176.1)) rfl rfl rfl (hP176.1.2.2.2.1.2.2.2.2.2.2.2.1) ?_
          refine yi_G_run 1 (192, [(4, .inl z132), (3, .inl z109), (2, .inl (I5 11 4)), (1, .inl z5), (0, .inr (.inr (some 10)))], [.inr (.inr (some 10)), .inr (.inr (some 58))], (I176, L160, R172, Y160), 0 + nc103 + nc111 + 1 + nc147 + nc160, 0 + ns103 + ns111 + 4 + ns147 + ns160) (fun _ => rfl) ?_
          refine cl_G_gr rfl (cl_T_K (cl_10 hP176.1)) rfl rfl rfl (hP176.1.2.2.2.1.2.2.2.2.2.2.2.2.1) ?_
          refine yi_G_callv rfl rfl (cl_rcv (cl_58 hP176.1) rfl) rfl (k_keep d (by omega) hP176.1 (cl_58 hP176.1) (cl_60 hP176.1) ) ?_
          rintro _ ⟨L177, rfl, hQ177⟩
          have hP177 := cl_P_t hP176 hQ177
          show yi_G zi_Ms d zi_m180 (198, [(4, .inl z132), (3, .inl z109), (2, .inl (I5 11 4)), (1, .inl z5), (0, .inr (.inr (some 10)))], [], (I176, L177, R172, Y160), 0 + nc103 + nc111 + 1 + nc147 + nc160, 0 + ns103 + ns111 + 4 + ns147 + ns160) _
          refine yi_G_run 1 (199, [(4, .inl z132), (3, .inl z109), (2, .inl (I5 11 4)), (1, .inl z5), (0, .inr (.inr (some 10)))], [.inl 0], (I176, L177, R172, Y160), 0 + nc103 + nc111 + 1 + nc147 + nc160, 0 + ns103 + ns111 + 4 + ns147 + ns160) (fun _ => rfl) ?_
          exact yi_G_reti rfl rfl (⟨_, _, _, _, _, _, _, rfl, hP177, by omega, by omega⟩)
    · refine yi_G_if2 false rfl (yi_lt_f h11) ?_
      refine yi_G_run 1 (39, [(1, .inl z5), (0, .inr (.inr (some 10)))], [.inl (-3)], (I5, L5, R5, Y), 0, 0) (fun _ => rfl) ?_
      exact yi_G_reti rfl rfl (⟨_, _, _, _, _, _, _, rfl, hP5, by omega, by omega⟩)
  · refine yi_G_if1 false rfl (yi_eq_f h6) ?_
    refine yi_G_run 1 (24, [(1, .inl z5), (0, .inr (.inr (some 10)))], [.inl z5], (I5, L5, R5, Y), 0, 0) (fun _ => rfl) ?_
    exact yi_G_reti rfl rfl (⟨_, _, _, _, _, _, _, rfl, hP5, by omega, by omega⟩)
theorem k_belowF (D : Nat) (hD : 1 ≤ D) {E : List Nat} {I L : cl_I} {R : cl_Rr} {Y : cl_Y} (hC : cl_C E I L R Y) {p : Nat} (tp : cl_T E Y p 8) {x : Int} : yi_E zi_Ms D 194 [.inr (.inr (some p)), .inl x] (I, L, R, Y) (fun r => ∃ z, ∃ L', r = (some (.inl z), (I, L', R, Y), 0, 0) ∧ cl_P E I L R Y I L' R Y) := by
  obtain ⟨d, rfl⟩ : ∃ d, D = d + 1 := ⟨D - 1, by omega⟩
  refine yi_E_of (M := zi_m194) rfl rfl ?_
  have hP : cl_P E I L R Y I L R Y := cl_P_r hC
  show yi_G zi_Ms d zi_m194 (0, [(0, .inr (.inr (some p))), (1, .inl x)], [], (I, L, R, Y), 0, 0) _
  refine yi_G_run 2 (2, [(0, .inr (.inr (some p))), (1, .inl x)], [.inr (.inr (some p)), .inr (.inr (some p))], (I, L, R, Y), 0, 0) (fun _ => rfl) ?_
  refine cl_G_gl rfl (cl_T_K tp) rfl rfl rfl ?_
  refine yi_G_ldc2 (1103515245) rfl (by decide +kernel) ?_
  have sb := hP.1.2.2.2.2.2 p tp
  refine yi_G_lmul rfl ((L p 0) * 1103515245) (yi_Wn (by omega) (by omega)) ?_
  refine yi_G_ldc2 (12345) rfl (by decide +kernel) ?_
  refine yi_G_ladd rfl (((L p 0) * 1103515245) + 12345) (yi_Wn (by omega) (by omega)) ?_
  refine yi_G_ldc2 (2147483648) rfl (by decide +kernel) ?_
  refine yi_G_lrem rfl (by decide) ((((L p 0) * 1103515245) + 12345) % 2147483648) (yi_md (by omega) rfl) ?_
  refine cl_G_pl rfl (cl_T_K tp) rfl rfl rfl ?_
  have hP1 := cl_P_uL (k := 0) (v := (((L p 0) * 1103515245) + 12345) % 2147483648) hP tp (by omega)
  generalize w2 : yi_u L p 0 ((((L p 0) * 1103515245) + 12345) % 2147483648) = L3 at hP1 ⊢
  refine yi_G_run 1 (21, [(0, .inr (.inr (some p))), (1, .inl x)], [.inl x], (I, L3, R, Y), 0, 0) (fun _ => rfl) ?_
  by_cases h4 : 0 < x
  · refine yi_G_if1 true rfl (yi_gt_t h4) ?_
    refine yi_G_run 1 (29, [(0, .inr (.inr (some p))), (1, .inl x)], [.inr (.inr (some p))], (I, L3, R, Y), 0, 0) (fun _ => rfl) ?_
    refine cl_G_gl rfl (cl_T_K tp) rfl rfl rfl ?_
    have sb2 := hP1.1.2.2.2.2.2 p tp
    refine yi_G_ldc2 (65536) rfl (by decide +kernel) ?_
    refine yi_G_ldiv rfl (by decide) ((L3 p 0) / 65536) (yi_dvL (by omega) rfl (by omega) (by omega)) ?_
    refine yi_G_run 2 (38, [(0, .inr (.inr (some p))), (1, .inl x)], [.inr (.inl x), .inr (.inl ((L3 p 0) / 65536))], (I, L3, R, Y), 0, 0) (fun _ => rfl) ?_
    have mo1 := Int.emod_lt_of_pos (L3 p 0 / 65536) (show 0 < x by omega)
    have mo3 : L3 p 0 / 65536 % x ≤ L3 p 0 / 65536 := by
      by_cases q : L3 p 0 / 65536 < x
      · rw [Int.emod_eq_of_lt (by omega) q]; exact Int.le_refl _
      · omega
    have mo2 := Int.emod_nonneg (L3 p 0 / 65536) (show x ≠ 0 by omega)
    refine yi_G_lrem rfl (by omega) (((L3 p 0) / 65536) % x) (yi_md (by omega) rfl) ?_
    refine yi_G_l2i rfl (((L3 p 0) / 65536) % x) (yi_wn (by omega) (by omega)) ?_
    exact yi_G_reti rfl rfl (⟨_, _, rfl, hP1⟩)
  · refine yi_G_if1 false rfl (yi_gt_f h4) ?_
    refine yi_G_run 2 (40, [(0, .inr (.inr (some p))), (1, .inl x)], [.inl 0], (I, L3, R, Y), 0, 0) (fun _ => rfl) ?_
    exact yi_G_reti rfl rfl (⟨_, _, rfl, hP1⟩)
theorem k_fairA (D : Nat) (hD : 6 ≤ D) {E : List Nat} {I L : cl_I} {R : cl_Rr} {Y : cl_Y} (hC : cl_C E I L R Y) {x : Int} {y : Int} {w : Int} : yi_E zi_Ms D 148 [.inr (.inr (some 10)), .inl x, .inl y, .inl w] (I, L, R, Y) (fun r => ∃ z, ∃ L', r = (some (.inl z), (I, L', R, Y), 0, 0) ∧ cl_P E I L R Y I L' R Y) := by
  obtain ⟨d, rfl⟩ : ∃ d, D = d + 1 := ⟨D - 1, by omega⟩
  refine yi_E_of (M := zi_m148) rfl rfl ?_
  have hP : cl_P E I L R Y I L R Y := cl_P_r hC
  show yi_G zi_Ms d zi_m148 (0, [(0, .inr (.inr (some 10))), (1, .inl x), (2, .inl y), (3, .inl w)], [], (I, L, R, Y), 0, 0) _
  refine yi_G_run 1 (1, [(0, .inr (.inr (some 10))), (1, .inl x), (2, .inl y), (3, .inl w)], [.inr (.inr (some 10))], (I, L, R, Y), 0, 0) (fun _ => rfl) ?_
  obtain ⟨q1, e2, t3⟩ := cl_rf hP.1 (cl_10 hP.1) (k := 16) rfl
  refine cl_G_gr rfl (cl_T_K (cl_10 hP.1)) rfl rfl rfl e2 ?_
  refine yi_G_run 1 (5, [(0, .inr (.inr (some 10))), (1, .inl x), (2, .inl y), (3, .inl w)], [.inl y, .inr (.inr (some q1))], (I, L, R, Y), 0, 0) (fun _ => rfl) ?_
  refine yi_G_callv rfl rfl (cl_rcv t3 rfl) rfl (k_isPerson d (by omega) hP.1 t3 ) ?_
  rintro _ ⟨z4, rfl, hz4, x4a⟩
  show yi_G zi_Ms d zi_m148 (8, [(0, .inr (.inr (some 10))), (1, .inl x), (2, .inl y), (3, .inl w)], [.inl z4], (I, L, R, Y), 0, 0) _
  by_cases h5 : z4 = 0
  · refine yi_G_if1 true rfl (yi_eq_t h5) ?_
    refine yi_G_run 3 (41, [(4, .inl 0), (0, .inr (.inr (some 10))), (1, .inl x), (2, .inl y), (3, .inl w)], [.inr (.inr (some 10))], (I, L, R, Y), 0, 0) (fun _ => rfl) ?_
    refine cl_G_gr rfl (cl_T_K (cl_10 hP.1)) rfl rfl rfl (hP.1.2.2.2.1.2.2.2.2.2.2.2.1) ?_
    refine yi_G_callv rfl rfl (cl_rcv (cl_58 hP.1) rfl) rfl (k_size d (by omega) hP.1 (cl_58 hP.1) ) ?_
    rintro _ ⟨z6, rfl⟩
    show yi_G zi_Ms d zi_m148 (47, [(4, .inl 0), (0, .inr (.inr (some 10))), (1, .inl x), (2, .inl y), (3, .inl w)], [.inl z6], (I, L, R, Y), 0, 0) _
    refine yi_G_run 2 (51, [(5, .inl z6), (4, .inl 0), (0, .inr (.inr (some 10))), (1, .inl x), (2, .inl y), (3, .inl w)], [.inl 0], (I, L, R, Y), 0, 0) (fun _ => rfl) ?_
    refine yi_G_if1 true rfl (by decide) ?_
    refine yi_G_run 1 (70, [(5, .inl z6), (4, .inl 0), (0, .inr (.inr (some 10))), (1, .inl x), (2, .inl y), (3, .inl w)], [.inl (-1)], (I, L, R, Y), 0, 0) (fun _ => rfl) ?_
    exact yi_G_reti rfl rfl (⟨_, _, rfl, hP⟩)
  · refine yi_G_if1 false rfl (yi_eq_f h5) ?_
    refine yi_G_run 1 (12, [(0, .inr (.inr (some 10))), (1, .inl x), (2, .inl y), (3, .inl w)], [.inr (.inr (some 10))], (I, L, R, Y), 0, 0) (fun _ => rfl) ?_
    refine cl_G_gr rfl (cl_T_K (cl_10 hP.1)) rfl rfl rfl e2 ?_
    refine yi_G_run 1 (16, [(0, .inr (.inr (some 10))), (1, .inl x), (2, .inl y), (3, .inl w)], [.inl w, .inr (.inr (some q1))], (I, L, R, Y), 0, 0) (fun _ => rfl) ?_
    refine yi_G_callv rfl rfl (cl_rcv t3 rfl) rfl (k_isDay d (by omega) hP.1 t3 ) ?_
    rintro _ ⟨z7, rfl, hz7, x7a⟩
    show yi_G zi_Ms d zi_m148 (19, [(0, .inr (.inr (some 10))), (1, .inl x), (2, .inl y), (3, .inl w)], [.inl z7], (I, L, R, Y), 0, 0) _
    by_cases h8 : z7 = 0
    · refine yi_G_if1 true rfl (yi_eq_t h8) ?_
      refine yi_G_run 3 (41, [(4, .inl 0), (0, .inr (.inr (some 10))), (1, .inl x), (2, .inl y), (3, .inl w)], [.inr (.inr (some 10))], (I, L, R, Y), 0, 0) (fun _ => rfl) ?_
      refine cl_G_gr rfl (cl_T_K (cl_10 hP.1)) rfl rfl rfl (hP.1.2.2.2.1.2.2.2.2.2.2.2.1) ?_
      refine yi_G_callv rfl rfl (cl_rcv (cl_58 hP.1) rfl) rfl (k_size d (by omega) hP.1 (cl_58 hP.1) ) ?_
      rintro _ ⟨z9, rfl⟩
      show yi_G zi_Ms d zi_m148 (47, [(4, .inl 0), (0, .inr (.inr (some 10))), (1, .inl x), (2, .inl y), (3, .inl w)], [.inl z9], (I, L, R, Y), 0, 0) _
      refine yi_G_run 2 (51, [(5, .inl z9), (4, .inl 0), (0, .inr (.inr (some 10))), (1, .inl x), (2, .inl y), (3, .inl w)], [.inl 0], (I, L, R, Y), 0, 0) (fun _ => rfl) ?_
      refine yi_G_if1 true rfl (by decide) ?_
      refine yi_G_run 1 (70, [(5, .inl z9), (4, .inl 0), (0, .inr (.inr (some 10))), (1, .inl x), (2, .inl y), (3, .inl w)], [.inl (-1)], (I, L, R, Y), 0, 0) (fun _ => rfl) ?_
      exact yi_G_reti rfl rfl (⟨_, _, rfl, hP⟩)
    · refine yi_G_if1 false rfl (yi_eq_f h8) ?_
      refine yi_G_run 1 (23, [(0, .inr (.inr (some 10))), (1, .inl x), (2, .inl y), (3, .inl w)], [.inl x], (I, L, R, Y), 0, 0) (fun _ => rfl) ?_
      by_cases h10 : x < 0
      · refine yi_G_if1 true rfl (yi_lt_t h10) ?_
        refine yi_G_run 3 (41, [(4, .inl 0), (0, .inr (.inr (some 10))), (1, .inl x), (2, .inl y), (3, .inl w)], [.inr (.inr (some 10))], (I, L, R, Y), 0, 0) (fun _ => rfl) ?_
        refine cl_G_gr rfl (cl_T_K (cl_10 hP.1)) rfl rfl rfl (hP.1.2.2.2.1.2.2.2.2.2.2.2.1) ?_
        refine yi_G_callv rfl rfl (cl_rcv (cl_58 hP.1) rfl) rfl (k_size d (by omega) hP.1 (cl_58 hP.1) ) ?_
        rintro _ ⟨z11, rfl⟩
        show yi_G zi_Ms d zi_m148 (47, [(4, .inl 0), (0, .inr (.inr (some 10))), (1, .inl x), (2, .inl y), (3, .inl w)], [.inl z11], (I, L, R, Y), 0, 0) _
        refine yi_G_run 2 (51, [(5, .inl z11), (4, .inl 0), (0, .inr (.inr (some 10))), (1, .inl x), (2, .inl y), (3, .inl w)], [.inl 0], (I, L, R, Y), 0, 0) (fun _ => rfl) ?_
        refine yi_G_if1 true rfl (by decide) ?_
        refine yi_G_run 1 (70, [(5, .inl z11), (4, .inl 0), (0, .inr (.inr (some 10))), (1, .inl x), (2, .inl y), (3, .inl w)], [.inl (-1)], (I, L, R, Y), 0, 0) (fun _ => rfl) ?_
        exact yi_G_reti rfl rfl (⟨_, _, rfl, hP⟩)
      · refine yi_G_if1 false rfl (yi_lt_f h10) ?_
        refine yi_G_run 2 (30, [(0, .inr (.inr (some 10))), (1, .inl x), (2, .inl y), (3, .inl w)], [.inl 9999, .inl x], (I, L, R, Y), 0, 0) (fun _ => rfl) ?_
        by_cases h12 : 9999 < x
        · refine yi_G_if2 true rfl (yi_gt_t h12) ?_
          refine yi_G_run 3 (41, [(4, .inl 0), (0, .inr (.inr (some 10))), (1, .inl x), (2, .inl y), (3, .inl w)], [.inr (.inr (some 10))], (I, L, R, Y), 0, 0) (fun _ => rfl) ?_
          refine cl_G_gr rfl (cl_T_K (cl_10 hP.1)) rfl rfl rfl (hP.1.2.2.2.1.2.2.2.2.2.2.2.1) ?_
          refine yi_G_callv rfl rfl (cl_rcv (cl_58 hP.1) rfl) rfl (k_size d (by omega) hP.1 (cl_58 hP.1) ) ?_
          rintro _ ⟨z13, rfl⟩
          show yi_G zi_Ms d zi_m148 (47, [(4, .inl 0), (0, .inr (.inr (some 10))), (1, .inl x), (2, .inl y), (3, .inl w)], [.inl z13], (I, L, R, Y), 0, 0) _
          refine yi_G_run 2 (51, [(5, .inl z13), (4, .inl 0), (0, .inr (.inr (some 10))), (1, .inl x), (2, .inl y), (3, .inl w)], [.inl 0], (I, L, R, Y), 0, 0) (fun _ => rfl) ?_
          refine yi_G_if1 true rfl (by decide) ?_
          refine yi_G_run 1 (70, [(5, .inl z13), (4, .inl 0), (0, .inr (.inr (some 10))), (1, .inl x), (2, .inl y), (3, .inl w)], [.inl (-1)], (I, L, R, Y), 0, 0) (fun _ => rfl) ?_
          exact yi_G_reti rfl rfl (⟨_, _, rfl, hP⟩)
        · refine yi_G_if2 false rfl (yi_gt_f h12) ?_
          refine yi_G_run 4 (41, [(4, .inl 1), (0, .inr (.inr (some 10))), (1, .inl x), (2, .inl y), (3, .inl w)], [.inr (.inr (some 10))], (I, L, R, Y), 0, 0) (fun _ => rfl) ?_
          refine cl_G_gr rfl (cl_T_K (cl_10 hP.1)) rfl rfl rfl (hP.1.2.2.2.1.2.2.2.2.2.2.2.1) ?_
          refine yi_G_callv rfl rfl (cl_rcv (cl_58 hP.1) rfl) rfl (k_size d (by omega) hP.1 (cl_58 hP.1) ) ?_
          rintro _ ⟨z14, rfl⟩
          show yi_G zi_Ms d zi_m148 (47, [(4, .inl 1), (0, .inr (.inr (some 10))), (1, .inl x), (2, .inl y), (3, .inl w)], [.inl z14], (I, L, R, Y), 0, 0) _
          refine yi_G_run 2 (51, [(5, .inl z14), (4, .inl 1), (0, .inr (.inr (some 10))), (1, .inl x), (2, .inl y), (3, .inl w)], [.inl 1], (I, L, R, Y), 0, 0) (fun _ => rfl) ?_
          refine yi_G_if1 false rfl (by decide) ?_
          refine yi_G_run 1 (55, [(5, .inl z14), (4, .inl 1), (0, .inr (.inr (some 10))), (1, .inl x), (2, .inl y), (3, .inl w)], [.inr (.inr (some 10))], (I, L, R, Y), 0, 0) (fun _ => rfl) ?_
          refine cl_G_gr rfl (cl_T_K (cl_10 hP.1)) rfl rfl rfl e2 ?_
          have b15 := cl_rd hP.1 t3 (k := 16) (lo := 0) (hi := 4) rfl
          refine cl_G_gi rfl (cl_T_K t3) rfl rfl rfl ?_
          by_cases h16 : (I q1 16) = 0
          · refine yi_G_if1 true rfl (yi_eq_t h16) ?_
            refine yi_G_run 1 (70, [(5, .inl z14), (4, .inl 1), (0, .inr (.inr (some 10))), (1, .inl x), (2, .inl y), (3, .inl w)], [.inl (-1)], (I, L, R, Y), 0, 0) (fun _ => rfl) ?_
            exact yi_G_reti rfl rfl (⟨_, _, rfl, hP⟩)
          · refine yi_G_if1 false rfl (yi_eq_f h16) ?_
            refine yi_G_run 1 (66, [(5, .inl z14), (4, .inl 1), (0, .inr (.inr (some 10))), (1, .inl x), (2, .inl y), (3, .inl w)], [.inl z14], (I, L, R, Y), 0, 0) (fun _ => rfl) ?_
            by_cases h17 : z14 = 0
            · refine yi_G_if1 false rfl (yi_ne_f h17) ?_
              refine yi_G_run 1 (70, [(5, .inl z14), (4, .inl 1), (0, .inr (.inr (some 10))), (1, .inl x), (2, .inl y), (3, .inl w)], [.inl (-1)], (I, L, R, Y), 0, 0) (fun _ => rfl) ?_
              exact yi_G_reti rfl rfl (⟨_, _, rfl, hP⟩)
            · refine yi_G_if1 true rfl (yi_ne_t h17) ?_
              refine yi_G_run 1 (72, [(5, .inl z14), (4, .inl 1), (0, .inr (.inr (some 10))), (1, .inl x), (2, .inl y), (3, .inl w)], [.inr (.inr (some 10))], (I, L, R, Y), 0, 0) (fun _ => rfl) ?_
              obtain ⟨q18, e19, t20⟩ := cl_rf hP.1 (cl_10 hP.1) (k := 5) rfl
              refine cl_G_gr rfl (cl_T_K (cl_10 hP.1)) rfl rfl rfl e19 ?_
              refine yi_G_run 1 (76, [(5, .inl z14), (4, .inl 1), (0, .inr (.inr (some 10))), (1, .inl x), (2, .inl y), (3, .inl w)], [.inl x, .inr (.inr (some q18))], (I, L, R, Y), 0, 0) (fun _ => rfl) ?_
              refine yi_G_callv rfl rfl (cl_rcv t20 rfl) rfl (k_beginD d (by omega) hP.1 t20 (by omega)) ?_
              rintro _ ⟨L21, rfl, hQ21⟩
              have hP21 := cl_P_t hP hQ21
              show yi_G zi_Ms d zi_m148 (79, [(5, .inl z14), (4, .inl 1), (0, .inr (.inr (some 10))), (1, .inl x), (2, .inl y), (3, .inl w)], [], (I, L21, R, Y), 0, 0) _
              refine yi_G_run 1 (80, [(5, .inl z14), (4, .inl 1), (0, .inr (.inr (some 10))), (1, .inl x), (2, .inl y), (3, .inl w)], [.inr (.inr (some 10))], (I, L21, R, Y), 0, 0) (fun _ => rfl) ?_
              refine cl_G_gr rfl (cl_T_K (cl_10 hP21.1)) rfl rfl rfl (hP21.1.2.2.2.1.2.2.2.2.2.2.2.1) ?_
              refine yi_G_run 1 (84, [(5, .inl z14), (4, .inl 1), (0, .inr (.inr (some 10))), (1, .inl x), (2, .inl y), (3, .inl w)], [.inr (.inr (some 10)), .inr (.inr (some 58))], (I, L21, R, Y), 0, 0) (fun _ => rfl) ?_
              refine cl_G_gr rfl (cl_T_K (cl_10 hP21.1)) rfl rfl rfl e19 ?_
              refine yi_G_run 1 (89, [(5, .inl z14), (4, .inl 1), (0, .inr (.inr (some 10))), (1, .inl x), (2, .inl y), (3, .inl w)], [.inl z14, .inr (.inr (some q18)), .inr (.inr (some 58))], (I, L21, R, Y), 0, 0) (fun _ => rfl) ?_
              refine yi_G_callv rfl rfl (cl_rcv t20 rfl) rfl (k_belowF d (by omega) hP21.1 t20 ) ?_
              rintro _ ⟨z22, L22, rfl, hQ22⟩
              have hP22 := cl_P_t hP21 hQ22
              show yi_G zi_Ms d zi_m148 (92, [(5, .inl z14), (4, .inl 1), (0, .inr (.inr (some 10))), (1, .inl x), (2, .inl y), (3, .inl w)], [.inl z22, .inr (.inr (some 58))], (I, L22, R, Y), 0, 0) _
              refine yi_G_callv rfl rfl (cl_rcv (cl_58 hP22.1) rfl) rfl (k_memberAt d (by omega) hP22.1 (cl_58 hP22.1) ) ?_
              rintro _ ⟨z23, rfl, x23a⟩
              show yi_G zi_Ms d zi_m148 (95, [(5, .inl z14), (4, .inl 1), (0, .inr (.inr (some 10))), (1, .inl x), (2, .inl y), (3, .inl w)], [.inl z23], (I, L22, R, Y), 0, 0) _
              refine yi_G_run 3 (100, [(7, .inl 0), (6, .inl z23), (5, .inl z14), (4, .inl 1), (0, .inr (.inr (some 10))), (1, .inl x), (2, .inl y), (3, .inl w)], [], (I, L22, R, Y), 0, 0) (fun _ => rfl) ?_
              have pt100 : ∀ (m_ : Nat) (j : Int), (0 ≤ j ∧ j ≤ 4) → (4 - j).toNat = m_ → yi_G zi_Ms d zi_m148 (100, [(7, .inl j), (6, .inl z23), (5, .inl z14), (4, .inl 1), (0, .inr (.inr (some 10))), (1, .inl x), (2, .inl y), (3, .inl w)], [], (I, L22, R, Y), 0, 0) (fun r => ∃ z, ∃ L', r = (some (.inl z), (I, L', R, Y), 0, 0) ∧ cl_P E I L R Y I L' R Y) := by
                intro m100
                induction m100 using Nat.strongRecOn with
                | _ m100 ih100 =>
                intro j j0 hm100
                refine yi_G_run 2 (103, [(7, .inl j), (6, .inl z23), (5, .inl z14), (4, .inl 1), (0, .inr (.inr (some 10))), (1, .inl x), (2, .inl y), (3, .inl w)], [.inr (.inr (some 10)), .inl j], (I, L22, R, Y), 0, 0) (fun _ => rfl) ?_
                refine cl_G_gr rfl (cl_T_K (cl_10 hP22.1)) rfl rfl rfl e2 ?_
                have b24 := cl_rd hP22.1 t3 (k := 16) (lo := 0) (hi := 4) rfl
                refine cl_G_gi rfl (cl_T_K t3) rfl rfl rfl ?_
                by_cases h25 : (I q1 16) ≤ j
                · refine yi_G_if2 true rfl (yi_ge_t h25) ?_
                  refine yi_G_run 1 (144, [(7, .inl j), (6, .inl z23), (5, .inl z14), (4, .inl 1), (0, .inr (.inr (some 10))), (1, .inl x), (2, .inl y), (3, .inl w)], [.inl (-1)], (I, L22, R, Y), 0, 0) (fun _ => rfl) ?_
                  exact yi_G_reti rfl rfl (⟨_, _, rfl, hP22⟩)
                · refine yi_G_if2 false rfl (yi_ge_f h25) ?_
                  refine yi_G_run 1 (113, [(7, .inl j), (6, .inl z23), (5, .inl z14), (4, .inl 1), (0, .inr (.inr (some 10))), (1, .inl x), (2, .inl y), (3, .inl w)], [.inr (.inr (some 10))], (I, L22, R, Y), 0, 0) (fun _ => rfl) ?_
                  refine cl_G_gr rfl (cl_T_K (cl_10 hP22.1)) rfl rfl rfl (hP22.1.2.2.2.1.2.2.2.2.2.2.1) ?_
                  refine yi_G_run 3 (120, [(7, .inl j), (6, .inl z23), (5, .inl z14), (4, .inl 1), (0, .inr (.inr (some 10))), (1, .inl x), (2, .inl y), (3, .inl w)], [.inl j, .inl w, .inl y, .inr (.inr (some 34))], (I, L22, R, Y), 0, 0) (fun _ => rfl) ?_
                  refine yi_G_calls rfl rfl (k_wordNumber d (by omega) hP22.1  ) ?_
                  rintro _ ⟨z26, rfl⟩
                  show yi_G zi_Ms d zi_m148 (123, [(7, .inl j), (6, .inl z23), (5, .inl z14), (4, .inl 1), (0, .inr (.inr (some 10))), (1, .inl x), (2, .inl y), (3, .inl w)], [.inl z26, .inr (.inr (some 34))], (I, L22, R, Y), 0, 0) _
                  refine yi_G_callv rfl rfl (cl_rcv (cl_34 hP22.1) rfl) rfl (k_wordRow d (by omega) hP22.1 (cl_34 hP22.1) ) ?_
                  rintro _ ⟨q27, rfl, t27⟩
                  show yi_G zi_Ms d zi_m148 (126, [(7, .inl j), (6, .inl z23), (5, .inl z14), (4, .inl 1), (0, .inr (.inr (some 10))), (1, .inl x), (2, .inl y), (3, .inl w)], [.inr (.inr (some q27))], (I, L22, R, Y), 0, 0) _
                  refine yi_G_run 1 (128, [(7, .inl j), (6, .inl z23), (5, .inl z14), (4, .inl 1), (0, .inr (.inr (some 10))), (1, .inl x), (2, .inl y), (3, .inl w)], [.inl z23, .inr (.inr (some q27))], (I, L22, R, Y), 0, 0) (fun _ => rfl) ?_
                  refine yi_G_callv rfl rfl (cl_rcv t27 rfl) rfl (k_has d (by omega) hP22.1 t27 (by omega)) ?_
                  rintro _ ⟨z28, rfl, hz28⟩
                  show yi_G zi_Ms d zi_m148 (131, [(7, .inl j), (6, .inl z23), (5, .inl z14), (4, .inl 1), (0, .inr (.inr (some 10))), (1, .inl x), (2, .inl y), (3, .inl w)], [.inl z28], (I, L22, R, Y), 0, 0) _
                  by_cases h29 : z28 = 0
                  · refine yi_G_if1 true rfl (yi_eq_t h29) ?_
                    refine yi_G_iinc [(7, .inl (j + 1)), (6, .inl z23), (5, .inl z14), (4, .inl 1), (0, .inr (.inr (some 10))), (1, .inl x), (2, .inl y), (3, .inl w)] rfl rfl rfl (by rw [show yi_w (j + 1) = j + 1 from (yi_wn (by omega) (by omega)).trans (by omega)]; rfl) ?_
                    refine yi_G_run 1 (100, [(7, .inl (j + 1)), (6, .inl z23), (5, .inl z14), (4, .inl 1), (0, .inr (.inr (some 10))), (1, .inl x), (2, .inl y), (3, .inl w)], [], (I, L22, R, Y), 0, 0) (fun _ => rfl) ?_
                    exact ih100 _ (by omega) (j + 1) (by omega) rfl
                  · refine yi_G_if1 false rfl (yi_eq_f h29) ?_
                    refine yi_G_run 1 (136, [(7, .inl j), (6, .inl z23), (5, .inl z14), (4, .inl 1), (0, .inr (.inr (some 10))), (1, .inl x), (2, .inl y), (3, .inl w)], [.inl j], (I, L22, R, Y), 0, 0) (fun _ => rfl) ?_
                    exact yi_G_reti rfl rfl (⟨_, _, rfl, hP22⟩)
              exact pt100 _ 0 (by omega) rfl
theorem k_landA (D : Nat) (hD : 48 ≤ D) {E : List Nat} {I L : cl_I} {R : cl_Rr} {Y : cl_Y} (hC : cl_C E I L R Y) : yi_E zi_Ms D 162 [.inr (.inr (some 10))] (I, L, R, Y) (fun r => ∃ z, ∃ I', ∃ L', ∃ R', ∃ Y', ∃ nc ns, r = (some (.inl z), (I', L', R', Y'), nc, ns) ∧ cl_P E (yi_u I 12 5 0) L R Y I' L' R' Y' ∧ nc ≤ 1350 ∧ ns ≤ 22800 ∧ (I 12 5 = 0 → nc ≤ 14 ∧ ns ≤ 100)) := by
  obtain ⟨d, rfl⟩ : ∃ d, D = d + 1 := ⟨D - 1, by omega⟩
  refine yi_E_of (M := zi_m162) rfl rfl ?_
  have hP : cl_P E I L R Y I L R Y := cl_P_r hC
  show yi_G zi_Ms d zi_m162 (0, [(0, .inr (.inr (some 10)))], [], (I, L, R, Y), 0, 0) _
  refine yi_G_run 1 (1, [(0, .inr (.inr (some 10)))], [.inr (.inr (some 10))], (I, L, R, Y), 0, 0) (fun _ => rfl) ?_
  refine cl_G_gr rfl (cl_T_K (cl_10 hP.1)) rfl rfl rfl (hP.1.2.2.2.1.2.2.2.2.1) ?_
  refine yi_G_callv rfl rfl (cl_rcv (cl_12 hP.1) rfl) rfl (k_cut d (by omega) hP.1  ) ?_
  rintro _ ⟨I1, L1, rfl, hQ1, x1a, x1b⟩
  have hP1 := cl_P_t0 hP hQ1
  show yi_G zi_Ms d zi_m162 (7, [(0, .inr (.inr (some 10)))], [], (I1, L1, R, Y), 0, 0) _
  refine cl_G_mko (m := 20) rfl hP1 rfl rfl (fun e2x I2 L2 R2 Y2 ee2 hP2 x2 tt2 z2 y2 k2 g2 m2 o2 => ?_)
  refine yi_G_run 1 (11, [(0, .inr (.inr (some 10)))], [.inr (.inr (some e2x)), .inr (.inr (some e2x))], (I2, L2, R2, Y2), 0 + 1, 0 + 20) (fun _ => rfl) ?_
  refine cl_G_callx rfl rfl rfl rfl (k_Land0 d (by omega) hP2.1 g2 k2 m2 z2 y2  ) ?_
  rintro _ ⟨I3, L3, R3, Y3, nc3, ns3, rfl, hQ3, ca3, cb3, t3, x3a⟩
  have hP3 := cl_P_t hP2 hQ3
  show yi_G zi_Ms d zi_m162 (14, [(0, .inr (.inr (some 10)))], [.inr (.inr (some e2x))], (I3, L3, R3, Y3), 0 + 1 + nc3, 0 + 20 + ns3) _
  refine yi_G_run 2 (16, [(1, .inr (.inr (some e2x))), (0, .inr (.inr (some 10)))], [.inr (.inr (some 10))], (I3, L3, R3, Y3), 0 + 1 + nc3, 0 + 20 + ns3) (fun _ => rfl) ?_
  refine cl_G_gr rfl (cl_T_K (cl_10 hP3.1)) rfl rfl rfl (hP3.1.2.2.2.1.2.2.2.1) ?_
  refine yi_G_run 1 (20, [(1, .inr (.inr (some e2x))), (0, .inr (.inr (some 10)))], [.inr (.inr (some e2x)), .inr (.inr (some 11))], (I3, L3, R3, Y3), 0 + 1 + nc3, 0 + 20 + ns3) (fun _ => rfl) ?_
  have lY := x2.1
  have hh12 : 1 ≤ I3 12 6 := by
    have lq := (cl_12 hP1.1).2.1
    rw [(x3a 12 6 (by omega) (by omega)).1, (o2 12 6 lq).2]; exact x1a
  have em : I 12 5 = 0 → ∃ q, R3 12 1 = some q ∧ I3 q 0 = 0 := fun h0 => by
    obtain ⟨q, eq, tq, _⟩ := cl_rn hC (cl_12 hC) (k := 1) (m := 1000) rfl
    have lq := tq.2.1
    have lq2 := (cl_12 hP1.1).2.1
    refine ⟨q, ?_, ?_⟩
    · rw [(x3a 12 1 (by omega) (by omega)).2, (o2 12 1 lq2).1]; exact eq
    · rw [(x3a q 0 (by omega) (by omega)).1, (o2 q 0 lq).2]; exact x1b q eq h0
  refine yi_G_callv rfl rfl (cl_rcv (cl_11 hP3.1) rfl) rfl (k_readLandR d (by omega) hP3.1 t3 (by omega)) ?_
  rintro _ ⟨z4, I4, L4, R4, Y4, nc4, ns4, rfl, hQ4, ca4, cb4, x4a⟩
  have hP4 := cl_P_t hP3 hQ4
  have t5 := cl_T_x t3 hQ4.2.1
  show yi_G zi_Ms d zi_m162 (23, [(1, .inr (.inr (some e2x))), (0, .inr (.inr (some 10)))], [.inl z4], (I4, L4, R4, Y4), 0 + 1 + nc3 + nc4, 0 + 20 + ns3 + ns4) _
  refine yi_G_run 2 (25, [(2, .inl z4), (1, .inr (.inr (some e2x))), (0, .inr (.inr (some 10)))], [.inl z4], (I4, L4, R4, Y4), 0 + 1 + nc3 + nc4, 0 + 20 + ns3 + ns4) (fun _ => rfl) ?_
  have em4 : I 12 5 = 0 → ¬ z4 = 0 ∧ nc4 = 0 ∧ ns4 = 0 := fun h => x4a (em h)
  by_cases h6 : z4 = 0
  · refine yi_G_if1 true rfl (yi_eq_t h6) ?_
    refine yi_G_run 2 (32, [(2, .inl z4), (1, .inr (.inr (some e2x))), (0, .inr (.inr (some 10)))], [.inr (.inr (some e2x)), .inr (.inr (some 10))], (I4, L4, R4, Y4), 0 + 1 + nc3 + nc4, 0 + 20 + ns3 + ns4) (fun _ => rfl) ?_
    refine cl_G_pr rfl (cl_T_K (cl_10 hP4.1)) rfl rfl rfl ?_
    have hP7 := cl_P_uR (k := 16) (v := (some e2x)) hP4 (cl_10 hP4.1) (by decide) (by decide) (cl_hrf rfl t5)
    generalize w8 : cl_u R4 10 16 (some e2x) = R9 at hP7 ⊢
    have e10 : R9 10 16 = some e2x := by rw [← w8, cl_u_eq]
    refine yi_G_run 1 (36, [(2, .inl z4), (1, .inr (.inr (some e2x))), (0, .inr (.inr (some 10)))], [.inr (.inr (some 10))], (I4, L4, R9, Y4), 0 + 1 + nc3 + nc4, 0 + 20 + ns3 + ns4) (fun _ => rfl) ?_
    refine cl_G_gr rfl (cl_T_K (cl_10 hP7.1)) rfl rfl rfl (hP7.1.2.2.2.1.2.2.2.2.2.2.1) ?_
    refine yi_G_run 2 (41, [(2, .inl z4), (1, .inr (.inr (some e2x))), (0, .inr (.inr (some 10)))], [.inr (.inr (some 10)), .inr (.inr (some e2x)), .inr (.inr (some 34))], (I4, L4, R9, Y4), 0 + 1 + nc3 + nc4, 0 + 20 + ns3 + ns4) (fun _ => rfl) ?_
    refine cl_G_gr rfl (cl_T_K (cl_10 hP7.1)) rfl rfl rfl (hP7.1.2.2.2.1.2.2.2.1) ?_
    obtain ⟨q11, e12, t13, n14⟩ := cl_rn hP7.1 (cl_11 hP7.1) (k := 2) (m := 1001) rfl
    refine cl_G_gr rfl (cl_T_K (cl_11 hP7.1)) rfl rfl rfl e12 ?_
    refine yi_G_callv rfl rfl (cl_rcv (cl_34 hP7.1) rfl) rfl (k_build d (by omega) hP7.1 (cl_34 hP7.1) t5 t13 ) ?_
    rintro _ ⟨I15, L15, R15, Y15, nc15, ns15, rfl, hQ15, ca15, cb15⟩
    have hP15 := cl_P_t hP7 hQ15
    have t16 := cl_T_x t5 hQ15.2.1
    have t17 := cl_T_x t13 hQ15.2.1
    have n18 := (cl_T_n t13 hQ15.2.1).trans n14
    show yi_G zi_Ms d zi_m162 (50, [(2, .inl z4), (1, .inr (.inr (some e2x))), (0, .inr (.inr (some 10)))], [], (I15, L15, R15, Y15), 0 + 1 + nc3 + nc4 + nc15, 0 + 20 + ns3 + ns4 + ns15) _
    refine yi_G_run 1 (51, [(2, .inl z4), (1, .inr (.inr (some e2x))), (0, .inr (.inr (some 10)))], [.inr (.inr (some 10))], (I15, L15, R15, Y15), 0 + 1 + nc3 + nc4 + nc15, 0 + 20 + ns3 + ns4 + ns15) (fun _ => rfl) ?_
    obtain ⟨q19, e20, t21⟩ := cl_rf hP15.1 (cl_10 hP15.1) (k := 6) rfl
    refine cl_G_gr rfl (cl_T_K (cl_10 hP15.1)) rfl rfl rfl e20 ?_
    refine yi_G_run 1 (55, [(2, .inl z4), (1, .inr (.inr (some e2x))), (0, .inr (.inr (some 10)))], [.inr (.inr (some e2x)), .inr (.inr (some q19))], (I15, L15, R15, Y15), 0 + 1 + nc3 + nc4 + nc15, 0 + 20 + ns3 + ns4 + ns15) (fun _ => rfl) ?_
    refine yi_G_callv rfl rfl (cl_rcv t21 rfl) rfl (k_beginS d (by omega) hP15.1 t21 t16 ) ?_
    rintro _ ⟨I22, R22, rfl, hQ22⟩
    have hP22 := cl_P_t hP15 hQ22
    show yi_G zi_Ms d zi_m162 (58, [(2, .inl z4), (1, .inr (.inr (some e2x))), (0, .inr (.inr (some 10)))], [], (I22, L15, R22, Y15), 0 + 1 + nc3 + nc4 + nc15, 0 + 20 + ns3 + ns4 + ns15) _
    refine yi_G_run 1 (59, [(2, .inl z4), (1, .inr (.inr (some e2x))), (0, .inr (.inr (some 10)))], [.inr (.inr (some 10))], (I22, L15, R22, Y15), 0 + 1 + nc3 + nc4 + nc15, 0 + 20 + ns3 + ns4 + ns15) (fun _ => rfl) ?_
    refine yi_G_callv rfl rfl (cl_rcv (cl_10 hP22.1) rfl) rfl (k_forgetPastA d (by omega) hP22.1  ) ?_
    rintro _ ⟨I23, rfl, hQ23⟩
    have hP23 := cl_P_t hP22 hQ23
    show yi_G zi_Ms d zi_m162 (62, [(2, .inl z4), (1, .inr (.inr (some e2x))), (0, .inr (.inr (some 10)))], [], (I23, L15, R22, Y15), 0 + 1 + nc3 + nc4 + nc15, 0 + 20 + ns3 + ns4 + ns15) _
    refine yi_G_run 2 (64, [(3, .inl 0), (2, .inl z4), (1, .inr (.inr (some e2x))), (0, .inr (.inr (some 10)))], [], (I23, L15, R22, Y15), 0 + 1 + nc3 + nc4 + nc15, 0 + 20 + ns3 + ns4 + ns15) (fun _ => rfl) ?_
    have pt64 : ∀ (m_ : Nat) (j : Int) (Rp64 : cl_Rr), (cl_P E (yi_u I 12 5 0) L R Y I23 L15 Rp64 Y15) → (0 ≤ j ∧ j ≤ 4) → (4 - j).toNat = m_ → yi_G zi_Ms d zi_m162 (64, [(3, .inl j), (2, .inl z4), (1, .inr (.inr (some e2x))), (0, .inr (.inr (some 10)))], [], (I23, L15, Rp64, Y15), 0 + 1 + nc3 + nc4 + nc15, 0 + 20 + ns3 + ns4 + ns15) (fun r => ∃ z, ∃ I', ∃ L', ∃ R', ∃ Y', ∃ nc ns, r = (some (.inl z), (I', L', R', Y'), nc, ns) ∧ cl_P E (yi_u I 12 5 0) L R Y I' L' R' Y' ∧ nc ≤ 1350 ∧ ns ≤ 22800 ∧ (I 12 5 = 0 → nc ≤ 14 ∧ ns ≤ 100)) := by
      intro m64
      induction m64 using Nat.strongRecOn with
      | _ m64 ih64 =>
      intro j Rp64 hPp64 j0 hm64
      refine yi_G_run 2 (66, [(3, .inl j), (2, .inl z4), (1, .inr (.inr (some e2x))), (0, .inr (.inr (some 10)))], [.inr (.inr (some 10)), .inl j], (I23, L15, Rp64, Y15), 0 + 1 + nc3 + nc4 + nc15, 0 + 20 + ns3 + ns4 + ns15) (fun _ => rfl) ?_
      obtain ⟨q24, e25, t26, n27⟩ := cl_rn hPp64.1 (cl_10 hPp64.1) (k := 8) (m := 3) rfl
      refine cl_G_gr rfl (cl_T_K (cl_10 hPp64.1)) rfl rfl rfl e25 ?_
      refine cl_G_len rfl t26 (by omega) ?_
      by_cases h28 : ((Y15.2.1 q24 : Int)) ≤ j
      · refine yi_G_if2 true rfl (yi_ge_t h28) ?_
        refine yi_G_run 1 (87, [(3, .inl j), (2, .inl z4), (1, .inr (.inr (some e2x))), (0, .inr (.inr (some 10)))], [.inr (.inr (some 10))], (I23, L15, Rp64, Y15), 0 + 1 + nc3 + nc4 + nc15, 0 + 20 + ns3 + ns4 + ns15) (fun _ => rfl) ?_
        refine yi_G_callv rfl rfl (cl_rcv (cl_10 hPp64.1) rfl) rfl (k_refreshLeftA d (by omega) hPp64.1  ) ?_
        rintro _ ⟨I29, L29, R29, Y29, nc29, ns29, rfl, hQ29, ca29, cb29⟩
        have hP29 := cl_P_t hPp64 hQ29
        have t30 := cl_T_x t16 hQ29.2.1
        have t31 := cl_T_x t17 hQ29.2.1
        have n32 := (cl_T_n t17 hQ29.2.1).trans n18
        have t33 := cl_T_x t21 hQ29.2.1
        have t34 := cl_T_x t26 hQ29.2.1
        have n35 := (cl_T_n t26 hQ29.2.1).trans n27
        show yi_G zi_Ms d zi_m162 (90, [(3, .inl j), (2, .inl z4), (1, .inr (.inr (some e2x))), (0, .inr (.inr (some 10)))], [], (I29, L29, R29, Y29), 0 + 1 + nc3 + nc4 + nc15 + nc29, 0 + 20 + ns3 + ns4 + ns15 + ns29) _
        refine yi_G_run 1 (91, [(3, .inl j), (2, .inl z4), (1, .inr (.inr (some e2x))), (0, .inr (.inr (some 10)))], [.inl 0], (I29, L29, R29, Y29), 0 + 1 + nc3 + nc4 + nc15 + nc29, 0 + 20 + ns3 + ns4 + ns15 + ns29) (fun _ => rfl) ?_
        exact yi_G_reti rfl rfl (⟨_, _, _, _, _, _, _, rfl, hP29, by omega, by omega, by omega⟩)
      · refine yi_G_if2 false rfl (yi_ge_f h28) ?_
        refine yi_G_run 1 (74, [(3, .inl j), (2, .inl z4), (1, .inr (.inr (some e2x))), (0, .inr (.inr (some 10)))], [.inr (.inr (some 10))], (I23, L15, Rp64, Y15), 0 + 1 + nc3 + nc4 + nc15, 0 + 20 + ns3 + ns4 + ns15) (fun _ => rfl) ?_
        refine cl_G_gr rfl (cl_T_K (cl_10 hPp64.1)) rfl rfl rfl e25 ?_
        refine yi_G_run 2 (79, [(3, .inl j), (2, .inl z4), (1, .inr (.inr (some e2x))), (0, .inr (.inr (some 10)))], [.inr (.inr none), .inl j, .inr (.inr (some q24))], (I23, L15, Rp64, Y15), 0 + 1 + nc3 + nc4 + nc15, 0 + 20 + ns3 + ns4 + ns15) (fun _ => rfl) ?_
        refine cl_G_aast rfl t26 (by omega) rfl (by omega) (by omega) (Or.inl rfl) ?_
        have hP36 := cl_P_uR (k := (j.toNat)) (v := none) hPp64 t26 (by omega) (by omega) (cl_hrn rfl)
        generalize w37 : cl_u Rp64 q24 (j.toNat) none = R38 at hP36 ⊢
        have e39 : R38 10 8 = some q24 := by rw [← w37, cl_u_ne _ _ (fun z => cl_ne (cl_10 hPp64.1) t26 (by decide) z.1)]; exact e25
        have e40 : R38 q24 (j.toNat) = none := by rw [← w37, cl_u_eq]
        refine yi_G_iinc [(3, .inl (j + 1)), (2, .inl z4), (1, .inr (.inr (some e2x))), (0, .inr (.inr (some 10)))] rfl rfl rfl (by rw [show yi_w (j + 1) = j + 1 from (yi_wn (by omega) (by omega)).trans (by omega)]; rfl) ?_
        refine yi_G_run 1 (64, [(3, .inl (j + 1)), (2, .inl z4), (1, .inr (.inr (some e2x))), (0, .inr (.inr (some 10)))], [], (I23, L15, R38, Y15), 0 + 1 + nc3 + nc4 + nc15, 0 + 20 + ns3 + ns4 + ns15) (fun _ => rfl) ?_
        exact ih64 _ (by omega) (j + 1) R38 hP36 (by omega) rfl
    exact pt64 _ 0 R22 hP23 (by omega) rfl
  · refine yi_G_if1 false rfl (yi_eq_f h6) ?_
    refine yi_G_run 1 (29, [(2, .inl z4), (1, .inr (.inr (some e2x))), (0, .inr (.inr (some 10)))], [.inl z4], (I4, L4, R4, Y4), 0 + 1 + nc3 + nc4, 0 + 20 + ns3 + ns4) (fun _ => rfl) ?_
    exact yi_G_reti rfl rfl (⟨_, _, _, _, _, _, _, rfl, hP4, by omega, by omega, by omega⟩)
theorem cl_get_r {pc n : Nat} {al : List (Nat × yi_V)} {st : List yi_V} {nc ns p : Nat} {I L : cl_I} {R : cl_Rr} {Y : cl_Y} {ci k : Nat} {z : Option Nat} (ht : cl_K Y p ci) (hc : Nat.ble (ci + 1) 20 = true) (hk : yi_tk (zi_ty ci k) = 2) (hl : Nat.ble (k + 1) (zi_Fs.getD ci ("", [])).2.length = true) (hz : R p k = z) : yi_get pc n al (.inr (.inr (some p)) :: st) (I, L, R, Y) nc ns ci k = some (.inl (pc + n, al, .inr (.inr z) :: st, (I, L, R, Y), nc, ns)) := by
  show ((bif Nat.ble 10 p then (bif Nat.beq (Y.1 p) ci && Nat.ble (k + 1) (zi_Fs.getD ci ("", [])).2.length && Nat.ble (ci + 1) 20 then some (.inl (pc + n, al, yi_rd (I, L, R, Y) (yi_tk (zi_ty ci k)) p k :: st, (I, L, R, Y), nc, ns)) else none) else _) : yi_O) = _
  rw [Nat.ble_eq_true_of_le ht.1, ht.2, Nat.beq_refl, hl, hc, hk, ← hz]
  rfl
theorem k_firstA (d : Nat) (hD : 3 ≤ d) {E : List Nat} {I L : cl_I} {R : cl_Rr} {Y : cl_Y} (hC : cl_C E I L R Y) {x : Int} {y : Int} {w : Int} : yi_G zi_Ms d zi_mf (0, [(0, .inr (.inr (some 10))), (1, .inl x), (2, .inl y), (3, .inl w)], [], (I, L, R, Y), 0, 0) (fun r => ∃ z, ∃ I', ∃ L', ∃ R', ∃ Y', ∃ nc ns, r = (some (.inl z), (I', L', R', Y'), nc, ns) ∧ cl_P E I L R Y I' L' R' Y' ∧ nc ≤ 1 ∧ ns ≤ 513) ∨ yi_L zi_Ms d [] zi_mf (0, [(0, .inr (.inr (some 10))), (1, .inl x), (2, .inl y), (3, .inl w)], [], (I, L, R, Y), 0, 0) (fun g => g = (13, [(0, .inr (.inr (some 10))), (1, .inl x), (2, .inl y), (3, .inl w)], [], (I, L, R, Y), 0, 0)) := by
  obtain ⟨q1, e2, t3⟩ := cl_rf hC (cl_10 hC) (k := 16) rfl
  obtain ⟨r, ⟨z4, rfl, hz4, x4a⟩, n0, hn⟩ := k_isWord d (by omega) hC t3 (x := x) (y := y) (w := w)
  by_cases h5 : z4 = 0
  · right
    refine yi_L_run 1 (1, [(0, .inr (.inr (some 10))), (1, .inl x), (2, .inl y), (3, .inl w)], [.inr (.inr (some 10))], (I, L, R, Y), 0, 0) (fun _ => rfl) ?_
    refine yi_L_s (4, [(0, .inr (.inr (some 10))), (1, .inl x), (2, .inl y), (3, .inl w)], [.inr (.inr (some q1))], (I, L, R, Y), 0, 0) rfl (fun _ => ?_) ?_
    · exact cl_get_r (cl_T_K (cl_10 hC)) rfl rfl rfl e2
    refine yi_L_run 3 (7, [(0, .inr (.inr (some 10))), (1, .inl x), (2, .inl y), (3, .inl w)], [.inl w, .inl y, .inl x, .inr (.inr (some q1))], (I, L, R, Y), 0, 0) (fun _ => rfl) ?_
    refine yi_L_callv (Qc := fun r => r = (some (.inl z4), (I, L, R, Y), 0, 0)) rfl rfl (cl_rcv t3 rfl) rfl ⟨_, rfl, n0, hn⟩ ?_
    rintro _ rfl
    show yi_L zi_Ms d [] zi_mf (10, [(0, .inr (.inr (some 10))), (1, .inl x), (2, .inl y), (3, .inl w)], [.inl z4], (I, L, R, Y), 0, 0) _
    refine yi_L_if1 false rfl (yi_ne_f h5) ?_
    exact yi_L_end rfl
  left
  have hW : yi_E zi_Ms d 233 [.inr (.inr (some q1)), .inl x, .inl y, .inl w] (I, L, R, Y) (fun r => ∃ z, r = (some (.inl z), (I, L, R, Y), 0, 0) ∧ (z = 0 ∨ z = 1) ∧ ¬ z = 0) := ⟨_, ⟨z4, rfl, hz4, h5⟩, n0, hn⟩
  have hP : cl_P E I L R Y I L R Y := cl_P_r hC
  show yi_G zi_Ms d zi_mf (0, [(0, .inr (.inr (some 10))), (1, .inl x), (2, .inl y), (3, .inl w)], [], (I, L, R, Y), 0, 0) _
  refine yi_G_run 1 (1, [(0, .inr (.inr (some 10))), (1, .inl x), (2, .inl y), (3, .inl w)], [.inr (.inr (some 10))], (I, L, R, Y), 0, 0) (fun _ => rfl) ?_
  refine cl_G_gr rfl (cl_T_K (cl_10 hP.1)) rfl rfl rfl e2 ?_
  refine yi_G_run 3 (7, [(0, .inr (.inr (some 10))), (1, .inl x), (2, .inl y), (3, .inl w)], [.inl w, .inl y, .inl x, .inr (.inr (some q1))], (I, L, R, Y), 0, 0) (fun _ => rfl) ?_
  refine yi_G_callv rfl rfl (cl_rcv t3 rfl) rfl hW ?_
  rintro _ ⟨z4, rfl, hz4, x4a⟩
  show yi_G zi_Ms d zi_mf (10, [(0, .inr (.inr (some 10))), (1, .inl x), (2, .inl y), (3, .inl w)], [.inl z4], (I, L, R, Y), 0, 0) _
  by_cases h5 : z4 = 0
  · refine yi_G_if1 false rfl (yi_ne_f h5) ?_
    exact absurd h5 x4a
  · refine yi_G_if1 true rfl (yi_ne_t h5) ?_
    refine yi_G_run 1 (25, [(0, .inr (.inr (some 10))), (1, .inl x), (2, .inl y), (3, .inl w)], [.inr (.inr (some 10))], (I, L, R, Y), 0, 0) (fun _ => rfl) ?_
    refine cl_G_gr rfl (cl_T_K (cl_10 hP.1)) rfl rfl rfl (hP.1.2.2.2.1.2.2.2.2.2.2.1) ?_
    refine yi_G_run 3 (31, [(0, .inr (.inr (some 10))), (1, .inl x), (2, .inl y), (3, .inl w)], [.inl w, .inl y, .inl x, .inr (.inr (some 34))], (I, L, R, Y), 0, 0) (fun _ => rfl) ?_
    refine yi_G_calls rfl rfl (k_wordNumber d (by omega) hP.1  ) ?_
    rintro _ ⟨z6, rfl⟩
    show yi_G zi_Ms d zi_mf (34, [(0, .inr (.inr (some 10))), (1, .inl x), (2, .inl y), (3, .inl w)], [.inl z6, .inr (.inr (some 34))], (I, L, R, Y), 0, 0) _
    refine yi_G_callv rfl rfl (cl_rcv (cl_34 hP.1) rfl) rfl (k_wordRow d (by omega) hP.1 (cl_34 hP.1) ) ?_
    rintro _ ⟨q7, rfl, t7⟩
    show yi_G zi_Ms d zi_mf (37, [(0, .inr (.inr (some 10))), (1, .inl x), (2, .inl y), (3, .inl w)], [.inr (.inr (some q7))], (I, L, R, Y), 0, 0) _
    refine yi_G_run 3 (41, [(4, .inr (.inr (some q7))), (0, .inr (.inr (some 10))), (1, .inl x), (2, .inl y), (3, .inl w)], [.inr (.inr (some 10)), .inr (.inr (some 10))], (I, L, R, Y), 0, 0) (fun _ => rfl) ?_
    refine cl_G_gr rfl (cl_T_K (cl_10 hP.1)) rfl rfl rfl (hP.1.2.2.2.1.2.2.2.2.2.2.2.2.1) ?_
    refine yi_G_callv rfl rfl (cl_rcv (cl_10 hP.1) rfl) rfl (k_groundIntoA d (by omega) hP.1 (cl_60 hP.1) ) ?_
    rintro _ ⟨I8, L8, R8, Y8, nc8, ns8, rfl, hQ8, ca8, cb8⟩
    have hP8 := cl_P_t hP hQ8
    have t9 := cl_T_x t3 hQ8.2.1
    have t10 := cl_T_x t7 hQ8.2.1
    show yi_G zi_Ms d zi_mf (47, [(4, .inr (.inr (some q7))), (0, .inr (.inr (some 10))), (1, .inl x), (2, .inl y), (3, .inl w)], [], (I8, L8, R8, Y8), 0 + nc8, 0 + ns8) _
    refine yi_G_run 1 (48, [(4, .inr (.inr (some q7))), (0, .inr (.inr (some 10))), (1, .inl x), (2, .inl y), (3, .inl w)], [.inr (.inr (some 10))], (I8, L8, R8, Y8), 0 + nc8, 0 + ns8) (fun _ => rfl) ?_
    refine cl_G_gr rfl (cl_T_K (cl_10 hP8.1)) rfl rfl rfl (hP8.1.2.2.2.1.2.2.2.2.2.2.2.2.1) ?_
    refine yi_G_run 1 (53, [(4, .inr (.inr (some q7))), (0, .inr (.inr (some 10))), (1, .inl x), (2, .inl y), (3, .inl w)], [.inr (.inr (some q7)), .inr (.inr (some 60))], (I8, L8, R8, Y8), 0 + nc8, 0 + ns8) (fun _ => rfl) ?_
    refine yi_G_callv rfl rfl (cl_rcv (cl_60 hP8.1) rfl) rfl (k_within d (by omega) hP8.1 (cl_60 hP8.1) t10 ) ?_
    rintro _ ⟨z11, rfl, hz11⟩
    show yi_G zi_Ms d zi_mf (56, [(4, .inr (.inr (some q7))), (0, .inr (.inr (some 10))), (1, .inl x), (2, .inl y), (3, .inl w)], [.inl z11], (I8, L8, R8, Y8), 0 + nc8, 0 + ns8) _
    by_cases h12 : z11 = 0
    · refine yi_G_if1 true rfl (yi_eq_t h12) ?_
      refine yi_G_run 2 (65, [(5, .inl 0), (4, .inr (.inr (some q7))), (0, .inr (.inr (some 10))), (1, .inl x), (2, .inl y), (3, .inl w)], [], (I8, L8, R8, Y8), 0 + nc8, 0 + ns8) (fun _ => rfl) ?_
      have pt65 : ∀ (m_ : Nat) (j : Int) (Lp65 : cl_I), (cl_P E I L R Y I8 Lp65 R8 Y8) → (0 ≤ j ∧ j ≤ 12) → (12 - j).toNat = m_ → yi_G zi_Ms d zi_mf (65, [(5, .inl j), (4, .inr (.inr (some q7))), (0, .inr (.inr (some 10))), (1, .inl x), (2, .inl y), (3, .inl w)], [], (I8, Lp65, R8, Y8), 0 + nc8, 0 + ns8) (fun r => ∃ z, ∃ I', ∃ L', ∃ R', ∃ Y', ∃ nc ns, r = (some (.inl z), (I', L', R', Y'), nc, ns) ∧ cl_P E I L R Y I' L' R' Y' ∧ nc ≤ 1 ∧ ns ≤ 513) := by
        intro m65
        induction m65 using Nat.strongRecOn with
        | _ m65 ih65 =>
        intro j Lp65 hPp65 j0 hm65
        refine yi_G_run 2 (68, [(5, .inl j), (4, .inr (.inr (some q7))), (0, .inr (.inr (some 10))), (1, .inl x), (2, .inl y), (3, .inl w)], [.inr (.inr (some 10)), .inl j], (I8, Lp65, R8, Y8), 0 + nc8, 0 + ns8) (fun _ => rfl) ?_
        obtain ⟨q13, e14, t15⟩ := cl_rf hPp65.1 (cl_10 hPp65.1) (k := 6) rfl
        refine cl_G_gr rfl (cl_T_K (cl_10 hPp65.1)) rfl rfl rfl e14 ?_
        have b16 := cl_rd hPp65.1 t15 (k := 6) (lo := 0) (hi := 12) rfl
        refine cl_G_gi rfl (cl_T_K t15) rfl rfl rfl ?_
        by_cases h17 : (I8 q13 6) ≤ j
        · refine yi_G_if2 true rfl (yi_ge_t h17) ?_
          refine yi_G_run 1 (112, [(5, .inl j), (4, .inr (.inr (some q7))), (0, .inr (.inr (some 10))), (1, .inl x), (2, .inl y), (3, .inl w)], [.inl (-1)], (I8, Lp65, R8, Y8), 0 + nc8, 0 + ns8) (fun _ => rfl) ?_
          exact yi_G_reti rfl rfl (⟨_, _, _, _, _, _, _, rfl, hPp65, by omega, by omega⟩)
        · refine yi_G_if2 false rfl (yi_ge_f h17) ?_
          refine yi_G_run 1 (78, [(5, .inl j), (4, .inr (.inr (some q7))), (0, .inr (.inr (some 10))), (1, .inl x), (2, .inl y), (3, .inl w)], [.inr (.inr (some 10))], (I8, Lp65, R8, Y8), 0 + nc8, 0 + ns8) (fun _ => rfl) ?_
          refine cl_G_gr rfl (cl_T_K (cl_10 hPp65.1)) rfl rfl rfl (hPp65.1.2.2.2.1.2.2.2.2.2.2.2.2.1) ?_
          refine yi_G_run 2 (84, [(5, .inl j), (4, .inr (.inr (some q7))), (0, .inr (.inr (some 10))), (1, .inl x), (2, .inl y), (3, .inl w)], [.inl j, .inr (.inr (some 10)), .inr (.inr (some 60))], (I8, Lp65, R8, Y8), 0 + nc8, 0 + ns8) (fun _ => rfl) ?_
          refine yi_G_callv rfl rfl (cl_rcv (cl_10 hPp65.1) rfl) rfl (k_sayingRowA d (by omega) hPp65.1  ) ?_
          rintro _ ⟨q18, rfl, t18⟩
          show yi_G zi_Ms d zi_mf (87, [(5, .inl j), (4, .inr (.inr (some q7))), (0, .inr (.inr (some 10))), (1, .inl x), (2, .inl y), (3, .inl w)], [.inr (.inr (some q18)), .inr (.inr (some 60))], (I8, Lp65, R8, Y8), 0 + nc8, 0 + ns8) _
          refine yi_G_callv rfl rfl (cl_rcv (cl_60 hPp65.1) rfl) rfl (k_keep d (by omega) hPp65.1 (cl_60 hPp65.1) t18 ) ?_
          rintro _ ⟨L19, rfl, hQ19⟩
          have hP19 := cl_P_t hPp65 hQ19
          show yi_G zi_Ms d zi_mf (90, [(5, .inl j), (4, .inr (.inr (some q7))), (0, .inr (.inr (some 10))), (1, .inl x), (2, .inl y), (3, .inl w)], [], (I8, L19, R8, Y8), 0 + nc8, 0 + ns8) _
          refine yi_G_run 1 (91, [(5, .inl j), (4, .inr (.inr (some q7))), (0, .inr (.inr (some 10))), (1, .inl x), (2, .inl y), (3, .inl w)], [.inr (.inr (some 10))], (I8, L19, R8, Y8), 0 + nc8, 0 + ns8) (fun _ => rfl) ?_
          refine cl_G_gr rfl (cl_T_K (cl_10 hP19.1)) rfl rfl rfl (hP19.1.2.2.2.1.2.2.2.2.2.2.2.2.1) ?_
          refine yi_G_run 1 (96, [(5, .inl j), (4, .inr (.inr (some q7))), (0, .inr (.inr (some 10))), (1, .inl x), (2, .inl y), (3, .inl w)], [.inr (.inr (some q7)), .inr (.inr (some 60))], (I8, L19, R8, Y8), 0 + nc8, 0 + ns8) (fun _ => rfl) ?_
          refine yi_G_callv rfl rfl (cl_rcv (cl_60 hP19.1) rfl) rfl (k_within d (by omega) hP19.1 (cl_60 hP19.1) t10 ) ?_
          rintro _ ⟨z20, rfl, hz20⟩
          show yi_G zi_Ms d zi_mf (99, [(5, .inl j), (4, .inr (.inr (some q7))), (0, .inr (.inr (some 10))), (1, .inl x), (2, .inl y), (3, .inl w)], [.inl z20], (I8, L19, R8, Y8), 0 + nc8, 0 + ns8) _
          by_cases h21 : z20 = 0
          · refine yi_G_if1 true rfl (yi_eq_t h21) ?_
            refine yi_G_iinc [(5, .inl (j + 1)), (4, .inr (.inr (some q7))), (0, .inr (.inr (some 10))), (1, .inl x), (2, .inl y), (3, .inl w)] rfl rfl rfl (by rw [show yi_w (j + 1) = j + 1 from (yi_wn (by omega) (by omega)).trans (by omega)]; rfl) ?_
            refine yi_G_run 1 (65, [(5, .inl (j + 1)), (4, .inr (.inr (some q7))), (0, .inr (.inr (some 10))), (1, .inl x), (2, .inl y), (3, .inl w)], [], (I8, L19, R8, Y8), 0 + nc8, 0 + ns8) (fun _ => rfl) ?_
            exact ih65 _ (by omega) (j + 1) L19 hP19 (by omega) rfl
          · refine yi_G_if1 false rfl (yi_eq_f h21) ?_
            refine yi_G_run 1 (104, [(5, .inl j), (4, .inr (.inr (some q7))), (0, .inr (.inr (some 10))), (1, .inl x), (2, .inl y), (3, .inl w)], [.inl j], (I8, L19, R8, Y8), 0 + nc8, 0 + ns8) (fun _ => rfl) ?_
            exact yi_G_reti rfl rfl (⟨_, _, _, _, _, _, _, rfl, hP19, by omega, by omega⟩)
      exact pt65 _ 0 L8 hP8 (by omega) rfl
    · refine yi_G_if1 false rfl (yi_eq_f h12) ?_
      refine yi_G_run 1 (61, [(4, .inr (.inr (some q7))), (0, .inr (.inr (some 10))), (1, .inl x), (2, .inl y), (3, .inl w)], [.inl (-2)], (I8, L8, R8, Y8), 0 + nc8, 0 + ns8) (fun _ => rfl) ?_
      exact yi_G_reti rfl rfl (⟨_, _, _, _, _, _, _, rfl, hP8, by omega, by omega⟩)
theorem cl_P_t1 {E : List Nat} {I L I' L' I2 L2 : cl_I} {R R' R2 : cl_Rr} {Y Y' Y2 : cl_Y} {u v : Int} (h : cl_P E (yi_u I 12 5 u) L R Y I' L' R' Y') (h2 : cl_P E (yi_u I' 12 5 v) L' R' Y' I2 L2 R2 Y2) : cl_P E (yi_u I 12 5 v) L R Y I2 L2 R2 Y2 := by
  have z := cl_P_t0 h h2
  rw [cl_uu] at z
  exact z
theorem k_feedA (D : Nat) (hD : 2 ≤ D) {E : List Nat} {I L : cl_I} {R : cl_Rr} {Y : cl_Y} (hC : cl_C E I L R Y) {va : Int} {vb : Int} {vc : Int} : yi_E zi_Ms D 149 [.inr (.inr (some 10)), .inr (.inl va), .inr (.inl vb), .inr (.inl vc)] (I, L, R, Y) (fun r => ∃ I', r = (some (.inl (I' 12 5)), (I', L, R, Y), 0, 0) ∧ cl_P E (yi_u I 12 5 (I' 12 5)) L R Y I' L R Y ∧ I' 12 5 = ym_ly (fun k => yi_w (yi_land (yi_lushr vc k) 255)) (ym_ly (fun k => yi_w (yi_land (yi_lushr vb k) 255)) (ym_ly (fun k => yi_w (yi_land (yi_lushr va k) 255)) (I 12 5) 8) 8) 8) := by
  obtain ⟨d, rfl⟩ : ∃ d, D = d + 1 := ⟨D - 1, by omega⟩
  refine yi_E_of (M := zi_m149) rfl rfl ?_
  have hP : cl_P E I L R Y I L R Y := cl_P_r hC
  have hP : cl_P E (yi_u I 12 5 (I 12 5)) L R Y I L R Y := by rw [cl_us]; exact cl_P_r hC
  show yi_G zi_Ms d zi_m149 (0, [(0, .inr (.inr (some 10))), (1, .inr (.inl va)), (3, .inr (.inl vb)), (5, .inr (.inl vc))], [], (I, L, R, Y), 0, 0) _
  refine yi_G_run 1 (1, [(0, .inr (.inr (some 10))), (1, .inr (.inl va)), (3, .inr (.inl vb)), (5, .inr (.inl vc))], [.inr (.inr (some 10))], (I, L, R, Y), 0, 0) (fun _ => rfl) ?_
  refine cl_G_gr rfl (cl_T_K (cl_10 hP.1)) rfl rfl rfl (hP.1.2.2.2.1.2.2.2.2.1) ?_
  refine yi_G_run 1 (5, [(0, .inr (.inr (some 10))), (1, .inr (.inl va)), (3, .inr (.inl vb)), (5, .inr (.inl vc))], [.inr (.inl va), .inr (.inr (some 12))], (I, L, R, Y), 0, 0) (fun _ => rfl) ?_
  refine yi_G_callv rfl rfl (cl_rcv (cl_12 hP.1) rfl) rfl (k_putBytes d (by omega) hP.1  ) ?_
  rintro _ ⟨I1, rfl, hQ1, x1a⟩
  have hP1 := cl_P_t1 hP hQ1
  show yi_G zi_Ms d zi_m149 (8, [(0, .inr (.inr (some 10))), (1, .inr (.inl va)), (3, .inr (.inl vb)), (5, .inr (.inl vc))], [], (I1, L, R, Y), 0, 0) _
  refine yi_G_run 1 (9, [(0, .inr (.inr (some 10))), (1, .inr (.inl va)), (3, .inr (.inl vb)), (5, .inr (.inl vc))], [.inr (.inr (some 10))], (I1, L, R, Y), 0, 0) (fun _ => rfl) ?_
  refine cl_G_gr rfl (cl_T_K (cl_10 hP1.1)) rfl rfl rfl (hP1.1.2.2.2.1.2.2.2.2.1) ?_
  refine yi_G_run 1 (13, [(0, .inr (.inr (some 10))), (1, .inr (.inl va)), (3, .inr (.inl vb)), (5, .inr (.inl vc))], [.inr (.inl vb), .inr (.inr (some 12))], (I1, L, R, Y), 0, 0) (fun _ => rfl) ?_
  refine yi_G_callv rfl rfl (cl_rcv (cl_12 hP1.1) rfl) rfl (k_putBytes d (by omega) hP1.1  ) ?_
  rintro _ ⟨I2, rfl, hQ2, x2a⟩
  have hP2 := cl_P_t1 hP1 hQ2
  show yi_G zi_Ms d zi_m149 (16, [(0, .inr (.inr (some 10))), (1, .inr (.inl va)), (3, .inr (.inl vb)), (5, .inr (.inl vc))], [], (I2, L, R, Y), 0, 0) _
  refine yi_G_run 1 (17, [(0, .inr (.inr (some 10))), (1, .inr (.inl va)), (3, .inr (.inl vb)), (5, .inr (.inl vc))], [.inr (.inr (some 10))], (I2, L, R, Y), 0, 0) (fun _ => rfl) ?_
  refine cl_G_gr rfl (cl_T_K (cl_10 hP2.1)) rfl rfl rfl (hP2.1.2.2.2.1.2.2.2.2.1) ?_
  refine yi_G_run 1 (22, [(0, .inr (.inr (some 10))), (1, .inr (.inl va)), (3, .inr (.inl vb)), (5, .inr (.inl vc))], [.inr (.inl vc), .inr (.inr (some 12))], (I2, L, R, Y), 0, 0) (fun _ => rfl) ?_
  refine yi_G_callv rfl rfl (cl_rcv (cl_12 hP2.1) rfl) rfl (k_putBytes d (by omega) hP2.1  ) ?_
  rintro _ ⟨I3, rfl, hQ3, x3a⟩
  have hP3 := cl_P_t1 hP2 hQ3
  show yi_G zi_Ms d zi_m149 (25, [(0, .inr (.inr (some 10))), (1, .inr (.inl va)), (3, .inr (.inl vb)), (5, .inr (.inl vc))], [], (I3, L, R, Y), 0, 0) _
  refine yi_G_run 1 (26, [(0, .inr (.inr (some 10))), (1, .inr (.inl va)), (3, .inr (.inl vb)), (5, .inr (.inl vc))], [.inr (.inr (some 10))], (I3, L, R, Y), 0, 0) (fun _ => rfl) ?_
  refine cl_G_gr rfl (cl_T_K (cl_10 hP3.1)) rfl rfl rfl (hP3.1.2.2.2.1.2.2.2.2.1) ?_
  have b4 := cl_rd hP3.1 (cl_12 hP3.1) (k := 5) (lo := 0) (hi := 1000) rfl
  refine cl_G_gi rfl (cl_T_K (cl_12 hP3.1)) rfl rfl rfl ?_
  exact yi_G_reti rfl rfl (⟨_, rfl, hP3, by rw [x3a, x2a, x1a]⟩)
