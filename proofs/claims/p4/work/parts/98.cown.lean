/-! The class: its own methods. -/
theorem k_forgetPastA (D : Nat) (hD : 1 ≤ D) {E : List Nat} {I L : cl_I} {R : cl_Rr} {Y : cl_Y} (hC : cl_C E I L R Y) : yi_E zi_Ms D 152 [.inr (.inr (some 10))] (I, L, R, Y) (fun r => ∃ I', r = (none, (I', L, R, Y), 0, 0) ∧ cl_P E I L R Y I' L R Y) := by
  obtain ⟨d, rfl⟩ : ∃ d, D = d + 1 := ⟨D - 1, by omega⟩
  refine yi_E_of (M := zi_m152) rfl rfl ?_
  have hP : cl_P E I L R Y I L R Y := cl_P_r hC
  show yi_G zi_Ms d zi_m152 (0, [(0, .inr (.inr (some 10)))], [], (I, L, R, Y), 0, 0) _
  refine yi_G_run 2 (2, [(0, .inr (.inr (some 10)))], [.inl 0, .inr (.inr (some 10))], (I, L, R, Y), 0, 0) (fun _ => rfl) ?_
  refine cl_G_pi rfl (cl_T_K (cl_10 hP.1)) rfl rfl rfl ?_
  have hP1 := cl_P_uI (k := 17) (v := 0) hP (cl_10 hP.1) (by decide) (cl_hv rfl (by omega) (by omega))
  generalize w2 : yi_u I 10 17 0 = I3 at hP1 ⊢
  refine yi_G_run 2 (7, [(0, .inr (.inr (some 10)))], [.inl 0, .inr (.inr (some 10))], (I3, L, R, Y), 0, 0) (fun _ => rfl) ?_
  refine cl_G_pi rfl (cl_T_K (cl_10 hP1.1)) rfl rfl rfl ?_
  have hP4 := cl_P_uI (k := 18) (v := 0) hP1 (cl_10 hP1.1) (by decide) (cl_hv rfl (by omega) (by omega))
  generalize w5 : yi_u I3 10 18 0 = I6 at hP4 ⊢
  exact yi_G_retv rfl rfl (⟨_, rfl, hP4⟩)
theorem k_sayingRowA (D : Nat) (hD : 2 ≤ D) {E : List Nat} {I L : cl_I} {R : cl_Rr} {Y : cl_Y} (hC : cl_C E I L R Y) {x : Int} : yi_E zi_Ms D 173 [.inr (.inr (some 10)), .inl x] (I, L, R, Y) (fun r => ∃ q, r = (some (.inr (.inr (some q))), (I, L, R, Y), 0, 0) ∧ cl_T E Y q 5) := by
  obtain ⟨d, rfl⟩ : ∃ d, D = d + 1 := ⟨D - 1, by omega⟩
  refine yi_E_of (M := zi_m173) rfl rfl ?_
  have hP : cl_P E I L R Y I L R Y := cl_P_r hC
  show yi_G zi_Ms d zi_m173 (0, [(0, .inr (.inr (some 10))), (1, .inl x)], [], (I, L, R, Y), 0, 0) _
  refine yi_G_run 1 (1, [(0, .inr (.inr (some 10))), (1, .inl x)], [.inr (.inr (some 10))], (I, L, R, Y), 0, 0) (fun _ => rfl) ?_
  obtain ⟨q1, e2, t3⟩ := cl_rf hP.1 (cl_10 hP.1) (k := 6) rfl
  refine cl_G_gr rfl (cl_T_K (cl_10 hP.1)) rfl rfl rfl e2 ?_
  refine yi_G_run 1 (5, [(0, .inr (.inr (some 10))), (1, .inl x)], [.inl x, .inr (.inr (some q1))], (I, L, R, Y), 0, 0) (fun _ => rfl) ?_
  refine yi_G_callv rfl rfl (cl_rcv t3 rfl) rfl (k_sayingAt d (by omega) hP.1 t3 ) ?_
  rintro _ (⟨q4, rfl, t4⟩ | rfl)
  · show yi_G zi_Ms d zi_m173 (8, [(0, .inr (.inr (some 10))), (1, .inl x)], [.inr (.inr (some q4))], (I, L, R, Y), 0, 0) _
    refine yi_G_run 2 (10, [(2, .inr (.inr (some q4))), (0, .inr (.inr (some 10))), (1, .inl x)], [.inr (.inr (some q4))], (I, L, R, Y), 0, 0) (fun _ => rfl) ?_
    refine cl_G_nnl false rfl rfl ?_
    refine yi_G_run 1 (24, [(2, .inr (.inr (some q4))), (0, .inr (.inr (some 10))), (1, .inl x)], [.inr (.inr (some q4))], (I, L, R, Y), 0, 0) (fun _ => rfl) ?_
    obtain ⟨q5, e6, t7⟩ := cl_rf hP.1 t4 (k := 3) rfl
    refine cl_G_gr rfl (cl_T_K t4) rfl rfl rfl e6 ?_
    exact cl_G_reta rfl rfl rfl (⟨_, rfl, t7⟩)
  · show yi_G zi_Ms d zi_m173 (8, [(0, .inr (.inr (some 10))), (1, .inl x)], [.inr (.inr none)], (I, L, R, Y), 0, 0) _
    refine yi_G_run 2 (10, [(2, .inr (.inr none)), (0, .inr (.inr (some 10))), (1, .inl x)], [.inr (.inr none)], (I, L, R, Y), 0, 0) (fun _ => rfl) ?_
    refine cl_G_nnl true rfl rfl ?_
    refine yi_G_run 1 (14, [(2, .inr (.inr none)), (0, .inr (.inr (some 10))), (1, .inl x)], [.inr (.inr (some 10))], (I, L, R, Y), 0, 0) (fun _ => rfl) ?_
    refine cl_G_gr rfl (cl_T_K (cl_10 hP.1)) rfl rfl rfl (hP.1.2.2.2.1.2.2.2.2.2.2.1) ?_
    obtain ⟨q8, e9, t10⟩ := cl_rf hP.1 (cl_34 hP.1) (k := 1) rfl
    refine cl_G_gr rfl (cl_T_K (cl_34 hP.1)) rfl rfl rfl e9 ?_
    refine yi_G_run 1 (27, [(2, .inr (.inr none)), (0, .inr (.inr (some 10))), (1, .inl x)], [.inr (.inr (some q8))], (I, L, R, Y), 0, 0) (fun _ => rfl) ?_
    exact cl_G_reta rfl rfl rfl (⟨_, rfl, t10⟩)
theorem k_groundIntoA (D : Nat) (hD : 3 ≤ D) {E : List Nat} {I L : cl_I} {R : cl_Rr} {Y : cl_Y} (hC : cl_C E I L R Y) {u : Nat} (tu : cl_T E Y u 5) : yi_E zi_Ms D 158 [.inr (.inr (some 10)), .inr (.inr (some u))] (I, L, R, Y) (fun r => ∃ I', ∃ L', ∃ R', ∃ Y', ∃ nc ns, r = (none, (I', L', R', Y'), nc, ns) ∧ cl_P E I L R Y I' L' R' Y' ∧ nc ≤ 1 ∧ ns ≤ 513) := by
  obtain ⟨d, rfl⟩ : ∃ d, D = d + 1 := ⟨D - 1, by omega⟩
  refine yi_E_of (M := zi_m158) rfl rfl ?_
  have hP : cl_P E I L R Y I L R Y := cl_P_r hC
  show yi_G zi_Ms d zi_m158 (0, [(0, .inr (.inr (some 10))), (1, .inr (.inr (some u)))], [], (I, L, R, Y), 0, 0) _
  refine yi_G_run 2 (2, [(0, .inr (.inr (some 10))), (1, .inr (.inr (some u)))], [.inr (.inr (some 10)), .inr (.inr (some u))], (I, L, R, Y), 0, 0) (fun _ => rfl) ?_
  refine cl_G_gr rfl (cl_T_K (cl_10 hP.1)) rfl rfl rfl (hP.1.2.2.2.1.2.2.2.2.2.2.1) ?_
  obtain ⟨q1, e2, t3⟩ := cl_rf hP.1 (cl_34 hP.1) (k := 0) rfl
  refine cl_G_gr rfl (cl_T_K (cl_34 hP.1)) rfl rfl rfl e2 ?_
  refine yi_G_callv rfl rfl (cl_rcv tu rfl) rfl (k_copyFrom d (by omega) hP.1 tu t3 ) ?_
  rintro _ ⟨I4, L4, R4, Y4, nc4, ns4, rfl, hQ4, ca4, cb4, x4a, x4b, x4c⟩
  have hP4 := cl_P_t hP hQ4
  have t5 := cl_T_x tu hQ4.2.1
  have t6 := cl_T_x t3 hQ4.2.1
  show yi_G zi_Ms d zi_m158 (11, [(0, .inr (.inr (some 10))), (1, .inr (.inr (some u)))], [], (I4, L4, R4, Y4), 0 + nc4, 0 + ns4) _
  refine yi_G_run 2 (13, [(2, .inl 1), (0, .inr (.inr (some 10))), (1, .inr (.inr (some u)))], [], (I4, L4, R4, Y4), 0 + nc4, 0 + ns4) (fun _ => rfl) ?_
  have pt13 : ∀ (m_ : Nat) (dy : Int) (Lp13 : cl_I), (cl_P E I L R Y I4 Lp13 R4 Y4) → (1 ≤ dy ∧ dy ≤ 7) → (7 - dy).toNat = m_ → yi_G zi_Ms d zi_m158 (13, [(2, .inl dy), (0, .inr (.inr (some 10))), (1, .inr (.inr (some u)))], [], (I4, Lp13, R4, Y4), 0 + nc4, 0 + ns4) (fun r => ∃ I', ∃ L', ∃ R', ∃ Y', ∃ nc ns, r = (none, (I', L', R', Y'), nc, ns) ∧ cl_P E I L R Y I' L' R' Y' ∧ nc ≤ 1 ∧ ns ≤ 513) := by
    intro m13
    induction m13 using Nat.strongRecOn with
    | _ m13 ih13 =>
    intro dy Lp13 hPp13 dy0 hm13
    refine yi_G_run 2 (15, [(2, .inl dy), (0, .inr (.inr (some 10))), (1, .inr (.inr (some u)))], [.inr (.inr (some 10)), .inl dy], (I4, Lp13, R4, Y4), 0 + nc4, 0 + ns4) (fun _ => rfl) ?_
    obtain ⟨q7, e8, t9⟩ := cl_rf hPp13.1 (cl_10 hPp13.1) (k := 16) rfl
    refine cl_G_gr rfl (cl_T_K (cl_10 hPp13.1)) rfl rfl rfl e8 ?_
    have b10 := cl_rd hPp13.1 t9 (k := 14) (lo := 1) (hi := 6) rfl
    refine cl_G_gi rfl (cl_T_K t9) rfl rfl rfl ?_
    by_cases h11 : (I4 q7 14) < dy
    · refine yi_G_if2 true rfl (yi_gt_t h11) ?_
      exact yi_G_retv rfl rfl (⟨_, _, _, _, _, _, rfl, hPp13, by omega, by omega⟩)
    · refine yi_G_if2 false rfl (yi_gt_f h11) ?_
      refine yi_G_run 2 (26, [(3, .inl 0), (2, .inl dy), (0, .inr (.inr (some 10))), (1, .inr (.inr (some u)))], [], (I4, Lp13, R4, Y4), 0 + nc4, 0 + ns4) (fun _ => rfl) ?_
      have pt26 : ∀ (m_ : Nat) (pe : Int) (Lp26 : cl_I), (cl_P E I L R Y I4 Lp26 R4 Y4) → (0 ≤ pe ∧ pe ≤ 4) → (4 - pe).toNat = m_ → yi_G zi_Ms d zi_m158 (26, [(3, .inl pe), (2, .inl dy), (0, .inr (.inr (some 10))), (1, .inr (.inr (some u)))], [], (I4, Lp26, R4, Y4), 0 + nc4, 0 + ns4) (fun r => ∃ I', ∃ L', ∃ R', ∃ Y', ∃ nc ns, r = (none, (I', L', R', Y'), nc, ns) ∧ cl_P E I L R Y I' L' R' Y' ∧ nc ≤ 1 ∧ ns ≤ 513) := by
        intro m26
        induction m26 using Nat.strongRecOn with
        | _ m26 ih26 =>
        intro pe Lp26 hPp26 pe0 hm26
        refine yi_G_run 2 (28, [(3, .inl pe), (2, .inl dy), (0, .inr (.inr (some 10))), (1, .inr (.inr (some u)))], [.inr (.inr (some 10)), .inl pe], (I4, Lp26, R4, Y4), 0 + nc4, 0 + ns4) (fun _ => rfl) ?_
        refine cl_G_gr rfl (cl_T_K (cl_10 hPp26.1)) rfl rfl rfl e8 ?_
        have b12 := cl_rd hPp26.1 t9 (k := 15) (lo := 0) (hi := 4) rfl
        refine cl_G_gi rfl (cl_T_K t9) rfl rfl rfl ?_
        by_cases h13 : (I4 q7 15) ≤ pe
        · refine yi_G_if2 true rfl (yi_ge_t h13) ?_
          refine yi_G_iinc [(2, .inl (dy + 1)), (3, .inl pe), (0, .inr (.inr (some 10))), (1, .inr (.inr (some u)))] rfl rfl rfl (by rw [show yi_w (dy + 1) = dy + 1 from (yi_wn (by omega) (by omega)).trans (by omega)]; rfl) ?_
          refine yi_G_run 1 (13, [(2, .inl (dy + 1)), (3, .inl pe), (0, .inr (.inr (some 10))), (1, .inr (.inr (some u)))], [], (I4, Lp26, R4, Y4), 0 + nc4, 0 + ns4) (fun _ => rfl) ?_
          refine yi_G_al (al := [(2, .inl (dy + 1)), (0, .inr (.inr (some 10))), (1, .inr (.inr (some u)))]) (show ([2, 0, 1] : List Nat).Nodup by decide) (show ([2, 3, 0, 1] : List Nat).Nodup by decide) (yi_mc (List.mem_of_getElem? (i := 0) rfl) (yi_mc (List.mem_of_getElem? (i := 2) rfl) (yi_mc (List.mem_of_getElem? (i := 3) rfl) yi_mn))) ?_
          exact ih13 _ (by omega) (dy + 1) Lp26 hPp26 (by omega) rfl
        · refine yi_G_if2 false rfl (yi_ge_f h13) ?_
          refine yi_G_run 1 (38, [(3, .inl pe), (2, .inl dy), (0, .inr (.inr (some 10))), (1, .inr (.inr (some u)))], [.inr (.inr (some 10))], (I4, Lp26, R4, Y4), 0 + nc4, 0 + ns4) (fun _ => rfl) ?_
          obtain ⟨q14, e15, t16⟩ := cl_rf hPp26.1 (cl_10 hPp26.1) (k := 6) rfl
          refine cl_G_gr rfl (cl_T_K (cl_10 hPp26.1)) rfl rfl rfl e15 ?_
          refine yi_G_run 2 (43, [(3, .inl pe), (2, .inl dy), (0, .inr (.inr (some 10))), (1, .inr (.inr (some u)))], [.inl dy, .inl pe, .inr (.inr (some q14))], (I4, Lp26, R4, Y4), 0 + nc4, 0 + ns4) (fun _ => rfl) ?_
          refine yi_G_callv rfl rfl (cl_rcv t16 rfl) rfl (k_cameOf d (by omega) hPp26.1 t16 ) ?_
          rintro _ ⟨z17, rfl⟩
          show yi_G zi_Ms d zi_m158 (46, [(3, .inl pe), (2, .inl dy), (0, .inr (.inr (some 10))), (1, .inr (.inr (some u)))], [.inl z17], (I4, Lp26, R4, Y4), 0 + nc4, 0 + ns4) _
          refine yi_G_run 2 (49, [(4, .inl z17), (3, .inl pe), (2, .inl dy), (0, .inr (.inr (some 10))), (1, .inr (.inr (some u)))], [.inr (.inr (some 10))], (I4, Lp26, R4, Y4), 0 + nc4, 0 + ns4) (fun _ => rfl) ?_
          refine cl_G_gr rfl (cl_T_K (cl_10 hPp26.1)) rfl rfl rfl e8 ?_
          refine yi_G_run 1 (54, [(4, .inl z17), (3, .inl pe), (2, .inl dy), (0, .inr (.inr (some 10))), (1, .inr (.inr (some u)))], [.inl z17, .inr (.inr (some q7))], (I4, Lp26, R4, Y4), 0 + nc4, 0 + ns4) (fun _ => rfl) ?_
          refine yi_G_callv rfl rfl (cl_rcv t9 rfl) rfl (k_isEvent d (by omega) hPp26.1 t9 ) ?_
          rintro _ ⟨z18, rfl, hz18, x18a⟩
          show yi_G zi_Ms d zi_m158 (57, [(4, .inl z17), (3, .inl pe), (2, .inl dy), (0, .inr (.inr (some 10))), (1, .inr (.inr (some u)))], [.inl z18], (I4, Lp26, R4, Y4), 0 + nc4, 0 + ns4) _
          by_cases h19 : z18 = 0
          · refine yi_G_if1 true rfl (yi_eq_t h19) ?_
            refine yi_G_iinc [(3, .inl (pe + 1)), (4, .inl z17), (2, .inl dy), (0, .inr (.inr (some 10))), (1, .inr (.inr (some u)))] rfl rfl rfl (by rw [show yi_w (pe + 1) = pe + 1 from (yi_wn (by omega) (by omega)).trans (by omega)]; rfl) ?_
            refine yi_G_run 1 (26, [(3, .inl (pe + 1)), (4, .inl z17), (2, .inl dy), (0, .inr (.inr (some 10))), (1, .inr (.inr (some u)))], [], (I4, Lp26, R4, Y4), 0 + nc4, 0 + ns4) (fun _ => rfl) ?_
            refine yi_G_al (al := [(3, .inl (pe + 1)), (2, .inl dy), (0, .inr (.inr (some 10))), (1, .inr (.inr (some u)))]) (show ([3, 2, 0, 1] : List Nat).Nodup by decide) (show ([3, 4, 2, 0, 1] : List Nat).Nodup by decide) (yi_mc (List.mem_of_getElem? (i := 0) rfl) (yi_mc (List.mem_of_getElem? (i := 2) rfl) (yi_mc (List.mem_of_getElem? (i := 3) rfl) (yi_mc (List.mem_of_getElem? (i := 4) rfl) yi_mn)))) ?_
            exact ih26 _ (by omega) (pe + 1) Lp26 hPp26 (by omega) rfl
          · refine yi_G_if1 false rfl (yi_eq_f h19) ?_
            refine yi_G_run 2 (62, [(4, .inl z17), (3, .inl pe), (2, .inl dy), (0, .inr (.inr (some 10))), (1, .inr (.inr (some u)))], [.inr (.inr (some 10)), .inr (.inr (some u))], (I4, Lp26, R4, Y4), 0 + nc4, 0 + ns4) (fun _ => rfl) ?_
            refine cl_G_gr rfl (cl_T_K (cl_10 hPp26.1)) rfl rfl rfl (hPp26.1.2.2.2.1.2.2.2.2.2.2.1) ?_
            refine yi_G_run 3 (69, [(4, .inl z17), (3, .inl pe), (2, .inl dy), (0, .inr (.inr (some 10))), (1, .inr (.inr (some u)))], [.inl z17, .inl dy, .inl pe, .inr (.inr (some 34)), .inr (.inr (some u))], (I4, Lp26, R4, Y4), 0 + nc4, 0 + ns4) (fun _ => rfl) ?_
            refine yi_G_calls rfl rfl (k_wordNumber d (by omega) hPp26.1  ) ?_
            rintro _ ⟨z20, rfl⟩
            show yi_G zi_Ms d zi_m158 (72, [(4, .inl z17), (3, .inl pe), (2, .inl dy), (0, .inr (.inr (some 10))), (1, .inr (.inr (some u)))], [.inl z20, .inr (.inr (some 34)), .inr (.inr (some u))], (I4, Lp26, R4, Y4), 0 + nc4, 0 + ns4) _
            refine yi_G_callv rfl rfl (cl_rcv (cl_34 hPp26.1) rfl) rfl (k_wordRow d (by omega) hPp26.1 (cl_34 hPp26.1) ) ?_
            rintro _ ⟨q21, rfl, t21⟩
            show yi_G zi_Ms d zi_m158 (75, [(4, .inl z17), (3, .inl pe), (2, .inl dy), (0, .inr (.inr (some 10))), (1, .inr (.inr (some u)))], [.inr (.inr (some q21)), .inr (.inr (some u))], (I4, Lp26, R4, Y4), 0 + nc4, 0 + ns4) _
            refine yi_G_callv rfl rfl (cl_rcv t5 rfl) rfl (k_keep d (by omega) hPp26.1 t5 t21 ) ?_
            rintro _ ⟨L22, rfl, hQ22⟩
            have hP22 := cl_P_t hPp26 hQ22
            show yi_G zi_Ms d zi_m158 (78, [(4, .inl z17), (3, .inl pe), (2, .inl dy), (0, .inr (.inr (some 10))), (1, .inr (.inr (some u)))], [], (I4, L22, R4, Y4), 0 + nc4, 0 + ns4) _
            refine yi_G_iinc [(3, .inl (pe + 1)), (4, .inl z17), (2, .inl dy), (0, .inr (.inr (some 10))), (1, .inr (.inr (some u)))] rfl rfl rfl (by rw [show yi_w (pe + 1) = pe + 1 from (yi_wn (by omega) (by omega)).trans (by omega)]; rfl) ?_
            refine yi_G_run 1 (26, [(3, .inl (pe + 1)), (4, .inl z17), (2, .inl dy), (0, .inr (.inr (some 10))), (1, .inr (.inr (some u)))], [], (I4, L22, R4, Y4), 0 + nc4, 0 + ns4) (fun _ => rfl) ?_
            refine yi_G_al (al := [(3, .inl (pe + 1)), (2, .inl dy), (0, .inr (.inr (some 10))), (1, .inr (.inr (some u)))]) (show ([3, 2, 0, 1] : List Nat).Nodup by decide) (show ([3, 4, 2, 0, 1] : List Nat).Nodup by decide) (yi_mc (List.mem_of_getElem? (i := 0) rfl) (yi_mc (List.mem_of_getElem? (i := 2) rfl) (yi_mc (List.mem_of_getElem? (i := 3) rfl) (yi_mc (List.mem_of_getElem? (i := 4) rfl) yi_mn)))) ?_
            exact ih26 _ (by omega) (pe + 1) L22 hP22 (by omega) rfl
      exact pt26 _ 0 Lp13 hPp13 (by omega) rfl
  exact pt13 _ 1 L4 hP4 (by omega) rfl
theorem k_refreshLeftA (D : Nat) (hD : 4 ≤ D) {E : List Nat} {I L : cl_I} {R : cl_Rr} {Y : cl_Y} (hC : cl_C E I L R Y) : yi_E zi_Ms D 169 [.inr (.inr (some 10))] (I, L, R, Y) (fun r => ∃ I', ∃ L', ∃ R', ∃ Y', ∃ nc ns, r = (none, (I', L', R', Y'), nc, ns) ∧ cl_P E I L R Y I' L' R' Y' ∧ nc ≤ 1 ∧ ns ≤ 513) := by
  obtain ⟨d, rfl⟩ : ∃ d, D = d + 1 := ⟨D - 1, by omega⟩
  refine yi_E_of (M := zi_m169) rfl rfl ?_
  have hP : cl_P E I L R Y I L R Y := cl_P_r hC
  show yi_G zi_Ms d zi_m169 (0, [(0, .inr (.inr (some 10)))], [], (I, L, R, Y), 0, 0) _
  refine yi_G_run 2 (2, [(0, .inr (.inr (some 10)))], [.inr (.inr (some 10)), .inr (.inr (some 10))], (I, L, R, Y), 0, 0) (fun _ => rfl) ?_
  refine cl_G_gr rfl (cl_T_K (cl_10 hP.1)) rfl rfl rfl (hP.1.2.2.2.1.2.2.2.2.2.2.2.1) ?_
  refine yi_G_callv rfl rfl (cl_rcv (cl_10 hP.1) rfl) rfl (k_groundIntoA d (by omega) hP.1 (cl_58 hP.1) ) ?_
  rintro _ ⟨I1, L1, R1, Y1, nc1, ns1, rfl, hQ1, ca1, cb1⟩
  have hP1 := cl_P_t hP hQ1
  show yi_G zi_Ms d zi_m169 (8, [(0, .inr (.inr (some 10)))], [], (I1, L1, R1, Y1), 0 + nc1, 0 + ns1) _
  refine yi_G_run 2 (10, [(1, .inl 0), (0, .inr (.inr (some 10)))], [], (I1, L1, R1, Y1), 0 + nc1, 0 + ns1) (fun _ => rfl) ?_
  have pt10 : ∀ (m_ : Nat) (j : Int) (Lp10 : cl_I), (cl_P E I L R Y I1 Lp10 R1 Y1) → (0 ≤ j ∧ j ≤ 12) → (12 - j).toNat = m_ → yi_G zi_Ms d zi_m169 (10, [(1, .inl j), (0, .inr (.inr (some 10)))], [], (I1, Lp10, R1, Y1), 0 + nc1, 0 + ns1) (fun r => ∃ I', ∃ L', ∃ R', ∃ Y', ∃ nc ns, r = (none, (I', L', R', Y'), nc, ns) ∧ cl_P E I L R Y I' L' R' Y' ∧ nc ≤ 1 ∧ ns ≤ 513) := by
    intro m10
    induction m10 using Nat.strongRecOn with
    | _ m10 ih10 =>
    intro j Lp10 hPp10 j0 hm10
    refine yi_G_run 2 (12, [(1, .inl j), (0, .inr (.inr (some 10)))], [.inr (.inr (some 10)), .inl j], (I1, Lp10, R1, Y1), 0 + nc1, 0 + ns1) (fun _ => rfl) ?_
    obtain ⟨q2, e3, t4⟩ := cl_rf hPp10.1 (cl_10 hPp10.1) (k := 6) rfl
    refine cl_G_gr rfl (cl_T_K (cl_10 hPp10.1)) rfl rfl rfl e3 ?_
    have b5 := cl_rd hPp10.1 t4 (k := 6) (lo := 0) (hi := 12) rfl
    refine cl_G_gi rfl (cl_T_K t4) rfl rfl rfl ?_
    by_cases h6 : (I1 q2 6) ≤ j
    · refine yi_G_if2 true rfl (yi_ge_t h6) ?_
      exact yi_G_retv rfl rfl (⟨_, _, _, _, _, _, rfl, hPp10, by omega, by omega⟩)
    · refine yi_G_if2 false rfl (yi_ge_f h6) ?_
      refine yi_G_run 1 (22, [(1, .inl j), (0, .inr (.inr (some 10)))], [.inr (.inr (some 10))], (I1, Lp10, R1, Y1), 0 + nc1, 0 + ns1) (fun _ => rfl) ?_
      refine cl_G_gr rfl (cl_T_K (cl_10 hPp10.1)) rfl rfl rfl (hPp10.1.2.2.2.1.2.2.2.2.2.2.2.1) ?_
      refine yi_G_run 2 (27, [(1, .inl j), (0, .inr (.inr (some 10)))], [.inl j, .inr (.inr (some 10)), .inr (.inr (some 58))], (I1, Lp10, R1, Y1), 0 + nc1, 0 + ns1) (fun _ => rfl) ?_
      refine yi_G_callv rfl rfl (cl_rcv (cl_10 hPp10.1) rfl) rfl (k_sayingRowA d (by omega) hPp10.1  ) ?_
      rintro _ ⟨q7, rfl, t7⟩
      show yi_G zi_Ms d zi_m169 (30, [(1, .inl j), (0, .inr (.inr (some 10)))], [.inr (.inr (some q7)), .inr (.inr (some 58))], (I1, Lp10, R1, Y1), 0 + nc1, 0 + ns1) _
      refine yi_G_callv rfl rfl (cl_rcv (cl_58 hPp10.1) rfl) rfl (k_keep d (by omega) hPp10.1 (cl_58 hPp10.1) t7 ) ?_
      rintro _ ⟨L8, rfl, hQ8⟩
      have hP8 := cl_P_t hPp10 hQ8
      show yi_G zi_Ms d zi_m169 (33, [(1, .inl j), (0, .inr (.inr (some 10)))], [], (I1, L8, R1, Y1), 0 + nc1, 0 + ns1) _
      refine yi_G_iinc [(1, .inl (j + 1)), (0, .inr (.inr (some 10)))] rfl rfl rfl (by rw [show yi_w (j + 1) = j + 1 from (yi_wn (by omega) (by omega)).trans (by omega)]; rfl) ?_
      refine yi_G_run 1 (10, [(1, .inl (j + 1)), (0, .inr (.inr (some 10)))], [], (I1, L8, R1, Y1), 0 + nc1, 0 + ns1) (fun _ => rfl) ?_
      exact ih10 _ (by omega) (j + 1) L8 hP8 (by omega) rfl
  exact pt10 _ 0 L1 hP1 (by omega) rfl
theorem k_gatherWishesA (D : Nat) (hD : 4 ≤ D) {E : List Nat} {I L : cl_I} {R : cl_Rr} {Y : cl_Y} (hC : cl_C E I L R Y) : yi_E zi_Ms D 156 [.inr (.inr (some 10))] (I, L, R, Y) (fun r => ∃ I', ∃ L', ∃ R', ∃ Y', ∃ nc ns, r = (none, (I', L', R', Y'), nc, ns) ∧ cl_P E I L R Y I' L' R' Y' ∧ nc ≤ 1 ∧ ns ≤ 4096) := by
  obtain ⟨d, rfl⟩ : ∃ d, D = d + 1 := ⟨D - 1, by omega⟩
  refine yi_E_of (M := zi_m156) rfl rfl ?_
  have hP : cl_P E I L R Y I L R Y := cl_P_r hC
  show yi_G zi_Ms d zi_m156 (0, [(0, .inr (.inr (some 10)))], [], (I, L, R, Y), 0, 0) _
  refine yi_G_run 1 (1, [(0, .inr (.inr (some 10)))], [.inr (.inr (some 10))], (I, L, R, Y), 0, 0) (fun _ => rfl) ?_
  obtain ⟨q1, e2, t3⟩ := cl_rf hP.1 (cl_10 hP.1) (k := 4) rfl
  refine cl_G_gr rfl (cl_T_K (cl_10 hP.1)) rfl rfl rfl e2 ?_
  refine yi_G_callv rfl rfl (cl_rcv t3 rfl) rfl (k_beginJ d (by omega) hP.1 t3 ) ?_
  rintro _ ⟨I4, rfl, hQ4⟩
  have hP4 := cl_P_t hP hQ4
  show yi_G zi_Ms d zi_m156 (7, [(0, .inr (.inr (some 10)))], [], (I4, L, R, Y), 0, 0) _
  refine yi_G_run 2 (9, [(1, .inl 0), (0, .inr (.inr (some 10)))], [], (I4, L, R, Y), 0, 0) (fun _ => rfl) ?_
  have pt9 : ∀ (m_ : Nat) (j : Int) (Ip9 : cl_I) (Rp9 : cl_Rr), (cl_P E I L R Y Ip9 L Rp9 Y) → (0 ≤ j ∧ j ≤ 6) → (6 - j).toNat = m_ → yi_G zi_Ms d zi_m156 (9, [(1, .inl j), (0, .inr (.inr (some 10)))], [], (Ip9, L, Rp9, Y), 0, 0) (fun r => ∃ I', ∃ L', ∃ R', ∃ Y', ∃ nc ns, r = (none, (I', L', R', Y'), nc, ns) ∧ cl_P E I L R Y I' L' R' Y' ∧ nc ≤ 1 ∧ ns ≤ 4096) := by
    intro m9
    induction m9 using Nat.strongRecOn with
    | _ m9 ih9 =>
    intro j Ip9 Rp9 hPp9 j0 hm9
    refine yi_G_run 2 (11, [(1, .inl j), (0, .inr (.inr (some 10)))], [.inr (.inr (some 10)), .inl j], (Ip9, L, Rp9, Y), 0, 0) (fun _ => rfl) ?_
    obtain ⟨q5, e6, t7⟩ := cl_rf hPp9.1 (cl_10 hPp9.1) (k := 16) rfl
    refine cl_G_gr rfl (cl_T_K (cl_10 hPp9.1)) rfl rfl rfl e6 ?_
    have b8 := cl_rd hPp9.1 t7 (k := 19) (lo := 0) (hi := 6) rfl
    refine cl_G_gi rfl (cl_T_K t7) rfl rfl rfl ?_
    by_cases h9 : (Ip9 q5 19) ≤ j
    · refine yi_G_if2 true rfl (yi_ge_t h9) ?_
      refine yi_G_run 1 (42, [(1, .inl j), (0, .inr (.inr (some 10)))], [.inr (.inr (some 10))], (Ip9, L, Rp9, Y), 0, 0) (fun _ => rfl) ?_
      obtain ⟨q10, e11, t12⟩ := cl_rf hPp9.1 (cl_10 hPp9.1) (k := 4) rfl
      refine cl_G_gr rfl (cl_T_K (cl_10 hPp9.1)) rfl rfl rfl e11 ?_
      refine yi_G_run 1 (46, [(1, .inl j), (0, .inr (.inr (some 10)))], [.inr (.inr (some 10)), .inr (.inr (some q10))], (Ip9, L, Rp9, Y), 0, 0) (fun _ => rfl) ?_
      refine cl_G_gr rfl (cl_T_K (cl_10 hPp9.1)) rfl rfl rfl (hPp9.1.2.2.2.1.2.2.2.2.2.2.2.1) ?_
      refine yi_G_callv rfl rfl (cl_rcv t12 rfl) rfl (k_gather d (by omega) hPp9.1 t12 (cl_58 hPp9.1) ) ?_
      rintro _ ⟨I13, L13, R13, Y13, nc13, ns13, rfl, hQ13, ca13, cb13⟩
      have hP13 := cl_P_t hPp9 hQ13
      have t14 := cl_T_x t3 hQ13.2.1
      have t15 := cl_T_x t7 hQ13.2.1
      have t16 := cl_T_x t12 hQ13.2.1
      show yi_G zi_Ms d zi_m156 (52, [(1, .inl j), (0, .inr (.inr (some 10)))], [], (I13, L13, R13, Y13), 0 + nc13, 0 + ns13) _
      exact yi_G_retv rfl rfl (⟨_, _, _, _, _, _, rfl, hP13, by omega, by omega⟩)
    · refine yi_G_if2 false rfl (yi_ge_f h9) ?_
      refine yi_G_run 1 (21, [(1, .inl j), (0, .inr (.inr (some 10)))], [.inr (.inr (some 10))], (Ip9, L, Rp9, Y), 0, 0) (fun _ => rfl) ?_
      obtain ⟨q17, e18, t19⟩ := cl_rf hPp9.1 (cl_10 hPp9.1) (k := 4) rfl
      refine cl_G_gr rfl (cl_T_K (cl_10 hPp9.1)) rfl rfl rfl e18 ?_
      refine yi_G_run 1 (25, [(1, .inl j), (0, .inr (.inr (some 10)))], [.inr (.inr (some 10)), .inr (.inr (some q17))], (Ip9, L, Rp9, Y), 0, 0) (fun _ => rfl) ?_
      refine cl_G_gr rfl (cl_T_K (cl_10 hPp9.1)) rfl rfl rfl (hPp9.1.2.2.2.1.2.2.2.2.2.2.1) ?_
      refine yi_G_run 1 (29, [(1, .inl j), (0, .inr (.inr (some 10)))], [.inl j, .inr (.inr (some 34)), .inr (.inr (some q17))], (Ip9, L, Rp9, Y), 0, 0) (fun _ => rfl) ?_
      refine yi_G_callv rfl rfl (cl_rcv (cl_34 hPp9.1) rfl) rfl (k_wishRow d (by omega) hPp9.1 (cl_34 hPp9.1) ) ?_
      rintro _ ⟨q20, rfl, t20⟩
      show yi_G zi_Ms d zi_m156 (32, [(1, .inl j), (0, .inr (.inr (some 10)))], [.inr (.inr (some q20)), .inr (.inr (some q17))], (Ip9, L, Rp9, Y), 0, 0) _
      refine yi_G_callv rfl rfl (cl_rcv t19 rfl) rfl (k_addRow d (by omega) hPp9.1 t19 t20 ) ?_
      rintro _ ⟨I21, R21, rfl, hQ21⟩
      have hP21 := cl_P_t hPp9 hQ21
      show yi_G zi_Ms d zi_m156 (35, [(1, .inl j), (0, .inr (.inr (some 10)))], [], (I21, L, R21, Y), 0, 0) _
      refine yi_G_iinc [(1, .inl (j + 1)), (0, .inr (.inr (some 10)))] rfl rfl rfl (by rw [show yi_w (j + 1) = j + 1 from (yi_wn (by omega) (by omega)).trans (by omega)]; rfl) ?_
      refine yi_G_run 1 (9, [(1, .inl (j + 1)), (0, .inr (.inr (some 10)))], [], (I21, L, R21, Y), 0, 0) (fun _ => rfl) ?_
      exact ih9 _ (by omega) (j + 1) I21 R21 hP21 (by omega) rfl
  exact pt9 _ 0 I4 R hP4 (by omega) rfl
theorem k_grandSayingsA (D : Nat) (hD : 3 ≤ D) {E : List Nat} {I L : cl_I} {R : cl_Rr} {Y : cl_Y} (hC : cl_C E I L R Y) : yi_E zi_Ms D 157 [.inr (.inr (some 10))] (I, L, R, Y) (fun r => ∃ z, r = (some (.inl z), (I, L, R, Y), 0, 0)) := by
  obtain ⟨d, rfl⟩ : ∃ d, D = d + 1 := ⟨D - 1, by omega⟩
  refine yi_E_of (M := zi_m157) rfl rfl ?_
  have hP : cl_P E I L R Y I L R Y := cl_P_r hC
  show yi_G zi_Ms d zi_m157 (0, [(0, .inr (.inr (some 10)))], [], (I, L, R, Y), 0, 0) _
  refine yi_G_run 4 (4, [(2, .inl 0), (1, .inl 0), (0, .inr (.inr (some 10)))], [], (I, L, R, Y), 0, 0) (fun _ => rfl) ?_
  have pt4 : ∀ (m_ : Nat) (j : Int) (y : Int), (0 ≤ j ∧ j ≤ 12) → (12 - j).toNat = m_ → yi_G zi_Ms d zi_m157 (4, [(2, .inl j), (1, .inl y), (0, .inr (.inr (some 10)))], [], (I, L, R, Y), 0, 0) (fun r => ∃ z, r = (some (.inl z), (I, L, R, Y), 0, 0)) := by
    intro m4
    induction m4 using Nat.strongRecOn with
    | _ m4 ih4 =>
    intro j y j0 hm4
    refine yi_G_run 2 (6, [(2, .inl j), (1, .inl y), (0, .inr (.inr (some 10)))], [.inr (.inr (some 10)), .inl j], (I, L, R, Y), 0, 0) (fun _ => rfl) ?_
    obtain ⟨q1, e2, t3⟩ := cl_rf hP.1 (cl_10 hP.1) (k := 6) rfl
    refine cl_G_gr rfl (cl_T_K (cl_10 hP.1)) rfl rfl rfl e2 ?_
    have b4 := cl_rd hP.1 t3 (k := 6) (lo := 0) (hi := 12) rfl
    refine cl_G_gi rfl (cl_T_K t3) rfl rfl rfl ?_
    by_cases h5 : (I q1 6) ≤ j
    · refine yi_G_if2 true rfl (yi_ge_t h5) ?_
      refine yi_G_run 1 (56, [(2, .inl j), (1, .inl y), (0, .inr (.inr (some 10)))], [.inl y], (I, L, R, Y), 0, 0) (fun _ => rfl) ?_
      exact yi_G_reti rfl rfl (⟨_, rfl⟩)
    · refine yi_G_if2 false rfl (yi_ge_f h5) ?_
      refine yi_G_run 1 (16, [(2, .inl j), (1, .inl y), (0, .inr (.inr (some 10)))], [.inr (.inr (some 10))], (I, L, R, Y), 0, 0) (fun _ => rfl) ?_
      refine cl_G_gr rfl (cl_T_K (cl_10 hP.1)) rfl rfl rfl e2 ?_
      refine yi_G_run 1 (20, [(2, .inl j), (1, .inl y), (0, .inr (.inr (some 10)))], [.inl j, .inr (.inr (some q1))], (I, L, R, Y), 0, 0) (fun _ => rfl) ?_
      refine yi_G_callv rfl rfl (cl_rcv t3 rfl) rfl (k_sayingAt d (by omega) hP.1 t3 ) ?_
      rintro _ (⟨q6, rfl, t6⟩ | rfl)
      · show yi_G zi_Ms d zi_m157 (23, [(2, .inl j), (1, .inl y), (0, .inr (.inr (some 10)))], [.inr (.inr (some q6))], (I, L, R, Y), 0, 0) _
        refine yi_G_run 2 (25, [(3, .inr (.inr (some q6))), (2, .inl j), (1, .inl y), (0, .inr (.inr (some 10)))], [.inr (.inr (some q6))], (I, L, R, Y), 0, 0) (fun _ => rfl) ?_
        refine cl_G_nul false rfl rfl ?_
        refine yi_G_run 1 (29, [(3, .inr (.inr (some q6))), (2, .inl j), (1, .inl y), (0, .inr (.inr (some 10)))], [.inr (.inr (some 10))], (I, L, R, Y), 0, 0) (fun _ => rfl) ?_
        obtain ⟨q7, e8, t9⟩ := cl_rf hP.1 (cl_10 hP.1) (k := 16) rfl
        refine cl_G_gr rfl (cl_T_K (cl_10 hP.1)) rfl rfl rfl e8 ?_
        refine yi_G_run 1 (33, [(3, .inr (.inr (some q6))), (2, .inl j), (1, .inl y), (0, .inr (.inr (some 10)))], [.inr (.inr (some q6)), .inr (.inr (some q7))], (I, L, R, Y), 0, 0) (fun _ => rfl) ?_
        refine cl_G_gi rfl (cl_T_K t6) rfl rfl rfl ?_
        refine yi_G_callv rfl rfl (cl_rcv t9 rfl) rfl (k_kindOf d (by omega) hP.1 t9 ) ?_
        rintro _ ⟨z10, rfl⟩
        show yi_G zi_Ms d zi_m157 (39, [(3, .inr (.inr (some q6))), (2, .inl j), (1, .inl y), (0, .inr (.inr (some 10)))], [.inl z10], (I, L, R, Y), 0, 0) _
        refine yi_G_run 1 (40, [(3, .inr (.inr (some q6))), (2, .inl j), (1, .inl y), (0, .inr (.inr (some 10)))], [.inl 3, .inl z10], (I, L, R, Y), 0, 0) (fun _ => rfl) ?_
        by_cases h11 : z10 = 3
        · refine yi_G_if2 false rfl (yi_ne_f h11) ?_
          refine yi_G_run 6 (49, [(1, .inl (yi_ior y (yi_shl 1 j))), (3, .inr (.inr (some q6))), (2, .inl j), (0, .inr (.inr (some 10)))], [], (I, L, R, Y), 0, 0) (fun _ => rfl) ?_
          refine yi_G_iinc [(2, .inl (j + 1)), (1, .inl (yi_ior y (yi_shl 1 j))), (3, .inr (.inr (some q6))), (0, .inr (.inr (some 10)))] rfl rfl rfl (by rw [show yi_w (j + 1) = j + 1 from (yi_wn (by omega) (by omega)).trans (by omega)]; rfl) ?_
          refine yi_G_run 1 (4, [(2, .inl (j + 1)), (1, .inl (yi_ior y (yi_shl 1 j))), (3, .inr (.inr (some q6))), (0, .inr (.inr (some 10)))], [], (I, L, R, Y), 0, 0) (fun _ => rfl) ?_
          refine yi_G_al (al := [(2, .inl (j + 1)), (1, .inl (yi_ior y (yi_shl 1 j))), (0, .inr (.inr (some 10)))]) (show ([2, 1, 0] : List Nat).Nodup by decide) (show ([2, 1, 3, 0] : List Nat).Nodup by decide) (yi_mc (List.mem_of_getElem? (i := 0) rfl) (yi_mc (List.mem_of_getElem? (i := 1) rfl) (yi_mc (List.mem_of_getElem? (i := 3) rfl) yi_mn))) ?_
          exact ih4 _ (by omega) (j + 1) (yi_ior y (yi_shl 1 j)) (by omega) rfl
        · refine yi_G_if2 true rfl (yi_ne_t h11) ?_
          refine yi_G_iinc [(2, .inl (j + 1)), (3, .inr (.inr (some q6))), (1, .inl y), (0, .inr (.inr (some 10)))] rfl rfl rfl (by rw [show yi_w (j + 1) = j + 1 from (yi_wn (by omega) (by omega)).trans (by omega)]; rfl) ?_
          refine yi_G_run 1 (4, [(2, .inl (j + 1)), (3, .inr (.inr (some q6))), (1, .inl y), (0, .inr (.inr (some 10)))], [], (I, L, R, Y), 0, 0) (fun _ => rfl) ?_
          refine yi_G_al (al := [(2, .inl (j + 1)), (1, .inl y), (0, .inr (.inr (some 10)))]) (show ([2, 1, 0] : List Nat).Nodup by decide) (show ([2, 3, 1, 0] : List Nat).Nodup by decide) (yi_mc (List.mem_of_getElem? (i := 0) rfl) (yi_mc (List.mem_of_getElem? (i := 2) rfl) (yi_mc (List.mem_of_getElem? (i := 3) rfl) yi_mn))) ?_
          exact ih4 _ (by omega) (j + 1) y (by omega) rfl
      · show yi_G zi_Ms d zi_m157 (23, [(2, .inl j), (1, .inl y), (0, .inr (.inr (some 10)))], [.inr (.inr none)], (I, L, R, Y), 0, 0) _
        refine yi_G_run 2 (25, [(3, .inr (.inr none)), (2, .inl j), (1, .inl y), (0, .inr (.inr (some 10)))], [.inr (.inr none)], (I, L, R, Y), 0, 0) (fun _ => rfl) ?_
        refine cl_G_nul true rfl rfl ?_
        refine yi_G_iinc [(2, .inl (j + 1)), (3, .inr (.inr none)), (1, .inl y), (0, .inr (.inr (some 10)))] rfl rfl rfl (by rw [show yi_w (j + 1) = j + 1 from (yi_wn (by omega) (by omega)).trans (by omega)]; rfl) ?_
        refine yi_G_run 1 (4, [(2, .inl (j + 1)), (3, .inr (.inr none)), (1, .inl y), (0, .inr (.inr (some 10)))], [], (I, L, R, Y), 0, 0) (fun _ => rfl) ?_
        refine yi_G_al (al := [(2, .inl (j + 1)), (1, .inl y), (0, .inr (.inr (some 10)))]) (show ([2, 1, 0] : List Nat).Nodup by decide) (show ([2, 3, 1, 0] : List Nat).Nodup by decide) (yi_mc (List.mem_of_getElem? (i := 0) rfl) (yi_mc (List.mem_of_getElem? (i := 2) rfl) (yi_mc (List.mem_of_getElem? (i := 3) rfl) yi_mn))) ?_
        exact ih4 _ (by omega) (j + 1) y (by omega) rfl
  exact pt4 _ 0 0 (by omega) rfl
theorem k_coinsOfA (D : Nat) (hD : 3 ≤ D) {E : List Nat} {I L : cl_I} {R : cl_Rr} {Y : cl_Y} (hC : cl_C E I L R Y) {x : Int} : yi_E zi_Ms D 144 [.inr (.inr (some 10)), .inl x] (I, L, R, Y) (fun r => ∃ z, r = (some (.inl z), (I, L, R, Y), 0, 0)) := by
  obtain ⟨d, rfl⟩ : ∃ d, D = d + 1 := ⟨D - 1, by omega⟩
  refine yi_E_of (M := zi_m144) rfl rfl ?_
  have hP : cl_P E I L R Y I L R Y := cl_P_r hC
  show yi_G zi_Ms d zi_m144 (0, [(0, .inr (.inr (some 10))), (1, .inl x)], [], (I, L, R, Y), 0, 0) _
  refine yi_G_run 4 (4, [(3, .inl 0), (2, .inl 0), (0, .inr (.inr (some 10))), (1, .inl x)], [], (I, L, R, Y), 0, 0) (fun _ => rfl) ?_
  have pt4 : ∀ (m_ : Nat) (j : Int) (y : Int), (0 ≤ j ∧ j ≤ 6) → (6 - j).toNat = m_ → yi_G zi_Ms d zi_m144 (4, [(3, .inl j), (2, .inl y), (0, .inr (.inr (some 10))), (1, .inl x)], [], (I, L, R, Y), 0, 0) (fun r => ∃ z, r = (some (.inl z), (I, L, R, Y), 0, 0)) := by
    intro m4
    induction m4 using Nat.strongRecOn with
    | _ m4 ih4 =>
    intro j y j0 hm4
    refine yi_G_run 2 (6, [(3, .inl j), (2, .inl y), (0, .inr (.inr (some 10))), (1, .inl x)], [.inr (.inr (some 10)), .inl j], (I, L, R, Y), 0, 0) (fun _ => rfl) ?_
    obtain ⟨q1, e2, t3⟩ := cl_rf hP.1 (cl_10 hP.1) (k := 16) rfl
    refine cl_G_gr rfl (cl_T_K (cl_10 hP.1)) rfl rfl rfl e2 ?_
    have b4 := cl_rd hP.1 t3 (k := 19) (lo := 0) (hi := 6) rfl
    refine cl_G_gi rfl (cl_T_K t3) rfl rfl rfl ?_
    by_cases h5 : (I q1 19) ≤ j
    · refine yi_G_if2 true rfl (yi_ge_t h5) ?_
      refine yi_G_run 1 (39, [(3, .inl j), (2, .inl y), (0, .inr (.inr (some 10))), (1, .inl x)], [.inl y], (I, L, R, Y), 0, 0) (fun _ => rfl) ?_
      exact yi_G_reti rfl rfl (⟨_, rfl⟩)
    · refine yi_G_if2 false rfl (yi_ge_f h5) ?_
      refine yi_G_run 7 (22, [(3, .inl j), (2, .inl y), (0, .inr (.inr (some 10))), (1, .inl x)], [.inr (.inr (some 10)), .inl (yi_iand (yi_shr x j) 1), .inl y], (I, L, R, Y), 0, 0) (fun _ => rfl) ?_
      refine cl_G_gr rfl (cl_T_K (cl_10 hP.1)) rfl rfl rfl e2 ?_
      refine yi_G_run 1 (26, [(3, .inl j), (2, .inl y), (0, .inr (.inr (some 10))), (1, .inl x)], [.inl j, .inr (.inr (some q1)), .inl (yi_iand (yi_shr x j) 1), .inl y], (I, L, R, Y), 0, 0) (fun _ => rfl) ?_
      refine yi_G_callv rfl rfl (cl_rcv t3 rfl) rfl (k_wishCoins d (by omega) hP.1 t3 ) ?_
      rintro _ ⟨z6, rfl⟩
      show yi_G zi_Ms d zi_m144 (29, [(3, .inl j), (2, .inl y), (0, .inr (.inr (some 10))), (1, .inl x)], [.inl z6, .inl (yi_iand (yi_shr x j) 1), .inl y], (I, L, R, Y), 0, 0) _
      refine yi_G_run 3 (32, [(2, .inl (yi_w (y + (yi_w ((yi_iand (yi_shr x j) 1) * z6))))), (3, .inl j), (0, .inr (.inr (some 10))), (1, .inl x)], [], (I, L, R, Y), 0, 0) (fun _ => rfl) ?_
      refine yi_G_iinc [(3, .inl (j + 1)), (2, .inl (yi_w (y + (yi_w ((yi_iand (yi_shr x j) 1) * z6))))), (0, .inr (.inr (some 10))), (1, .inl x)] rfl rfl rfl (by rw [show yi_w (j + 1) = j + 1 from (yi_wn (by omega) (by omega)).trans (by omega)]; rfl) ?_
      refine yi_G_run 1 (4, [(3, .inl (j + 1)), (2, .inl (yi_w (y + (yi_w ((yi_iand (yi_shr x j) 1) * z6))))), (0, .inr (.inr (some 10))), (1, .inl x)], [], (I, L, R, Y), 0, 0) (fun _ => rfl) ?_
      exact ih4 _ (by omega) (j + 1) (yi_w (y + (yi_w ((yi_iand (yi_shr x j) 1) * z6)))) (by omega) rfl
  exact pt4 _ 0 0 (by omega) rfl
theorem k_gatherAskedA (D : Nat) (hD : 4 ≤ D) {E : List Nat} {I L : cl_I} {R : cl_Rr} {Y : cl_Y} (hC : cl_C E I L R Y) : yi_E zi_Ms D 154 [.inr (.inr (some 10))] (I, L, R, Y) (fun r => ∃ z, ∃ I', ∃ L', ∃ R', ∃ Y', ∃ nc ns, r = (some (.inl z), (I', L', R', Y'), nc, ns) ∧ cl_P E I L R Y I' L' R' Y' ∧ nc ≤ 2 ∧ ns ≤ 4609 ∧ (z = 0 ∨ z = 1)) := by
  obtain ⟨d, rfl⟩ : ∃ d, D = d + 1 := ⟨D - 1, by omega⟩
  refine yi_E_of (M := zi_m154) rfl rfl ?_
  have hP : cl_P E I L R Y I L R Y := cl_P_r hC
  show yi_G zi_Ms d zi_m154 (0, [(0, .inr (.inr (some 10)))], [], (I, L, R, Y), 0, 0) _
  refine yi_G_run 1 (1, [(0, .inr (.inr (some 10)))], [.inr (.inr (some 10))], (I, L, R, Y), 0, 0) (fun _ => rfl) ?_
  obtain ⟨q1, e2, t3⟩ := cl_rf hP.1 (cl_10 hP.1) (k := 6) rfl
  refine cl_G_gr rfl (cl_T_K (cl_10 hP.1)) rfl rfl rfl e2 ?_
  rcases cl_ro hP.1 t3 (k := 5) rfl with e5 | ⟨q4, e5, t6⟩
  · refine cl_G_gr rfl (cl_T_K t3) rfl rfl rfl e5 ?_
    refine yi_G_run 2 (9, [(1, .inr (.inr none)), (0, .inr (.inr (some 10)))], [.inr (.inr none)], (I, L, R, Y), 0, 0) (fun _ => rfl) ?_
    refine cl_G_nnl true rfl rfl ?_
    refine yi_G_run 1 (13, [(1, .inr (.inr none)), (0, .inr (.inr (some 10)))], [.inl 0], (I, L, R, Y), 0, 0) (fun _ => rfl) ?_
    exact yi_G_retb rfl rfl (by decide) (⟨_, _, _, _, _, _, _, rfl, hP, by omega, by omega, by decide⟩)
  · refine cl_G_gr rfl (cl_T_K t3) rfl rfl rfl e5 ?_
    refine yi_G_run 2 (9, [(1, .inr (.inr (some q4))), (0, .inr (.inr (some 10)))], [.inr (.inr (some q4))], (I, L, R, Y), 0, 0) (fun _ => rfl) ?_
    refine cl_G_nnl false rfl rfl ?_
    refine yi_G_run 2 (16, [(1, .inr (.inr (some q4))), (0, .inr (.inr (some 10)))], [.inr (.inr (some 10)), .inr (.inr (some 10))], (I, L, R, Y), 0, 0) (fun _ => rfl) ?_
    refine cl_G_gr rfl (cl_T_K (cl_10 hP.1)) rfl rfl rfl (hP.1.2.2.2.1.2.2.2.2.2.2.2.2.1) ?_
    refine yi_G_callv rfl rfl (cl_rcv (cl_10 hP.1) rfl) rfl (k_groundIntoA d (by omega) hP.1 (cl_60 hP.1) ) ?_
    rintro _ ⟨I7, L7, R7, Y7, nc7, ns7, rfl, hQ7, ca7, cb7⟩
    have hP7 := cl_P_t hP hQ7
    have t8 := cl_T_x t3 hQ7.2.1
    have t9 := cl_T_x t6 hQ7.2.1
    show yi_G zi_Ms d zi_m154 (22, [(1, .inr (.inr (some q4))), (0, .inr (.inr (some 10)))], [], (I7, L7, R7, Y7), 0 + nc7, 0 + ns7) _
    refine yi_G_run 1 (23, [(1, .inr (.inr (some q4))), (0, .inr (.inr (some 10)))], [.inr (.inr (some 10))], (I7, L7, R7, Y7), 0 + nc7, 0 + ns7) (fun _ => rfl) ?_
    refine cl_G_gr rfl (cl_T_K (cl_10 hP7.1)) rfl rfl rfl (hP7.1.2.2.2.1.2.2.2.2.2.2.2.2.1) ?_
    refine yi_G_run 1 (27, [(1, .inr (.inr (some q4))), (0, .inr (.inr (some 10)))], [.inr (.inr (some q4)), .inr (.inr (some 60))], (I7, L7, R7, Y7), 0 + nc7, 0 + ns7) (fun _ => rfl) ?_
    refine yi_G_callv rfl rfl (cl_rcv (cl_60 hP7.1) rfl) rfl (k_keep d (by omega) hP7.1 (cl_60 hP7.1) t9 ) ?_
    rintro _ ⟨L10, rfl, hQ10⟩
    have hP10 := cl_P_t hP7 hQ10
    show yi_G zi_Ms d zi_m154 (30, [(1, .inr (.inr (some q4))), (0, .inr (.inr (some 10)))], [], (I7, L10, R7, Y7), 0 + nc7, 0 + ns7) _
    refine yi_G_run 1 (31, [(1, .inr (.inr (some q4))), (0, .inr (.inr (some 10)))], [.inr (.inr (some 10))], (I7, L10, R7, Y7), 0 + nc7, 0 + ns7) (fun _ => rfl) ?_
    obtain ⟨q11, e12, t13⟩ := cl_rf hP10.1 (cl_10 hP10.1) (k := 4) rfl
    refine cl_G_gr rfl (cl_T_K (cl_10 hP10.1)) rfl rfl rfl e12 ?_
    refine yi_G_callv rfl rfl (cl_rcv t13 rfl) rfl (k_beginJ d (by omega) hP10.1 t13 ) ?_
    rintro _ ⟨I14, rfl, hQ14⟩
    have hP14 := cl_P_t hP10 hQ14
    show yi_G zi_Ms d zi_m154 (37, [(1, .inr (.inr (some q4))), (0, .inr (.inr (some 10)))], [], (I14, L10, R7, Y7), 0 + nc7, 0 + ns7) _
    refine yi_G_run 2 (39, [(2, .inl 0), (1, .inr (.inr (some q4))), (0, .inr (.inr (some 10)))], [], (I14, L10, R7, Y7), 0 + nc7, 0 + ns7) (fun _ => rfl) ?_
    have pt39 : ∀ (m_ : Nat) (j : Int) (Ip39 : cl_I) (Rp39 : cl_Rr), (cl_P E I L R Y Ip39 L10 Rp39 Y7) → (0 ≤ j ∧ j ≤ 12) → (12 - j).toNat = m_ → yi_G zi_Ms d zi_m154 (39, [(2, .inl j), (1, .inr (.inr (some q4))), (0, .inr (.inr (some 10)))], [], (Ip39, L10, Rp39, Y7), 0 + nc7, 0 + ns7) (fun r => ∃ z, ∃ I', ∃ L', ∃ R', ∃ Y', ∃ nc ns, r = (some (.inl z), (I', L', R', Y'), nc, ns) ∧ cl_P E I L R Y I' L' R' Y' ∧ nc ≤ 2 ∧ ns ≤ 4609 ∧ (z = 0 ∨ z = 1)) := by
      intro m39
      induction m39 using Nat.strongRecOn with
      | _ m39 ih39 =>
      intro j Ip39 Rp39 hPp39 j0 hm39
      refine yi_G_run 2 (41, [(2, .inl j), (1, .inr (.inr (some q4))), (0, .inr (.inr (some 10)))], [.inr (.inr (some 10)), .inl j], (Ip39, L10, Rp39, Y7), 0 + nc7, 0 + ns7) (fun _ => rfl) ?_
      obtain ⟨q15, e16, t17⟩ := cl_rf hPp39.1 (cl_10 hPp39.1) (k := 6) rfl
      refine cl_G_gr rfl (cl_T_K (cl_10 hPp39.1)) rfl rfl rfl e16 ?_
      have b18 := cl_rd hPp39.1 t17 (k := 6) (lo := 0) (hi := 12) rfl
      refine cl_G_gi rfl (cl_T_K t17) rfl rfl rfl ?_
      by_cases h19 : (Ip39 q15 6) ≤ j
      · refine yi_G_if2 true rfl (yi_ge_t h19) ?_
        refine yi_G_run 1 (69, [(2, .inl j), (1, .inr (.inr (some q4))), (0, .inr (.inr (some 10)))], [.inr (.inr (some 10))], (Ip39, L10, Rp39, Y7), 0 + nc7, 0 + ns7) (fun _ => rfl) ?_
        obtain ⟨q20, e21, t22⟩ := cl_rf hPp39.1 (cl_10 hPp39.1) (k := 4) rfl
        refine cl_G_gr rfl (cl_T_K (cl_10 hPp39.1)) rfl rfl rfl e21 ?_
        refine yi_G_run 1 (73, [(2, .inl j), (1, .inr (.inr (some q4))), (0, .inr (.inr (some 10)))], [.inr (.inr (some 10)), .inr (.inr (some q20))], (Ip39, L10, Rp39, Y7), 0 + nc7, 0 + ns7) (fun _ => rfl) ?_
        refine cl_G_gr rfl (cl_T_K (cl_10 hPp39.1)) rfl rfl rfl (hPp39.1.2.2.2.1.2.2.2.2.2.2.2.2.1) ?_
        refine yi_G_callv rfl rfl (cl_rcv t22 rfl) rfl (k_gather d (by omega) hPp39.1 t22 (cl_60 hPp39.1) ) ?_
        rintro _ ⟨I23, L23, R23, Y23, nc23, ns23, rfl, hQ23, ca23, cb23⟩
        have hP23 := cl_P_t hPp39 hQ23
        have t24 := cl_T_x t8 hQ23.2.1
        have t25 := cl_T_x t9 hQ23.2.1
        have t26 := cl_T_x t13 hQ23.2.1
        have t27 := cl_T_x t17 hQ23.2.1
        have t28 := cl_T_x t22 hQ23.2.1
        show yi_G zi_Ms d zi_m154 (79, [(2, .inl j), (1, .inr (.inr (some q4))), (0, .inr (.inr (some 10)))], [], (I23, L23, R23, Y23), 0 + nc7 + nc23, 0 + ns7 + ns23) _
        refine yi_G_run 1 (80, [(2, .inl j), (1, .inr (.inr (some q4))), (0, .inr (.inr (some 10)))], [.inl 1], (I23, L23, R23, Y23), 0 + nc7 + nc23, 0 + ns7 + ns23) (fun _ => rfl) ?_
        exact yi_G_retb rfl rfl (by decide) (⟨_, _, _, _, _, _, _, rfl, hP23, by omega, by omega, by decide⟩)
      · refine yi_G_if2 false rfl (yi_ge_f h19) ?_
        refine yi_G_run 1 (51, [(2, .inl j), (1, .inr (.inr (some q4))), (0, .inr (.inr (some 10)))], [.inr (.inr (some 10))], (Ip39, L10, Rp39, Y7), 0 + nc7, 0 + ns7) (fun _ => rfl) ?_
        obtain ⟨q29, e30, t31⟩ := cl_rf hPp39.1 (cl_10 hPp39.1) (k := 4) rfl
        refine cl_G_gr rfl (cl_T_K (cl_10 hPp39.1)) rfl rfl rfl e30 ?_
        refine yi_G_run 2 (56, [(2, .inl j), (1, .inr (.inr (some q4))), (0, .inr (.inr (some 10)))], [.inl j, .inr (.inr (some 10)), .inr (.inr (some q29))], (Ip39, L10, Rp39, Y7), 0 + nc7, 0 + ns7) (fun _ => rfl) ?_
        refine yi_G_callv rfl rfl (cl_rcv (cl_10 hPp39.1) rfl) rfl (k_sayingRowA d (by omega) hPp39.1  ) ?_
        rintro _ ⟨q32, rfl, t32⟩
        show yi_G zi_Ms d zi_m154 (59, [(2, .inl j), (1, .inr (.inr (some q4))), (0, .inr (.inr (some 10)))], [.inr (.inr (some q32)), .inr (.inr (some q29))], (Ip39, L10, Rp39, Y7), 0 + nc7, 0 + ns7) _
        refine yi_G_callv rfl rfl (cl_rcv t31 rfl) rfl (k_addRow d (by omega) hPp39.1 t31 t32 ) ?_
        rintro _ ⟨I33, R33, rfl, hQ33⟩
        have hP33 := cl_P_t hPp39 hQ33
        show yi_G zi_Ms d zi_m154 (62, [(2, .inl j), (1, .inr (.inr (some q4))), (0, .inr (.inr (some 10)))], [], (I33, L10, R33, Y7), 0 + nc7, 0 + ns7) _
        refine yi_G_iinc [(2, .inl (j + 1)), (1, .inr (.inr (some q4))), (0, .inr (.inr (some 10)))] rfl rfl rfl (by rw [show yi_w (j + 1) = j + 1 from (yi_wn (by omega) (by omega)).trans (by omega)]; rfl) ?_
        refine yi_G_run 1 (39, [(2, .inl (j + 1)), (1, .inr (.inr (some q4))), (0, .inr (.inr (some 10)))], [], (I33, L10, R33, Y7), 0 + nc7, 0 + ns7) (fun _ => rfl) ?_
        exact ih39 _ (by omega) (j + 1) I33 R33 hP33 (by omega) rfl
    exact pt39 _ 0 I14 R7 hP14 (by omega) rfl
theorem k_gatherOpenA (D : Nat) (hD : 4 ≤ D) {E : List Nat} {I L : cl_I} {R : cl_Rr} {Y : cl_Y} (hC : cl_C E I L R Y) : yi_E zi_Ms D 155 [.inr (.inr (some 10))] (I, L, R, Y) (fun r => ∃ z, ∃ I', r = (some (.inl z), (I', L, R, Y), 0, 0) ∧ cl_P E I L R Y I' L R Y ∧ (0 ≤ z ∧ z ≤ 96)) := by
  obtain ⟨d, rfl⟩ : ∃ d, D = d + 1 := ⟨D - 1, by omega⟩
  refine yi_E_of (M := zi_m155) rfl rfl ?_
  have hP : cl_P E I L R Y I L R Y := cl_P_r hC
  show yi_G zi_Ms d zi_m155 (0, [(0, .inr (.inr (some 10)))], [], (I, L, R, Y), 0, 0) _
  refine yi_G_run 4 (4, [(2, .inl 1), (1, .inl 0), (0, .inr (.inr (some 10)))], [], (I, L, R, Y), 0, 0) (fun _ => rfl) ?_
  have pt4 : ∀ (m_ : Nat) (dy : Int) (y : Int) (Ip4 : cl_I), (cl_P E I L R Y Ip4 L R Y) → (1 ≤ dy ∧ dy ≤ 7) → (0 ≤ y ∧ y ≤ 96) → (7 - dy).toNat = m_ → yi_G zi_Ms d zi_m155 (4, [(2, .inl dy), (1, .inl y), (0, .inr (.inr (some 10)))], [], (Ip4, L, R, Y), 0, 0) (fun r => ∃ z, ∃ I', r = (some (.inl z), (I', L, R, Y), 0, 0) ∧ cl_P E I L R Y I' L R Y ∧ (0 ≤ z ∧ z ≤ 96)) := by
    intro m4
    induction m4 using Nat.strongRecOn with
    | _ m4 ih4 =>
    intro dy y Ip4 hPp4 dy0 y0 hm4
    refine yi_G_run 2 (6, [(2, .inl dy), (1, .inl y), (0, .inr (.inr (some 10)))], [.inr (.inr (some 10)), .inl dy], (Ip4, L, R, Y), 0, 0) (fun _ => rfl) ?_
    obtain ⟨q1, e2, t3⟩ := cl_rf hPp4.1 (cl_10 hPp4.1) (k := 16) rfl
    refine cl_G_gr rfl (cl_T_K (cl_10 hPp4.1)) rfl rfl rfl e2 ?_
    have b4 := cl_rd hPp4.1 t3 (k := 14) (lo := 1) (hi := 6) rfl
    refine cl_G_gi rfl (cl_T_K t3) rfl rfl rfl ?_
    by_cases h5 : (Ip4 q1 14) < dy
    · refine yi_G_if2 true rfl (yi_gt_t h5) ?_
      refine yi_G_run 1 (126, [(2, .inl dy), (1, .inl y), (0, .inr (.inr (some 10)))], [.inl y], (Ip4, L, R, Y), 0, 0) (fun _ => rfl) ?_
      exact yi_G_reti rfl rfl (⟨_, _, rfl, hPp4, by omega⟩)
    · refine yi_G_if2 false rfl (yi_gt_f h5) ?_
      refine yi_G_run 2 (17, [(3, .inl 0), (2, .inl dy), (1, .inl y), (0, .inr (.inr (some 10)))], [], (Ip4, L, R, Y), 0, 0) (fun _ => rfl) ?_
      have pt17 : ∀ (m_ : Nat) (pe : Int) (y2 : Int) (Ip17 : cl_I), (cl_P E I L R Y Ip17 L R Y) → (0 ≤ pe ∧ pe ≤ 4) → (0 ≤ y2 ∧ y2 ≤ 96) → (4 - pe).toNat = m_ → yi_G zi_Ms d zi_m155 (17, [(3, .inl pe), (2, .inl dy), (1, .inl y2), (0, .inr (.inr (some 10)))], [], (Ip17, L, R, Y), 0, 0) (fun r => ∃ z, ∃ I', r = (some (.inl z), (I', L, R, Y), 0, 0) ∧ cl_P E I L R Y I' L R Y ∧ (0 ≤ z ∧ z ≤ 96)) := by
        intro m17
        induction m17 using Nat.strongRecOn with
        | _ m17 ih17 =>
        intro pe y2 Ip17 hPp17 pe0 y20 hm17
        refine yi_G_run 2 (19, [(3, .inl pe), (2, .inl dy), (1, .inl y2), (0, .inr (.inr (some 10)))], [.inr (.inr (some 10)), .inl pe], (Ip17, L, R, Y), 0, 0) (fun _ => rfl) ?_
        refine cl_G_gr rfl (cl_T_K (cl_10 hPp17.1)) rfl rfl rfl e2 ?_
        have b6 := cl_rd hPp17.1 t3 (k := 15) (lo := 0) (hi := 4) rfl
        refine cl_G_gi rfl (cl_T_K t3) rfl rfl rfl ?_
        by_cases h7 : (Ip17 q1 15) ≤ pe
        · refine yi_G_if2 true rfl (yi_ge_t h7) ?_
          refine yi_G_iinc [(2, .inl (dy + 1)), (3, .inl pe), (1, .inl y2), (0, .inr (.inr (some 10)))] rfl rfl rfl (by rw [show yi_w (dy + 1) = dy + 1 from (yi_wn (by omega) (by omega)).trans (by omega)]; rfl) ?_
          refine yi_G_run 1 (4, [(2, .inl (dy + 1)), (3, .inl pe), (1, .inl y2), (0, .inr (.inr (some 10)))], [], (Ip17, L, R, Y), 0, 0) (fun _ => rfl) ?_
          refine yi_G_al (al := [(2, .inl (dy + 1)), (1, .inl y2), (0, .inr (.inr (some 10)))]) (show ([2, 1, 0] : List Nat).Nodup by decide) (show ([2, 3, 1, 0] : List Nat).Nodup by decide) (yi_mc (List.mem_of_getElem? (i := 0) rfl) (yi_mc (List.mem_of_getElem? (i := 2) rfl) (yi_mc (List.mem_of_getElem? (i := 3) rfl) yi_mn))) ?_
          exact ih4 _ (by omega) (dy + 1) y2 Ip17 hPp17 (by omega) (by omega) rfl
        · refine yi_G_if2 false rfl (yi_ge_f h7) ?_
          refine yi_G_run 2 (31, [(4, .inl 0), (3, .inl pe), (2, .inl dy), (1, .inl y2), (0, .inr (.inr (some 10)))], [], (Ip17, L, R, Y), 0, 0) (fun _ => rfl) ?_
          have pt31 : ∀ (m_ : Nat) (ev : Int) (y3 : Int) (Ip31 : cl_I), (cl_P E I L R Y Ip31 L R Y) → (0 ≤ ev ∧ ev ≤ 4) → (0 ≤ y3 ∧ y3 ≤ 96) → (4 - ev).toNat = m_ → yi_G zi_Ms d zi_m155 (31, [(4, .inl ev), (3, .inl pe), (2, .inl dy), (1, .inl y3), (0, .inr (.inr (some 10)))], [], (Ip31, L, R, Y), 0, 0) (fun r => ∃ z, ∃ I', r = (some (.inl z), (I', L, R, Y), 0, 0) ∧ cl_P E I L R Y I' L R Y ∧ (0 ≤ z ∧ z ≤ 96)) := by
            intro m31
            induction m31 using Nat.strongRecOn with
            | _ m31 ih31 =>
            intro ev y3 Ip31 hPp31 ev0 y30 hm31
            refine yi_G_run 2 (34, [(4, .inl ev), (3, .inl pe), (2, .inl dy), (1, .inl y3), (0, .inr (.inr (some 10)))], [.inr (.inr (some 10)), .inl ev], (Ip31, L, R, Y), 0, 0) (fun _ => rfl) ?_
            refine cl_G_gr rfl (cl_T_K (cl_10 hPp31.1)) rfl rfl rfl e2 ?_
            have b8 := cl_rd hPp31.1 t3 (k := 16) (lo := 0) (hi := 4) rfl
            refine cl_G_gi rfl (cl_T_K t3) rfl rfl rfl ?_
            by_cases h9 : (Ip31 q1 16) ≤ ev
            · refine yi_G_if2 true rfl (yi_ge_t h9) ?_
              refine yi_G_iinc [(3, .inl (pe + 1)), (4, .inl ev), (2, .inl dy), (1, .inl y3), (0, .inr (.inr (some 10)))] rfl rfl rfl (by rw [show yi_w (pe + 1) = pe + 1 from (yi_wn (by omega) (by omega)).trans (by omega)]; rfl) ?_
              refine yi_G_run 1 (17, [(3, .inl (pe + 1)), (4, .inl ev), (2, .inl dy), (1, .inl y3), (0, .inr (.inr (some 10)))], [], (Ip31, L, R, Y), 0, 0) (fun _ => rfl) ?_
              refine yi_G_al (al := [(3, .inl (pe + 1)), (2, .inl dy), (1, .inl y3), (0, .inr (.inr (some 10)))]) (show ([3, 2, 1, 0] : List Nat).Nodup by decide) (show ([3, 4, 2, 1, 0] : List Nat).Nodup by decide) (yi_mc (List.mem_of_getElem? (i := 0) rfl) (yi_mc (List.mem_of_getElem? (i := 2) rfl) (yi_mc (List.mem_of_getElem? (i := 3) rfl) (yi_mc (List.mem_of_getElem? (i := 4) rfl) yi_mn)))) ?_
              exact ih17 _ (by omega) (pe + 1) y3 Ip31 hPp31 (by omega) (by omega) rfl
            · refine yi_G_if2 false rfl (yi_ge_f h9) ?_
              refine yi_G_run 3 (47, [(4, .inl ev), (3, .inl pe), (2, .inl dy), (1, .inl y3), (0, .inr (.inr (some 10)))], [.inl ev, .inl dy, .inl pe], (Ip31, L, R, Y), 0, 0) (fun _ => rfl) ?_
              refine yi_G_calls rfl rfl (k_wordNumber d (by omega) hPp31.1  ) ?_
              rintro _ ⟨z10, rfl⟩
              show yi_G zi_Ms d zi_m155 (50, [(4, .inl ev), (3, .inl pe), (2, .inl dy), (1, .inl y3), (0, .inr (.inr (some 10)))], [.inl z10], (Ip31, L, R, Y), 0, 0) _
              refine yi_G_run 2 (53, [(5, .inl z10), (4, .inl ev), (3, .inl pe), (2, .inl dy), (1, .inl y3), (0, .inr (.inr (some 10)))], [.inr (.inr (some 10))], (Ip31, L, R, Y), 0, 0) (fun _ => rfl) ?_
              refine cl_G_gr rfl (cl_T_K (cl_10 hPp31.1)) rfl rfl rfl (hPp31.1.2.2.2.1.2.2.2.2.2.2.1) ?_
              refine yi_G_run 1 (58, [(5, .inl z10), (4, .inl ev), (3, .inl pe), (2, .inl dy), (1, .inl y3), (0, .inr (.inr (some 10)))], [.inl z10, .inr (.inr (some 34))], (Ip31, L, R, Y), 0, 0) (fun _ => rfl) ?_
              refine yi_G_callv rfl rfl (cl_rcv (cl_34 hPp31.1) rfl) rfl (k_wordRow d (by omega) hPp31.1 (cl_34 hPp31.1) ) ?_
              rintro _ ⟨q11, rfl, t11⟩
              show yi_G zi_Ms d zi_m155 (61, [(5, .inl z10), (4, .inl ev), (3, .inl pe), (2, .inl dy), (1, .inl y3), (0, .inr (.inr (some 10)))], [.inr (.inr (some q11))], (Ip31, L, R, Y), 0, 0) _
              refine yi_G_run 2 (64, [(6, .inr (.inr (some q11))), (5, .inl z10), (4, .inl ev), (3, .inl pe), (2, .inl dy), (1, .inl y3), (0, .inr (.inr (some 10)))], [.inr (.inr (some 10))], (Ip31, L, R, Y), 0, 0) (fun _ => rfl) ?_
              refine cl_G_gr rfl (cl_T_K (cl_10 hPp31.1)) rfl rfl rfl (hPp31.1.2.2.2.1.2.2.2.2.2.2.2.1) ?_
              refine yi_G_run 1 (69, [(6, .inr (.inr (some q11))), (5, .inl z10), (4, .inl ev), (3, .inl pe), (2, .inl dy), (1, .inl y3), (0, .inr (.inr (some 10)))], [.inr (.inr (some q11)), .inr (.inr (some 58))], (Ip31, L, R, Y), 0, 0) (fun _ => rfl) ?_
              refine yi_G_callv rfl rfl (cl_rcv (cl_58 hPp31.1) rfl) rfl (k_meets d (by omega) hPp31.1 (cl_58 hPp31.1) t11 ) ?_
              rintro _ ⟨z12, rfl, hz12⟩
              show yi_G zi_Ms d zi_m155 (72, [(6, .inr (.inr (some q11))), (5, .inl z10), (4, .inl ev), (3, .inl pe), (2, .inl dy), (1, .inl y3), (0, .inr (.inr (some 10)))], [.inl z12], (Ip31, L, R, Y), 0, 0) _
              by_cases h13 : z12 = 0
              · refine yi_G_if1 true rfl (yi_eq_t h13) ?_
                refine yi_G_iinc [(4, .inl (ev + 1)), (6, .inr (.inr (some q11))), (5, .inl z10), (3, .inl pe), (2, .inl dy), (1, .inl y3), (0, .inr (.inr (some 10)))] rfl rfl rfl (by rw [show yi_w (ev + 1) = ev + 1 from (yi_wn (by omega) (by omega)).trans (by omega)]; rfl) ?_
                refine yi_G_run 1 (31, [(4, .inl (ev + 1)), (6, .inr (.inr (some q11))), (5, .inl z10), (3, .inl pe), (2, .inl dy), (1, .inl y3), (0, .inr (.inr (some 10)))], [], (Ip31, L, R, Y), 0, 0) (fun _ => rfl) ?_
                refine yi_G_al (al := [(4, .inl (ev + 1)), (3, .inl pe), (2, .inl dy), (1, .inl y3), (0, .inr (.inr (some 10)))]) (show ([4, 3, 2, 1, 0] : List Nat).Nodup by decide) (show ([4, 6, 5, 3, 2, 1, 0] : List Nat).Nodup by decide) (yi_mc (List.mem_of_getElem? (i := 0) rfl) (yi_mc (List.mem_of_getElem? (i := 3) rfl) (yi_mc (List.mem_of_getElem? (i := 4) rfl) (yi_mc (List.mem_of_getElem? (i := 5) rfl) (yi_mc (List.mem_of_getElem? (i := 6) rfl) yi_mn))))) ?_
                exact ih31 _ (by omega) (ev + 1) y3 Ip31 hPp31 (by omega) (by omega) rfl
              · refine yi_G_if1 false rfl (yi_eq_f h13) ?_
                refine yi_G_run 1 (76, [(6, .inr (.inr (some q11))), (5, .inl z10), (4, .inl ev), (3, .inl pe), (2, .inl dy), (1, .inl y3), (0, .inr (.inr (some 10)))], [.inr (.inr (some 10))], (Ip31, L, R, Y), 0, 0) (fun _ => rfl) ?_
                refine cl_G_gr rfl (cl_T_K (cl_10 hPp31.1)) rfl rfl rfl (hPp31.1.2.2.2.1.2.2.2.2.2.2.2.1) ?_
                refine yi_G_run 1 (81, [(6, .inr (.inr (some q11))), (5, .inl z10), (4, .inl ev), (3, .inl pe), (2, .inl dy), (1, .inl y3), (0, .inr (.inr (some 10)))], [.inr (.inr (some q11)), .inr (.inr (some 58))], (Ip31, L, R, Y), 0, 0) (fun _ => rfl) ?_
                refine yi_G_callv rfl rfl (cl_rcv (cl_58 hPp31.1) rfl) rfl (k_within d (by omega) hPp31.1 (cl_58 hPp31.1) t11 ) ?_
                rintro _ ⟨z14, rfl, hz14⟩
                show yi_G zi_Ms d zi_m155 (84, [(6, .inr (.inr (some q11))), (5, .inl z10), (4, .inl ev), (3, .inl pe), (2, .inl dy), (1, .inl y3), (0, .inr (.inr (some 10)))], [.inl z14], (Ip31, L, R, Y), 0, 0) _
                by_cases h15 : z14 = 0
                · refine yi_G_if1 false rfl (yi_ne_f h15) ?_
                  refine yi_G_run 2 (89, [(6, .inr (.inr (some q11))), (5, .inl z10), (4, .inl ev), (3, .inl pe), (2, .inl dy), (1, .inl y3), (0, .inr (.inr (some 10)))], [.inr (.inr (some 10)), .inl y3], (Ip31, L, R, Y), 0, 0) (fun _ => rfl) ?_
                  obtain ⟨q16, e17, t18, n19⟩ := cl_rn hPp31.1 (cl_10 hPp31.1) (k := 12) (m := 95) rfl
                  refine cl_G_gr rfl (cl_T_K (cl_10 hPp31.1)) rfl rfl rfl e17 ?_
                  refine cl_G_len rfl t18 (by omega) ?_
                  by_cases h20 : ((Y.2.1 q16 : Int)) ≤ y3
                  · refine yi_G_if2 true rfl (yi_ge_t h20) ?_
                    refine yi_G_iinc [(4, .inl (ev + 1)), (6, .inr (.inr (some q11))), (5, .inl z10), (3, .inl pe), (2, .inl dy), (1, .inl y3), (0, .inr (.inr (some 10)))] rfl rfl rfl (by rw [show yi_w (ev + 1) = ev + 1 from (yi_wn (by omega) (by omega)).trans (by omega)]; rfl) ?_
                    refine yi_G_run 1 (31, [(4, .inl (ev + 1)), (6, .inr (.inr (some q11))), (5, .inl z10), (3, .inl pe), (2, .inl dy), (1, .inl y3), (0, .inr (.inr (some 10)))], [], (Ip31, L, R, Y), 0, 0) (fun _ => rfl) ?_
                    refine yi_G_al (al := [(4, .inl (ev + 1)), (3, .inl pe), (2, .inl dy), (1, .inl y3), (0, .inr (.inr (some 10)))]) (show ([4, 3, 2, 1, 0] : List Nat).Nodup by decide) (show ([4, 6, 5, 3, 2, 1, 0] : List Nat).Nodup by decide) (yi_mc (List.mem_of_getElem? (i := 0) rfl) (yi_mc (List.mem_of_getElem? (i := 3) rfl) (yi_mc (List.mem_of_getElem? (i := 4) rfl) (yi_mc (List.mem_of_getElem? (i := 5) rfl) (yi_mc (List.mem_of_getElem? (i := 6) rfl) yi_mn))))) ?_
                    exact ih31 _ (by omega) (ev + 1) y3 Ip31 hPp31 (by omega) (by omega) rfl
                  · refine yi_G_if2 false rfl (yi_ge_f h20) ?_
                    refine yi_G_run 1 (97, [(6, .inr (.inr (some q11))), (5, .inl z10), (4, .inl ev), (3, .inl pe), (2, .inl dy), (1, .inl y3), (0, .inr (.inr (some 10)))], [.inr (.inr (some 10))], (Ip31, L, R, Y), 0, 0) (fun _ => rfl) ?_
                    refine cl_G_gr rfl (cl_T_K (cl_10 hPp31.1)) rfl rfl rfl e17 ?_
                    refine yi_G_run 2 (103, [(6, .inr (.inr (some q11))), (5, .inl z10), (4, .inl ev), (3, .inl pe), (2, .inl dy), (1, .inl y3), (0, .inr (.inr (some 10)))], [.inl z10, .inl y3, .inr (.inr (some q16))], (Ip31, L, R, Y), 0, 0) (fun _ => rfl) ?_
                    refine cl_G_iast rfl t18 (by omega) (by omega) ?_
                    have hP21 := cl_P_uI (k := (y3.toNat)) (v := z10) hPp31 t18 (by omega) (cl_hv0 rfl)
                    generalize w22 : yi_u Ip31 q16 (y3.toNat) z10 = I23 at hP21 ⊢
                    refine yi_G_iinc [(1, .inl (y3 + 1)), (6, .inr (.inr (some q11))), (5, .inl z10), (4, .inl ev), (3, .inl pe), (2, .inl dy), (0, .inr (.inr (some 10)))] rfl rfl rfl (by rw [show yi_w (y3 + 1) = y3 + 1 from (yi_wn (by omega) (by omega)).trans (by omega)]; rfl) ?_
                    refine yi_G_iinc [(4, .inl (ev + 1)), (1, .inl (y3 + 1)), (6, .inr (.inr (some q11))), (5, .inl z10), (3, .inl pe), (2, .inl dy), (0, .inr (.inr (some 10)))] rfl rfl rfl (by rw [show yi_w (ev + 1) = ev + 1 from (yi_wn (by omega) (by omega)).trans (by omega)]; rfl) ?_
                    refine yi_G_run 1 (31, [(4, .inl (ev + 1)), (1, .inl (y3 + 1)), (6, .inr (.inr (some q11))), (5, .inl z10), (3, .inl pe), (2, .inl dy), (0, .inr (.inr (some 10)))], [], (I23, L, R, Y), 0, 0) (fun _ => rfl) ?_
                    refine yi_G_al (al := [(4, .inl (ev + 1)), (3, .inl pe), (2, .inl dy), (1, .inl (y3 + 1)), (0, .inr (.inr (some 10)))]) (show ([4, 3, 2, 1, 0] : List Nat).Nodup by decide) (show ([4, 1, 6, 5, 3, 2, 0] : List Nat).Nodup by decide) (yi_mc (List.mem_of_getElem? (i := 0) rfl) (yi_mc (List.mem_of_getElem? (i := 4) rfl) (yi_mc (List.mem_of_getElem? (i := 5) rfl) (yi_mc (List.mem_of_getElem? (i := 1) rfl) (yi_mc (List.mem_of_getElem? (i := 6) rfl) yi_mn))))) ?_
                    exact ih31 _ (by omega) (ev + 1) (y3 + 1) I23 hP21 (by omega) (by omega) rfl
                · refine yi_G_if1 true rfl (yi_ne_t h15) ?_
                  refine yi_G_iinc [(4, .inl (ev + 1)), (6, .inr (.inr (some q11))), (5, .inl z10), (3, .inl pe), (2, .inl dy), (1, .inl y3), (0, .inr (.inr (some 10)))] rfl rfl rfl (by rw [show yi_w (ev + 1) = ev + 1 from (yi_wn (by omega) (by omega)).trans (by omega)]; rfl) ?_
                  refine yi_G_run 1 (31, [(4, .inl (ev + 1)), (6, .inr (.inr (some q11))), (5, .inl z10), (3, .inl pe), (2, .inl dy), (1, .inl y3), (0, .inr (.inr (some 10)))], [], (Ip31, L, R, Y), 0, 0) (fun _ => rfl) ?_
                  refine yi_G_al (al := [(4, .inl (ev + 1)), (3, .inl pe), (2, .inl dy), (1, .inl y3), (0, .inr (.inr (some 10)))]) (show ([4, 3, 2, 1, 0] : List Nat).Nodup by decide) (show ([4, 6, 5, 3, 2, 1, 0] : List Nat).Nodup by decide) (yi_mc (List.mem_of_getElem? (i := 0) rfl) (yi_mc (List.mem_of_getElem? (i := 3) rfl) (yi_mc (List.mem_of_getElem? (i := 4) rfl) (yi_mc (List.mem_of_getElem? (i := 5) rfl) (yi_mc (List.mem_of_getElem? (i := 6) rfl) yi_mn))))) ?_
                  exact ih31 _ (by omega) (ev + 1) y3 Ip31 hPp31 (by omega) (by omega) rfl
          exact pt31 _ 0 y2 Ip17 hPp17 (by omega) (by omega) rfl
      exact pt17 _ 0 y Ip4 hPp4 (by omega) (by omega) rfl
  exact pt4 _ 1 0 I hP (by omega) (by omega) rfl
theorem k_winningWishA (D : Nat) (hD : 2 ≤ D) {E : List Nat} {I L : cl_I} {R : cl_Rr} {Y : cl_Y} (hC : cl_C E I L R Y) {x : Int} {y : Int} : yi_E zi_Ms D 186 [.inr (.inr (some 10)), .inl x, .inl y] (I, L, R, Y) (fun r => ∃ z, r = (some (.inl z), (I, L, R, Y), 0, 0)) := by
  obtain ⟨d, rfl⟩ : ∃ d, D = d + 1 := ⟨D - 1, by omega⟩
  refine yi_E_of (M := zi_m186) rfl rfl ?_
  have hP : cl_P E I L R Y I L R Y := cl_P_r hC
  show yi_G zi_Ms d zi_m186 (0, [(0, .inr (.inr (some 10))), (1, .inl x), (2, .inl y)], [], (I, L, R, Y), 0, 0) _
  refine yi_G_run 2 (2, [(3, .inl 0), (0, .inr (.inr (some 10))), (1, .inl x), (2, .inl y)], [], (I, L, R, Y), 0, 0) (fun _ => rfl) ?_
  have pt2 : ∀ (m_ : Nat) (j : Int), (0 ≤ j ∧ j ≤ 6) → (6 - j).toNat = m_ → yi_G zi_Ms d zi_m186 (2, [(3, .inl j), (0, .inr (.inr (some 10))), (1, .inl x), (2, .inl y)], [], (I, L, R, Y), 0, 0) (fun r => ∃ z, r = (some (.inl z), (I, L, R, Y), 0, 0)) := by
    intro m2
    induction m2 using Nat.strongRecOn with
    | _ m2 ih2 =>
    intro j j0 hm2
    refine yi_G_run 2 (4, [(3, .inl j), (0, .inr (.inr (some 10))), (1, .inl x), (2, .inl y)], [.inr (.inr (some 10)), .inl j], (I, L, R, Y), 0, 0) (fun _ => rfl) ?_
    obtain ⟨q1, e2, t3⟩ := cl_rf hP.1 (cl_10 hP.1) (k := 16) rfl
    refine cl_G_gr rfl (cl_T_K (cl_10 hP.1)) rfl rfl rfl e2 ?_
    have b4 := cl_rd hP.1 t3 (k := 19) (lo := 0) (hi := 6) rfl
    refine cl_G_gi rfl (cl_T_K t3) rfl rfl rfl ?_
    by_cases h5 : (I q1 19) ≤ j
    · refine yi_G_if2 true rfl (yi_ge_t h5) ?_
      refine yi_G_run 1 (87, [(3, .inl j), (0, .inr (.inr (some 10))), (1, .inl x), (2, .inl y)], [.inl (-1)], (I, L, R, Y), 0, 0) (fun _ => rfl) ?_
      exact yi_G_reti rfl rfl (⟨_, rfl⟩)
    · refine yi_G_if2 false rfl (yi_ge_f h5) ?_
      refine yi_G_run 11 (25, [(4, .inl (yi_ior x (yi_shl 1 j))), (3, .inl j), (0, .inr (.inr (some 10))), (1, .inl x), (2, .inl y)], [.inl (yi_iand (yi_shr y j) 1)], (I, L, R, Y), 0, 0) (fun _ => rfl) ?_
      by_cases h6 : (yi_iand (yi_shr y j) 1) = 0
      · refine yi_G_if1 true rfl (yi_eq_t h6) ?_
        refine yi_G_run 3 (43, [(5, .inl 0), (4, .inl (yi_ior x (yi_shl 1 j))), (3, .inl j), (0, .inr (.inr (some 10))), (1, .inl x), (2, .inl y)], [.inl 0], (I, L, R, Y), 0, 0) (fun _ => rfl) ?_
        refine yi_G_if1 true rfl (by decide) ?_
        refine yi_G_iinc [(3, .inl (j + 1)), (5, .inl 0), (4, .inl (yi_ior x (yi_shl 1 j))), (0, .inr (.inr (some 10))), (1, .inl x), (2, .inl y)] rfl rfl rfl (by rw [show yi_w (j + 1) = j + 1 from (yi_wn (by omega) (by omega)).trans (by omega)]; rfl) ?_
        refine yi_G_run 1 (2, [(3, .inl (j + 1)), (5, .inl 0), (4, .inl (yi_ior x (yi_shl 1 j))), (0, .inr (.inr (some 10))), (1, .inl x), (2, .inl y)], [], (I, L, R, Y), 0, 0) (fun _ => rfl) ?_
        refine yi_G_al (al := [(3, .inl (j + 1)), (0, .inr (.inr (some 10))), (1, .inl x), (2, .inl y)]) (show ([3, 0, 1, 2] : List Nat).Nodup by decide) (show ([3, 5, 4, 0, 1, 2] : List Nat).Nodup by decide) (yi_mc (List.mem_of_getElem? (i := 0) rfl) (yi_mc (List.mem_of_getElem? (i := 3) rfl) (yi_mc (List.mem_of_getElem? (i := 4) rfl) (yi_mc (List.mem_of_getElem? (i := 5) rfl) yi_mn)))) ?_
        exact ih2 _ (by omega) (j + 1) (by omega) rfl
      · refine yi_G_if1 false rfl (yi_eq_f h6) ?_
        refine yi_G_run 2 (31, [(4, .inl (yi_ior x (yi_shl 1 j))), (3, .inl j), (0, .inr (.inr (some 10))), (1, .inl x), (2, .inl y)], [.inl x, .inl (yi_ior x (yi_shl 1 j))], (I, L, R, Y), 0, 0) (fun _ => rfl) ?_
        by_cases h7 : (yi_ior x (yi_shl 1 j)) = x
        · refine yi_G_if2 true rfl (yi_eq_t h7) ?_
          refine yi_G_run 3 (43, [(5, .inl 0), (4, .inl (yi_ior x (yi_shl 1 j))), (3, .inl j), (0, .inr (.inr (some 10))), (1, .inl x), (2, .inl y)], [.inl 0], (I, L, R, Y), 0, 0) (fun _ => rfl) ?_
          refine yi_G_if1 true rfl (by decide) ?_
          refine yi_G_iinc [(3, .inl (j + 1)), (5, .inl 0), (4, .inl (yi_ior x (yi_shl 1 j))), (0, .inr (.inr (some 10))), (1, .inl x), (2, .inl y)] rfl rfl rfl (by rw [show yi_w (j + 1) = j + 1 from (yi_wn (by omega) (by omega)).trans (by omega)]; rfl) ?_
          refine yi_G_run 1 (2, [(3, .inl (j + 1)), (5, .inl 0), (4, .inl (yi_ior x (yi_shl 1 j))), (0, .inr (.inr (some 10))), (1, .inl x), (2, .inl y)], [], (I, L, R, Y), 0, 0) (fun _ => rfl) ?_
          refine yi_G_al (al := [(3, .inl (j + 1)), (0, .inr (.inr (some 10))), (1, .inl x), (2, .inl y)]) (show ([3, 0, 1, 2] : List Nat).Nodup by decide) (show ([3, 5, 4, 0, 1, 2] : List Nat).Nodup by decide) (yi_mc (List.mem_of_getElem? (i := 0) rfl) (yi_mc (List.mem_of_getElem? (i := 3) rfl) (yi_mc (List.mem_of_getElem? (i := 4) rfl) (yi_mc (List.mem_of_getElem? (i := 5) rfl) yi_mn)))) ?_
          exact ih2 _ (by omega) (j + 1) (by omega) rfl
        · refine yi_G_if2 false rfl (yi_eq_f h7) ?_
          refine yi_G_run 4 (43, [(5, .inl 1), (4, .inl (yi_ior x (yi_shl 1 j))), (3, .inl j), (0, .inr (.inr (some 10))), (1, .inl x), (2, .inl y)], [.inl 1], (I, L, R, Y), 0, 0) (fun _ => rfl) ?_
          refine yi_G_if1 false rfl (by decide) ?_
          refine yi_G_run 2 (49, [(5, .inl 1), (4, .inl (yi_ior x (yi_shl 1 j))), (3, .inl j), (0, .inr (.inr (some 10))), (1, .inl x), (2, .inl y)], [.inr (.inr (some 10)), .inl (yi_ior x (yi_shl 1 j))], (I, L, R, Y), 0, 0) (fun _ => rfl) ?_
          obtain ⟨q8, e9, t10, n11⟩ := cl_rn hP.1 (cl_10 hP.1) (k := 15) (m := 63) rfl
          refine cl_G_gr rfl (cl_T_K (cl_10 hP.1)) rfl rfl rfl e9 ?_
          refine cl_G_len rfl t10 (by omega) ?_
          by_cases h12 : ((Y.2.1 q8 : Int)) ≤ (yi_ior x (yi_shl 1 j))
          · refine yi_G_if2 true rfl (yi_ge_t h12) ?_
            refine yi_G_iinc [(3, .inl (j + 1)), (5, .inl 1), (4, .inl (yi_ior x (yi_shl 1 j))), (0, .inr (.inr (some 10))), (1, .inl x), (2, .inl y)] rfl rfl rfl (by rw [show yi_w (j + 1) = j + 1 from (yi_wn (by omega) (by omega)).trans (by omega)]; rfl) ?_
            refine yi_G_run 1 (2, [(3, .inl (j + 1)), (5, .inl 1), (4, .inl (yi_ior x (yi_shl 1 j))), (0, .inr (.inr (some 10))), (1, .inl x), (2, .inl y)], [], (I, L, R, Y), 0, 0) (fun _ => rfl) ?_
            refine yi_G_al (al := [(3, .inl (j + 1)), (0, .inr (.inr (some 10))), (1, .inl x), (2, .inl y)]) (show ([3, 0, 1, 2] : List Nat).Nodup by decide) (show ([3, 5, 4, 0, 1, 2] : List Nat).Nodup by decide) (yi_mc (List.mem_of_getElem? (i := 0) rfl) (yi_mc (List.mem_of_getElem? (i := 3) rfl) (yi_mc (List.mem_of_getElem? (i := 4) rfl) (yi_mc (List.mem_of_getElem? (i := 5) rfl) yi_mn)))) ?_
            exact ih2 _ (by omega) (j + 1) (by omega) rfl
          · refine yi_G_if2 false rfl (yi_ge_f h12) ?_
            refine yi_G_run 1 (57, [(5, .inl 1), (4, .inl (yi_ior x (yi_shl 1 j))), (3, .inl j), (0, .inr (.inr (some 10))), (1, .inl x), (2, .inl y)], [.inr (.inr (some 10))], (I, L, R, Y), 0, 0) (fun _ => rfl) ?_
            obtain ⟨q13, e14, t15⟩ := cl_rf hP.1 (cl_10 hP.1) (k := 4) rfl
            refine cl_G_gr rfl (cl_T_K (cl_10 hP.1)) rfl rfl rfl e14 ?_
            refine yi_G_run 1 (62, [(5, .inl 1), (4, .inl (yi_ior x (yi_shl 1 j))), (3, .inl j), (0, .inr (.inr (some 10))), (1, .inl x), (2, .inl y)], [.inl (yi_ior x (yi_shl 1 j)), .inr (.inr (some q13))], (I, L, R, Y), 0, 0) (fun _ => rfl) ?_
            refine yi_G_callv rfl rfl (cl_rcv t15 rfl) rfl (k_agree d (by omega) hP.1 t15 ) ?_
            rintro _ ⟨z16, rfl, hz16, x16a⟩
            show yi_G zi_Ms d zi_m186 (65, [(5, .inl 1), (4, .inl (yi_ior x (yi_shl 1 j))), (3, .inl j), (0, .inr (.inr (some 10))), (1, .inl x), (2, .inl y)], [.inl z16], (I, L, R, Y), 0, 0) _
            by_cases h17 : z16 = 0
            · refine yi_G_if1 true rfl (yi_eq_t h17) ?_
              refine yi_G_iinc [(3, .inl (j + 1)), (5, .inl 1), (4, .inl (yi_ior x (yi_shl 1 j))), (0, .inr (.inr (some 10))), (1, .inl x), (2, .inl y)] rfl rfl rfl (by rw [show yi_w (j + 1) = j + 1 from (yi_wn (by omega) (by omega)).trans (by omega)]; rfl) ?_
              refine yi_G_run 1 (2, [(3, .inl (j + 1)), (5, .inl 1), (4, .inl (yi_ior x (yi_shl 1 j))), (0, .inr (.inr (some 10))), (1, .inl x), (2, .inl y)], [], (I, L, R, Y), 0, 0) (fun _ => rfl) ?_
              refine yi_G_al (al := [(3, .inl (j + 1)), (0, .inr (.inr (some 10))), (1, .inl x), (2, .inl y)]) (show ([3, 0, 1, 2] : List Nat).Nodup by decide) (show ([3, 5, 4, 0, 1, 2] : List Nat).Nodup by decide) (yi_mc (List.mem_of_getElem? (i := 0) rfl) (yi_mc (List.mem_of_getElem? (i := 3) rfl) (yi_mc (List.mem_of_getElem? (i := 4) rfl) (yi_mc (List.mem_of_getElem? (i := 5) rfl) yi_mn)))) ?_
              exact ih2 _ (by omega) (j + 1) (by omega) rfl
            · refine yi_G_if1 false rfl (yi_eq_f h17) ?_
              refine yi_G_run 1 (69, [(5, .inl 1), (4, .inl (yi_ior x (yi_shl 1 j))), (3, .inl j), (0, .inr (.inr (some 10))), (1, .inl x), (2, .inl y)], [.inr (.inr (some 10))], (I, L, R, Y), 0, 0) (fun _ => rfl) ?_
              refine cl_G_gr rfl (cl_T_K (cl_10 hP.1)) rfl rfl rfl e9 ?_
              refine yi_G_run 1 (74, [(5, .inl 1), (4, .inl (yi_ior x (yi_shl 1 j))), (3, .inl j), (0, .inr (.inr (some 10))), (1, .inl x), (2, .inl y)], [.inl (yi_ior x (yi_shl 1 j)), .inr (.inr (some q8))], (I, L, R, Y), 0, 0) (fun _ => rfl) ?_
              refine cl_G_bald rfl t10 (by omega) (by omega) ?_
              by_cases h18 : (I q8 ((yi_ior x (yi_shl 1 j)).toNat)) = 0
              · refine yi_G_if1 false rfl (yi_ne_f h18) ?_
                refine yi_G_run 1 (79, [(5, .inl 1), (4, .inl (yi_ior x (yi_shl 1 j))), (3, .inl j), (0, .inr (.inr (some 10))), (1, .inl x), (2, .inl y)], [.inl j], (I, L, R, Y), 0, 0) (fun _ => rfl) ?_
                exact yi_G_reti rfl rfl (⟨_, rfl⟩)
              · refine yi_G_if1 true rfl (yi_ne_t h18) ?_
                refine yi_G_iinc [(3, .inl (j + 1)), (5, .inl 1), (4, .inl (yi_ior x (yi_shl 1 j))), (0, .inr (.inr (some 10))), (1, .inl x), (2, .inl y)] rfl rfl rfl (by rw [show yi_w (j + 1) = j + 1 from (yi_wn (by omega) (by omega)).trans (by omega)]; rfl) ?_
                refine yi_G_run 1 (2, [(3, .inl (j + 1)), (5, .inl 1), (4, .inl (yi_ior x (yi_shl 1 j))), (0, .inr (.inr (some 10))), (1, .inl x), (2, .inl y)], [], (I, L, R, Y), 0, 0) (fun _ => rfl) ?_
                refine yi_G_al (al := [(3, .inl (j + 1)), (0, .inr (.inr (some 10))), (1, .inl x), (2, .inl y)]) (show ([3, 0, 1, 2] : List Nat).Nodup by decide) (show ([3, 5, 4, 0, 1, 2] : List Nat).Nodup by decide) (yi_mc (List.mem_of_getElem? (i := 0) rfl) (yi_mc (List.mem_of_getElem? (i := 3) rfl) (yi_mc (List.mem_of_getElem? (i := 4) rfl) (yi_mc (List.mem_of_getElem? (i := 5) rfl) yi_mn)))) ?_
                exact ih2 _ (by omega) (j + 1) (by omega) rfl
  exact pt2 _ 0 (by omega) rfl
theorem k_promisesOutsideA (D : Nat) (hD : 3 ≤ D) {E : List Nat} {I L : cl_I} {R : cl_Rr} {Y : cl_Y} (hC : cl_C E I L R Y) {x : Int} : yi_E zi_Ms D 167 [.inr (.inr (some 10)), .inl x] (I, L, R, Y) (fun r => ∃ z, r = (some (.inl z), (I, L, R, Y), 0, 0)) := by
  obtain ⟨d, rfl⟩ : ∃ d, D = d + 1 := ⟨D - 1, by omega⟩
  refine yi_E_of (M := zi_m167) rfl rfl ?_
  have hP : cl_P E I L R Y I L R Y := cl_P_r hC
  show yi_G zi_Ms d zi_m167 (0, [(0, .inr (.inr (some 10))), (1, .inl x)], [], (I, L, R, Y), 0, 0) _
  refine yi_G_run 4 (4, [(3, .inl 0), (2, .inl 0), (0, .inr (.inr (some 10))), (1, .inl x)], [], (I, L, R, Y), 0, 0) (fun _ => rfl) ?_
  have pt4 : ∀ (m_ : Nat) (j : Int) (y : Int), (0 ≤ j ∧ j ≤ 20) → (20 - j).toNat = m_ → yi_G zi_Ms d zi_m167 (4, [(3, .inl j), (2, .inl y), (0, .inr (.inr (some 10))), (1, .inl x)], [], (I, L, R, Y), 0, 0) (fun r => ∃ z, r = (some (.inl z), (I, L, R, Y), 0, 0)) := by
    intro m4
    induction m4 using Nat.strongRecOn with
    | _ m4 ih4 =>
    intro j y j0 hm4
    refine yi_G_run 2 (6, [(3, .inl j), (2, .inl y), (0, .inr (.inr (some 10))), (1, .inl x)], [.inr (.inr (some 10)), .inl j], (I, L, R, Y), 0, 0) (fun _ => rfl) ?_
    obtain ⟨q1, e2, t3⟩ := cl_rf hP.1 (cl_10 hP.1) (k := 6) rfl
    refine cl_G_gr rfl (cl_T_K (cl_10 hP.1)) rfl rfl rfl e2 ?_
    have b4 := cl_rd hP.1 t3 (k := 8) (lo := 0) (hi := 20) rfl
    refine cl_G_gi rfl (cl_T_K t3) rfl rfl rfl ?_
    by_cases h5 : (I q1 8) ≤ j
    · refine yi_G_if2 true rfl (yi_ge_t h5) ?_
      refine yi_G_run 1 (125, [(3, .inl j), (2, .inl y), (0, .inr (.inr (some 10))), (1, .inl x)], [.inl y], (I, L, R, Y), 0, 0) (fun _ => rfl) ?_
      exact yi_G_reti rfl rfl (⟨_, rfl⟩)
    · refine yi_G_if2 false rfl (yi_ge_f h5) ?_
      refine yi_G_run 4 (21, [(5, .inl 0), (4, .inl 0), (3, .inl j), (2, .inl y), (0, .inr (.inr (some 10))), (1, .inl x)], [], (I, L, R, Y), 0, 0) (fun _ => rfl) ?_
      have pt21 : ∀ (m_ : Nat) (pe : Int) (ou : Int), (0 ≤ pe ∧ pe ≤ 4) → (4 - pe).toNat = m_ → yi_G zi_Ms d zi_m167 (21, [(5, .inl pe), (4, .inl ou), (3, .inl j), (2, .inl y), (0, .inr (.inr (some 10))), (1, .inl x)], [], (I, L, R, Y), 0, 0) (fun r => ∃ z, r = (some (.inl z), (I, L, R, Y), 0, 0)) := by
        intro m21
        induction m21 using Nat.strongRecOn with
        | _ m21 ih21 =>
        intro pe ou pe0 hm21
        refine yi_G_run 2 (24, [(5, .inl pe), (4, .inl ou), (3, .inl j), (2, .inl y), (0, .inr (.inr (some 10))), (1, .inl x)], [.inr (.inr (some 10)), .inl pe], (I, L, R, Y), 0, 0) (fun _ => rfl) ?_
        obtain ⟨q6, e7, t8⟩ := cl_rf hP.1 (cl_10 hP.1) (k := 16) rfl
        refine cl_G_gr rfl (cl_T_K (cl_10 hP.1)) rfl rfl rfl e7 ?_
        have b9 := cl_rd hP.1 t8 (k := 15) (lo := 0) (hi := 4) rfl
        refine cl_G_gi rfl (cl_T_K t8) rfl rfl rfl ?_
        by_cases h10 : (I q6 15) ≤ pe
        · refine yi_G_if2 true rfl (yi_ge_t h10) ?_
          refine yi_G_run 2 (108, [(5, .inl pe), (4, .inl ou), (3, .inl j), (2, .inl y), (0, .inr (.inr (some 10))), (1, .inl x)], [.inl ou, .inl y], (I, L, R, Y), 0, 0) (fun _ => rfl) ?_
          by_cases h11 : ou = 0
          · refine yi_G_if1 true rfl (yi_eq_t h11) ?_
            refine yi_G_run 3 (118, [(2, .inl (yi_w (y + 0))), (5, .inl pe), (4, .inl ou), (3, .inl j), (0, .inr (.inr (some 10))), (1, .inl x)], [], (I, L, R, Y), 0, 0) (fun _ => rfl) ?_
            refine yi_G_iinc [(3, .inl (j + 1)), (2, .inl (yi_w (y + 0))), (5, .inl pe), (4, .inl ou), (0, .inr (.inr (some 10))), (1, .inl x)] rfl rfl rfl (by rw [show yi_w (j + 1) = j + 1 from (yi_wn (by omega) (by omega)).trans (by omega)]; rfl) ?_
            refine yi_G_run 1 (4, [(3, .inl (j + 1)), (2, .inl (yi_w (y + 0))), (5, .inl pe), (4, .inl ou), (0, .inr (.inr (some 10))), (1, .inl x)], [], (I, L, R, Y), 0, 0) (fun _ => rfl) ?_
            refine yi_G_al (al := [(3, .inl (j + 1)), (2, .inl (yi_w (y + 0))), (0, .inr (.inr (some 10))), (1, .inl x)]) (show ([3, 2, 0, 1] : List Nat).Nodup by decide) (show ([3, 2, 5, 4, 0, 1] : List Nat).Nodup by decide) (yi_mc (List.mem_of_getElem? (i := 0) rfl) (yi_mc (List.mem_of_getElem? (i := 1) rfl) (yi_mc (List.mem_of_getElem? (i := 4) rfl) (yi_mc (List.mem_of_getElem? (i := 5) rfl) yi_mn)))) ?_
            exact ih4 _ (by omega) (j + 1) (yi_w (y + 0)) (by omega) rfl
          · refine yi_G_if1 false rfl (yi_eq_f h11) ?_
            refine yi_G_run 4 (118, [(2, .inl (yi_w (y + 1))), (5, .inl pe), (4, .inl ou), (3, .inl j), (0, .inr (.inr (some 10))), (1, .inl x)], [], (I, L, R, Y), 0, 0) (fun _ => rfl) ?_
            refine yi_G_iinc [(3, .inl (j + 1)), (2, .inl (yi_w (y + 1))), (5, .inl pe), (4, .inl ou), (0, .inr (.inr (some 10))), (1, .inl x)] rfl rfl rfl (by rw [show yi_w (j + 1) = j + 1 from (yi_wn (by omega) (by omega)).trans (by omega)]; rfl) ?_
            refine yi_G_run 1 (4, [(3, .inl (j + 1)), (2, .inl (yi_w (y + 1))), (5, .inl pe), (4, .inl ou), (0, .inr (.inr (some 10))), (1, .inl x)], [], (I, L, R, Y), 0, 0) (fun _ => rfl) ?_
            refine yi_G_al (al := [(3, .inl (j + 1)), (2, .inl (yi_w (y + 1))), (0, .inr (.inr (some 10))), (1, .inl x)]) (show ([3, 2, 0, 1] : List Nat).Nodup by decide) (show ([3, 2, 5, 4, 0, 1] : List Nat).Nodup by decide) (yi_mc (List.mem_of_getElem? (i := 0) rfl) (yi_mc (List.mem_of_getElem? (i := 1) rfl) (yi_mc (List.mem_of_getElem? (i := 4) rfl) (yi_mc (List.mem_of_getElem? (i := 5) rfl) yi_mn)))) ?_
            exact ih4 _ (by omega) (j + 1) (yi_w (y + 1)) (by omega) rfl
        · refine yi_G_if2 false rfl (yi_ge_f h10) ?_
          refine yi_G_run 2 (36, [(5, .inl pe), (4, .inl ou), (3, .inl j), (2, .inl y), (0, .inr (.inr (some 10))), (1, .inl x)], [.inr (.inr (some 10)), .inl pe], (I, L, R, Y), 0, 0) (fun _ => rfl) ?_
          refine cl_G_gr rfl (cl_T_K (cl_10 hP.1)) rfl rfl rfl e2 ?_
          refine yi_G_run 1 (40, [(5, .inl pe), (4, .inl ou), (3, .inl j), (2, .inl y), (0, .inr (.inr (some 10))), (1, .inl x)], [.inl j, .inr (.inr (some q1)), .inl pe], (I, L, R, Y), 0, 0) (fun _ => rfl) ?_
          refine yi_G_callv rfl rfl (cl_rcv t3 rfl) rfl (k_promisedTo d (by omega) hP.1 t3 ) ?_
          rintro _ ⟨z12, rfl⟩
          show yi_G zi_Ms d zi_m167 (43, [(5, .inl pe), (4, .inl ou), (3, .inl j), (2, .inl y), (0, .inr (.inr (some 10))), (1, .inl x)], [.inl z12, .inl pe], (I, L, R, Y), 0, 0) _
          by_cases h13 : pe = z12
          · refine yi_G_if2 true rfl (yi_eq_t h13) ?_
            refine yi_G_run 3 (75, [(6, .inl 0), (5, .inl pe), (4, .inl ou), (3, .inl j), (2, .inl y), (0, .inr (.inr (some 10))), (1, .inl x)], [.inl ou], (I, L, R, Y), 0, 0) (fun _ => rfl) ?_
            by_cases h14 : ou = 0
            · refine yi_G_if1 false rfl (yi_ne_f h14) ?_
              refine yi_G_run 1 (80, [(6, .inl 0), (5, .inl pe), (4, .inl ou), (3, .inl j), (2, .inl y), (0, .inr (.inr (some 10))), (1, .inl x)], [.inl 0], (I, L, R, Y), 0, 0) (fun _ => rfl) ?_
              refine yi_G_if1 true rfl (by decide) ?_
              refine yi_G_run 2 (99, [(4, .inl 0), (6, .inl 0), (5, .inl pe), (3, .inl j), (2, .inl y), (0, .inr (.inr (some 10))), (1, .inl x)], [], (I, L, R, Y), 0, 0) (fun _ => rfl) ?_
              refine yi_G_iinc [(5, .inl (pe + 1)), (4, .inl 0), (6, .inl 0), (3, .inl j), (2, .inl y), (0, .inr (.inr (some 10))), (1, .inl x)] rfl rfl rfl (by rw [show yi_w (pe + 1) = pe + 1 from (yi_wn (by omega) (by omega)).trans (by omega)]; rfl) ?_
              refine yi_G_run 1 (21, [(5, .inl (pe + 1)), (4, .inl 0), (6, .inl 0), (3, .inl j), (2, .inl y), (0, .inr (.inr (some 10))), (1, .inl x)], [], (I, L, R, Y), 0, 0) (fun _ => rfl) ?_
              refine yi_G_al (al := [(5, .inl (pe + 1)), (4, .inl 0), (3, .inl j), (2, .inl y), (0, .inr (.inr (some 10))), (1, .inl x)]) (show ([5, 4, 3, 2, 0, 1] : List Nat).Nodup by decide) (show ([5, 4, 6, 3, 2, 0, 1] : List Nat).Nodup by decide) (yi_mc (List.mem_of_getElem? (i := 0) rfl) (yi_mc (List.mem_of_getElem? (i := 1) rfl) (yi_mc (List.mem_of_getElem? (i := 3) rfl) (yi_mc (List.mem_of_getElem? (i := 4) rfl) (yi_mc (List.mem_of_getElem? (i := 5) rfl) (yi_mc (List.mem_of_getElem? (i := 6) rfl) yi_mn)))))) ?_
              exact ih21 _ (by omega) (pe + 1) 0 (by omega) rfl
            · refine yi_G_if1 true rfl (yi_ne_t h14) ?_
              refine yi_G_run 3 (99, [(4, .inl 1), (6, .inl 0), (5, .inl pe), (3, .inl j), (2, .inl y), (0, .inr (.inr (some 10))), (1, .inl x)], [], (I, L, R, Y), 0, 0) (fun _ => rfl) ?_
              refine yi_G_iinc [(5, .inl (pe + 1)), (4, .inl 1), (6, .inl 0), (3, .inl j), (2, .inl y), (0, .inr (.inr (some 10))), (1, .inl x)] rfl rfl rfl (by rw [show yi_w (pe + 1) = pe + 1 from (yi_wn (by omega) (by omega)).trans (by omega)]; rfl) ?_
              refine yi_G_run 1 (21, [(5, .inl (pe + 1)), (4, .inl 1), (6, .inl 0), (3, .inl j), (2, .inl y), (0, .inr (.inr (some 10))), (1, .inl x)], [], (I, L, R, Y), 0, 0) (fun _ => rfl) ?_
              refine yi_G_al (al := [(5, .inl (pe + 1)), (4, .inl 1), (3, .inl j), (2, .inl y), (0, .inr (.inr (some 10))), (1, .inl x)]) (show ([5, 4, 3, 2, 0, 1] : List Nat).Nodup by decide) (show ([5, 4, 6, 3, 2, 0, 1] : List Nat).Nodup by decide) (yi_mc (List.mem_of_getElem? (i := 0) rfl) (yi_mc (List.mem_of_getElem? (i := 1) rfl) (yi_mc (List.mem_of_getElem? (i := 3) rfl) (yi_mc (List.mem_of_getElem? (i := 4) rfl) (yi_mc (List.mem_of_getElem? (i := 5) rfl) (yi_mc (List.mem_of_getElem? (i := 6) rfl) yi_mn)))))) ?_
              exact ih21 _ (by omega) (pe + 1) 1 (by omega) rfl
          · refine yi_G_if2 false rfl (yi_eq_f h13) ?_
            refine yi_G_run 1 (47, [(5, .inl pe), (4, .inl ou), (3, .inl j), (2, .inl y), (0, .inr (.inr (some 10))), (1, .inl x)], [.inr (.inr (some 10))], (I, L, R, Y), 0, 0) (fun _ => rfl) ?_
            refine cl_G_gr rfl (cl_T_K (cl_10 hP.1)) rfl rfl rfl e7 ?_
            refine yi_G_run 1 (52, [(5, .inl pe), (4, .inl ou), (3, .inl j), (2, .inl y), (0, .inr (.inr (some 10))), (1, .inl x)], [.inl pe, .inr (.inr (some q6))], (I, L, R, Y), 0, 0) (fun _ => rfl) ?_
            refine yi_G_callv rfl rfl (cl_rcv t8 rfl) rfl (k_tallOf d (by omega) hP.1 t8 ) ?_
            rintro _ ⟨z15, rfl⟩
            show yi_G zi_Ms d zi_m167 (55, [(5, .inl pe), (4, .inl ou), (3, .inl j), (2, .inl y), (0, .inr (.inr (some 10))), (1, .inl x)], [.inl z15], (I, L, R, Y), 0, 0) _
            refine yi_G_run 1 (56, [(5, .inl pe), (4, .inl ou), (3, .inl j), (2, .inl y), (0, .inr (.inr (some 10))), (1, .inl x)], [.inr (.inr (some 10)), .inl z15], (I, L, R, Y), 0, 0) (fun _ => rfl) ?_
            refine cl_G_gr rfl (cl_T_K (cl_10 hP.1)) rfl rfl rfl e2 ?_
            refine yi_G_run 1 (60, [(5, .inl pe), (4, .inl ou), (3, .inl j), (2, .inl y), (0, .inr (.inr (some 10))), (1, .inl x)], [.inl j, .inr (.inr (some q1)), .inl z15], (I, L, R, Y), 0, 0) (fun _ => rfl) ?_
            refine yi_G_callv rfl rfl (cl_rcv t3 rfl) rfl (k_promisedTall d (by omega) hP.1 t3 ) ?_
            rintro _ ⟨z16, rfl⟩
            show yi_G zi_Ms d zi_m167 (63, [(5, .inl pe), (4, .inl ou), (3, .inl j), (2, .inl y), (0, .inr (.inr (some 10))), (1, .inl x)], [.inl z16, .inl z15], (I, L, R, Y), 0, 0) _
            by_cases h17 : z15 < z16
            · refine yi_G_if2 true rfl (yi_lt_t h17) ?_
              refine yi_G_run 3 (75, [(6, .inl 0), (5, .inl pe), (4, .inl ou), (3, .inl j), (2, .inl y), (0, .inr (.inr (some 10))), (1, .inl x)], [.inl ou], (I, L, R, Y), 0, 0) (fun _ => rfl) ?_
              by_cases h18 : ou = 0
              · refine yi_G_if1 false rfl (yi_ne_f h18) ?_
                refine yi_G_run 1 (80, [(6, .inl 0), (5, .inl pe), (4, .inl ou), (3, .inl j), (2, .inl y), (0, .inr (.inr (some 10))), (1, .inl x)], [.inl 0], (I, L, R, Y), 0, 0) (fun _ => rfl) ?_
                refine yi_G_if1 true rfl (by decide) ?_
                refine yi_G_run 2 (99, [(4, .inl 0), (6, .inl 0), (5, .inl pe), (3, .inl j), (2, .inl y), (0, .inr (.inr (some 10))), (1, .inl x)], [], (I, L, R, Y), 0, 0) (fun _ => rfl) ?_
                refine yi_G_iinc [(5, .inl (pe + 1)), (4, .inl 0), (6, .inl 0), (3, .inl j), (2, .inl y), (0, .inr (.inr (some 10))), (1, .inl x)] rfl rfl rfl (by rw [show yi_w (pe + 1) = pe + 1 from (yi_wn (by omega) (by omega)).trans (by omega)]; rfl) ?_
                refine yi_G_run 1 (21, [(5, .inl (pe + 1)), (4, .inl 0), (6, .inl 0), (3, .inl j), (2, .inl y), (0, .inr (.inr (some 10))), (1, .inl x)], [], (I, L, R, Y), 0, 0) (fun _ => rfl) ?_
                refine yi_G_al (al := [(5, .inl (pe + 1)), (4, .inl 0), (3, .inl j), (2, .inl y), (0, .inr (.inr (some 10))), (1, .inl x)]) (show ([5, 4, 3, 2, 0, 1] : List Nat).Nodup by decide) (show ([5, 4, 6, 3, 2, 0, 1] : List Nat).Nodup by decide) (yi_mc (List.mem_of_getElem? (i := 0) rfl) (yi_mc (List.mem_of_getElem? (i := 1) rfl) (yi_mc (List.mem_of_getElem? (i := 3) rfl) (yi_mc (List.mem_of_getElem? (i := 4) rfl) (yi_mc (List.mem_of_getElem? (i := 5) rfl) (yi_mc (List.mem_of_getElem? (i := 6) rfl) yi_mn)))))) ?_
                exact ih21 _ (by omega) (pe + 1) 0 (by omega) rfl
              · refine yi_G_if1 true rfl (yi_ne_t h18) ?_
                refine yi_G_run 3 (99, [(4, .inl 1), (6, .inl 0), (5, .inl pe), (3, .inl j), (2, .inl y), (0, .inr (.inr (some 10))), (1, .inl x)], [], (I, L, R, Y), 0, 0) (fun _ => rfl) ?_
                refine yi_G_iinc [(5, .inl (pe + 1)), (4, .inl 1), (6, .inl 0), (3, .inl j), (2, .inl y), (0, .inr (.inr (some 10))), (1, .inl x)] rfl rfl rfl (by rw [show yi_w (pe + 1) = pe + 1 from (yi_wn (by omega) (by omega)).trans (by omega)]; rfl) ?_
                refine yi_G_run 1 (21, [(5, .inl (pe + 1)), (4, .inl 1), (6, .inl 0), (3, .inl j), (2, .inl y), (0, .inr (.inr (some 10))), (1, .inl x)], [], (I, L, R, Y), 0, 0) (fun _ => rfl) ?_
                refine yi_G_al (al := [(5, .inl (pe + 1)), (4, .inl 1), (3, .inl j), (2, .inl y), (0, .inr (.inr (some 10))), (1, .inl x)]) (show ([5, 4, 3, 2, 0, 1] : List Nat).Nodup by decide) (show ([5, 4, 6, 3, 2, 0, 1] : List Nat).Nodup by decide) (yi_mc (List.mem_of_getElem? (i := 0) rfl) (yi_mc (List.mem_of_getElem? (i := 1) rfl) (yi_mc (List.mem_of_getElem? (i := 3) rfl) (yi_mc (List.mem_of_getElem? (i := 4) rfl) (yi_mc (List.mem_of_getElem? (i := 5) rfl) (yi_mc (List.mem_of_getElem? (i := 6) rfl) yi_mn)))))) ?_
                exact ih21 _ (by omega) (pe + 1) 1 (by omega) rfl
            · refine yi_G_if2 false rfl (yi_lt_f h17) ?_
              refine yi_G_run 4 (75, [(6, .inl 1), (5, .inl pe), (4, .inl ou), (3, .inl j), (2, .inl y), (0, .inr (.inr (some 10))), (1, .inl x)], [.inl ou], (I, L, R, Y), 0, 0) (fun _ => rfl) ?_
              by_cases h19 : ou = 0
              · refine yi_G_if1 false rfl (yi_ne_f h19) ?_
                refine yi_G_run 1 (80, [(6, .inl 1), (5, .inl pe), (4, .inl ou), (3, .inl j), (2, .inl y), (0, .inr (.inr (some 10))), (1, .inl x)], [.inl 1], (I, L, R, Y), 0, 0) (fun _ => rfl) ?_
                refine yi_G_if1 false rfl (by decide) ?_
                refine yi_G_run 5 (89, [(6, .inl 1), (5, .inl pe), (4, .inl ou), (3, .inl j), (2, .inl y), (0, .inr (.inr (some 10))), (1, .inl x)], [.inl (yi_iand (yi_shr x pe) 1)], (I, L, R, Y), 0, 0) (fun _ => rfl) ?_
                by_cases h20 : (yi_iand (yi_shr x pe) 1) = 0
                · refine yi_G_if1 false rfl (yi_ne_f h20) ?_
                  refine yi_G_run 3 (99, [(4, .inl 1), (6, .inl 1), (5, .inl pe), (3, .inl j), (2, .inl y), (0, .inr (.inr (some 10))), (1, .inl x)], [], (I, L, R, Y), 0, 0) (fun _ => rfl) ?_
                  refine yi_G_iinc [(5, .inl (pe + 1)), (4, .inl 1), (6, .inl 1), (3, .inl j), (2, .inl y), (0, .inr (.inr (some 10))), (1, .inl x)] rfl rfl rfl (by rw [show yi_w (pe + 1) = pe + 1 from (yi_wn (by omega) (by omega)).trans (by omega)]; rfl) ?_
                  refine yi_G_run 1 (21, [(5, .inl (pe + 1)), (4, .inl 1), (6, .inl 1), (3, .inl j), (2, .inl y), (0, .inr (.inr (some 10))), (1, .inl x)], [], (I, L, R, Y), 0, 0) (fun _ => rfl) ?_
                  refine yi_G_al (al := [(5, .inl (pe + 1)), (4, .inl 1), (3, .inl j), (2, .inl y), (0, .inr (.inr (some 10))), (1, .inl x)]) (show ([5, 4, 3, 2, 0, 1] : List Nat).Nodup by decide) (show ([5, 4, 6, 3, 2, 0, 1] : List Nat).Nodup by decide) (yi_mc (List.mem_of_getElem? (i := 0) rfl) (yi_mc (List.mem_of_getElem? (i := 1) rfl) (yi_mc (List.mem_of_getElem? (i := 3) rfl) (yi_mc (List.mem_of_getElem? (i := 4) rfl) (yi_mc (List.mem_of_getElem? (i := 5) rfl) (yi_mc (List.mem_of_getElem? (i := 6) rfl) yi_mn)))))) ?_
                  exact ih21 _ (by omega) (pe + 1) 1 (by omega) rfl
                · refine yi_G_if1 true rfl (yi_ne_t h20) ?_
                  refine yi_G_run 2 (99, [(4, .inl 0), (6, .inl 1), (5, .inl pe), (3, .inl j), (2, .inl y), (0, .inr (.inr (some 10))), (1, .inl x)], [], (I, L, R, Y), 0, 0) (fun _ => rfl) ?_
                  refine yi_G_iinc [(5, .inl (pe + 1)), (4, .inl 0), (6, .inl 1), (3, .inl j), (2, .inl y), (0, .inr (.inr (some 10))), (1, .inl x)] rfl rfl rfl (by rw [show yi_w (pe + 1) = pe + 1 from (yi_wn (by omega) (by omega)).trans (by omega)]; rfl) ?_
                  refine yi_G_run 1 (21, [(5, .inl (pe + 1)), (4, .inl 0), (6, .inl 1), (3, .inl j), (2, .inl y), (0, .inr (.inr (some 10))), (1, .inl x)], [], (I, L, R, Y), 0, 0) (fun _ => rfl) ?_
                  refine yi_G_al (al := [(5, .inl (pe + 1)), (4, .inl 0), (3, .inl j), (2, .inl y), (0, .inr (.inr (some 10))), (1, .inl x)]) (show ([5, 4, 3, 2, 0, 1] : List Nat).Nodup by decide) (show ([5, 4, 6, 3, 2, 0, 1] : List Nat).Nodup by decide) (yi_mc (List.mem_of_getElem? (i := 0) rfl) (yi_mc (List.mem_of_getElem? (i := 1) rfl) (yi_mc (List.mem_of_getElem? (i := 3) rfl) (yi_mc (List.mem_of_getElem? (i := 4) rfl) (yi_mc (List.mem_of_getElem? (i := 5) rfl) (yi_mc (List.mem_of_getElem? (i := 6) rfl) yi_mn)))))) ?_
                  exact ih21 _ (by omega) (pe + 1) 0 (by omega) rfl
              · refine yi_G_if1 true rfl (yi_ne_t h19) ?_
                refine yi_G_run 3 (99, [(4, .inl 1), (6, .inl 1), (5, .inl pe), (3, .inl j), (2, .inl y), (0, .inr (.inr (some 10))), (1, .inl x)], [], (I, L, R, Y), 0, 0) (fun _ => rfl) ?_
                refine yi_G_iinc [(5, .inl (pe + 1)), (4, .inl 1), (6, .inl 1), (3, .inl j), (2, .inl y), (0, .inr (.inr (some 10))), (1, .inl x)] rfl rfl rfl (by rw [show yi_w (pe + 1) = pe + 1 from (yi_wn (by omega) (by omega)).trans (by omega)]; rfl) ?_
                refine yi_G_run 1 (21, [(5, .inl (pe + 1)), (4, .inl 1), (6, .inl 1), (3, .inl j), (2, .inl y), (0, .inr (.inr (some 10))), (1, .inl x)], [], (I, L, R, Y), 0, 0) (fun _ => rfl) ?_
                refine yi_G_al (al := [(5, .inl (pe + 1)), (4, .inl 1), (3, .inl j), (2, .inl y), (0, .inr (.inr (some 10))), (1, .inl x)]) (show ([5, 4, 3, 2, 0, 1] : List Nat).Nodup by decide) (show ([5, 4, 6, 3, 2, 0, 1] : List Nat).Nodup by decide) (yi_mc (List.mem_of_getElem? (i := 0) rfl) (yi_mc (List.mem_of_getElem? (i := 1) rfl) (yi_mc (List.mem_of_getElem? (i := 3) rfl) (yi_mc (List.mem_of_getElem? (i := 4) rfl) (yi_mc (List.mem_of_getElem? (i := 5) rfl) (yi_mc (List.mem_of_getElem? (i := 6) rfl) yi_mn)))))) ?_
                exact ih21 _ (by omega) (pe + 1) 1 (by omega) rfl
      exact pt21 _ 0 0 (by omega) rfl
  exact pt4 _ 0 0 (by omega) rfl
theorem k_vagueCodeA (D : Nat) (hD : 2 ≤ D) {E : List Nat} {I L : cl_I} {R : cl_Rr} {Y : cl_Y} (hC : cl_C E I L R Y) {x : Int} {y : Int} {w : Int} : yi_E zi_Ms D 183 [.inr (.inr (some 10)), .inl x, .inl y, .inl w] (I, L, R, Y) (fun r => ∃ z, r = (some (.inl z), (I, L, R, Y), 0, 0)) := by
  obtain ⟨d, rfl⟩ : ∃ d, D = d + 1 := ⟨D - 1, by omega⟩
  refine yi_E_of (M := zi_m183) rfl rfl ?_
  have hP : cl_P E I L R Y I L R Y := cl_P_r hC
  show yi_G zi_Ms d zi_m183 (0, [(0, .inr (.inr (some 10))), (1, .inl x), (2, .inl y), (3, .inl w)], [], (I, L, R, Y), 0, 0) _
  refine yi_G_run 1 (1, [(0, .inr (.inr (some 10))), (1, .inl x), (2, .inl y), (3, .inl w)], [.inr (.inr (some 10))], (I, L, R, Y), 0, 0) (fun _ => rfl) ?_
  obtain ⟨q1, e2, t3⟩ := cl_rf hP.1 (cl_10 hP.1) (k := 16) rfl
  refine cl_G_gr rfl (cl_T_K (cl_10 hP.1)) rfl rfl rfl e2 ?_
  have b4 := cl_rd hP.1 t3 (k := 14) (lo := 1) (hi := 6) rfl
  refine cl_G_gi rfl (cl_T_K t3) rfl rfl rfl ?_
  refine yi_G_run 3 (12, [(4, .inl (I q1 14)), (0, .inr (.inr (some 10))), (1, .inl x), (2, .inl y), (3, .inl w)], [.inl (I q1 14), .inl w], (I, L, R, Y), 0, 0) (fun _ => rfl) ?_
  by_cases h5 : (I q1 14) ≤ w
  · refine yi_G_if2 true rfl (yi_ge_t h5) ?_
    refine yi_G_run 4 (33, [(4, .inl (I q1 14)), (0, .inr (.inr (some 10))), (1, .inl x), (2, .inl y), (3, .inl w)], [.inl (yi_w (2 * (I q1 14))), .inl w], (I, L, R, Y), 0, 0) (fun _ => rfl) ?_
    by_cases h6 : (yi_w (2 * (I q1 14))) ≤ w
    · refine yi_G_if2 true rfl (yi_ge_t h6) ?_
      refine yi_G_run 4 (55, [(4, .inl (I q1 14)), (0, .inr (.inr (some 10))), (1, .inl x), (2, .inl y), (3, .inl w)], [.inl (yi_w (3 * (I q1 14))), .inl w], (I, L, R, Y), 0, 0) (fun _ => rfl) ?_
      by_cases h7 : (yi_w (3 * (I q1 14))) ≤ w
      · refine yi_G_if2 true rfl (yi_ge_t h7) ?_
        refine yi_G_run 4 (80, [(4, .inl (I q1 14)), (0, .inr (.inr (some 10))), (1, .inl x), (2, .inl y), (3, .inl w)], [.inl (yi_w (3 * (I q1 14))), .inl w], (I, L, R, Y), 0, 0) (fun _ => rfl) ?_
        by_cases h8 : w = (yi_w (3 * (I q1 14)))
        · refine yi_G_if2 false rfl (yi_ne_f h8) ?_
          refine yi_G_run 5 (89, [(4, .inl (I q1 14)), (0, .inr (.inr (some 10))), (1, .inl x), (2, .inl y), (3, .inl w)], [.inl (I q1 14), .inl 1, .inl y, .inl x, .inl 4], (I, L, R, Y), 0, 0) (fun _ => rfl) ?_
          refine yi_G_calls rfl rfl (k_clauseCode d (by omega) hP.1  ) ?_
          rintro _ ⟨z9, rfl⟩
          show yi_G zi_Ms d zi_m183 (92, [(4, .inl (I q1 14)), (0, .inr (.inr (some 10))), (1, .inl x), (2, .inl y), (3, .inl w)], [.inl z9], (I, L, R, Y), 0, 0) _
          exact yi_G_reti rfl rfl (⟨_, rfl⟩)
        · refine yi_G_if2 true rfl (yi_ne_t h8) ?_
          refine yi_G_run 8 (102, [(4, .inl (I q1 14)), (0, .inr (.inr (some 10))), (1, .inl x), (2, .inl y), (3, .inl w)], [.inl 0, .inl (yi_w ((yi_w (w - (yi_w (3 * (I q1 14))))) - 2))], (I, L, R, Y), 0, 0) (fun _ => rfl) ?_
          refine cl_G_max rfl rfl cl_max ?_
          refine yi_G_run 6 (114, [(5, .inl (max (yi_w ((yi_w (w - (yi_w (3 * (I q1 14))))) - 2)) 0)), (4, .inl (I q1 14)), (0, .inr (.inr (some 10))), (1, .inl x), (2, .inl y), (3, .inl w)], [.inl (max (yi_w ((yi_w (w - (yi_w (3 * (I q1 14))))) - 2)) 0), .inl (max (yi_w ((yi_w (w - (yi_w (3 * (I q1 14))))) - 2)) 0), .inl y, .inl x, .inl 5], (I, L, R, Y), 0, 0) (fun _ => rfl) ?_
          refine yi_G_calls rfl rfl (k_clauseCode d (by omega) hP.1  ) ?_
          rintro _ ⟨z10, rfl⟩
          show yi_G zi_Ms d zi_m183 (117, [(5, .inl (max (yi_w ((yi_w (w - (yi_w (3 * (I q1 14))))) - 2)) 0)), (4, .inl (I q1 14)), (0, .inr (.inr (some 10))), (1, .inl x), (2, .inl y), (3, .inl w)], [.inl z10], (I, L, R, Y), 0, 0) _
          exact yi_G_reti rfl rfl (⟨_, rfl⟩)
      · refine yi_G_if2 false rfl (yi_ge_f h7) ?_
        refine yi_G_run 11 (71, [(4, .inl (I q1 14)), (0, .inr (.inr (some 10))), (1, .inl x), (2, .inl y), (3, .inl w)], [.inl (I q1 14), .inl (yi_w ((yi_w (w - (yi_w (2 * (I q1 14))))) + 1)), .inl y, .inl x, .inl 4], (I, L, R, Y), 0, 0) (fun _ => rfl) ?_
        refine yi_G_calls rfl rfl (k_clauseCode d (by omega) hP.1  ) ?_
        rintro _ ⟨z11, rfl⟩
        show yi_G zi_Ms d zi_m183 (74, [(4, .inl (I q1 14)), (0, .inr (.inr (some 10))), (1, .inl x), (2, .inl y), (3, .inl w)], [.inl z11], (I, L, R, Y), 0, 0) _
        exact yi_G_reti rfl rfl (⟨_, rfl⟩)
    · refine yi_G_if2 false rfl (yi_ge_f h6) ?_
      refine yi_G_run 9 (46, [(4, .inl (I q1 14)), (0, .inr (.inr (some 10))), (1, .inl x), (2, .inl y), (3, .inl w)], [.inl (yi_w ((yi_w (w - (I q1 14))) + 1)), .inl 1, .inl y, .inl x, .inl 4], (I, L, R, Y), 0, 0) (fun _ => rfl) ?_
      refine yi_G_calls rfl rfl (k_clauseCode d (by omega) hP.1  ) ?_
      rintro _ ⟨z12, rfl⟩
      show yi_G zi_Ms d zi_m183 (49, [(4, .inl (I q1 14)), (0, .inr (.inr (some 10))), (1, .inl x), (2, .inl y), (3, .inl w)], [.inl z12], (I, L, R, Y), 0, 0) _
      exact yi_G_reti rfl rfl (⟨_, rfl⟩)
  · refine yi_G_if2 false rfl (yi_ge_f h5) ?_
    refine yi_G_run 9 (24, [(4, .inl (I q1 14)), (0, .inr (.inr (some 10))), (1, .inl x), (2, .inl y), (3, .inl w)], [.inl (yi_w (w + 1)), .inl (yi_w (w + 1)), .inl y, .inl x, .inl 4], (I, L, R, Y), 0, 0) (fun _ => rfl) ?_
    refine yi_G_calls rfl rfl (k_clauseCode d (by omega) hP.1  ) ?_
    rintro _ ⟨z13, rfl⟩
    show yi_G zi_Ms d zi_m183 (27, [(4, .inl (I q1 14)), (0, .inr (.inr (some 10))), (1, .inl x), (2, .inl y), (3, .inl w)], [.inl z13], (I, L, R, Y), 0, 0) _
    exact yi_G_reti rfl rfl (⟨_, rfl⟩)
theorem k_yearCodesA (D : Nat) (hD : 2 ≤ D) {E : List Nat} {I L : cl_I} {R : cl_Rr} {Y : cl_Y} (hC : cl_C E I L R Y) {x : Int} {y : Int} {v : Int} {w : Int} : yi_E zi_Ms D 191 [.inr (.inr (some 10)), .inl x, .inl y, .inl v, .inl w] (I, L, R, Y) (fun r => ∃ z, ∃ I', r = (some (.inl z), (I', L, R, Y), 0, 0) ∧ cl_P E I L R Y I' L R Y ∧ (∀ q k, cl_T E Y q 4 → I' q k = I q k)) := by
  obtain ⟨d, rfl⟩ : ∃ d, D = d + 1 := ⟨D - 1, by omega⟩
  refine yi_E_of (M := zi_m191) rfl rfl ?_
  have hP : cl_P E I L R Y I L R Y := cl_P_r hC
  show yi_G zi_Ms d zi_m191 (0, [(0, .inr (.inr (some 10))), (1, .inl x), (2, .inl y), (3, .inl v), (4, .inl w)], [], (I, L, R, Y), 0, 0) _
  refine yi_G_run 2 (2, [(0, .inr (.inr (some 10))), (1, .inl x), (2, .inl y), (3, .inl v), (4, .inl w)], [.inl 4, .inl x], (I, L, R, Y), 0, 0) (fun _ => rfl) ?_
  by_cases h1 : x = 4
  · refine yi_G_if2 false rfl (yi_ne_f h1) ?_
    refine yi_G_run 5 (14, [(5, .inl 4), (0, .inr (.inr (some 10))), (1, .inl x), (2, .inl y), (3, .inl v), (4, .inl w)], [.inl 1, .inl x], (I, L, R, Y), 0, 0) (fun _ => rfl) ?_
    by_cases h2 : x = 1
    · refine yi_G_if2 false rfl (yi_ne_f h2) ?_
      refine yi_G_run 4 (25, [(6, .inl 1), (5, .inl 4), (0, .inr (.inr (some 10))), (1, .inl x), (2, .inl y), (3, .inl v), (4, .inl w)], [.inr (.inr (some 10))], (I, L, R, Y), 0, 0) (fun _ => rfl) ?_
      obtain ⟨q3, e4, t5, n6⟩ := cl_rn hP.1 (cl_10 hP.1) (k := 13) (m := 1) rfl
      refine cl_G_gr rfl (cl_T_K (cl_10 hP.1)) rfl rfl rfl e4 ?_
      refine yi_G_run 6 (37, [(6, .inl 1), (5, .inl 4), (0, .inr (.inr (some 10))), (1, .inl x), (2, .inl y), (3, .inl v), (4, .inl w)], [.inl v, .inl 1, .inl w, .inl 4, .inl 4, .inl 0, .inr (.inr (some q3))], (I, L, R, Y), 0, 0) (fun _ => rfl) ?_
      refine yi_G_calls rfl rfl (k_clauseCode d (by omega) hP.1  ) ?_
      rintro _ ⟨z7, rfl⟩
      show yi_G zi_Ms d zi_m191 (40, [(6, .inl 1), (5, .inl 4), (0, .inr (.inr (some 10))), (1, .inl x), (2, .inl y), (3, .inl v), (4, .inl w)], [.inl z7, .inl 0, .inr (.inr (some q3))], (I, L, R, Y), 0, 0) _
      refine cl_G_iast rfl t5 (by omega) (by omega) ?_
      have hP8 := cl_P_uI (k := ((0 : Int).toNat)) (v := z7) hP t5 (by omega) (cl_hv0 rfl)
      generalize w9 : yi_u I q3 ((0 : Int).toNat) z7 = I10 at hP8 ⊢
      refine yi_G_run 1 (42, [(6, .inl 1), (5, .inl 4), (0, .inr (.inr (some 10))), (1, .inl x), (2, .inl y), (3, .inl v), (4, .inl w)], [.inr (.inr (some 10))], (I10, L, R, Y), 0, 0) (fun _ => rfl) ?_
      refine cl_G_gr rfl (cl_T_K (cl_10 hP8.1)) rfl rfl rfl e4 ?_
      refine yi_G_run 2 (47, [(6, .inl 1), (5, .inl 4), (0, .inr (.inr (some 10))), (1, .inl x), (2, .inl y), (3, .inl v), (4, .inl w)], [.inl 1, .inl 1, .inr (.inr (some q3))], (I10, L, R, Y), 0, 0) (fun _ => rfl) ?_
      refine cl_G_iast rfl t5 (by omega) (by omega) ?_
      have hP11 := cl_P_uI (k := ((1 : Int).toNat)) (v := 1) hP8 t5 (by omega) (cl_hv0 rfl)
      generalize w12 : yi_u I10 q3 ((1 : Int).toNat) 1 = I13 at hP11 ⊢
      refine yi_G_run 2 (50, [(6, .inl 1), (5, .inl 4), (0, .inr (.inr (some 10))), (1, .inl x), (2, .inl y), (3, .inl v), (4, .inl w)], [.inl 2, .inl x], (I13, L, R, Y), 0, 0) (fun _ => rfl) ?_
      by_cases h14 : x = 2
      · refine yi_G_if2 false rfl (yi_ne_f h14) ?_
        refine yi_G_run 2 (58, [(6, .inl 1), (5, .inl 4), (0, .inr (.inr (some 10))), (1, .inl x), (2, .inl y), (3, .inl v), (4, .inl w)], [.inl 2], (I13, L, R, Y), 0, 0) (fun _ => rfl) ?_
        exact yi_G_reti rfl rfl (⟨_, _, rfl, hP11, (fun q k tq => by rw [← w12, yi_u_ne _ _ (fun z => cl_ne (cl_T_x tq hP11.2.1) t5 (by decide) z.1), ← w9, yi_u_ne _ _ (fun z => cl_ne (cl_T_x tq hP11.2.1) t5 (by decide) z.1)])⟩)
      · refine yi_G_if2 true rfl (yi_ne_t h14) ?_
        refine yi_G_run 1 (58, [(6, .inl 1), (5, .inl 4), (0, .inr (.inr (some 10))), (1, .inl x), (2, .inl y), (3, .inl v), (4, .inl w)], [.inl 1], (I13, L, R, Y), 0, 0) (fun _ => rfl) ?_
        exact yi_G_reti rfl rfl (⟨_, _, rfl, hP11, (fun q k tq => by rw [← w12, yi_u_ne _ _ (fun z => cl_ne (cl_T_x tq hP11.2.1) t5 (by decide) z.1), ← w9, yi_u_ne _ _ (fun z => cl_ne (cl_T_x tq hP11.2.1) t5 (by decide) z.1)])⟩)
    · refine yi_G_if2 true rfl (yi_ne_t h2) ?_
      refine yi_G_run 3 (25, [(6, .inl v), (5, .inl 4), (0, .inr (.inr (some 10))), (1, .inl x), (2, .inl y), (3, .inl v), (4, .inl w)], [.inr (.inr (some 10))], (I, L, R, Y), 0, 0) (fun _ => rfl) ?_
      obtain ⟨q15, e16, t17, n18⟩ := cl_rn hP.1 (cl_10 hP.1) (k := 13) (m := 1) rfl
      refine cl_G_gr rfl (cl_T_K (cl_10 hP.1)) rfl rfl rfl e16 ?_
      refine yi_G_run 6 (37, [(6, .inl v), (5, .inl 4), (0, .inr (.inr (some 10))), (1, .inl x), (2, .inl y), (3, .inl v), (4, .inl w)], [.inl v, .inl v, .inl w, .inl 4, .inl 4, .inl 0, .inr (.inr (some q15))], (I, L, R, Y), 0, 0) (fun _ => rfl) ?_
      refine yi_G_calls rfl rfl (k_clauseCode d (by omega) hP.1  ) ?_
      rintro _ ⟨z19, rfl⟩
      show yi_G zi_Ms d zi_m191 (40, [(6, .inl v), (5, .inl 4), (0, .inr (.inr (some 10))), (1, .inl x), (2, .inl y), (3, .inl v), (4, .inl w)], [.inl z19, .inl 0, .inr (.inr (some q15))], (I, L, R, Y), 0, 0) _
      refine cl_G_iast rfl t17 (by omega) (by omega) ?_
      have hP20 := cl_P_uI (k := ((0 : Int).toNat)) (v := z19) hP t17 (by omega) (cl_hv0 rfl)
      generalize w21 : yi_u I q15 ((0 : Int).toNat) z19 = I22 at hP20 ⊢
      refine yi_G_run 1 (42, [(6, .inl v), (5, .inl 4), (0, .inr (.inr (some 10))), (1, .inl x), (2, .inl y), (3, .inl v), (4, .inl w)], [.inr (.inr (some 10))], (I22, L, R, Y), 0, 0) (fun _ => rfl) ?_
      refine cl_G_gr rfl (cl_T_K (cl_10 hP20.1)) rfl rfl rfl e16 ?_
      refine yi_G_run 2 (47, [(6, .inl v), (5, .inl 4), (0, .inr (.inr (some 10))), (1, .inl x), (2, .inl y), (3, .inl v), (4, .inl w)], [.inl 1, .inl 1, .inr (.inr (some q15))], (I22, L, R, Y), 0, 0) (fun _ => rfl) ?_
      refine cl_G_iast rfl t17 (by omega) (by omega) ?_
      have hP23 := cl_P_uI (k := ((1 : Int).toNat)) (v := 1) hP20 t17 (by omega) (cl_hv0 rfl)
      generalize w24 : yi_u I22 q15 ((1 : Int).toNat) 1 = I25 at hP23 ⊢
      refine yi_G_run 2 (50, [(6, .inl v), (5, .inl 4), (0, .inr (.inr (some 10))), (1, .inl x), (2, .inl y), (3, .inl v), (4, .inl w)], [.inl 2, .inl x], (I25, L, R, Y), 0, 0) (fun _ => rfl) ?_
      by_cases h26 : x = 2
      · refine yi_G_if2 false rfl (yi_ne_f h26) ?_
        refine yi_G_run 2 (58, [(6, .inl v), (5, .inl 4), (0, .inr (.inr (some 10))), (1, .inl x), (2, .inl y), (3, .inl v), (4, .inl w)], [.inl 2], (I25, L, R, Y), 0, 0) (fun _ => rfl) ?_
        exact yi_G_reti rfl rfl (⟨_, _, rfl, hP23, (fun q k tq => by rw [← w24, yi_u_ne _ _ (fun z => cl_ne (cl_T_x tq hP23.2.1) t17 (by decide) z.1), ← w21, yi_u_ne _ _ (fun z => cl_ne (cl_T_x tq hP23.2.1) t17 (by decide) z.1)])⟩)
      · refine yi_G_if2 true rfl (yi_ne_t h26) ?_
        refine yi_G_run 1 (58, [(6, .inl v), (5, .inl 4), (0, .inr (.inr (some 10))), (1, .inl x), (2, .inl y), (3, .inl v), (4, .inl w)], [.inl 1], (I25, L, R, Y), 0, 0) (fun _ => rfl) ?_
        exact yi_G_reti rfl rfl (⟨_, _, rfl, hP23, (fun q k tq => by rw [← w24, yi_u_ne _ _ (fun z => cl_ne (cl_T_x tq hP23.2.1) t17 (by decide) z.1), ← w21, yi_u_ne _ _ (fun z => cl_ne (cl_T_x tq hP23.2.1) t17 (by decide) z.1)])⟩)
  · refine yi_G_if2 true rfl (yi_ne_t h1) ?_
    refine yi_G_run 4 (14, [(5, .inl y), (0, .inr (.inr (some 10))), (1, .inl x), (2, .inl y), (3, .inl v), (4, .inl w)], [.inl 1, .inl x], (I, L, R, Y), 0, 0) (fun _ => rfl) ?_
    by_cases h27 : x = 1
    · refine yi_G_if2 false rfl (yi_ne_f h27) ?_
      refine yi_G_run 4 (25, [(6, .inl 1), (5, .inl y), (0, .inr (.inr (some 10))), (1, .inl x), (2, .inl y), (3, .inl v), (4, .inl w)], [.inr (.inr (some 10))], (I, L, R, Y), 0, 0) (fun _ => rfl) ?_
      obtain ⟨q28, e29, t30, n31⟩ := cl_rn hP.1 (cl_10 hP.1) (k := 13) (m := 1) rfl
      refine cl_G_gr rfl (cl_T_K (cl_10 hP.1)) rfl rfl rfl e29 ?_
      refine yi_G_run 6 (37, [(6, .inl 1), (5, .inl y), (0, .inr (.inr (some 10))), (1, .inl x), (2, .inl y), (3, .inl v), (4, .inl w)], [.inl v, .inl 1, .inl w, .inl y, .inl 4, .inl 0, .inr (.inr (some q28))], (I, L, R, Y), 0, 0) (fun _ => rfl) ?_
      refine yi_G_calls rfl rfl (k_clauseCode d (by omega) hP.1  ) ?_
      rintro _ ⟨z32, rfl⟩
      show yi_G zi_Ms d zi_m191 (40, [(6, .inl 1), (5, .inl y), (0, .inr (.inr (some 10))), (1, .inl x), (2, .inl y), (3, .inl v), (4, .inl w)], [.inl z32, .inl 0, .inr (.inr (some q28))], (I, L, R, Y), 0, 0) _
      refine cl_G_iast rfl t30 (by omega) (by omega) ?_
      have hP33 := cl_P_uI (k := ((0 : Int).toNat)) (v := z32) hP t30 (by omega) (cl_hv0 rfl)
      generalize w34 : yi_u I q28 ((0 : Int).toNat) z32 = I35 at hP33 ⊢
      refine yi_G_run 1 (42, [(6, .inl 1), (5, .inl y), (0, .inr (.inr (some 10))), (1, .inl x), (2, .inl y), (3, .inl v), (4, .inl w)], [.inr (.inr (some 10))], (I35, L, R, Y), 0, 0) (fun _ => rfl) ?_
      refine cl_G_gr rfl (cl_T_K (cl_10 hP33.1)) rfl rfl rfl e29 ?_
      refine yi_G_run 2 (47, [(6, .inl 1), (5, .inl y), (0, .inr (.inr (some 10))), (1, .inl x), (2, .inl y), (3, .inl v), (4, .inl w)], [.inl 1, .inl 1, .inr (.inr (some q28))], (I35, L, R, Y), 0, 0) (fun _ => rfl) ?_
      refine cl_G_iast rfl t30 (by omega) (by omega) ?_
      have hP36 := cl_P_uI (k := ((1 : Int).toNat)) (v := 1) hP33 t30 (by omega) (cl_hv0 rfl)
      generalize w37 : yi_u I35 q28 ((1 : Int).toNat) 1 = I38 at hP36 ⊢
      refine yi_G_run 2 (50, [(6, .inl 1), (5, .inl y), (0, .inr (.inr (some 10))), (1, .inl x), (2, .inl y), (3, .inl v), (4, .inl w)], [.inl 2, .inl x], (I38, L, R, Y), 0, 0) (fun _ => rfl) ?_
      by_cases h39 : x = 2
      · refine yi_G_if2 false rfl (yi_ne_f h39) ?_
        refine yi_G_run 2 (58, [(6, .inl 1), (5, .inl y), (0, .inr (.inr (some 10))), (1, .inl x), (2, .inl y), (3, .inl v), (4, .inl w)], [.inl 2], (I38, L, R, Y), 0, 0) (fun _ => rfl) ?_
        exact yi_G_reti rfl rfl (⟨_, _, rfl, hP36, (fun q k tq => by rw [← w37, yi_u_ne _ _ (fun z => cl_ne (cl_T_x tq hP36.2.1) t30 (by decide) z.1), ← w34, yi_u_ne _ _ (fun z => cl_ne (cl_T_x tq hP36.2.1) t30 (by decide) z.1)])⟩)
      · refine yi_G_if2 true rfl (yi_ne_t h39) ?_
        refine yi_G_run 1 (58, [(6, .inl 1), (5, .inl y), (0, .inr (.inr (some 10))), (1, .inl x), (2, .inl y), (3, .inl v), (4, .inl w)], [.inl 1], (I38, L, R, Y), 0, 0) (fun _ => rfl) ?_
        exact yi_G_reti rfl rfl (⟨_, _, rfl, hP36, (fun q k tq => by rw [← w37, yi_u_ne _ _ (fun z => cl_ne (cl_T_x tq hP36.2.1) t30 (by decide) z.1), ← w34, yi_u_ne _ _ (fun z => cl_ne (cl_T_x tq hP36.2.1) t30 (by decide) z.1)])⟩)
    · refine yi_G_if2 true rfl (yi_ne_t h27) ?_
      refine yi_G_run 3 (25, [(6, .inl v), (5, .inl y), (0, .inr (.inr (some 10))), (1, .inl x), (2, .inl y), (3, .inl v), (4, .inl w)], [.inr (.inr (some 10))], (I, L, R, Y), 0, 0) (fun _ => rfl) ?_
      obtain ⟨q40, e41, t42, n43⟩ := cl_rn hP.1 (cl_10 hP.1) (k := 13) (m := 1) rfl
      refine cl_G_gr rfl (cl_T_K (cl_10 hP.1)) rfl rfl rfl e41 ?_
      refine yi_G_run 6 (37, [(6, .inl v), (5, .inl y), (0, .inr (.inr (some 10))), (1, .inl x), (2, .inl y), (3, .inl v), (4, .inl w)], [.inl v, .inl v, .inl w, .inl y, .inl 4, .inl 0, .inr (.inr (some q40))], (I, L, R, Y), 0, 0) (fun _ => rfl) ?_
      refine yi_G_calls rfl rfl (k_clauseCode d (by omega) hP.1  ) ?_
      rintro _ ⟨z44, rfl⟩
      show yi_G zi_Ms d zi_m191 (40, [(6, .inl v), (5, .inl y), (0, .inr (.inr (some 10))), (1, .inl x), (2, .inl y), (3, .inl v), (4, .inl w)], [.inl z44, .inl 0, .inr (.inr (some q40))], (I, L, R, Y), 0, 0) _
      refine cl_G_iast rfl t42 (by omega) (by omega) ?_
      have hP45 := cl_P_uI (k := ((0 : Int).toNat)) (v := z44) hP t42 (by omega) (cl_hv0 rfl)
      generalize w46 : yi_u I q40 ((0 : Int).toNat) z44 = I47 at hP45 ⊢
      refine yi_G_run 1 (42, [(6, .inl v), (5, .inl y), (0, .inr (.inr (some 10))), (1, .inl x), (2, .inl y), (3, .inl v), (4, .inl w)], [.inr (.inr (some 10))], (I47, L, R, Y), 0, 0) (fun _ => rfl) ?_
      refine cl_G_gr rfl (cl_T_K (cl_10 hP45.1)) rfl rfl rfl e41 ?_
      refine yi_G_run 2 (47, [(6, .inl v), (5, .inl y), (0, .inr (.inr (some 10))), (1, .inl x), (2, .inl y), (3, .inl v), (4, .inl w)], [.inl 1, .inl 1, .inr (.inr (some q40))], (I47, L, R, Y), 0, 0) (fun _ => rfl) ?_
      refine cl_G_iast rfl t42 (by omega) (by omega) ?_
      have hP48 := cl_P_uI (k := ((1 : Int).toNat)) (v := 1) hP45 t42 (by omega) (cl_hv0 rfl)
      generalize w49 : yi_u I47 q40 ((1 : Int).toNat) 1 = I50 at hP48 ⊢
      refine yi_G_run 2 (50, [(6, .inl v), (5, .inl y), (0, .inr (.inr (some 10))), (1, .inl x), (2, .inl y), (3, .inl v), (4, .inl w)], [.inl 2, .inl x], (I50, L, R, Y), 0, 0) (fun _ => rfl) ?_
      by_cases h51 : x = 2
      · refine yi_G_if2 false rfl (yi_ne_f h51) ?_
        refine yi_G_run 2 (58, [(6, .inl v), (5, .inl y), (0, .inr (.inr (some 10))), (1, .inl x), (2, .inl y), (3, .inl v), (4, .inl w)], [.inl 2], (I50, L, R, Y), 0, 0) (fun _ => rfl) ?_
        exact yi_G_reti rfl rfl (⟨_, _, rfl, hP48, (fun q k tq => by rw [← w49, yi_u_ne _ _ (fun z => cl_ne (cl_T_x tq hP48.2.1) t42 (by decide) z.1), ← w46, yi_u_ne _ _ (fun z => cl_ne (cl_T_x tq hP48.2.1) t42 (by decide) z.1)])⟩)
      · refine yi_G_if2 true rfl (yi_ne_t h51) ?_
        refine yi_G_run 1 (58, [(6, .inl v), (5, .inl y), (0, .inr (.inr (some 10))), (1, .inl x), (2, .inl y), (3, .inl v), (4, .inl w)], [.inl 1], (I50, L, R, Y), 0, 0) (fun _ => rfl) ?_
        exact yi_G_reti rfl rfl (⟨_, _, rfl, hP48, (fun q k tq => by rw [← w49, yi_u_ne _ _ (fun z => cl_ne (cl_T_x tq hP48.2.1) t42 (by decide) z.1), ← w46, yi_u_ne _ _ (fun z => cl_ne (cl_T_x tq hP48.2.1) t42 (by decide) z.1)])⟩)
theorem k_leftWithA (D : Nat) (hD : 7 ≤ D) {E : List Nat} {I L : cl_I} {R : cl_Rr} {Y : cl_Y} (hC : cl_C E I L R Y) {x : Int} : yi_E zi_Ms D 163 [.inr (.inr (some 10)), .inl x] (I, L, R, Y) (fun r => ∃ z, ∃ I', ∃ L', ∃ R', ∃ Y', ∃ nc ns, r = (some (.inl z), (I', L', R', Y'), nc, ns) ∧ cl_P E I L R Y I' L' R' Y' ∧ nc ≤ 1 ∧ ns ≤ 513) := by
  obtain ⟨d, rfl⟩ : ∃ d, D = d + 1 := ⟨D - 1, by omega⟩
  refine yi_E_of (M := zi_m163) rfl rfl ?_
  have hP : cl_P E I L R Y I L R Y := cl_P_r hC
  show yi_G zi_Ms d zi_m163 (0, [(0, .inr (.inr (some 10))), (1, .inl x)], [], (I, L, R, Y), 0, 0) _
  refine yi_G_run 1 (1, [(0, .inr (.inr (some 10))), (1, .inl x)], [.inr (.inr (some 10))], (I, L, R, Y), 0, 0) (fun _ => rfl) ?_
  obtain ⟨q1, e2, t3, n4⟩ := cl_rn hP.1 (cl_10 hP.1) (k := 13) (m := 1) rfl
  refine cl_G_gr rfl (cl_T_K (cl_10 hP.1)) rfl rfl rfl e2 ?_
  refine yi_G_run 2 (6, [(0, .inr (.inr (some 10))), (1, .inl x)], [.inl x, .inl 0, .inr (.inr (some q1))], (I, L, R, Y), 0, 0) (fun _ => rfl) ?_
  refine cl_G_iast rfl t3 (by omega) (by omega) ?_
  have hP5 := cl_P_uI (k := ((0 : Int).toNat)) (v := x) hP t3 (by omega) (cl_hv0 rfl)
  generalize w6 : yi_u I q1 ((0 : Int).toNat) x = I7 at hP5 ⊢
  refine yi_G_run 1 (8, [(0, .inr (.inr (some 10))), (1, .inl x)], [.inr (.inr (some 10))], (I7, L, R, Y), 0, 0) (fun _ => rfl) ?_
  refine cl_G_gr rfl (cl_T_K (cl_10 hP5.1)) rfl rfl rfl (hP5.1.2.2.2.1.2.2.2.2.2.2.1) ?_
  refine yi_G_run 1 (12, [(0, .inr (.inr (some 10))), (1, .inl x)], [.inr (.inr (some 10)), .inr (.inr (some 34))], (I7, L, R, Y), 0, 0) (fun _ => rfl) ?_
  refine cl_G_gr rfl (cl_T_K (cl_10 hP5.1)) rfl rfl rfl e2 ?_
  refine yi_G_run 3 (18, [(0, .inr (.inr (some 10))), (1, .inl x)], [.inr (.inr (some 10)), .inl 1, .inl 0, .inr (.inr (some q1)), .inr (.inr (some 34))], (I7, L, R, Y), 0, 0) (fun _ => rfl) ?_
  refine cl_G_gr rfl (cl_T_K (cl_10 hP5.1)) rfl rfl rfl (hP5.1.2.2.2.1.2.2.2.2.2.2.2.2.1) ?_
  refine yi_G_callv rfl rfl (cl_rcv (cl_34 hP5.1) rfl) rfl (k_solve d (by omega) hP5.1 (cl_34 hP5.1) t3 (cl_60 hP5.1) ) ?_
  rintro _ ⟨I8, L8, R8, Y8, nc8, ns8, rfl, hQ8, ca8, cb8, x8a, x8b, x8c⟩
  have hP8 := cl_P_t hP5 hQ8
  have t9 := cl_T_x t3 hQ8.2.1
  have n10 := (cl_T_n t3 hQ8.2.1).trans n4
  show yi_G zi_Ms d zi_m163 (24, [(0, .inr (.inr (some 10))), (1, .inl x)], [], (I8, L8, R8, Y8), 0 + nc8, 0 + ns8) _
  refine yi_G_run 1 (25, [(0, .inr (.inr (some 10))), (1, .inl x)], [.inr (.inr (some 10))], (I8, L8, R8, Y8), 0 + nc8, 0 + ns8) (fun _ => rfl) ?_
  refine cl_G_gr rfl (cl_T_K (cl_10 hP8.1)) rfl rfl rfl (hP8.1.2.2.2.1.2.2.2.2.2.2.2.1) ?_
  refine yi_G_run 1 (29, [(0, .inr (.inr (some 10))), (1, .inl x)], [.inr (.inr (some 10)), .inr (.inr (some 58))], (I8, L8, R8, Y8), 0 + nc8, 0 + ns8) (fun _ => rfl) ?_
  refine cl_G_gr rfl (cl_T_K (cl_10 hP8.1)) rfl rfl rfl (hP8.1.2.2.2.1.2.2.2.2.2.2.2.2.1) ?_
  refine yi_G_callv rfl rfl (cl_rcv (cl_58 hP8.1) rfl) rfl (k_sizeWith d (by omega) hP8.1 (cl_58 hP8.1) (cl_60 hP8.1) ) ?_
  rintro _ ⟨z11, rfl⟩
  show yi_G zi_Ms d zi_m163 (35, [(0, .inr (.inr (some 10))), (1, .inl x)], [.inl z11], (I8, L8, R8, Y8), 0 + nc8, 0 + ns8) _
  exact yi_G_reti rfl rfl (⟨_, _, _, _, _, _, _, rfl, hP8, by omega, by omega⟩)
theorem k_rememberA (D : Nat) (hD : 4 ≤ D) {E : List Nat} {I L : cl_I} {R : cl_Rr} {Y : cl_Y} (hC : cl_C E I L R Y) : yi_E zi_Ms D 170 [.inr (.inr (some 10))] (I, L, R, Y) (fun r => ∃ I', ∃ L', ∃ R', ∃ Y', ∃ nc ns, r = (none, (I', L', R', Y'), nc, ns) ∧ cl_P E I L R Y I' L' R' Y' ∧ nc ≤ 6 ∧ ns ≤ 90) := by
  obtain ⟨d, rfl⟩ : ∃ d, D = d + 1 := ⟨D - 1, by omega⟩
  refine yi_E_of (M := zi_m170) rfl rfl ?_
  have hP : cl_P E I L R Y I L R Y := cl_P_r hC
  show yi_G zi_Ms d zi_m170 (0, [(0, .inr (.inr (some 10)))], [], (I, L, R, Y), 0, 0) _
  refine yi_G_run 1 (1, [(0, .inr (.inr (some 10)))], [.inr (.inr (some 10))], (I, L, R, Y), 0, 0) (fun _ => rfl) ?_
  have b1 := cl_rd hP.1 (cl_10 hP.1) (k := 17) (lo := 0) (hi := 15) rfl
  refine cl_G_gi rfl (cl_T_K (cl_10 hP.1)) rfl rfl rfl ?_
  refine yi_G_run 1 (5, [(0, .inr (.inr (some 10)))], [.inr (.inr (some 10)), .inl (I 10 17)], (I, L, R, Y), 0, 0) (fun _ => rfl) ?_
  have b2 := cl_rd hP.1 (cl_10 hP.1) (k := 18) (lo := 0) (hi := 16) rfl
  refine cl_G_gi rfl (cl_T_K (cl_10 hP.1)) rfl rfl rfl ?_
  refine yi_G_iadd rfl ((I 10 17) + (I 10 18)) (yi_wn (by omega) (by omega)) ?_
  refine yi_G_run 1 (11, [(0, .inr (.inr (some 10)))], [.inl 16, .inl ((I 10 17) + (I 10 18))], (I, L, R, Y), 0, 0) (fun _ => rfl) ?_
  refine yi_G_calls rfl rfl (k_floorMod d (by omega) hP.1  (by omega) (by omega)) ?_
  rintro _ ⟨z3, rfl, x3a⟩
  show yi_G zi_Ms d zi_m170 (14, [(0, .inr (.inr (some 10)))], [.inl z3], (I, L, R, Y), 0, 0) _
  refine yi_G_run 2 (16, [(1, .inl z3), (0, .inr (.inr (some 10)))], [.inr (.inr (some 10))], (I, L, R, Y), 0, 0) (fun _ => rfl) ?_
  have b4 := cl_rd hP.1 (cl_10 hP.1) (k := 18) (lo := 0) (hi := 16) rfl
  refine cl_G_gi rfl (cl_T_K (cl_10 hP.1)) rfl rfl rfl ?_
  refine yi_G_run 1 (21, [(1, .inl z3), (0, .inr (.inr (some 10)))], [.inl 16, .inl (I 10 18)], (I, L, R, Y), 0, 0) (fun _ => rfl) ?_
  by_cases h5 : 16 ≤ (I 10 18)
  · refine yi_G_if2 true rfl (yi_ge_t h5) ?_
    refine yi_G_run 2 (39, [(1, .inl z3), (0, .inr (.inr (some 10)))], [.inr (.inr (some 10)), .inr (.inr (some 10))], (I, L, R, Y), 0, 0) (fun _ => rfl) ?_
    have b6 := cl_rd hP.1 (cl_10 hP.1) (k := 17) (lo := 0) (hi := 15) rfl
    refine cl_G_gi rfl (cl_T_K (cl_10 hP.1)) rfl rfl rfl ?_
    refine yi_G_run 1 (43, [(1, .inl z3), (0, .inr (.inr (some 10)))], [.inl 1, .inl (I 10 17), .inr (.inr (some 10))], (I, L, R, Y), 0, 0) (fun _ => rfl) ?_
    refine yi_G_iadd rfl ((I 10 17) + 1) (yi_wn (by omega) (by omega)) ?_
    refine yi_G_run 1 (46, [(1, .inl z3), (0, .inr (.inr (some 10)))], [.inl 16, .inl ((I 10 17) + 1), .inr (.inr (some 10))], (I, L, R, Y), 0, 0) (fun _ => rfl) ?_
    refine yi_G_calls rfl rfl (k_floorMod d (by omega) hP.1  (by omega) (by omega)) ?_
    rintro _ ⟨z7, rfl, x7a⟩
    show yi_G zi_Ms d zi_m170 (49, [(1, .inl z3), (0, .inr (.inr (some 10)))], [.inl z7, .inr (.inr (some 10))], (I, L, R, Y), 0, 0) _
    refine cl_G_pi rfl (cl_T_K (cl_10 hP.1)) rfl rfl rfl ?_
    have hP8 := cl_P_uI (k := 17) (v := z7) hP (cl_10 hP.1) (by decide) (cl_hv rfl (by omega) (by omega))
    generalize w9 : yi_u I 10 17 z7 = I10 at hP8 ⊢
    refine yi_G_run 1 (53, [(1, .inl z3), (0, .inr (.inr (some 10)))], [.inr (.inr (some 10))], (I10, L, R, Y), 0, 0) (fun _ => rfl) ?_
    obtain ⟨q11, e12, t13, n14⟩ := cl_rn hP8.1 (cl_10 hP8.1) (k := 7) (m := 15) rfl
    refine cl_G_gr rfl (cl_T_K (cl_10 hP8.1)) rfl rfl rfl e12 ?_
    refine yi_G_run 1 (57, [(1, .inl z3), (0, .inr (.inr (some 10)))], [.inl z3, .inr (.inr (some q11))], (I10, L, R, Y), 0, 0) (fun _ => rfl) ?_
    rcases cl_ro hP8.1 t13 (k := z3.toNat) rfl with e16 | ⟨q15, e16, t17⟩
    · refine cl_G_aald rfl t13 (by omega) (by omega) (by omega) e16 ?_
      refine yi_G_run 2 (60, [(2, .inr (.inr none)), (1, .inl z3), (0, .inr (.inr (some 10)))], [.inr (.inr none)], (I10, L, R, Y), 0, 0) (fun _ => rfl) ?_
      refine cl_G_nnl true rfl rfl ?_
      refine cl_G_mko (m := 9) rfl hP8 rfl rfl (fun e18x I18 L18 R18 Y18 ee18 hP18 x18 tt18 z18 y18 k18 g18 m18 o18 => ?_)
      have n19 := (cl_T_n t13 x18).trans n14
      have t20 := tt18 _ _ t13
      have e21 := (o18 10 7 (cl_10 hP8.1).2.1).1.trans e12
      have e22 := (o18 q11 (z3.toNat) (t13).2.1).1.trans e16
      refine yi_G_run 1 (67, [(2, .inr (.inr none)), (1, .inl z3), (0, .inr (.inr (some 10)))], [.inr (.inr (some e18x)), .inr (.inr (some e18x))], (I18, L18, R18, Y18), 0 + 1, 0 + 9) (fun _ => rfl) ?_
      refine cl_G_callx rfl rfl rfl rfl (k_Story0 d (by omega) hP18.1 g18 k18 m18 z18 y18  ) ?_
      rintro _ ⟨I23, L23, R23, Y23, nc23, ns23, rfl, hQ23, ca23, cb23, t23, x23a⟩
      have hP23 := cl_P_t hP18 hQ23
      have t24 := cl_T_x (cl_T_d t20) hQ23.2.1
      have n25 := (cl_T_n t20 hQ23.2.1).trans n19
      have e26 := (x23a 10 7 (cl_10 hP18.1).2.1 (by have := g18.2.2; omega)).2.trans e21
      have e27 := (x23a q11 (z3.toNat) t20.2.1 (fun z => t20.2.2.2.1 (by rw [z]; simp))).2.trans e22
      show yi_G zi_Ms d zi_m170 (70, [(2, .inr (.inr none)), (1, .inl z3), (0, .inr (.inr (some 10)))], [.inr (.inr (some e18x))], (I23, L23, R23, Y23), 0 + 1 + nc23, 0 + 9 + ns23) _
      refine yi_G_run 2 (72, [(2, .inr (.inr (some e18x))), (1, .inl z3), (0, .inr (.inr (some 10)))], [.inr (.inr (some 10))], (I23, L23, R23, Y23), 0 + 1 + nc23, 0 + 9 + ns23) (fun _ => rfl) ?_
      refine cl_G_gr rfl (cl_T_K (cl_10 hP23.1)) rfl rfl rfl e26 ?_
      refine yi_G_run 2 (77, [(2, .inr (.inr (some e18x))), (1, .inl z3), (0, .inr (.inr (some 10)))], [.inr (.inr (some e18x)), .inl z3, .inr (.inr (some q11))], (I23, L23, R23, Y23), 0 + 1 + nc23, 0 + 9 + ns23) (fun _ => rfl) ?_
      refine cl_G_aast rfl t24 (by omega) rfl (by omega) (by omega) (Or.inr ⟨_, rfl, t23⟩) ?_
      have hP28 := cl_P_uR (k := (z3.toNat)) (v := (some e18x)) hP23 t24 (by omega) (by omega) (cl_hro rfl t23)
      generalize w29 : cl_u R23 q11 (z3.toNat) (some e18x) = R30 at hP28 ⊢
      have e31 : R30 10 7 = some q11 := by rw [← w29, cl_u_ne _ _ (fun z => cl_ne (cl_10 hP23.1) t24 (by decide) z.1)]; exact e26
      have e32 : R30 q11 (z3.toNat) = some e18x := by rw [← w29, cl_u_eq]
      refine yi_G_run 2 (80, [(2, .inr (.inr (some e18x))), (1, .inl z3), (0, .inr (.inr (some 10)))], [.inr (.inr (some 10)), .inr (.inr (some e18x))], (I23, L23, R30, Y23), 0 + 1 + nc23, 0 + 9 + ns23) (fun _ => rfl) ?_
      obtain ⟨q33, e34, t35⟩ := cl_rf hP28.1 (cl_10 hP28.1) (k := 6) rfl
      refine cl_G_gr rfl (cl_T_K (cl_10 hP28.1)) rfl rfl rfl e34 ?_
      refine yi_G_callv rfl rfl (cl_rcv t23 rfl) rfl (k_copyS d (by omega) hP28.1 t23 t35 ) ?_
      rintro _ ⟨I36, R36, rfl, hQ36⟩
      have hP36 := cl_P_t hP28 hQ36
      show yi_G zi_Ms d zi_m170 (86, [(2, .inr (.inr (some e18x))), (1, .inl z3), (0, .inr (.inr (some 10)))], [], (I36, L23, R36, Y23), 0 + 1 + nc23, 0 + 9 + ns23) _
      exact yi_G_retv rfl rfl (⟨_, _, _, _, _, _, rfl, hP36, by omega, by omega⟩)
    · refine cl_G_aald rfl t13 (by omega) (by omega) (by omega) e16 ?_
      refine yi_G_run 2 (60, [(2, .inr (.inr (some q15))), (1, .inl z3), (0, .inr (.inr (some 10)))], [.inr (.inr (some q15))], (I10, L, R, Y), 0, 0) (fun _ => rfl) ?_
      refine cl_G_nnl false rfl rfl ?_
      refine yi_G_run 2 (80, [(2, .inr (.inr (some q15))), (1, .inl z3), (0, .inr (.inr (some 10)))], [.inr (.inr (some 10)), .inr (.inr (some q15))], (I10, L, R, Y), 0, 0) (fun _ => rfl) ?_
      obtain ⟨q37, e38, t39⟩ := cl_rf hP8.1 (cl_10 hP8.1) (k := 6) rfl
      refine cl_G_gr rfl (cl_T_K (cl_10 hP8.1)) rfl rfl rfl e38 ?_
      refine yi_G_callv rfl rfl (cl_rcv t17 rfl) rfl (k_copyS d (by omega) hP8.1 t17 t39 ) ?_
      rintro _ ⟨I40, R40, rfl, hQ40⟩
      have hP40 := cl_P_t hP8 hQ40
      show yi_G zi_Ms d zi_m170 (86, [(2, .inr (.inr (some q15))), (1, .inl z3), (0, .inr (.inr (some 10)))], [], (I40, L, R40, Y), 0, 0) _
      exact yi_G_retv rfl rfl (⟨_, _, _, _, _, _, rfl, hP40, by omega, by omega⟩)
  · refine yi_G_if2 false rfl (yi_ge_f h5) ?_
    refine yi_G_run 2 (26, [(1, .inl z3), (0, .inr (.inr (some 10)))], [.inr (.inr (some 10)), .inr (.inr (some 10))], (I, L, R, Y), 0, 0) (fun _ => rfl) ?_
    have b41 := cl_rd hP.1 (cl_10 hP.1) (k := 18) (lo := 0) (hi := 16) rfl
    refine cl_G_gi rfl (cl_T_K (cl_10 hP.1)) rfl rfl rfl ?_
    refine yi_G_run 1 (30, [(1, .inl z3), (0, .inr (.inr (some 10)))], [.inl 1, .inl (I 10 18), .inr (.inr (some 10))], (I, L, R, Y), 0, 0) (fun _ => rfl) ?_
    refine yi_G_iadd rfl ((I 10 18) + 1) (yi_wn (by omega) (by omega)) ?_
    refine cl_G_pi rfl (cl_T_K (cl_10 hP.1)) rfl rfl rfl ?_
    have hP42 := cl_P_uI (k := 18) (v := (I 10 18) + 1) hP (cl_10 hP.1) (by decide) (cl_hv rfl (by omega) (by omega))
    generalize w43 : yi_u I 10 18 ((I 10 18) + 1) = I44 at hP42 ⊢
    refine yi_G_run 2 (53, [(1, .inl z3), (0, .inr (.inr (some 10)))], [.inr (.inr (some 10))], (I44, L, R, Y), 0, 0) (fun _ => rfl) ?_
    obtain ⟨q45, e46, t47, n48⟩ := cl_rn hP42.1 (cl_10 hP42.1) (k := 7) (m := 15) rfl
    refine cl_G_gr rfl (cl_T_K (cl_10 hP42.1)) rfl rfl rfl e46 ?_
    refine yi_G_run 1 (57, [(1, .inl z3), (0, .inr (.inr (some 10)))], [.inl z3, .inr (.inr (some q45))], (I44, L, R, Y), 0, 0) (fun _ => rfl) ?_
    rcases cl_ro hP42.1 t47 (k := z3.toNat) rfl with e50 | ⟨q49, e50, t51⟩
    · refine cl_G_aald rfl t47 (by omega) (by omega) (by omega) e50 ?_
      refine yi_G_run 2 (60, [(2, .inr (.inr none)), (1, .inl z3), (0, .inr (.inr (some 10)))], [.inr (.inr none)], (I44, L, R, Y), 0, 0) (fun _ => rfl) ?_
      refine cl_G_nnl true rfl rfl ?_
      refine cl_G_mko (m := 9) rfl hP42 rfl rfl (fun e52x I52 L52 R52 Y52 ee52 hP52 x52 tt52 z52 y52 k52 g52 m52 o52 => ?_)
      have n53 := (cl_T_n t47 x52).trans n48
      have t54 := tt52 _ _ t47
      have e55 := (o52 10 7 (cl_10 hP42.1).2.1).1.trans e46
      have e56 := (o52 q45 (z3.toNat) (t47).2.1).1.trans e50
      refine yi_G_run 1 (67, [(2, .inr (.inr none)), (1, .inl z3), (0, .inr (.inr (some 10)))], [.inr (.inr (some e52x)), .inr (.inr (some e52x))], (I52, L52, R52, Y52), 0 + 1, 0 + 9) (fun _ => rfl) ?_
      refine cl_G_callx rfl rfl rfl rfl (k_Story0 d (by omega) hP52.1 g52 k52 m52 z52 y52  ) ?_
      rintro _ ⟨I57, L57, R57, Y57, nc57, ns57, rfl, hQ57, ca57, cb57, t57, x57a⟩
      have hP57 := cl_P_t hP52 hQ57
      have t58 := cl_T_x (cl_T_d t54) hQ57.2.1
      have n59 := (cl_T_n t54 hQ57.2.1).trans n53
      have e60 := (x57a 10 7 (cl_10 hP52.1).2.1 (by have := g52.2.2; omega)).2.trans e55
      have e61 := (x57a q45 (z3.toNat) t54.2.1 (fun z => t54.2.2.2.1 (by rw [z]; simp))).2.trans e56
      show yi_G zi_Ms d zi_m170 (70, [(2, .inr (.inr none)), (1, .inl z3), (0, .inr (.inr (some 10)))], [.inr (.inr (some e52x))], (I57, L57, R57, Y57), 0 + 1 + nc57, 0 + 9 + ns57) _
      refine yi_G_run 2 (72, [(2, .inr (.inr (some e52x))), (1, .inl z3), (0, .inr (.inr (some 10)))], [.inr (.inr (some 10))], (I57, L57, R57, Y57), 0 + 1 + nc57, 0 + 9 + ns57) (fun _ => rfl) ?_
      refine cl_G_gr rfl (cl_T_K (cl_10 hP57.1)) rfl rfl rfl e60 ?_
      refine yi_G_run 2 (77, [(2, .inr (.inr (some e52x))), (1, .inl z3), (0, .inr (.inr (some 10)))], [.inr (.inr (some e52x)), .inl z3, .inr (.inr (some q45))], (I57, L57, R57, Y57), 0 + 1 + nc57, 0 + 9 + ns57) (fun _ => rfl) ?_
      refine cl_G_aast rfl t58 (by omega) rfl (by omega) (by omega) (Or.inr ⟨_, rfl, t57⟩) ?_
      have hP62 := cl_P_uR (k := (z3.toNat)) (v := (some e52x)) hP57 t58 (by omega) (by omega) (cl_hro rfl t57)
      generalize w63 : cl_u R57 q45 (z3.toNat) (some e52x) = R64 at hP62 ⊢
      have e65 : R64 10 7 = some q45 := by rw [← w63, cl_u_ne _ _ (fun z => cl_ne (cl_10 hP57.1) t58 (by decide) z.1)]; exact e60
      have e66 : R64 q45 (z3.toNat) = some e52x := by rw [← w63, cl_u_eq]
      refine yi_G_run 2 (80, [(2, .inr (.inr (some e52x))), (1, .inl z3), (0, .inr (.inr (some 10)))], [.inr (.inr (some 10)), .inr (.inr (some e52x))], (I57, L57, R64, Y57), 0 + 1 + nc57, 0 + 9 + ns57) (fun _ => rfl) ?_
      obtain ⟨q67, e68, t69⟩ := cl_rf hP62.1 (cl_10 hP62.1) (k := 6) rfl
      refine cl_G_gr rfl (cl_T_K (cl_10 hP62.1)) rfl rfl rfl e68 ?_
      refine yi_G_callv rfl rfl (cl_rcv t57 rfl) rfl (k_copyS d (by omega) hP62.1 t57 t69 ) ?_
      rintro _ ⟨I70, R70, rfl, hQ70⟩
      have hP70 := cl_P_t hP62 hQ70
      show yi_G zi_Ms d zi_m170 (86, [(2, .inr (.inr (some e52x))), (1, .inl z3), (0, .inr (.inr (some 10)))], [], (I70, L57, R70, Y57), 0 + 1 + nc57, 0 + 9 + ns57) _
      exact yi_G_retv rfl rfl (⟨_, _, _, _, _, _, rfl, hP70, by omega, by omega⟩)
    · refine cl_G_aald rfl t47 (by omega) (by omega) (by omega) e50 ?_
      refine yi_G_run 2 (60, [(2, .inr (.inr (some q49))), (1, .inl z3), (0, .inr (.inr (some 10)))], [.inr (.inr (some q49))], (I44, L, R, Y), 0, 0) (fun _ => rfl) ?_
      refine cl_G_nnl false rfl rfl ?_
      refine yi_G_run 2 (80, [(2, .inr (.inr (some q49))), (1, .inl z3), (0, .inr (.inr (some 10)))], [.inr (.inr (some 10)), .inr (.inr (some q49))], (I44, L, R, Y), 0, 0) (fun _ => rfl) ?_
      obtain ⟨q71, e72, t73⟩ := cl_rf hP42.1 (cl_10 hP42.1) (k := 6) rfl
      refine cl_G_gr rfl (cl_T_K (cl_10 hP42.1)) rfl rfl rfl e72 ?_
      refine yi_G_callv rfl rfl (cl_rcv t51 rfl) rfl (k_copyS d (by omega) hP42.1 t51 t73 ) ?_
      rintro _ ⟨I74, R74, rfl, hQ74⟩
      have hP74 := cl_P_t hP42 hQ74
      show yi_G zi_Ms d zi_m170 (86, [(2, .inr (.inr (some q49))), (1, .inl z3), (0, .inr (.inr (some 10)))], [], (I74, L, R74, Y), 0, 0) _
      exact yi_G_retv rfl rfl (⟨_, _, _, _, _, _, rfl, hP74, by omega, by omega⟩)
theorem k_findPartnerA (D : Nat) (hD : 4 ≤ D) {E : List Nat} {I L : cl_I} {R : cl_Rr} {Y : cl_Y} (hC : cl_C E I L R Y) {x : Int} {y : Int} {w : Int} (hx : 0 ≤ x ∧ x < 96) : yi_E zi_Ms D 151 [.inr (.inr (some 10)), .inl x, .inl y, .inl w] (I, L, R, Y) (fun r => ∃ z, ∃ I', ∃ L', ∃ R', ∃ Y', ∃ nc ns, r = (some (.inl z), (I', L', R', Y'), nc, ns) ∧ cl_P E I L R Y I' L' R' Y' ∧ nc ≤ 1 ∧ ns ≤ 513 ∧ (∀ q, R 60 0 = some q → max (I 58 1) 1 ≤ (Y.2.1 q : Int) → nc = 0 ∧ ns = 0) ∧ (cl_F R' Y' 60 (max (I 58 1) 1)) ∧ (∀ q k, q < Y.2.2 → q ≠ 60 → I' q k = I q k ∧ R' q k = R q k)) := by
  obtain ⟨d, rfl⟩ : ∃ d, D = d + 1 := ⟨D - 1, by omega⟩
  refine yi_E_of (M := zi_m151) rfl rfl ?_
  have hP : cl_P E I L R Y I L R Y := cl_P_r hC
  show yi_G zi_Ms d zi_m151 (0, [(0, .inr (.inr (some 10))), (1, .inl x), (2, .inl y), (3, .inl w)], [], (I, L, R, Y), 0, 0) _
  refine yi_G_run 1 (1, [(0, .inr (.inr (some 10))), (1, .inl x), (2, .inl y), (3, .inl w)], [.inr (.inr (some 10))], (I, L, R, Y), 0, 0) (fun _ => rfl) ?_
  refine cl_G_gr rfl (cl_T_K (cl_10 hP.1)) rfl rfl rfl (hP.1.2.2.2.1.2.2.2.2.2.2.1) ?_
  refine yi_G_run 1 (5, [(0, .inr (.inr (some 10))), (1, .inl x), (2, .inl y), (3, .inl w)], [.inl w, .inr (.inr (some 34))], (I, L, R, Y), 0, 0) (fun _ => rfl) ?_
  refine yi_G_callv rfl rfl (cl_rcv (cl_34 hP.1) rfl) rfl (k_wordRow d (by omega) hP.1 (cl_34 hP.1) ) ?_
  rintro _ ⟨q1, rfl, t1⟩
  show yi_G zi_Ms d zi_m151 (8, [(0, .inr (.inr (some 10))), (1, .inl x), (2, .inl y), (3, .inl w)], [.inr (.inr (some q1))], (I, L, R, Y), 0, 0) _
  refine yi_G_run 2 (11, [(4, .inr (.inr (some q1))), (0, .inr (.inr (some 10))), (1, .inl x), (2, .inl y), (3, .inl w)], [.inl x], (I, L, R, Y), 0, 0) (fun _ => rfl) ?_
  by_cases h2 : x < 0
  · refine yi_G_if1 true rfl (yi_lt_t h2) ?_
    refine yi_G_run 1 (24, [(4, .inr (.inr (some q1))), (0, .inr (.inr (some 10))), (1, .inl x), (2, .inl y), (3, .inl w)], [.inl (-1)], (I, L, R, Y), 0, 0) (fun _ => rfl) ?_
    exact yi_G_reti rfl rfl (⟨_, _, _, _, _, _, _, rfl, hP, by omega, by omega, (by exfalso; omega), (by exfalso; omega), (fun q k hq hn => ⟨rfl, rfl⟩)⟩)
  · refine yi_G_if1 false rfl (yi_lt_f h2) ?_
    refine yi_G_run 2 (16, [(4, .inr (.inr (some q1))), (0, .inr (.inr (some 10))), (1, .inl x), (2, .inl y), (3, .inl w)], [.inr (.inr (some 10)), .inl x], (I, L, R, Y), 0, 0) (fun _ => rfl) ?_
    obtain ⟨q3, e4, t5, n6⟩ := cl_rn hP.1 (cl_10 hP.1) (k := 12) (m := 95) rfl
    refine cl_G_gr rfl (cl_T_K (cl_10 hP.1)) rfl rfl rfl e4 ?_
    refine cl_G_len rfl t5 (by omega) ?_
    by_cases h7 : x < ((Y.2.1 q3 : Int))
    · refine yi_G_if2 true rfl (yi_lt_t h7) ?_
      refine yi_G_run 1 (26, [(4, .inr (.inr (some q1))), (0, .inr (.inr (some 10))), (1, .inl x), (2, .inl y), (3, .inl w)], [.inr (.inr (some 10))], (I, L, R, Y), 0, 0) (fun _ => rfl) ?_
      refine cl_G_gr rfl (cl_T_K (cl_10 hP.1)) rfl rfl rfl (hP.1.2.2.2.1.2.2.2.2.2.2.2.2.1) ?_
      refine yi_G_run 1 (30, [(4, .inr (.inr (some q1))), (0, .inr (.inr (some 10))), (1, .inl x), (2, .inl y), (3, .inl w)], [.inr (.inr (some 10)), .inr (.inr (some 60))], (I, L, R, Y), 0, 0) (fun _ => rfl) ?_
      refine cl_G_gr rfl (cl_T_K (cl_10 hP.1)) rfl rfl rfl (hP.1.2.2.2.1.2.2.2.2.2.2.2.1) ?_
      refine yi_G_callv rfl rfl (cl_rcv (cl_60 hP.1) rfl) rfl (k_copyFrom d (by omega) hP.1 (cl_60 hP.1) (cl_58 hP.1) ) ?_
      rintro _ ⟨I8, L8, R8, Y8, nc8, ns8, rfl, hQ8, ca8, cb8, x8a, x8b, x8c⟩
      have hP8 := cl_P_t hP hQ8
      have t9 := cl_T_x t1 hQ8.2.1
      have t10 := cl_T_x t5 hQ8.2.1
      have n11 := (cl_T_n t5 hQ8.2.1).trans n6
      show yi_G zi_Ms d zi_m151 (36, [(4, .inr (.inr (some q1))), (0, .inr (.inr (some 10))), (1, .inl x), (2, .inl y), (3, .inl w)], [], (I8, L8, R8, Y8), 0 + nc8, 0 + ns8) _
      refine yi_G_run 1 (37, [(4, .inr (.inr (some q1))), (0, .inr (.inr (some 10))), (1, .inl x), (2, .inl y), (3, .inl w)], [.inr (.inr (some 10))], (I8, L8, R8, Y8), 0 + nc8, 0 + ns8) (fun _ => rfl) ?_
      refine cl_G_gr rfl (cl_T_K (cl_10 hP8.1)) rfl rfl rfl (hP8.1.2.2.2.1.2.2.2.2.2.2.2.2.1) ?_
      refine yi_G_run 1 (41, [(4, .inr (.inr (some q1))), (0, .inr (.inr (some 10))), (1, .inl x), (2, .inl y), (3, .inl w)], [.inr (.inr (some 10)), .inr (.inr (some 60))], (I8, L8, R8, Y8), 0 + nc8, 0 + ns8) (fun _ => rfl) ?_
      refine cl_G_gr rfl (cl_T_K (cl_10 hP8.1)) rfl rfl rfl (hP8.1.2.2.2.1.2.2.2.2.2.2.1) ?_
      refine yi_G_run 1 (45, [(4, .inr (.inr (some q1))), (0, .inr (.inr (some 10))), (1, .inl x), (2, .inl y), (3, .inl w)], [.inr (.inr (some 10)), .inr (.inr (some 34)), .inr (.inr (some 60))], (I8, L8, R8, Y8), 0 + nc8, 0 + ns8) (fun _ => rfl) ?_
      obtain ⟨q12, e13, t14, n15⟩ := cl_rn hP8.1 (cl_10 hP8.1) (k := 12) (m := 95) rfl
      refine cl_G_gr rfl (cl_T_K (cl_10 hP8.1)) rfl rfl rfl e13 ?_
      refine yi_G_run 1 (49, [(4, .inr (.inr (some q1))), (0, .inr (.inr (some 10))), (1, .inl x), (2, .inl y), (3, .inl w)], [.inl x, .inr (.inr (some q12)), .inr (.inr (some 34)), .inr (.inr (some 60))], (I8, L8, R8, Y8), 0 + nc8, 0 + ns8) (fun _ => rfl) ?_
      refine cl_G_iald rfl t14 (by omega) (by omega) ?_
      refine yi_G_callv rfl rfl (cl_rcv (cl_34 hP8.1) rfl) rfl (k_wordRow d (by omega) hP8.1 (cl_34 hP8.1) ) ?_
      rintro _ ⟨q16, rfl, t16⟩
      show yi_G zi_Ms d zi_m151 (53, [(4, .inr (.inr (some q1))), (0, .inr (.inr (some 10))), (1, .inl x), (2, .inl y), (3, .inl w)], [.inr (.inr (some q16)), .inr (.inr (some 60))], (I8, L8, R8, Y8), 0 + nc8, 0 + ns8) _
      skip
      refine yi_G_callv rfl rfl (cl_rcv (cl_60 hP8.1) rfl) rfl (k_keep d (by omega) hP8.1 (cl_60 hP8.1) t16 ) ?_
      rintro _ ⟨L17, rfl, hQ17⟩
      have hP17 := cl_P_t hP8 hQ17
      show yi_G zi_Ms d zi_m151 (56, [(4, .inr (.inr (some q1))), (0, .inr (.inr (some 10))), (1, .inl x), (2, .inl y), (3, .inl w)], [], (I8, L17, R8, Y8), 0 + nc8, 0 + ns8) _
      refine yi_G_run 2 (58, [(4, .inr (.inr (some q1))), (0, .inr (.inr (some 10))), (1, .inl x), (2, .inl y), (3, .inl w)], [.inl 1, .inl x], (I8, L17, R8, Y8), 0 + nc8, 0 + ns8) (fun _ => rfl) ?_
      refine yi_G_iadd rfl (x + 1) (yi_wn (by omega) (by omega)) ?_
      refine yi_G_run 1 (61, [(5, .inl (x + 1)), (4, .inr (.inr (some q1))), (0, .inr (.inr (some 10))), (1, .inl x), (2, .inl y), (3, .inl w)], [], (I8, L17, R8, Y8), 0 + nc8, 0 + ns8) (fun _ => rfl) ?_
      have pt61 : ∀ (m_ : Nat) (j : Int), (0 ≤ j ∧ j ≤ 96) → (96 - j).toNat = m_ → yi_G zi_Ms d zi_m151 (61, [(5, .inl j), (4, .inr (.inr (some q1))), (0, .inr (.inr (some 10))), (1, .inl x), (2, .inl y), (3, .inl w)], [], (I8, L17, R8, Y8), 0 + nc8, 0 + ns8) (fun r => ∃ z, ∃ I', ∃ L', ∃ R', ∃ Y', ∃ nc ns, r = (some (.inl z), (I', L', R', Y'), nc, ns) ∧ cl_P E I L R Y I' L' R' Y' ∧ nc ≤ 1 ∧ ns ≤ 513 ∧ (∀ q, R 60 0 = some q → max (I 58 1) 1 ≤ (Y.2.1 q : Int) → nc = 0 ∧ ns = 0) ∧ (cl_F R' Y' 60 (max (I 58 1) 1)) ∧ (∀ q k, q < Y.2.2 → q ≠ 60 → I' q k = I q k ∧ R' q k = R q k)) := by
        intro m61
        induction m61 using Nat.strongRecOn with
        | _ m61 ih61 =>
        intro j j0 hm61
        refine yi_G_run 2 (64, [(5, .inl j), (4, .inr (.inr (some q1))), (0, .inr (.inr (some 10))), (1, .inl x), (2, .inl y), (3, .inl w)], [.inl y, .inl j], (I8, L17, R8, Y8), 0 + nc8, 0 + ns8) (fun _ => rfl) ?_
        by_cases h18 : y ≤ j
        · refine yi_G_if2 true rfl (yi_ge_t h18) ?_
          refine yi_G_run 1 (139, [(5, .inl j), (4, .inr (.inr (some q1))), (0, .inr (.inr (some 10))), (1, .inl x), (2, .inl y), (3, .inl w)], [.inl (-1)], (I8, L17, R8, Y8), 0 + nc8, 0 + ns8) (fun _ => rfl) ?_
          exact yi_G_reti rfl rfl (⟨_, _, _, _, _, _, _, rfl, hP17, by omega, by omega, (fun q a b => by have := x8a q a b; omega), x8b, (fun q k hq hn => ⟨by rw [(x8c q k (Nat.lt_of_lt_of_le hq hP.2.1.1) hn).1], by rw [(x8c q k (Nat.lt_of_lt_of_le hq hP.2.1.1) hn).2]⟩)⟩)
        · refine yi_G_if2 false rfl (yi_ge_f h18) ?_
          refine yi_G_run 2 (70, [(5, .inl j), (4, .inr (.inr (some q1))), (0, .inr (.inr (some 10))), (1, .inl x), (2, .inl y), (3, .inl w)], [.inr (.inr (some 10)), .inl j], (I8, L17, R8, Y8), 0 + nc8, 0 + ns8) (fun _ => rfl) ?_
          refine cl_G_gr rfl (cl_T_K (cl_10 hP17.1)) rfl rfl rfl e13 ?_
          refine cl_G_len rfl t14 (by omega) ?_
          by_cases h19 : ((Y8.2.1 q12 : Int)) ≤ j
          · refine yi_G_if2 true rfl (yi_ge_t h19) ?_
            refine yi_G_run 1 (139, [(5, .inl j), (4, .inr (.inr (some q1))), (0, .inr (.inr (some 10))), (1, .inl x), (2, .inl y), (3, .inl w)], [.inl (-1)], (I8, L17, R8, Y8), 0 + nc8, 0 + ns8) (fun _ => rfl) ?_
            exact yi_G_reti rfl rfl (⟨_, _, _, _, _, _, _, rfl, hP17, by omega, by omega, (fun q a b => by have := x8a q a b; omega), x8b, (fun q k hq hn => ⟨by rw [(x8c q k (Nat.lt_of_lt_of_le hq hP.2.1.1) hn).1], by rw [(x8c q k (Nat.lt_of_lt_of_le hq hP.2.1.1) hn).2]⟩)⟩)
          · refine yi_G_if2 false rfl (yi_ge_f h19) ?_
            refine yi_G_run 1 (78, [(5, .inl j), (4, .inr (.inr (some q1))), (0, .inr (.inr (some 10))), (1, .inl x), (2, .inl y), (3, .inl w)], [.inr (.inr (some 10))], (I8, L17, R8, Y8), 0 + nc8, 0 + ns8) (fun _ => rfl) ?_
            refine cl_G_gr rfl (cl_T_K (cl_10 hP17.1)) rfl rfl rfl e13 ?_
            refine yi_G_run 1 (83, [(5, .inl j), (4, .inr (.inr (some q1))), (0, .inr (.inr (some 10))), (1, .inl x), (2, .inl y), (3, .inl w)], [.inl j, .inr (.inr (some q12))], (I8, L17, R8, Y8), 0 + nc8, 0 + ns8) (fun _ => rfl) ?_
            refine cl_G_iald rfl t14 (by omega) (by omega) ?_
            refine yi_G_run 2 (87, [(6, .inl (I8 q12 (j.toNat))), (5, .inl j), (4, .inr (.inr (some q1))), (0, .inr (.inr (some 10))), (1, .inl x), (2, .inl y), (3, .inl w)], [.inr (.inr (some 10))], (I8, L17, R8, Y8), 0 + nc8, 0 + ns8) (fun _ => rfl) ?_
            refine cl_G_gr rfl (cl_T_K (cl_10 hP17.1)) rfl rfl rfl (hP17.1.2.2.2.1.2.2.2.2.2.2.1) ?_
            refine yi_G_run 1 (92, [(6, .inl (I8 q12 (j.toNat))), (5, .inl j), (4, .inr (.inr (some q1))), (0, .inr (.inr (some 10))), (1, .inl x), (2, .inl y), (3, .inl w)], [.inl (I8 q12 (j.toNat)), .inr (.inr (some 34))], (I8, L17, R8, Y8), 0 + nc8, 0 + ns8) (fun _ => rfl) ?_
            refine yi_G_callv rfl rfl (cl_rcv (cl_34 hP17.1) rfl) rfl (k_wordRow d (by omega) hP17.1 (cl_34 hP17.1) ) ?_
            rintro _ ⟨q20, rfl, t20⟩
            show yi_G zi_Ms d zi_m151 (95, [(6, .inl (I8 q12 (j.toNat))), (5, .inl j), (4, .inr (.inr (some q1))), (0, .inr (.inr (some 10))), (1, .inl x), (2, .inl y), (3, .inl w)], [.inr (.inr (some q20))], (I8, L17, R8, Y8), 0 + nc8, 0 + ns8) _
            refine yi_G_run 3 (100, [(7, .inr (.inr (some q20))), (6, .inl (I8 q12 (j.toNat))), (5, .inl j), (4, .inr (.inr (some q1))), (0, .inr (.inr (some 10))), (1, .inl x), (2, .inl y), (3, .inl w)], [.inl w, .inl (I8 q12 (j.toNat))], (I8, L17, R8, Y8), 0 + nc8, 0 + ns8) (fun _ => rfl) ?_
            by_cases h21 : (I8 q12 (j.toNat)) = w
            · refine yi_G_if2 true rfl (yi_eq_t h21) ?_
              refine yi_G_iinc [(5, .inl (j + 1)), (7, .inr (.inr (some q20))), (6, .inl (I8 q12 (j.toNat))), (4, .inr (.inr (some q1))), (0, .inr (.inr (some 10))), (1, .inl x), (2, .inl y), (3, .inl w)] rfl rfl rfl (by rw [show yi_w (j + 1) = j + 1 from (yi_wn (by omega) (by omega)).trans (by omega)]; rfl) ?_
              refine yi_G_run 1 (61, [(5, .inl (j + 1)), (7, .inr (.inr (some q20))), (6, .inl (I8 q12 (j.toNat))), (4, .inr (.inr (some q1))), (0, .inr (.inr (some 10))), (1, .inl x), (2, .inl y), (3, .inl w)], [], (I8, L17, R8, Y8), 0 + nc8, 0 + ns8) (fun _ => rfl) ?_
              refine yi_G_al (al := [(5, .inl (j + 1)), (4, .inr (.inr (some q1))), (0, .inr (.inr (some 10))), (1, .inl x), (2, .inl y), (3, .inl w)]) (show ([5, 4, 0, 1, 2, 3] : List Nat).Nodup by decide) (show ([5, 7, 6, 4, 0, 1, 2, 3] : List Nat).Nodup by decide) (yi_mc (List.mem_of_getElem? (i := 0) rfl) (yi_mc (List.mem_of_getElem? (i := 3) rfl) (yi_mc (List.mem_of_getElem? (i := 4) rfl) (yi_mc (List.mem_of_getElem? (i := 5) rfl) (yi_mc (List.mem_of_getElem? (i := 6) rfl) (yi_mc (List.mem_of_getElem? (i := 7) rfl) yi_mn)))))) ?_
              exact ih61 _ (by omega) (j + 1) (by omega) rfl
            · refine yi_G_if2 false rfl (yi_eq_f h21) ?_
              refine yi_G_run 1 (104, [(7, .inr (.inr (some q20))), (6, .inl (I8 q12 (j.toNat))), (5, .inl j), (4, .inr (.inr (some q1))), (0, .inr (.inr (some 10))), (1, .inl x), (2, .inl y), (3, .inl w)], [.inr (.inr (some 10))], (I8, L17, R8, Y8), 0 + nc8, 0 + ns8) (fun _ => rfl) ?_
              refine cl_G_gr rfl (cl_T_K (cl_10 hP17.1)) rfl rfl rfl (hP17.1.2.2.2.1.2.2.2.2.2.2.2.2.1) ?_
              refine yi_G_run 2 (111, [(7, .inr (.inr (some q20))), (6, .inl (I8 q12 (j.toNat))), (5, .inl j), (4, .inr (.inr (some q1))), (0, .inr (.inr (some 10))), (1, .inl x), (2, .inl y), (3, .inl w)], [.inr (.inr (some q1)), .inr (.inr (some q20)), .inr (.inr (some 60))], (I8, L17, R8, Y8), 0 + nc8, 0 + ns8) (fun _ => rfl) ?_
              refine yi_G_callv rfl rfl (cl_rcv (cl_60 hP17.1) rfl) rfl (k_withinBy d (by omega) hP17.1 (cl_60 hP17.1) t20 t9 ) ?_
              rintro _ ⟨z22, rfl, hz22⟩
              show yi_G zi_Ms d zi_m151 (114, [(7, .inr (.inr (some q20))), (6, .inl (I8 q12 (j.toNat))), (5, .inl j), (4, .inr (.inr (some q1))), (0, .inr (.inr (some 10))), (1, .inl x), (2, .inl y), (3, .inl w)], [.inl z22], (I8, L17, R8, Y8), 0 + nc8, 0 + ns8) _
              by_cases h23 : z22 = 0
              · refine yi_G_if1 true rfl (yi_eq_t h23) ?_
                refine yi_G_iinc [(5, .inl (j + 1)), (7, .inr (.inr (some q20))), (6, .inl (I8 q12 (j.toNat))), (4, .inr (.inr (some q1))), (0, .inr (.inr (some 10))), (1, .inl x), (2, .inl y), (3, .inl w)] rfl rfl rfl (by rw [show yi_w (j + 1) = j + 1 from (yi_wn (by omega) (by omega)).trans (by omega)]; rfl) ?_
                refine yi_G_run 1 (61, [(5, .inl (j + 1)), (7, .inr (.inr (some q20))), (6, .inl (I8 q12 (j.toNat))), (4, .inr (.inr (some q1))), (0, .inr (.inr (some 10))), (1, .inl x), (2, .inl y), (3, .inl w)], [], (I8, L17, R8, Y8), 0 + nc8, 0 + ns8) (fun _ => rfl) ?_
                refine yi_G_al (al := [(5, .inl (j + 1)), (4, .inr (.inr (some q1))), (0, .inr (.inr (some 10))), (1, .inl x), (2, .inl y), (3, .inl w)]) (show ([5, 4, 0, 1, 2, 3] : List Nat).Nodup by decide) (show ([5, 7, 6, 4, 0, 1, 2, 3] : List Nat).Nodup by decide) (yi_mc (List.mem_of_getElem? (i := 0) rfl) (yi_mc (List.mem_of_getElem? (i := 3) rfl) (yi_mc (List.mem_of_getElem? (i := 4) rfl) (yi_mc (List.mem_of_getElem? (i := 5) rfl) (yi_mc (List.mem_of_getElem? (i := 6) rfl) (yi_mc (List.mem_of_getElem? (i := 7) rfl) yi_mn)))))) ?_
                exact ih61 _ (by omega) (j + 1) (by omega) rfl
              · refine yi_G_if1 false rfl (yi_eq_f h23) ?_
                refine yi_G_run 1 (118, [(7, .inr (.inr (some q20))), (6, .inl (I8 q12 (j.toNat))), (5, .inl j), (4, .inr (.inr (some q1))), (0, .inr (.inr (some 10))), (1, .inl x), (2, .inl y), (3, .inl w)], [.inr (.inr (some 10))], (I8, L17, R8, Y8), 0 + nc8, 0 + ns8) (fun _ => rfl) ?_
                refine cl_G_gr rfl (cl_T_K (cl_10 hP17.1)) rfl rfl rfl (hP17.1.2.2.2.1.2.2.2.2.2.2.2.2.1) ?_
                refine yi_G_run 1 (123, [(7, .inr (.inr (some q20))), (6, .inl (I8 q12 (j.toNat))), (5, .inl j), (4, .inr (.inr (some q1))), (0, .inr (.inr (some 10))), (1, .inl x), (2, .inl y), (3, .inl w)], [.inr (.inr (some q20)), .inr (.inr (some 60))], (I8, L17, R8, Y8), 0 + nc8, 0 + ns8) (fun _ => rfl) ?_
                refine yi_G_callv rfl rfl (cl_rcv (cl_60 hP17.1) rfl) rfl (k_meets d (by omega) hP17.1 (cl_60 hP17.1) t20 ) ?_
                rintro _ ⟨z24, rfl, hz24⟩
                show yi_G zi_Ms d zi_m151 (126, [(7, .inr (.inr (some q20))), (6, .inl (I8 q12 (j.toNat))), (5, .inl j), (4, .inr (.inr (some q1))), (0, .inr (.inr (some 10))), (1, .inl x), (2, .inl y), (3, .inl w)], [.inl z24], (I8, L17, R8, Y8), 0 + nc8, 0 + ns8) _
                by_cases h25 : z24 = 0
                · refine yi_G_if1 true rfl (yi_eq_t h25) ?_
                  refine yi_G_iinc [(5, .inl (j + 1)), (7, .inr (.inr (some q20))), (6, .inl (I8 q12 (j.toNat))), (4, .inr (.inr (some q1))), (0, .inr (.inr (some 10))), (1, .inl x), (2, .inl y), (3, .inl w)] rfl rfl rfl (by rw [show yi_w (j + 1) = j + 1 from (yi_wn (by omega) (by omega)).trans (by omega)]; rfl) ?_
                  refine yi_G_run 1 (61, [(5, .inl (j + 1)), (7, .inr (.inr (some q20))), (6, .inl (I8 q12 (j.toNat))), (4, .inr (.inr (some q1))), (0, .inr (.inr (some 10))), (1, .inl x), (2, .inl y), (3, .inl w)], [], (I8, L17, R8, Y8), 0 + nc8, 0 + ns8) (fun _ => rfl) ?_
                  refine yi_G_al (al := [(5, .inl (j + 1)), (4, .inr (.inr (some q1))), (0, .inr (.inr (some 10))), (1, .inl x), (2, .inl y), (3, .inl w)]) (show ([5, 4, 0, 1, 2, 3] : List Nat).Nodup by decide) (show ([5, 7, 6, 4, 0, 1, 2, 3] : List Nat).Nodup by decide) (yi_mc (List.mem_of_getElem? (i := 0) rfl) (yi_mc (List.mem_of_getElem? (i := 3) rfl) (yi_mc (List.mem_of_getElem? (i := 4) rfl) (yi_mc (List.mem_of_getElem? (i := 5) rfl) (yi_mc (List.mem_of_getElem? (i := 6) rfl) (yi_mc (List.mem_of_getElem? (i := 7) rfl) yi_mn)))))) ?_
                  exact ih61 _ (by omega) (j + 1) (by omega) rfl
                · refine yi_G_if1 false rfl (yi_eq_f h25) ?_
                  refine yi_G_run 1 (131, [(7, .inr (.inr (some q20))), (6, .inl (I8 q12 (j.toNat))), (5, .inl j), (4, .inr (.inr (some q1))), (0, .inr (.inr (some 10))), (1, .inl x), (2, .inl y), (3, .inl w)], [.inl (I8 q12 (j.toNat))], (I8, L17, R8, Y8), 0 + nc8, 0 + ns8) (fun _ => rfl) ?_
                  exact yi_G_reti rfl rfl (⟨_, _, _, _, _, _, _, rfl, hP17, by omega, by omega, (fun q a b => by have := x8a q a b; omega), x8b, (fun q k hq hn => ⟨by rw [(x8c q k (Nat.lt_of_lt_of_le hq hP.2.1.1) hn).1], by rw [(x8c q k (Nat.lt_of_lt_of_le hq hP.2.1.1) hn).2]⟩)⟩)
      exact pt61 _ (x + 1) (by omega) rfl
    · refine yi_G_if2 false rfl (yi_lt_f h7) ?_
      refine yi_G_run 1 (24, [(4, .inr (.inr (some q1))), (0, .inr (.inr (some 10))), (1, .inl x), (2, .inl y), (3, .inl w)], [.inl (-1)], (I, L, R, Y), 0, 0) (fun _ => rfl) ?_
      exact yi_G_reti rfl rfl (⟨_, _, _, _, _, _, _, rfl, hP, by omega, by omega, (by exfalso; omega), (by exfalso; omega), (fun q k hq hn => ⟨rfl, rfl⟩)⟩)
theorem k_findMakingA (D : Nat) (hD : 5 ≤ D) {E : List Nat} {I L : cl_I} {R : cl_Rr} {Y : cl_Y} (hC : cl_C E I L R Y) {x : Int} : yi_E zi_Ms D 150 [.inr (.inr (some 10)), .inl x] (I, L, R, Y) (fun r => ∃ z, ∃ I', ∃ L', ∃ R', ∃ Y', ∃ nc ns, r = (some (.inl z), (I', L', R', Y'), nc, ns) ∧ cl_P E I L R Y I' L' R' Y' ∧ nc ≤ 1 ∧ ns ≤ 513) := by
  obtain ⟨d, rfl⟩ : ∃ d, D = d + 1 := ⟨D - 1, by omega⟩
  refine yi_E_of (M := zi_m150) rfl rfl ?_
  have hP : cl_P E I L R Y I L R Y := cl_P_r hC
  show yi_G zi_Ms d zi_m150 (0, [(0, .inr (.inr (some 10))), (1, .inl x)], [], (I, L, R, Y), 0, 0) _
  refine yi_G_run 1 (1, [(0, .inr (.inr (some 10))), (1, .inl x)], [.inr (.inr (some 10))], (I, L, R, Y), 0, 0) (fun _ => rfl) ?_
  refine cl_G_gr rfl (cl_T_K (cl_10 hP.1)) rfl rfl rfl (hP.1.2.2.2.1.2.2.2.2.2.2.1) ?_
  refine yi_G_run 1 (5, [(0, .inr (.inr (some 10))), (1, .inl x)], [.inl x, .inr (.inr (some 34))], (I, L, R, Y), 0, 0) (fun _ => rfl) ?_
  refine yi_G_callv rfl rfl (cl_rcv (cl_34 hP.1) rfl) rfl (k_wordRow d (by omega) hP.1 (cl_34 hP.1) ) ?_
  rintro _ ⟨q1, rfl, t1⟩
  show yi_G zi_Ms d zi_m150 (8, [(0, .inr (.inr (some 10))), (1, .inl x)], [.inr (.inr (some q1))], (I, L, R, Y), 0, 0) _
  refine yi_G_run 2 (10, [(2, .inr (.inr (some q1))), (0, .inr (.inr (some 10))), (1, .inl x)], [.inr (.inr (some 10))], (I, L, R, Y), 0, 0) (fun _ => rfl) ?_
  refine cl_G_gr rfl (cl_T_K (cl_10 hP.1)) rfl rfl rfl (hP.1.2.2.2.1.2.2.2.2.2.2.2.1) ?_
  refine yi_G_run 1 (14, [(2, .inr (.inr (some q1))), (0, .inr (.inr (some 10))), (1, .inl x)], [.inr (.inr (some q1)), .inr (.inr (some 58))], (I, L, R, Y), 0, 0) (fun _ => rfl) ?_
  refine yi_G_callv rfl rfl (cl_rcv (cl_58 hP.1) rfl) rfl (k_within d (by omega) hP.1 (cl_58 hP.1) t1 ) ?_
  rintro _ ⟨z2, rfl, hz2⟩
  show yi_G zi_Ms d zi_m150 (17, [(2, .inr (.inr (some q1))), (0, .inr (.inr (some 10))), (1, .inl x)], [.inl z2], (I, L, R, Y), 0, 0) _
  by_cases h3 : z2 = 0
  · refine yi_G_if1 true rfl (yi_eq_t h3) ?_
    refine yi_G_run 1 (23, [(2, .inr (.inr (some q1))), (0, .inr (.inr (some 10))), (1, .inl x)], [.inr (.inr (some 10))], (I, L, R, Y), 0, 0) (fun _ => rfl) ?_
    refine yi_G_callv rfl rfl (cl_rcv (cl_10 hP.1) rfl) rfl (k_gatherOpenA d (by omega) hP.1  ) ?_
    rintro _ ⟨z4, I4, rfl, hQ4, x4a⟩
    have hP4 := cl_P_t hP hQ4
    show yi_G zi_Ms d zi_m150 (26, [(2, .inr (.inr (some q1))), (0, .inr (.inr (some 10))), (1, .inl x)], [.inl z4], (I4, L, R, Y), 0, 0) _
    refine yi_G_run 1 (27, [(3, .inl z4), (2, .inr (.inr (some q1))), (0, .inr (.inr (some 10))), (1, .inl x)], [], (I4, L, R, Y), 0, 0) (fun _ => rfl) ?_
    have pt98 : ∀ (m_ : Nat) (i : Int) (Ip98 : cl_I) (Lp98 : cl_I) (Rp98 : cl_Rr) (Yp98 : cl_Y) (ncp98 : Nat) (nsp98 : Nat), (cl_P E I L R Y Ip98 Lp98 Rp98 Yp98) → (cl_T E Yp98 q1 5) → (0 ≤ i ∧ i ≤ 96) → ((ncp98 = 0 ∧ nsp98 = 0) ∨ (cl_F Rp98 Yp98 60 (max (Ip98 58 1) 1) ∧ (ncp98 ≤ 1 ∧ nsp98 ≤ 513))) → (96 - i).toNat = m_ → yi_G zi_Ms d zi_m150 (98, [(3, .inl z4), (2, .inr (.inr (some q1))), (0, .inr (.inr (some 10))), (1, .inl x), (4, .inl i)], [], (Ip98, Lp98, Rp98, Yp98), ncp98, nsp98) (fun r => ∃ z, ∃ I', ∃ L', ∃ R', ∃ Y', ∃ nc ns, r = (some (.inl z), (I', L', R', Y'), nc, ns) ∧ cl_P E I L R Y I' L' R' Y' ∧ nc ≤ 1 ∧ ns ≤ 513) := by
      intro m98
      induction m98 using Nat.strongRecOn with
      | _ m98 ih98 =>
      intro i Ip98 Lp98 Rp98 Yp98 ncp98 nsp98 hPp98 tq1p98 i0 fm hm98
      have fm2 : ncp98 ≤ 1 ∧ nsp98 ≤ 513 := by rcases fm with h | h <;> omega
      refine yi_G_run 2 (101, [(3, .inl z4), (2, .inr (.inr (some q1))), (0, .inr (.inr (some 10))), (1, .inl x), (4, .inl i)], [.inl z4, .inl i], (Ip98, Lp98, Rp98, Yp98), ncp98, nsp98) (fun _ => rfl) ?_
      by_cases h5 : z4 ≤ i
      · refine yi_G_if2 true rfl (yi_ge_t h5) ?_
        refine yi_G_run 1 (170, [(3, .inl z4), (2, .inr (.inr (some q1))), (0, .inr (.inr (some 10))), (1, .inl x), (4, .inl i)], [.inl (-1)], (Ip98, Lp98, Rp98, Yp98), ncp98, nsp98) (fun _ => rfl) ?_
        exact yi_G_reti rfl rfl (⟨_, _, _, _, _, _, _, rfl, hPp98, by omega, by omega⟩)
      · refine yi_G_if2 false rfl (yi_ge_f h5) ?_
        refine yi_G_run 2 (107, [(3, .inl z4), (2, .inr (.inr (some q1))), (0, .inr (.inr (some 10))), (1, .inl x), (4, .inl i)], [.inr (.inr (some 10)), .inl i], (Ip98, Lp98, Rp98, Yp98), ncp98, nsp98) (fun _ => rfl) ?_
        obtain ⟨q6, e7, t8, n9⟩ := cl_rn hPp98.1 (cl_10 hPp98.1) (k := 12) (m := 95) rfl
        refine cl_G_gr rfl (cl_T_K (cl_10 hPp98.1)) rfl rfl rfl e7 ?_
        refine cl_G_len rfl t8 (by omega) ?_
        by_cases h10 : ((Yp98.2.1 q6 : Int)) ≤ i
        · refine yi_G_if2 true rfl (yi_ge_t h10) ?_
          refine yi_G_run 1 (170, [(3, .inl z4), (2, .inr (.inr (some q1))), (0, .inr (.inr (some 10))), (1, .inl x), (4, .inl i)], [.inl (-1)], (Ip98, Lp98, Rp98, Yp98), ncp98, nsp98) (fun _ => rfl) ?_
          exact yi_G_reti rfl rfl (⟨_, _, _, _, _, _, _, rfl, hPp98, by omega, by omega⟩)
        · refine yi_G_if2 false rfl (yi_ge_f h10) ?_
          refine yi_G_run 1 (115, [(3, .inl z4), (2, .inr (.inr (some q1))), (0, .inr (.inr (some 10))), (1, .inl x), (4, .inl i)], [.inr (.inr (some 10))], (Ip98, Lp98, Rp98, Yp98), ncp98, nsp98) (fun _ => rfl) ?_
          refine cl_G_gr rfl (cl_T_K (cl_10 hPp98.1)) rfl rfl rfl e7 ?_
          refine yi_G_run 1 (120, [(3, .inl z4), (2, .inr (.inr (some q1))), (0, .inr (.inr (some 10))), (1, .inl x), (4, .inl i)], [.inl i, .inr (.inr (some q6))], (Ip98, Lp98, Rp98, Yp98), ncp98, nsp98) (fun _ => rfl) ?_
          refine cl_G_iald rfl t8 (by omega) (by omega) ?_
          refine yi_G_run 3 (126, [(5, .inl (Ip98 q6 (i.toNat))), (3, .inl z4), (2, .inr (.inr (some q1))), (0, .inr (.inr (some 10))), (1, .inl x), (4, .inl i)], [.inl x, .inl (Ip98 q6 (i.toNat))], (Ip98, Lp98, Rp98, Yp98), ncp98, nsp98) (fun _ => rfl) ?_
          by_cases h11 : (Ip98 q6 (i.toNat)) = x
          · refine yi_G_if2 false rfl (yi_ne_f h11) ?_
            refine yi_G_run 5 (146, [(6, .inl (-1)), (5, .inl (Ip98 q6 (i.toNat))), (3, .inl z4), (2, .inr (.inr (some q1))), (0, .inr (.inr (some 10))), (1, .inl x), (4, .inl i)], [.inl (-1), .inl (-1)], (Ip98, Lp98, Rp98, Yp98), ncp98, nsp98) (fun _ => rfl) ?_
            skip
            refine yi_G_if2 true rfl (by decide) ?_
            refine yi_G_iinc [(4, .inl (i + 1)), (6, .inl (-1)), (5, .inl (Ip98 q6 (i.toNat))), (3, .inl z4), (2, .inr (.inr (some q1))), (0, .inr (.inr (some 10))), (1, .inl x)] rfl rfl rfl (by rw [show yi_w (i + 1) = i + 1 from (yi_wn (by omega) (by omega)).trans (by omega)]; rfl) ?_
            refine yi_G_run 1 (98, [(4, .inl (i + 1)), (6, .inl (-1)), (5, .inl (Ip98 q6 (i.toNat))), (3, .inl z4), (2, .inr (.inr (some q1))), (0, .inr (.inr (some 10))), (1, .inl x)], [], (Ip98, Lp98, Rp98, Yp98), ncp98, nsp98) (fun _ => rfl) ?_
            refine yi_G_al (al := [(3, .inl z4), (2, .inr (.inr (some q1))), (0, .inr (.inr (some 10))), (1, .inl x), (4, .inl (i + 1))]) (show ([3, 2, 0, 1, 4] : List Nat).Nodup by decide) (show ([4, 6, 5, 3, 2, 0, 1] : List Nat).Nodup by decide) (yi_mc (List.mem_of_getElem? (i := 3) rfl) (yi_mc (List.mem_of_getElem? (i := 4) rfl) (yi_mc (List.mem_of_getElem? (i := 5) rfl) (yi_mc (List.mem_of_getElem? (i := 6) rfl) (yi_mc (List.mem_of_getElem? (i := 0) rfl) yi_mn))))) ?_
            exact ih98 _ (by omega) (i + 1) Ip98 Lp98 Rp98 Yp98 (ncp98) (nsp98) hPp98 tq1p98 (by omega) fm rfl
          · refine yi_G_if2 true rfl (yi_ne_t h11) ?_
            refine yi_G_run 4 (138, [(5, .inl (Ip98 q6 (i.toNat))), (3, .inl z4), (2, .inr (.inr (some q1))), (0, .inr (.inr (some 10))), (1, .inl x), (4, .inl i)], [.inl x, .inl z4, .inl i, .inr (.inr (some 10))], (Ip98, Lp98, Rp98, Yp98), ncp98, nsp98) (fun _ => rfl) ?_
            refine yi_G_callv rfl rfl (cl_rcv (cl_10 hPp98.1) rfl) rfl (k_findPartnerA d (by omega) hPp98.1  (by omega)) ?_
            rintro _ ⟨z12, I12, L12, R12, Y12, nc12, ns12, rfl, hQ12, ca12, cb12, x12a, x12b, x12c⟩
            have hP12 := cl_P_t hPp98 hQ12
            have t13 := cl_T_x tq1p98 hQ12.2.1
            have t14 := cl_T_x t8 hQ12.2.1
            have n15 := (cl_T_n t8 hQ12.2.1).trans n9
            show yi_G zi_Ms d zi_m150 (141, [(5, .inl (Ip98 q6 (i.toNat))), (3, .inl z4), (2, .inr (.inr (some q1))), (0, .inr (.inr (some 10))), (1, .inl x), (4, .inl i)], [.inl z12], (I12, L12, R12, Y12), ncp98 + nc12, nsp98 + ns12) _
            refine yi_G_run 3 (146, [(6, .inl z12), (5, .inl (Ip98 q6 (i.toNat))), (3, .inl z4), (2, .inr (.inr (some q1))), (0, .inr (.inr (some 10))), (1, .inl x), (4, .inl i)], [.inl (-1), .inl z12], (I12, L12, R12, Y12), ncp98 + nc12, nsp98 + ns12) (fun _ => rfl) ?_
            have fm3 : ncp98 + nc12 ≤ 1 ∧ nsp98 + ns12 ≤ 513 := fm.elim (fun h => by omega) (fun ⟨⟨q, hq, hl⟩, h⟩ => by have := x12a q hq hl; omega)
            by_cases h16 : z12 = (-1)
            · refine yi_G_if2 true rfl (yi_eq_t h16) ?_
              refine yi_G_iinc [(4, .inl (i + 1)), (6, .inl z12), (5, .inl (Ip98 q6 (i.toNat))), (3, .inl z4), (2, .inr (.inr (some q1))), (0, .inr (.inr (some 10))), (1, .inl x)] rfl rfl rfl (by rw [show yi_w (i + 1) = i + 1 from (yi_wn (by omega) (by omega)).trans (by omega)]; rfl) ?_
              refine yi_G_run 1 (98, [(4, .inl (i + 1)), (6, .inl z12), (5, .inl (Ip98 q6 (i.toNat))), (3, .inl z4), (2, .inr (.inr (some q1))), (0, .inr (.inr (some 10))), (1, .inl x)], [], (I12, L12, R12, Y12), ncp98 + nc12, nsp98 + ns12) (fun _ => rfl) ?_
              refine yi_G_al (al := [(3, .inl z4), (2, .inr (.inr (some q1))), (0, .inr (.inr (some 10))), (1, .inl x), (4, .inl (i + 1))]) (show ([3, 2, 0, 1, 4] : List Nat).Nodup by decide) (show ([4, 6, 5, 3, 2, 0, 1] : List Nat).Nodup by decide) (yi_mc (List.mem_of_getElem? (i := 3) rfl) (yi_mc (List.mem_of_getElem? (i := 4) rfl) (yi_mc (List.mem_of_getElem? (i := 5) rfl) (yi_mc (List.mem_of_getElem? (i := 6) rfl) (yi_mc (List.mem_of_getElem? (i := 0) rfl) yi_mn))))) ?_
              exact ih98 _ (by omega) (i + 1) I12 L12 R12 Y12 (ncp98 + nc12) (nsp98 + ns12) hP12 t13 (by omega) (Or.inr ⟨by rw [(x12c 58 1 (by have := hPp98.1.2.2.1.1; omega) (by decide)).1]; exact x12b, fm.elim (fun h => by omega) (fun ⟨⟨q, hq, hl⟩, h⟩ => by have := x12a q hq hl; omega)⟩) rfl
            · refine yi_G_if2 false rfl (yi_eq_f h16) ?_
              refine yi_G_run 9 (162, [(6, .inl z12), (5, .inl (Ip98 q6 (i.toNat))), (3, .inl z4), (2, .inr (.inr (some q1))), (0, .inr (.inr (some 10))), (1, .inl x), (4, .inl i)], [.inl (yi_ior (yi_ior 2 (yi_shl (Ip98 q6 (i.toNat)) 8)) (yi_shl z12 16))], (I12, L12, R12, Y12), ncp98 + nc12, nsp98 + ns12) (fun _ => rfl) ?_
              exact yi_G_reti rfl rfl (⟨_, _, _, _, _, _, _, rfl, hP12, by omega, by omega⟩)
    refine yi_G_run 2 (30, [(4, .inl 0), (3, .inl z4), (2, .inr (.inr (some q1))), (0, .inr (.inr (some 10))), (1, .inl x)], [], (I4, L, R, Y), 0, 0) (fun _ => rfl) ?_
    have pt30 : ∀ (m_ : Nat) (j : Int), (0 ≤ j ∧ j ≤ 96) → (96 - j).toNat = m_ → yi_G zi_Ms d zi_m150 (30, [(4, .inl j), (3, .inl z4), (2, .inr (.inr (some q1))), (0, .inr (.inr (some 10))), (1, .inl x)], [], (I4, L, R, Y), 0, 0) (fun r => ∃ z, ∃ I', ∃ L', ∃ R', ∃ Y', ∃ nc ns, r = (some (.inl z), (I', L', R', Y'), nc, ns) ∧ cl_P E I L R Y I' L' R' Y' ∧ nc ≤ 1 ∧ ns ≤ 513) := by
      intro m30
      induction m30 using Nat.strongRecOn with
      | _ m30 ih30 =>
      intro j j0 hm30
      refine yi_G_run 2 (33, [(4, .inl j), (3, .inl z4), (2, .inr (.inr (some q1))), (0, .inr (.inr (some 10))), (1, .inl x)], [.inl z4, .inl j], (I4, L, R, Y), 0, 0) (fun _ => rfl) ?_
      by_cases h17 : z4 ≤ j
      · refine yi_G_if2 true rfl (yi_ge_t h17) ?_
        refine yi_G_run 2 (98, [(4, .inl 0), (3, .inl z4), (2, .inr (.inr (some q1))), (0, .inr (.inr (some 10))), (1, .inl x)], [], (I4, L, R, Y), 0, 0) (fun _ => rfl) ?_
        refine yi_G_al (al := [(3, .inl z4), (2, .inr (.inr (some q1))), (0, .inr (.inr (some 10))), (1, .inl x), (4, .inl 0)]) (show ([3, 2, 0, 1, 4] : List Nat).Nodup by decide) (show ([4, 3, 2, 0, 1] : List Nat).Nodup by decide) (yi_mc (List.mem_of_getElem? (i := 1) rfl) (yi_mc (List.mem_of_getElem? (i := 2) rfl) (yi_mc (List.mem_of_getElem? (i := 3) rfl) (yi_mc (List.mem_of_getElem? (i := 4) rfl) (yi_mc (List.mem_of_getElem? (i := 0) rfl) yi_mn))))) ?_
        exact pt98 _ 0 I4 L R Y (0) (0) hP4 t1 (by omega) (Or.inl ⟨by omega, by omega⟩) rfl
      · refine yi_G_if2 false rfl (yi_ge_f h17) ?_
        refine yi_G_run 2 (39, [(4, .inl j), (3, .inl z4), (2, .inr (.inr (some q1))), (0, .inr (.inr (some 10))), (1, .inl x)], [.inr (.inr (some 10)), .inl j], (I4, L, R, Y), 0, 0) (fun _ => rfl) ?_
        obtain ⟨q18, e19, t20, n21⟩ := cl_rn hP4.1 (cl_10 hP4.1) (k := 12) (m := 95) rfl
        refine cl_G_gr rfl (cl_T_K (cl_10 hP4.1)) rfl rfl rfl e19 ?_
        refine cl_G_len rfl t20 (by omega) ?_
        by_cases h22 : ((Y.2.1 q18 : Int)) ≤ j
        · refine yi_G_if2 true rfl (yi_ge_t h22) ?_
          refine yi_G_run 2 (98, [(4, .inl 0), (3, .inl z4), (2, .inr (.inr (some q1))), (0, .inr (.inr (some 10))), (1, .inl x)], [], (I4, L, R, Y), 0, 0) (fun _ => rfl) ?_
          refine yi_G_al (al := [(3, .inl z4), (2, .inr (.inr (some q1))), (0, .inr (.inr (some 10))), (1, .inl x), (4, .inl 0)]) (show ([3, 2, 0, 1, 4] : List Nat).Nodup by decide) (show ([4, 3, 2, 0, 1] : List Nat).Nodup by decide) (yi_mc (List.mem_of_getElem? (i := 1) rfl) (yi_mc (List.mem_of_getElem? (i := 2) rfl) (yi_mc (List.mem_of_getElem? (i := 3) rfl) (yi_mc (List.mem_of_getElem? (i := 4) rfl) (yi_mc (List.mem_of_getElem? (i := 0) rfl) yi_mn))))) ?_
          exact pt98 _ 0 I4 L R Y (0) (0) hP4 t1 (by omega) (Or.inl ⟨by omega, by omega⟩) rfl
        · refine yi_G_if2 false rfl (yi_ge_f h22) ?_
          refine yi_G_run 1 (47, [(4, .inl j), (3, .inl z4), (2, .inr (.inr (some q1))), (0, .inr (.inr (some 10))), (1, .inl x)], [.inr (.inr (some 10))], (I4, L, R, Y), 0, 0) (fun _ => rfl) ?_
          refine cl_G_gr rfl (cl_T_K (cl_10 hP4.1)) rfl rfl rfl e19 ?_
          refine yi_G_run 1 (52, [(4, .inl j), (3, .inl z4), (2, .inr (.inr (some q1))), (0, .inr (.inr (some 10))), (1, .inl x)], [.inl j, .inr (.inr (some q18))], (I4, L, R, Y), 0, 0) (fun _ => rfl) ?_
          refine cl_G_iald rfl t20 (by omega) (by omega) ?_
          refine yi_G_run 3 (58, [(5, .inl (I4 q18 (j.toNat))), (4, .inl j), (3, .inl z4), (2, .inr (.inr (some q1))), (0, .inr (.inr (some 10))), (1, .inl x)], [.inl x, .inl (I4 q18 (j.toNat))], (I4, L, R, Y), 0, 0) (fun _ => rfl) ?_
          by_cases h23 : (I4 q18 (j.toNat)) = x
          · refine yi_G_if2 true rfl (yi_eq_t h23) ?_
            refine yi_G_iinc [(4, .inl (j + 1)), (5, .inl (I4 q18 (j.toNat))), (3, .inl z4), (2, .inr (.inr (some q1))), (0, .inr (.inr (some 10))), (1, .inl x)] rfl rfl rfl (by rw [show yi_w (j + 1) = j + 1 from (yi_wn (by omega) (by omega)).trans (by omega)]; rfl) ?_
            refine yi_G_run 1 (30, [(4, .inl (j + 1)), (5, .inl (I4 q18 (j.toNat))), (3, .inl z4), (2, .inr (.inr (some q1))), (0, .inr (.inr (some 10))), (1, .inl x)], [], (I4, L, R, Y), 0, 0) (fun _ => rfl) ?_
            refine yi_G_al (al := [(4, .inl (j + 1)), (3, .inl z4), (2, .inr (.inr (some q1))), (0, .inr (.inr (some 10))), (1, .inl x)]) (show ([4, 3, 2, 0, 1] : List Nat).Nodup by decide) (show ([4, 5, 3, 2, 0, 1] : List Nat).Nodup by decide) (yi_mc (List.mem_of_getElem? (i := 0) rfl) (yi_mc (List.mem_of_getElem? (i := 2) rfl) (yi_mc (List.mem_of_getElem? (i := 3) rfl) (yi_mc (List.mem_of_getElem? (i := 4) rfl) (yi_mc (List.mem_of_getElem? (i := 5) rfl) yi_mn))))) ?_
            exact ih30 _ (by omega) (j + 1) (by omega) rfl
          · refine yi_G_if2 false rfl (yi_eq_f h23) ?_
            refine yi_G_run 1 (62, [(5, .inl (I4 q18 (j.toNat))), (4, .inl j), (3, .inl z4), (2, .inr (.inr (some q1))), (0, .inr (.inr (some 10))), (1, .inl x)], [.inr (.inr (some 10))], (I4, L, R, Y), 0, 0) (fun _ => rfl) ?_
            refine cl_G_gr rfl (cl_T_K (cl_10 hP4.1)) rfl rfl rfl (hP4.1.2.2.2.1.2.2.2.2.2.2.2.1) ?_
            refine yi_G_run 1 (66, [(5, .inl (I4 q18 (j.toNat))), (4, .inl j), (3, .inl z4), (2, .inr (.inr (some q1))), (0, .inr (.inr (some 10))), (1, .inl x)], [.inr (.inr (some 10)), .inr (.inr (some 58))], (I4, L, R, Y), 0, 0) (fun _ => rfl) ?_
            refine cl_G_gr rfl (cl_T_K (cl_10 hP4.1)) rfl rfl rfl (hP4.1.2.2.2.1.2.2.2.2.2.2.1) ?_
            refine yi_G_run 1 (71, [(5, .inl (I4 q18 (j.toNat))), (4, .inl j), (3, .inl z4), (2, .inr (.inr (some q1))), (0, .inr (.inr (some 10))), (1, .inl x)], [.inl (I4 q18 (j.toNat)), .inr (.inr (some 34)), .inr (.inr (some 58))], (I4, L, R, Y), 0, 0) (fun _ => rfl) ?_
            refine yi_G_callv rfl rfl (cl_rcv (cl_34 hP4.1) rfl) rfl (k_wordRow d (by omega) hP4.1 (cl_34 hP4.1) ) ?_
            rintro _ ⟨q24, rfl, t24⟩
            show yi_G zi_Ms d zi_m150 (74, [(5, .inl (I4 q18 (j.toNat))), (4, .inl j), (3, .inl z4), (2, .inr (.inr (some q1))), (0, .inr (.inr (some 10))), (1, .inl x)], [.inr (.inr (some q24)), .inr (.inr (some 58))], (I4, L, R, Y), 0, 0) _
            refine yi_G_run 1 (75, [(5, .inl (I4 q18 (j.toNat))), (4, .inl j), (3, .inl z4), (2, .inr (.inr (some q1))), (0, .inr (.inr (some 10))), (1, .inl x)], [.inr (.inr (some q1)), .inr (.inr (some q24)), .inr (.inr (some 58))], (I4, L, R, Y), 0, 0) (fun _ => rfl) ?_
            refine yi_G_callv rfl rfl (cl_rcv (cl_58 hP4.1) rfl) rfl (k_withinBy d (by omega) hP4.1 (cl_58 hP4.1) t24 t1 ) ?_
            rintro _ ⟨z25, rfl, hz25⟩
            show yi_G zi_Ms d zi_m150 (78, [(5, .inl (I4 q18 (j.toNat))), (4, .inl j), (3, .inl z4), (2, .inr (.inr (some q1))), (0, .inr (.inr (some 10))), (1, .inl x)], [.inl z25], (I4, L, R, Y), 0, 0) _
            by_cases h26 : z25 = 0
            · refine yi_G_if1 true rfl (yi_eq_t h26) ?_
              refine yi_G_iinc [(4, .inl (j + 1)), (5, .inl (I4 q18 (j.toNat))), (3, .inl z4), (2, .inr (.inr (some q1))), (0, .inr (.inr (some 10))), (1, .inl x)] rfl rfl rfl (by rw [show yi_w (j + 1) = j + 1 from (yi_wn (by omega) (by omega)).trans (by omega)]; rfl) ?_
              refine yi_G_run 1 (30, [(4, .inl (j + 1)), (5, .inl (I4 q18 (j.toNat))), (3, .inl z4), (2, .inr (.inr (some q1))), (0, .inr (.inr (some 10))), (1, .inl x)], [], (I4, L, R, Y), 0, 0) (fun _ => rfl) ?_
              refine yi_G_al (al := [(4, .inl (j + 1)), (3, .inl z4), (2, .inr (.inr (some q1))), (0, .inr (.inr (some 10))), (1, .inl x)]) (show ([4, 3, 2, 0, 1] : List Nat).Nodup by decide) (show ([4, 5, 3, 2, 0, 1] : List Nat).Nodup by decide) (yi_mc (List.mem_of_getElem? (i := 0) rfl) (yi_mc (List.mem_of_getElem? (i := 2) rfl) (yi_mc (List.mem_of_getElem? (i := 3) rfl) (yi_mc (List.mem_of_getElem? (i := 4) rfl) (yi_mc (List.mem_of_getElem? (i := 5) rfl) yi_mn))))) ?_
              exact ih30 _ (by omega) (j + 1) (by omega) rfl
            · refine yi_G_if1 false rfl (yi_eq_f h26) ?_
              refine yi_G_run 5 (88, [(5, .inl (I4 q18 (j.toNat))), (4, .inl j), (3, .inl z4), (2, .inr (.inr (some q1))), (0, .inr (.inr (some 10))), (1, .inl x)], [.inl (yi_ior 1 (yi_shl (I4 q18 (j.toNat)) 8))], (I4, L, R, Y), 0, 0) (fun _ => rfl) ?_
              exact yi_G_reti rfl rfl (⟨_, _, _, _, _, _, _, rfl, hP4, by omega, by omega⟩)
    exact pt30 _ 0 (by omega) rfl
  · refine yi_G_if1 false rfl (yi_eq_f h3) ?_
    refine yi_G_run 1 (21, [(2, .inr (.inr (some q1))), (0, .inr (.inr (some 10))), (1, .inl x)], [.inl 0], (I, L, R, Y), 0, 0) (fun _ => rfl) ?_
    exact yi_G_reti rfl rfl (⟨_, _, _, _, _, _, _, rfl, hP, by omega, by omega⟩)
theorem k_runYearA (D : Nat) (hD : 7 ≤ D) {E : List Nat} {I L : cl_I} {R : cl_Rr} {Y : cl_Y} (hC : cl_C E I L R Y) {x : Int} {y : Int} (hx : 0 ≤ x ∧ x ≤ 9999) (hy : y ≤ 9999) : yi_E zi_Ms D 171 [.inr (.inr (some 10)), .inl x, .inl y] (I, L, R, Y) (fun r => ∃ z, ∃ I', ∃ L', ∃ R', ∃ Y', ∃ nc ns, r = (some (.inl z), (I', L', R', Y'), nc, ns) ∧ cl_P E I L R Y I' L' R' Y' ∧ nc ≤ 2 ∧ ns ≤ 1026) := by
  obtain ⟨d, rfl⟩ : ∃ d, D = d + 1 := ⟨D - 1, by omega⟩
  refine yi_E_of (M := zi_m171) rfl rfl ?_
  have hP : cl_P E I L R Y I L R Y := cl_P_r hC
  show yi_G zi_Ms d zi_m171 (0, [(0, .inr (.inr (some 10))), (1, .inl x), (2, .inl y)], [], (I, L, R, Y), 0, 0) _
  refine yi_G_run 3 (3, [(3, .inl 0), (0, .inr (.inr (some 10))), (1, .inl x), (2, .inl y)], [.inr (.inr (some 10))], (I, L, R, Y), 0, 0) (fun _ => rfl) ?_
  refine cl_G_gr rfl (cl_T_K (cl_10 hP.1)) rfl rfl rfl (hP.1.2.2.2.1.2.2.2.2.2.2.2.2.1) ?_
  refine yi_G_run 1 (7, [(3, .inl 0), (0, .inr (.inr (some 10))), (1, .inl x), (2, .inl y)], [.inr (.inr (some 10)), .inr (.inr (some 60))], (I, L, R, Y), 0, 0) (fun _ => rfl) ?_
  refine cl_G_gr rfl (cl_T_K (cl_10 hP.1)) rfl rfl rfl (hP.1.2.2.2.1.2.2.2.2.2.2.2.1) ?_
  refine yi_G_callv rfl rfl (cl_rcv (cl_60 hP.1) rfl) rfl (k_copyFrom d (by omega) hP.1 (cl_60 hP.1) (cl_58 hP.1) ) ?_
  rintro _ ⟨I1, L1, R1, Y1, nc1, ns1, rfl, hQ1, ca1, cb1, x1a, x1b, x1c⟩
  have hP1 := cl_P_t hP hQ1
  show yi_G zi_Ms d zi_m171 (13, [(3, .inl 0), (0, .inr (.inr (some 10))), (1, .inl x), (2, .inl y)], [], (I1, L1, R1, Y1), 0 + nc1, 0 + ns1) _
  refine yi_G_run 1 (14, [(3, .inl 0), (0, .inr (.inr (some 10))), (1, .inl x), (2, .inl y)], [.inr (.inr (some 10))], (I1, L1, R1, Y1), 0 + nc1, 0 + ns1) (fun _ => rfl) ?_
  obtain ⟨q2, e3, t4, n5⟩ := cl_rn hP1.1 (cl_10 hP1.1) (k := 14) (m := 4) rfl
  refine cl_G_gr rfl (cl_T_K (cl_10 hP1.1)) rfl rfl rfl e3 ?_
  refine yi_G_run 1 (18, [(3, .inl 0), (0, .inr (.inr (some 10))), (1, .inl x), (2, .inl y)], [.inl 0, .inr (.inr (some q2))], (I1, L1, R1, Y1), 0 + nc1, 0 + ns1) (fun _ => rfl) ?_
  have r7 : I1 34 9 = I 34 9 := by rw [(x1c 34 9 (cl_34 hP.1).2.1 (by decide)).1]
  refine yi_G_calls rfl rfl (k_fillI d (by omega) hP1.1 t4 ) ?_
  rintro _ ⟨I6, rfl, hQ6, x6a⟩
  have hP6 := cl_P_t hP1 hQ6
  show yi_G zi_Ms d zi_m171 (21, [(3, .inl 0), (0, .inr (.inr (some 10))), (1, .inl x), (2, .inl y)], [], (I6, L1, R1, Y1), 0 + nc1, 0 + ns1) _
  refine yi_G_run 1 (22, [(3, .inl 0), (0, .inr (.inr (some 10))), (1, .inl x), (2, .inl y)], [.inr (.inr (some 10))], (I6, L1, R1, Y1), 0 + nc1, 0 + ns1) (fun _ => rfl) ?_
  obtain ⟨q8, e9, t10⟩ := cl_rf hP6.1 (cl_10 hP6.1) (k := 5) rfl
  refine cl_G_gr rfl (cl_T_K (cl_10 hP6.1)) rfl rfl rfl e9 ?_
  refine yi_G_run 1 (26, [(3, .inl 0), (0, .inr (.inr (some 10))), (1, .inl x), (2, .inl y)], [.inl x, .inr (.inr (some q8))], (I6, L1, R1, Y1), 0 + nc1, 0 + ns1) (fun _ => rfl) ?_
  have r12 : I6 34 9 = I 34 9 := by rw [x6a 34 9 (cl_ne (cl_34 hP6.1) t4 (by decide)), (x1c 34 9 (cl_34 hP.1).2.1 (by decide)).1]
  refine yi_G_callv rfl rfl (cl_rcv t10 rfl) rfl (k_beginD d (by omega) hP6.1 t10 (by omega)) ?_
  rintro _ ⟨L11, rfl, hQ11⟩
  have hP11 := cl_P_t hP6 hQ11
  show yi_G zi_Ms d zi_m171 (29, [(3, .inl 0), (0, .inr (.inr (some 10))), (1, .inl x), (2, .inl y)], [], (I6, L11, R1, Y1), 0 + nc1, 0 + ns1) _
  refine yi_G_run 2 (32, [(4, .inl 0), (3, .inl 0), (0, .inr (.inr (some 10))), (1, .inl x), (2, .inl y)], [], (I6, L11, R1, Y1), 0 + nc1, 0 + ns1) (fun _ => rfl) ?_
  have pt32 : ∀ (m_ : Nat) (j : Int) (to : Int) (Ip32 : cl_I) (Lp32 : cl_I) (Rp32 : cl_Rr) (Yp32 : cl_Y) (ncp32 : Nat) (nsp32 : Nat), (cl_P E I L R Y Ip32 Lp32 Rp32 Yp32) → (0 ≤ j ∧ j ≤ 9999) → (0 ≤ to ∧ to ≤ j) → (∀ q k, cl_T E Y q 4 → Ip32 q k = I q k) → ((ncp32 ≤ 1 ∧ nsp32 ≤ 513) ∨ (cl_F Rp32 Yp32 62 (max (I 34 9) 1) ∧ (ncp32 ≤ 2 ∧ nsp32 ≤ 1026))) → (9999 - j).toNat = m_ → yi_G zi_Ms d zi_m171 (32, [(4, .inl j), (3, .inl to), (0, .inr (.inr (some 10))), (1, .inl x), (2, .inl y)], [], (Ip32, Lp32, Rp32, Yp32), ncp32, nsp32) (fun r => ∃ z, ∃ I', ∃ L', ∃ R', ∃ Y', ∃ nc ns, r = (some (.inl z), (I', L', R', Y'), nc, ns) ∧ cl_P E I L R Y I' L' R' Y' ∧ nc ≤ 2 ∧ ns ≤ 1026) := by
    intro m32
    induction m32 using Nat.strongRecOn with
    | _ m32 ih32 =>
    intro j to Ip32 Lp32 Rp32 Yp32 ncp32 nsp32 hPp32 j0 to0 kw32 fy hm32
    have fy2 : ncp32 ≤ 2 ∧ nsp32 ≤ 1026 := by rcases fy with h | h <;> omega
    refine yi_G_run 2 (35, [(4, .inl j), (3, .inl to), (0, .inr (.inr (some 10))), (1, .inl x), (2, .inl y)], [.inl y, .inl j], (Ip32, Lp32, Rp32, Yp32), ncp32, nsp32) (fun _ => rfl) ?_
    by_cases h13 : y ≤ j
    · refine yi_G_if2 true rfl (yi_ge_t h13) ?_
      refine yi_G_run 1 (199, [(4, .inl j), (3, .inl to), (0, .inr (.inr (some 10))), (1, .inl x), (2, .inl y)], [.inl to], (Ip32, Lp32, Rp32, Yp32), ncp32, nsp32) (fun _ => rfl) ?_
      exact yi_G_reti rfl rfl (⟨_, _, _, _, _, _, _, rfl, hPp32, by omega, by omega⟩)
    · refine yi_G_if2 false rfl (yi_ge_f h13) ?_
      refine yi_G_run 1 (39, [(4, .inl j), (3, .inl to), (0, .inr (.inr (some 10))), (1, .inl x), (2, .inl y)], [.inr (.inr (some 10))], (Ip32, Lp32, Rp32, Yp32), ncp32, nsp32) (fun _ => rfl) ?_
      obtain ⟨q14, e15, t16⟩ := cl_rf hPp32.1 (cl_10 hPp32.1) (k := 5) rfl
      refine cl_G_gr rfl (cl_T_K (cl_10 hPp32.1)) rfl rfl rfl e15 ?_
      refine yi_G_run 1 (43, [(4, .inl j), (3, .inl to), (0, .inr (.inr (some 10))), (1, .inl x), (2, .inl y)], [.inr (.inr (some 10)), .inr (.inr (some q14))], (Ip32, Lp32, Rp32, Yp32), ncp32, nsp32) (fun _ => rfl) ?_
      obtain ⟨q17, e18, t19⟩ := cl_rf hPp32.1 (cl_10 hPp32.1) (k := 16) rfl
      refine cl_G_gr rfl (cl_T_K (cl_10 hPp32.1)) rfl rfl rfl e18 ?_
      have b20 := cl_rd hPp32.1 t19 (k := 17) (lo := 0) (hi := 5) rfl
      refine cl_G_gi rfl (cl_T_K t19) rfl rfl rfl ?_
      have r22 : Ip32 34 9 = I 34 9 := by rw [kw32 34 9 (cl_34 hC)]
      refine yi_G_callv rfl rfl (cl_rcv t16 rfl) rfl (k_below d (by omega) hPp32.1 t16 (by omega)) ?_
      rintro _ ⟨z21, L21, rfl, hQ21, x21a⟩
      have hP21 := cl_P_t hPp32 hQ21
      show yi_G zi_Ms d zi_m171 (52, [(4, .inl j), (3, .inl to), (0, .inr (.inr (some 10))), (1, .inl x), (2, .inl y)], [.inl z21], (Ip32, L21, Rp32, Yp32), ncp32, nsp32) _
      refine yi_G_run 2 (55, [(5, .inl z21), (4, .inl j), (3, .inl to), (0, .inr (.inr (some 10))), (1, .inl x), (2, .inl y)], [.inr (.inr (some 10))], (Ip32, L21, Rp32, Yp32), ncp32, nsp32) (fun _ => rfl) ?_
      refine cl_G_gr rfl (cl_T_K (cl_10 hP21.1)) rfl rfl rfl e15 ?_
      refine yi_G_run 1 (59, [(5, .inl z21), (4, .inl j), (3, .inl to), (0, .inr (.inr (some 10))), (1, .inl x), (2, .inl y)], [.inr (.inr (some 10)), .inr (.inr (some q14))], (Ip32, L21, Rp32, Yp32), ncp32, nsp32) (fun _ => rfl) ?_
      refine cl_G_gr rfl (cl_T_K (cl_10 hP21.1)) rfl rfl rfl e18 ?_
      have b23 := cl_rd hP21.1 t19 (k := 14) (lo := 1) (hi := 6) rfl
      refine cl_G_gi rfl (cl_T_K t19) rfl rfl rfl ?_
      have r25 : Ip32 34 9 = I 34 9 := by rw [kw32 34 9 (cl_34 hC)]
      refine yi_G_callv rfl rfl (cl_rcv t16 rfl) rfl (k_below d (by omega) hP21.1 t16 (by omega)) ?_
      rintro _ ⟨z24, L24, rfl, hQ24, x24a⟩
      have hP24 := cl_P_t hP21 hQ24
      show yi_G zi_Ms d zi_m171 (68, [(5, .inl z21), (4, .inl j), (3, .inl to), (0, .inr (.inr (some 10))), (1, .inl x), (2, .inl y)], [.inl z24], (Ip32, L24, Rp32, Yp32), ncp32, nsp32) _
      refine yi_G_run 4 (73, [(6, .inl (yi_w (z24 + 1))), (5, .inl z21), (4, .inl j), (3, .inl to), (0, .inr (.inr (some 10))), (1, .inl x), (2, .inl y)], [.inr (.inr (some 10))], (Ip32, L24, Rp32, Yp32), ncp32, nsp32) (fun _ => rfl) ?_
      refine cl_G_gr rfl (cl_T_K (cl_10 hP24.1)) rfl rfl rfl e15 ?_
      refine yi_G_run 1 (77, [(6, .inl (yi_w (z24 + 1))), (5, .inl z21), (4, .inl j), (3, .inl to), (0, .inr (.inr (some 10))), (1, .inl x), (2, .inl y)], [.inr (.inr (some 10)), .inr (.inr (some q14))], (Ip32, L24, Rp32, Yp32), ncp32, nsp32) (fun _ => rfl) ?_
      refine cl_G_gr rfl (cl_T_K (cl_10 hP24.1)) rfl rfl rfl e18 ?_
      have b26 := cl_rd hP24.1 t19 (k := 15) (lo := 0) (hi := 4) rfl
      refine cl_G_gi rfl (cl_T_K t19) rfl rfl rfl ?_
      have r28 : Ip32 34 9 = I 34 9 := by rw [kw32 34 9 (cl_34 hC)]
      refine yi_G_callv rfl rfl (cl_rcv t16 rfl) rfl (k_below d (by omega) hP24.1 t16 (by omega)) ?_
      rintro _ ⟨z27, L27, rfl, hQ27, x27a⟩
      have hP27 := cl_P_t hP24 hQ27
      show yi_G zi_Ms d zi_m171 (86, [(6, .inl (yi_w (z24 + 1))), (5, .inl z21), (4, .inl j), (3, .inl to), (0, .inr (.inr (some 10))), (1, .inl x), (2, .inl y)], [.inl z27], (Ip32, L27, Rp32, Yp32), ncp32, nsp32) _
      refine yi_G_run 2 (89, [(7, .inl z27), (6, .inl (yi_w (z24 + 1))), (5, .inl z21), (4, .inl j), (3, .inl to), (0, .inr (.inr (some 10))), (1, .inl x), (2, .inl y)], [.inr (.inr (some 10))], (Ip32, L27, Rp32, Yp32), ncp32, nsp32) (fun _ => rfl) ?_
      refine cl_G_gr rfl (cl_T_K (cl_10 hP27.1)) rfl rfl rfl e15 ?_
      refine yi_G_run 1 (93, [(7, .inl z27), (6, .inl (yi_w (z24 + 1))), (5, .inl z21), (4, .inl j), (3, .inl to), (0, .inr (.inr (some 10))), (1, .inl x), (2, .inl y)], [.inr (.inr (some 10)), .inr (.inr (some q14))], (Ip32, L27, Rp32, Yp32), ncp32, nsp32) (fun _ => rfl) ?_
      refine cl_G_gr rfl (cl_T_K (cl_10 hP27.1)) rfl rfl rfl e18 ?_
      have b29 := cl_rd hP27.1 t19 (k := 16) (lo := 0) (hi := 4) rfl
      refine cl_G_gi rfl (cl_T_K t19) rfl rfl rfl ?_
      have r31 : Ip32 34 9 = I 34 9 := by rw [kw32 34 9 (cl_34 hC)]
      refine yi_G_callv rfl rfl (cl_rcv t16 rfl) rfl (k_below d (by omega) hP27.1 t16 (by omega)) ?_
      rintro _ ⟨z30, L30, rfl, hQ30, x30a⟩
      have hP30 := cl_P_t hP27 hQ30
      show yi_G zi_Ms d zi_m171 (102, [(7, .inl z27), (6, .inl (yi_w (z24 + 1))), (5, .inl z21), (4, .inl j), (3, .inl to), (0, .inr (.inr (some 10))), (1, .inl x), (2, .inl y)], [.inl z30], (Ip32, L30, Rp32, Yp32), ncp32, nsp32) _
      refine yi_G_run 3 (106, [(8, .inl z30), (7, .inl z27), (6, .inl (yi_w (z24 + 1))), (5, .inl z21), (4, .inl j), (3, .inl to), (0, .inr (.inr (some 10))), (1, .inl x), (2, .inl y)], [.inr (.inr (some 10)), .inr (.inr (some 10))], (Ip32, L30, Rp32, Yp32), ncp32, nsp32) (fun _ => rfl) ?_
      refine cl_G_gr rfl (cl_T_K (cl_10 hP30.1)) rfl rfl rfl e18 ?_
      refine yi_G_run 1 (111, [(8, .inl z30), (7, .inl z27), (6, .inl (yi_w (z24 + 1))), (5, .inl z21), (4, .inl j), (3, .inl to), (0, .inr (.inr (some 10))), (1, .inl x), (2, .inl y)], [.inl z21, .inr (.inr (some q17)), .inr (.inr (some 10))], (Ip32, L30, Rp32, Yp32), ncp32, nsp32) (fun _ => rfl) ?_
      have r33 : Ip32 34 9 = I 34 9 := by rw [kw32 34 9 (cl_34 hC)]
      refine yi_G_callv rfl rfl (cl_rcv t19 rfl) rfl (k_kindOf d (by omega) hP30.1 t19 ) ?_
      rintro _ ⟨z32, rfl⟩
      show yi_G zi_Ms d zi_m171 (114, [(8, .inl z30), (7, .inl z27), (6, .inl (yi_w (z24 + 1))), (5, .inl z21), (4, .inl j), (3, .inl to), (0, .inr (.inr (some 10))), (1, .inl x), (2, .inl y)], [.inl z32, .inr (.inr (some 10))], (Ip32, L30, Rp32, Yp32), ncp32, nsp32) _
      refine yi_G_run 3 (120, [(8, .inl z30), (7, .inl z27), (6, .inl (yi_w (z24 + 1))), (5, .inl z21), (4, .inl j), (3, .inl to), (0, .inr (.inr (some 10))), (1, .inl x), (2, .inl y)], [.inl z30, .inl (yi_w (z24 + 1)), .inl z27, .inl z32, .inr (.inr (some 10))], (Ip32, L30, Rp32, Yp32), ncp32, nsp32) (fun _ => rfl) ?_
      have r35 : Ip32 34 9 = I 34 9 := by rw [kw32 34 9 (cl_34 hC)]
      refine yi_G_callv rfl rfl (cl_rcv (cl_10 hP30.1) rfl) rfl (k_yearCodesA d (by omega) hP30.1  ) ?_
      rintro _ ⟨z34, I34, rfl, hQ34, x34a⟩
      have hP34 := cl_P_t hP30 hQ34
      show yi_G zi_Ms d zi_m171 (123, [(8, .inl z30), (7, .inl z27), (6, .inl (yi_w (z24 + 1))), (5, .inl z21), (4, .inl j), (3, .inl to), (0, .inr (.inr (some 10))), (1, .inl x), (2, .inl y)], [.inl z34], (I34, L30, Rp32, Yp32), ncp32, nsp32) _
      refine yi_G_run 2 (126, [(9, .inl z34), (8, .inl z30), (7, .inl z27), (6, .inl (yi_w (z24 + 1))), (5, .inl z21), (4, .inl j), (3, .inl to), (0, .inr (.inr (some 10))), (1, .inl x), (2, .inl y)], [.inr (.inr (some 10))], (I34, L30, Rp32, Yp32), ncp32, nsp32) (fun _ => rfl) ?_
      refine cl_G_gr rfl (cl_T_K (cl_10 hP34.1)) rfl rfl rfl (hP34.1.2.2.2.1.2.2.2.2.2.2.1) ?_
      refine yi_G_run 1 (130, [(9, .inl z34), (8, .inl z30), (7, .inl z27), (6, .inl (yi_w (z24 + 1))), (5, .inl z21), (4, .inl j), (3, .inl to), (0, .inr (.inr (some 10))), (1, .inl x), (2, .inl y)], [.inr (.inr (some 10)), .inr (.inr (some 34))], (I34, L30, Rp32, Yp32), ncp32, nsp32) (fun _ => rfl) ?_
      obtain ⟨q36, e37, t38, n39⟩ := cl_rn hP34.1 (cl_10 hP34.1) (k := 13) (m := 1) rfl
      refine cl_G_gr rfl (cl_T_K (cl_10 hP34.1)) rfl rfl rfl e37 ?_
      refine yi_G_run 3 (137, [(9, .inl z34), (8, .inl z30), (7, .inl z27), (6, .inl (yi_w (z24 + 1))), (5, .inl z21), (4, .inl j), (3, .inl to), (0, .inr (.inr (some 10))), (1, .inl x), (2, .inl y)], [.inr (.inr (some 10)), .inl z34, .inl 0, .inr (.inr (some q36)), .inr (.inr (some 34))], (I34, L30, Rp32, Yp32), ncp32, nsp32) (fun _ => rfl) ?_
      refine cl_G_gr rfl (cl_T_K (cl_10 hP34.1)) rfl rfl rfl (hP34.1.2.2.2.1.2.2.2.2.2.2.2.2.2) ?_
      have r41 : I34 34 9 = I 34 9 := by rw [x34a 34 9 (cl_34 hP30.1), kw32 34 9 (cl_34 hC)]
      refine yi_G_callv rfl rfl (cl_rcv (cl_34 hP34.1) rfl) rfl (k_solve d (by omega) hP34.1 (cl_34 hP34.1) t38 (cl_62 hP34.1) ) ?_
      rintro _ ⟨I40, L40, R40, Y40, nc40, ns40, rfl, hQ40, ca40, cb40, x40a, x40b, x40c⟩
      have hP40 := cl_P_t hP34 hQ40
      have t42 := cl_T_x t16 hQ40.2.1
      have t43 := cl_T_x t19 hQ40.2.1
      have t44 := cl_T_x t38 hQ40.2.1
      have n45 := (cl_T_n t38 hQ40.2.1).trans n39
      show yi_G zi_Ms d zi_m171 (143, [(9, .inl z34), (8, .inl z30), (7, .inl z27), (6, .inl (yi_w (z24 + 1))), (5, .inl z21), (4, .inl j), (3, .inl to), (0, .inr (.inr (some 10))), (1, .inl x), (2, .inl y)], [], (I40, L40, R40, Y40), ncp32 + nc40, nsp32 + ns40) _
      refine yi_G_run 1 (144, [(9, .inl z34), (8, .inl z30), (7, .inl z27), (6, .inl (yi_w (z24 + 1))), (5, .inl z21), (4, .inl j), (3, .inl to), (0, .inr (.inr (some 10))), (1, .inl x), (2, .inl y)], [.inr (.inr (some 10))], (I40, L40, R40, Y40), ncp32 + nc40, nsp32 + ns40) (fun _ => rfl) ?_
      refine cl_G_gr rfl (cl_T_K (cl_10 hP40.1)) rfl rfl rfl (hP40.1.2.2.2.1.2.2.2.2.2.2.2.2.1) ?_
      refine yi_G_run 1 (148, [(9, .inl z34), (8, .inl z30), (7, .inl z27), (6, .inl (yi_w (z24 + 1))), (5, .inl z21), (4, .inl j), (3, .inl to), (0, .inr (.inr (some 10))), (1, .inl x), (2, .inl y)], [.inr (.inr (some 10)), .inr (.inr (some 60))], (I40, L40, R40, Y40), ncp32 + nc40, nsp32 + ns40) (fun _ => rfl) ?_
      refine cl_G_gr rfl (cl_T_K (cl_10 hP40.1)) rfl rfl rfl (hP40.1.2.2.2.1.2.2.2.2.2.2.2.2.2) ?_
      have r47 : I40 34 9 = I 34 9 := by rw [(x40c 34 9 (cl_34 hP34.1).2.1 (by decide)).1, x34a 34 9 (cl_34 hP30.1), kw32 34 9 (cl_34 hC)]
      refine yi_G_callv rfl rfl (cl_rcv (cl_60 hP40.1) rfl) rfl (k_meets d (by omega) hP40.1 (cl_60 hP40.1) (cl_62 hP40.1) ) ?_
      rintro _ ⟨z46, rfl, hz46⟩
      show yi_G zi_Ms d zi_m171 (154, [(9, .inl z34), (8, .inl z30), (7, .inl z27), (6, .inl (yi_w (z24 + 1))), (5, .inl z21), (4, .inl j), (3, .inl to), (0, .inr (.inr (some 10))), (1, .inl x), (2, .inl y)], [.inl z46], (I40, L40, R40, Y40), ncp32 + nc40, nsp32 + ns40) _
      by_cases h48 : z46 = 0
      · refine yi_G_if1 true rfl (yi_eq_t h48) ?_
        refine yi_G_iinc [(4, .inl (j + 1)), (9, .inl z34), (8, .inl z30), (7, .inl z27), (6, .inl (yi_w (z24 + 1))), (5, .inl z21), (3, .inl to), (0, .inr (.inr (some 10))), (1, .inl x), (2, .inl y)] rfl rfl rfl (by rw [show yi_w (j + 1) = j + 1 from (yi_wn (by omega) (by omega)).trans (by omega)]; rfl) ?_
        refine yi_G_run 1 (32, [(4, .inl (j + 1)), (9, .inl z34), (8, .inl z30), (7, .inl z27), (6, .inl (yi_w (z24 + 1))), (5, .inl z21), (3, .inl to), (0, .inr (.inr (some 10))), (1, .inl x), (2, .inl y)], [], (I40, L40, R40, Y40), ncp32 + nc40, nsp32 + ns40) (fun _ => rfl) ?_
        have r49 : I40 34 9 = I 34 9 := by rw [(x40c 34 9 (cl_34 hP34.1).2.1 (by decide)).1, x34a 34 9 (cl_34 hP30.1), kw32 34 9 (cl_34 hC)]
        refine yi_G_al (al := [(4, .inl (j + 1)), (3, .inl to), (0, .inr (.inr (some 10))), (1, .inl x), (2, .inl y)]) (show ([4, 3, 0, 1, 2] : List Nat).Nodup by decide) (show ([4, 9, 8, 7, 6, 5, 3, 0, 1, 2] : List Nat).Nodup by decide) (yi_mc (List.mem_of_getElem? (i := 0) rfl) (yi_mc (List.mem_of_getElem? (i := 6) rfl) (yi_mc (List.mem_of_getElem? (i := 7) rfl) (yi_mc (List.mem_of_getElem? (i := 8) rfl) (yi_mc (List.mem_of_getElem? (i := 9) rfl) yi_mn))))) ?_
        exact ih32 _ (by omega) (j + 1) to I40 L40 R40 Y40 (ncp32 + nc40) (nsp32 + ns40) hP40 (by omega) (by omega) (fun q k tq => by rw [(x40c q k (cl_T_x tq hP34.2.1).2.1 (cl_ne (cl_T_x tq hP34.2.1) (cl_62 hP34.1) (by decide))).1, x34a q k (cl_T_x tq hP30.2.1), kw32 q k tq]) (Or.inr ⟨(by obtain ⟨q, hq, hl⟩ := x40b; exact ⟨q, hq, by omega⟩), fy.elim (fun h => by omega) (fun ⟨⟨q, hq, hl⟩, h⟩ => by have := x40a q hq (by omega); omega)⟩) rfl
      · refine yi_G_if1 false rfl (yi_eq_f h48) ?_
        refine yi_G_run 2 (160, [(9, .inl z34), (8, .inl z30), (7, .inl z27), (6, .inl (yi_w (z24 + 1))), (5, .inl z21), (4, .inl j), (3, .inl to), (0, .inr (.inr (some 10))), (1, .inl x), (2, .inl y)], [.inr (.inr (some 10)), .inl z21], (I40, L40, R40, Y40), ncp32 + nc40, nsp32 + ns40) (fun _ => rfl) ?_
        obtain ⟨q50, e51, t52, n53⟩ := cl_rn hP40.1 (cl_10 hP40.1) (k := 14) (m := 4) rfl
        refine cl_G_gr rfl (cl_T_K (cl_10 hP40.1)) rfl rfl rfl e51 ?_
        refine cl_G_len rfl t52 (by omega) ?_
        by_cases h54 : ((Y40.2.1 q50 : Int)) ≤ z21
        · refine yi_G_if2 true rfl (yi_ge_t h54) ?_
          refine yi_G_iinc [(4, .inl (j + 1)), (9, .inl z34), (8, .inl z30), (7, .inl z27), (6, .inl (yi_w (z24 + 1))), (5, .inl z21), (3, .inl to), (0, .inr (.inr (some 10))), (1, .inl x), (2, .inl y)] rfl rfl rfl (by rw [show yi_w (j + 1) = j + 1 from (yi_wn (by omega) (by omega)).trans (by omega)]; rfl) ?_
          refine yi_G_run 1 (32, [(4, .inl (j + 1)), (9, .inl z34), (8, .inl z30), (7, .inl z27), (6, .inl (yi_w (z24 + 1))), (5, .inl z21), (3, .inl to), (0, .inr (.inr (some 10))), (1, .inl x), (2, .inl y)], [], (I40, L40, R40, Y40), ncp32 + nc40, nsp32 + ns40) (fun _ => rfl) ?_
          have r55 : I40 34 9 = I 34 9 := by rw [(x40c 34 9 (cl_34 hP34.1).2.1 (by decide)).1, x34a 34 9 (cl_34 hP30.1), kw32 34 9 (cl_34 hC)]
          refine yi_G_al (al := [(4, .inl (j + 1)), (3, .inl to), (0, .inr (.inr (some 10))), (1, .inl x), (2, .inl y)]) (show ([4, 3, 0, 1, 2] : List Nat).Nodup by decide) (show ([4, 9, 8, 7, 6, 5, 3, 0, 1, 2] : List Nat).Nodup by decide) (yi_mc (List.mem_of_getElem? (i := 0) rfl) (yi_mc (List.mem_of_getElem? (i := 6) rfl) (yi_mc (List.mem_of_getElem? (i := 7) rfl) (yi_mc (List.mem_of_getElem? (i := 8) rfl) (yi_mc (List.mem_of_getElem? (i := 9) rfl) yi_mn))))) ?_
          exact ih32 _ (by omega) (j + 1) to I40 L40 R40 Y40 (ncp32 + nc40) (nsp32 + ns40) hP40 (by omega) (by omega) (fun q k tq => by rw [(x40c q k (cl_T_x tq hP34.2.1).2.1 (cl_ne (cl_T_x tq hP34.2.1) (cl_62 hP34.1) (by decide))).1, x34a q k (cl_T_x tq hP30.2.1), kw32 q k tq]) (Or.inr ⟨(by obtain ⟨q, hq, hl⟩ := x40b; exact ⟨q, hq, by omega⟩), fy.elim (fun h => by omega) (fun ⟨⟨q, hq, hl⟩, h⟩ => by have := x40a q hq (by omega); omega)⟩) rfl
        · refine yi_G_if2 false rfl (yi_ge_f h54) ?_
          refine yi_G_run 1 (168, [(9, .inl z34), (8, .inl z30), (7, .inl z27), (6, .inl (yi_w (z24 + 1))), (5, .inl z21), (4, .inl j), (3, .inl to), (0, .inr (.inr (some 10))), (1, .inl x), (2, .inl y)], [.inr (.inr (some 10))], (I40, L40, R40, Y40), ncp32 + nc40, nsp32 + ns40) (fun _ => rfl) ?_
          refine cl_G_gr rfl (cl_T_K (cl_10 hP40.1)) rfl rfl rfl (hP40.1.2.2.2.1.2.2.2.2.2.2.2.2.1) ?_
          refine yi_G_run 1 (172, [(9, .inl z34), (8, .inl z30), (7, .inl z27), (6, .inl (yi_w (z24 + 1))), (5, .inl z21), (4, .inl j), (3, .inl to), (0, .inr (.inr (some 10))), (1, .inl x), (2, .inl y)], [.inr (.inr (some 10)), .inr (.inr (some 60))], (I40, L40, R40, Y40), ncp32 + nc40, nsp32 + ns40) (fun _ => rfl) ?_
          refine cl_G_gr rfl (cl_T_K (cl_10 hP40.1)) rfl rfl rfl (hP40.1.2.2.2.1.2.2.2.2.2.2.2.2.2) ?_
          have r57 : I40 34 9 = I 34 9 := by rw [(x40c 34 9 (cl_34 hP34.1).2.1 (by decide)).1, x34a 34 9 (cl_34 hP30.1), kw32 34 9 (cl_34 hC)]
          refine yi_G_callv rfl rfl (cl_rcv (cl_60 hP40.1) rfl) rfl (k_keep d (by omega) hP40.1 (cl_60 hP40.1) (cl_62 hP40.1) ) ?_
          rintro _ ⟨L56, rfl, hQ56⟩
          have hP56 := cl_P_t hP40 hQ56
          show yi_G zi_Ms d zi_m171 (178, [(9, .inl z34), (8, .inl z30), (7, .inl z27), (6, .inl (yi_w (z24 + 1))), (5, .inl z21), (4, .inl j), (3, .inl to), (0, .inr (.inr (some 10))), (1, .inl x), (2, .inl y)], [], (I40, L56, R40, Y40), ncp32 + nc40, nsp32 + ns40) _
          refine yi_G_run 1 (179, [(9, .inl z34), (8, .inl z30), (7, .inl z27), (6, .inl (yi_w (z24 + 1))), (5, .inl z21), (4, .inl j), (3, .inl to), (0, .inr (.inr (some 10))), (1, .inl x), (2, .inl y)], [.inr (.inr (some 10))], (I40, L56, R40, Y40), ncp32 + nc40, nsp32 + ns40) (fun _ => rfl) ?_
          refine cl_G_gr rfl (cl_T_K (cl_10 hP56.1)) rfl rfl rfl e51 ?_
          refine yi_G_run 2 (185, [(9, .inl z34), (8, .inl z30), (7, .inl z27), (6, .inl (yi_w (z24 + 1))), (5, .inl z21), (4, .inl j), (3, .inl to), (0, .inr (.inr (some 10))), (1, .inl x), (2, .inl y)], [.inl z21, .inr (.inr (some q50)), .inl z21, .inr (.inr (some q50))], (I40, L56, R40, Y40), ncp32 + nc40, nsp32 + ns40) (fun _ => rfl) ?_
          refine cl_G_iald rfl t52 (by omega) (by omega) ?_
          refine yi_G_run 2 (188, [(9, .inl z34), (8, .inl z30), (7, .inl z27), (6, .inl (yi_w (z24 + 1))), (5, .inl z21), (4, .inl j), (3, .inl to), (0, .inr (.inr (some 10))), (1, .inl x), (2, .inl y)], [.inl (yi_w ((I40 q50 (z21.toNat)) + 1)), .inl z21, .inr (.inr (some q50))], (I40, L56, R40, Y40), ncp32 + nc40, nsp32 + ns40) (fun _ => rfl) ?_
          refine cl_G_iast rfl t52 (by omega) (by omega) ?_
          have hP58 := cl_P_uI (k := (z21.toNat)) (v := yi_w ((I40 q50 (z21.toNat)) + 1)) hP56 t52 (by omega) (cl_hv0 rfl)
          generalize w59 : yi_u I40 q50 (z21.toNat) (yi_w ((I40 q50 (z21.toNat)) + 1)) = I60 at hP58 ⊢
          refine yi_G_iinc [(3, .inl (to + 1)), (9, .inl z34), (8, .inl z30), (7, .inl z27), (6, .inl (yi_w (z24 + 1))), (5, .inl z21), (4, .inl j), (0, .inr (.inr (some 10))), (1, .inl x), (2, .inl y)] rfl rfl rfl (by rw [show yi_w (to + 1) = to + 1 from (yi_wn (by omega) (by omega)).trans (by omega)]; rfl) ?_
          refine yi_G_iinc [(4, .inl (j + 1)), (3, .inl (to + 1)), (9, .inl z34), (8, .inl z30), (7, .inl z27), (6, .inl (yi_w (z24 + 1))), (5, .inl z21), (0, .inr (.inr (some 10))), (1, .inl x), (2, .inl y)] rfl rfl rfl (by rw [show yi_w (j + 1) = j + 1 from (yi_wn (by omega) (by omega)).trans (by omega)]; rfl) ?_
          refine yi_G_run 1 (32, [(4, .inl (j + 1)), (3, .inl (to + 1)), (9, .inl z34), (8, .inl z30), (7, .inl z27), (6, .inl (yi_w (z24 + 1))), (5, .inl z21), (0, .inr (.inr (some 10))), (1, .inl x), (2, .inl y)], [], (I60, L56, R40, Y40), ncp32 + nc40, nsp32 + ns40) (fun _ => rfl) ?_
          have r61 : I60 34 9 = I 34 9 := by rw [← w59, yi_u_ne _ _ (fun z => cl_ne (cl_34 hP58.1) t52 (by decide) z.1), (x40c 34 9 (cl_34 hP34.1).2.1 (by decide)).1, x34a 34 9 (cl_34 hP30.1), kw32 34 9 (cl_34 hC)]
          refine yi_G_al (al := [(4, .inl (j + 1)), (3, .inl (to + 1)), (0, .inr (.inr (some 10))), (1, .inl x), (2, .inl y)]) (show ([4, 3, 0, 1, 2] : List Nat).Nodup by decide) (show ([4, 3, 9, 8, 7, 6, 5, 0, 1, 2] : List Nat).Nodup by decide) (yi_mc (List.mem_of_getElem? (i := 0) rfl) (yi_mc (List.mem_of_getElem? (i := 1) rfl) (yi_mc (List.mem_of_getElem? (i := 7) rfl) (yi_mc (List.mem_of_getElem? (i := 8) rfl) (yi_mc (List.mem_of_getElem? (i := 9) rfl) yi_mn))))) ?_
          exact ih32 _ (by omega) (j + 1) (to + 1) I60 L56 R40 Y40 (ncp32 + nc40) (nsp32 + ns40) hP58 (by omega) (by omega) (fun q k tq => by rw [← w59, yi_u_ne _ _ (fun z => cl_ne (cl_T_x tq hP58.2.1) t52 (by decide) z.1), (x40c q k (cl_T_x tq hP34.2.1).2.1 (cl_ne (cl_T_x tq hP34.2.1) (cl_62 hP34.1) (by decide))).1, x34a q k (cl_T_x tq hP30.2.1), kw32 q k tq]) (Or.inr ⟨(by obtain ⟨q, hq, hl⟩ := x40b; exact ⟨q, hq, by omega⟩), fy.elim (fun h => by omega) (fun ⟨⟨q, hq, hl⟩, h⟩ => by have := x40a q hq (by omega); omega)⟩) rfl
  have r62 : I6 34 9 = I 34 9 := by rw [x6a 34 9 (cl_ne (cl_34 hP11.1) t4 (by decide)), (x1c 34 9 (cl_34 hP.1).2.1 (by decide)).1]
  exact pt32 _ 0 0 I6 L11 R1 Y1 (0 + nc1) (0 + ns1) hP11 (by omega) (by omega) (fun q k tq => by rw [x6a q k (cl_ne (cl_T_x tq hP1.2.1) t4 (by decide)), (x1c q k (cl_T_x tq hP.2.1).2.1 (cl_ne (cl_T_x tq hP.2.1) (cl_60 hP.1) (by decide))).1]) (Or.inl ⟨by omega, by omega⟩) rfl
