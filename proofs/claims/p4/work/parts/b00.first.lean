/-! first of the class, without the throw. -/
def zi_tg2 : zi_T := [(31, [(0, (.aload_n 0, 1, [])),
    (1, (.getfield 93, 3, [0, 16, 632])),
    (4, (.iload_n 1, 1, [])),
    (5, (.iload_n 2, 1, [])),
    (6, (.iload_n 3, 1, [])),
    (7, (.invokevirtual 244, 3, [233, 4, 3, 1145, 1146, 1147])),
    (10, (.ifCond .ne 14, 3, [24])),
    (24, (.aload_n 0, 1, [])),
    (25, (.getfield 24, 3, [0, 2, 618])),
    (28, (.iload_n 1, 1, [])),
    (29, (.iload_n 2, 1, [])),
    (30, (.iload_n 3, 1, []))]),
  (59, [(31, (.invokestatic 252, 3, [189, 3, 0, 593, 594])),
    (34, (.invokevirtual 256, 3, [314, 2, 4, 596, 597, 598])),
    (37, (.astore 4, 2, [])),
    (39, (.aload_n 0, 1, [])),
    (40, (.aload_n 0, 1, [])),
    (41, (.getfield 70, 3, [0, 10, 626])),
    (44, (.invokevirtual 348, 3, [158, 2, 0, 567, 569, 1])),
    (47, (.aload_n 0, 1, [])),
    (48, (.getfield 70, 3, [0, 10, 626])),
    (51, (.aload 4, 2, [])),
    (53, (.invokevirtual 351, 3, [210, 2, 5, 1257, 1258, 1259])),
    (56, (.ifCond .eq 6, 3, [62]))]),
  (82, [(59, (.bipush (-2), 2, [])),
    (61, (.ireturn, 1, [])),
    (62, (.iconst 0, 1, [])),
    (63, (.istore 5, 2, [])),
    (65, (.iload 5, 2, [])),
    (67, (.aload_n 0, 1, [])),
    (68, (.getfield 52, 3, [0, 6, 622])),
    (71, (.getfield 134, 3, [9, 6, 534])),
    (74, (.if_icmp .ge 37, 3, [111])),
    (77, (.aload_n 0, 1, [])),
    (78, (.getfield 70, 3, [0, 10, 626])),
    (81, (.aload_n 0, 1, []))]),
  (111, [(82, (.iload 5, 2, [])),
    (84, (.invokevirtual 354, 3, [173, 2, 0, 608, 610, 2])),
    (87, (.invokevirtual 190, 3, [204, 2, 5, 600, 601, 602])),
    (90, (.aload_n 0, 1, [])),
    (91, (.getfield 70, 3, [0, 10, 626])),
    (94, (.aload 4, 2, [])),
    (96, (.invokevirtual 351, 3, [210, 2, 5, 1257, 1258, 1259])),
    (99, (.ifCond .eq 6, 3, [105])),
    (102, (.iload 5, 2, [])),
    (104, (.ireturn, 1, [])),
    (105, (.iinc 5 1, 3, [])),
    (108, (.goto (-43), 3, [65]))]),
  (100000, [(111, (.iconst (-1), 1, [])),
    (112, (.ireturn, 1, []))])]
def zi_mg : zi_M := (⟨"AgreeTold", "first", "(III)I"⟩, prog_1_method_24_code, 6, (some FieldType.int), zi_tg2, [1427, 150])
theorem zi_mg_ok : zi_okM zi_mg ∧ zi_okT zi_Ms zi_mg := zi_ckM_ok (by decide +kernel)
theorem k_firstG (d : Nat) (hD : 3 ≤ d) {E : List Nat} {I L : cl_I} {R : cl_Rr} {Y : cl_Y} (hC : cl_C E I L R Y) {x : Int} {y : Int} {w : Int} : yi_G zi_Ms d zi_mg (0, [(0, .inr (.inr (some 10))), (1, .inl x), (2, .inl y), (3, .inl w)], [], (I, L, R, Y), 0, 0) (fun r => ∃ z, ∃ I', ∃ L', ∃ R', ∃ Y', ∃ nc ns, r = (some (.inl z), (I', L', R', Y'), nc, ns) ∧ cl_P E I L R Y I' L' R' Y' ∧ nc ≤ 1 ∧ ns ≤ 513) ∨ yi_L zi_Ms d [] zi_mg (0, [(0, .inr (.inr (some 10))), (1, .inl x), (2, .inl y), (3, .inl w)], [], (I, L, R, Y), 0, 0) (fun g => g = (13, [(0, .inr (.inr (some 10))), (1, .inl x), (2, .inl y), (3, .inl w)], [], (I, L, R, Y), 0, 0)) := by
  obtain ⟨q1, e2, t3⟩ := cl_rf hC (cl_10 hC) (k := 16) rfl
  obtain ⟨r, ⟨z4, rfl, hz4, x4a⟩, n0, hn⟩ := k_isWord d (by omega) hC t3 (x := x) (y := y) (w := w)
  by_cases h5 : z4 = 0
  · right
    refine yi_L_run 1 (1, [(0, .inr (.inr (some 10))), (1, .inl x), (2, .inl y), (3, .inl w)], [.inr (.inr (some 10))], (I, L, R, Y), 0, 0) (fun _ => rfl) ?_
    refine yi_L_s (4, [(0, .inr (.inr (some 10))), (1, .inl x), (2, .inl y), (3, .inl w)], [.inr (.inr (some q1))], (I, L, R, Y), 0, 0) rfl (fun _ => ?_) ?_
    · exact cl_get_r (cl_T_K (cl_10 hC)) rfl rfl rfl e2
    refine yi_L_run 3 (7, [(0, .inr (.inr (some 10))), (1, .inl x), (2, .inl y), (3, .inl w)], [.inl w, .inl y, .inl x, .inr (.inr (some q1))], (I, L, R, Y), 0, 0) (fun _ => rfl) ?_
    refine yi_L_callv (Qc := fun r => r = (some (.inl z4), (I, L, R, Y), 0, 0)) rfl rfl (cl_rcv t3 rfl) rfl ⟨_, rfl, n0, hn⟩ ?_
    rintro _ rfl
    show yi_L zi_Ms d [] zi_mg (10, [(0, .inr (.inr (some 10))), (1, .inl x), (2, .inl y), (3, .inl w)], [.inl z4], (I, L, R, Y), 0, 0) _
    refine yi_L_if1 false rfl (yi_ne_f h5) ?_
    exact yi_L_end rfl
  left
  have hW : yi_E zi_Ms d 233 [.inr (.inr (some q1)), .inl x, .inl y, .inl w] (I, L, R, Y) (fun r => ∃ z, r = (some (.inl z), (I, L, R, Y), 0, 0) ∧ (z = 0 ∨ z = 1) ∧ ¬ z = 0) := ⟨_, ⟨z4, rfl, hz4, h5⟩, n0, hn⟩
  have hP : cl_P E I L R Y I L R Y := cl_P_r hC
  show yi_G zi_Ms d zi_mg (0, [(0, .inr (.inr (some 10))), (1, .inl x), (2, .inl y), (3, .inl w)], [], (I, L, R, Y), 0, 0) _
  refine yi_G_run 1 (1, [(0, .inr (.inr (some 10))), (1, .inl x), (2, .inl y), (3, .inl w)], [.inr (.inr (some 10))], (I, L, R, Y), 0, 0) (fun _ => rfl) ?_
  refine cl_G_gr rfl (cl_T_K (cl_10 hP.1)) rfl rfl rfl e2 ?_
  refine yi_G_run 3 (7, [(0, .inr (.inr (some 10))), (1, .inl x), (2, .inl y), (3, .inl w)], [.inl w, .inl y, .inl x, .inr (.inr (some q1))], (I, L, R, Y), 0, 0) (fun _ => rfl) ?_
  refine yi_G_callv rfl rfl (cl_rcv t3 rfl) rfl hW ?_
  rintro _ ⟨z4, rfl, hz4, x4a⟩
  show yi_G zi_Ms d zi_mg (10, [(0, .inr (.inr (some 10))), (1, .inl x), (2, .inl y), (3, .inl w)], [.inl z4], (I, L, R, Y), 0, 0) _
  by_cases h5 : z4 = 0
  · refine yi_G_if1 false rfl (yi_ne_f h5) ?_
    exact absurd h5 x4a
  · refine yi_G_if1 true rfl (yi_ne_t h5) ?_
    refine yi_G_run 1 (25, [(0, .inr (.inr (some 10))), (1, .inl x), (2, .inl y), (3, .inl w)], [.inr (.inr (some 10))], (I, L, R, Y), 0, 0) (fun _ => rfl) ?_
    refine cl_G_gr rfl (cl_T_K (cl_10 hP.1)) rfl rfl rfl (hP.1.2.2.2.1.2.2.2.2.2.2.1) ?_
    refine yi_G_run 3 (31, [(0, .inr (.inr (some 10))), (1, .inl x), (2, .inl y), (3, .inl w)], [.inl w, .inl y, .inl x, .inr (.inr (some 34))], (I, L, R, Y), 0, 0) (fun _ => rfl) ?_
    refine yi_G_calls rfl rfl (k_wordNumber d (by omega) hP.1  ) ?_
    rintro _ ⟨z6, rfl⟩
    show yi_G zi_Ms d zi_mg (34, [(0, .inr (.inr (some 10))), (1, .inl x), (2, .inl y), (3, .inl w)], [.inl z6, .inr (.inr (some 34))], (I, L, R, Y), 0, 0) _
    refine yi_G_callv rfl rfl (cl_rcv (cl_34 hP.1) rfl) rfl (k_wordRow d (by omega) hP.1 (cl_34 hP.1) ) ?_
    rintro _ ⟨q7, rfl, t7⟩
    show yi_G zi_Ms d zi_mg (37, [(0, .inr (.inr (some 10))), (1, .inl x), (2, .inl y), (3, .inl w)], [.inr (.inr (some q7))], (I, L, R, Y), 0, 0) _
    refine yi_G_run 3 (41, [(4, .inr (.inr (some q7))), (0, .inr (.inr (some 10))), (1, .inl x), (2, .inl y), (3, .inl w)], [.inr (.inr (some 10)), .inr (.inr (some 10))], (I, L, R, Y), 0, 0) (fun _ => rfl) ?_
    refine cl_G_gr rfl (cl_T_K (cl_10 hP.1)) rfl rfl rfl (hP.1.2.2.2.1.2.2.2.2.2.2.2.2.1) ?_
    refine yi_G_callv rfl rfl (cl_rcv (cl_10 hP.1) rfl) rfl (k_groundIntoA d (by omega) hP.1 (cl_60 hP.1) ) ?_
    rintro _ ⟨I8, L8, R8, Y8, nc8, ns8, rfl, hQ8, ca8, cb8⟩
    have hP8 := cl_P_t hP hQ8
    have t9 := cl_T_x t3 hQ8.2.1
    have t10 := cl_T_x t7 hQ8.2.1
    show yi_G zi_Ms d zi_mg (47, [(4, .inr (.inr (some q7))), (0, .inr (.inr (some 10))), (1, .inl x), (2, .inl y), (3, .inl w)], [], (I8, L8, R8, Y8), 0 + nc8, 0 + ns8) _
    refine yi_G_run 1 (48, [(4, .inr (.inr (some q7))), (0, .inr (.inr (some 10))), (1, .inl x), (2, .inl y), (3, .inl w)], [.inr (.inr (some 10))], (I8, L8, R8, Y8), 0 + nc8, 0 + ns8) (fun _ => rfl) ?_
    refine cl_G_gr rfl (cl_T_K (cl_10 hP8.1)) rfl rfl rfl (hP8.1.2.2.2.1.2.2.2.2.2.2.2.2.1) ?_
    refine yi_G_run 1 (53, [(4, .inr (.inr (some q7))), (0, .inr (.inr (some 10))), (1, .inl x), (2, .inl y), (3, .inl w)], [.inr (.inr (some q7)), .inr (.inr (some 60))], (I8, L8, R8, Y8), 0 + nc8, 0 + ns8) (fun _ => rfl) ?_
    refine yi_G_callv rfl rfl (cl_rcv (cl_60 hP8.1) rfl) rfl (k_within d (by omega) hP8.1 (cl_60 hP8.1) t10 ) ?_
    rintro _ ⟨z11, rfl, hz11⟩
    show yi_G zi_Ms d zi_mg (56, [(4, .inr (.inr (some q7))), (0, .inr (.inr (some 10))), (1, .inl x), (2, .inl y), (3, .inl w)], [.inl z11], (I8, L8, R8, Y8), 0 + nc8, 0 + ns8) _
    by_cases h12 : z11 = 0
    · refine yi_G_if1 true rfl (yi_eq_t h12) ?_
      refine yi_G_run 2 (65, [(5, .inl 0), (4, .inr (.inr (some q7))), (0, .inr (.inr (some 10))), (1, .inl x), (2, .inl y), (3, .inl w)], [], (I8, L8, R8, Y8), 0 + nc8, 0 + ns8) (fun _ => rfl) ?_
      have pt65 : ∀ (m_ : Nat) (j : Int) (Lp65 : cl_I), (cl_P E I L R Y I8 Lp65 R8 Y8) → (0 ≤ j ∧ j ≤ 12) → (12 - j).toNat = m_ → yi_G zi_Ms d zi_mg (65, [(5, .inl j), (4, .inr (.inr (some q7))), (0, .inr (.inr (some 10))), (1, .inl x), (2, .inl y), (3, .inl w)], [], (I8, Lp65, R8, Y8), 0 + nc8, 0 + ns8) (fun r => ∃ z, ∃ I', ∃ L', ∃ R', ∃ Y', ∃ nc ns, r = (some (.inl z), (I', L', R', Y'), nc, ns) ∧ cl_P E I L R Y I' L' R' Y' ∧ nc ≤ 1 ∧ ns ≤ 513) := by
        intro m65
        induction m65 using Nat.strongRecOn with
        | _ m65 ih65 =>
        intro j Lp65 hPp65 j0 hm65
        refine yi_G_run 2 (68, [(5, .inl j), (4, .inr (.inr (some q7))), (0, .inr (.inr (some 10))), (1, .inl x), (2, .inl y), (3, .inl w)], [.inr (.inr (some 10)), .inl j], (I8, Lp65, R8, Y8), 0 + nc8, 0 + ns8) (fun _ => rfl) ?_
        obtain ⟨q13, e14, t15⟩ := cl_rf hPp65.1 (cl_10 hPp65.1) (k := 6) rfl
        refine cl_G_gr rfl (cl_T_K (cl_10 hPp65.1)) rfl rfl rfl e14 ?_
        have b16 := cl_rd hPp65.1 t15 (k := 6) (lo := 0) (hi := 12) rfl
        refine cl_G_gi rfl (cl_T_K t15) rfl rfl rfl ?_
        by_cases h17 : (I8 q13 6) ≤ j
        · refine yi_G_if2 true rfl (yi_ge_t h17) ?_
          refine yi_G_run 1 (112, [(5, .inl j), (4, .inr (.inr (some q7))), (0, .inr (.inr (some 10))), (1, .inl x), (2, .inl y), (3, .inl w)], [.inl (-1)], (I8, Lp65, R8, Y8), 0 + nc8, 0 + ns8) (fun _ => rfl) ?_
          exact yi_G_reti rfl rfl (⟨_, _, _, _, _, _, _, rfl, hPp65, by omega, by omega⟩)
        · refine yi_G_if2 false rfl (yi_ge_f h17) ?_
          refine yi_G_run 1 (78, [(5, .inl j), (4, .inr (.inr (some q7))), (0, .inr (.inr (some 10))), (1, .inl x), (2, .inl y), (3, .inl w)], [.inr (.inr (some 10))], (I8, Lp65, R8, Y8), 0 + nc8, 0 + ns8) (fun _ => rfl) ?_
          refine cl_G_gr rfl (cl_T_K (cl_10 hPp65.1)) rfl rfl rfl (hPp65.1.2.2.2.1.2.2.2.2.2.2.2.2.1) ?_
          refine yi_G_run 2 (84, [(5, .inl j), (4, .inr (.inr (some q7))), (0, .inr (.inr (some 10))), (1, .inl x), (2, .inl y), (3, .inl w)], [.inl j, .inr (.inr (some 10)), .inr (.inr (some 60))], (I8, Lp65, R8, Y8), 0 + nc8, 0 + ns8) (fun _ => rfl) ?_
          refine yi_G_callv rfl rfl (cl_rcv (cl_10 hPp65.1) rfl) rfl (k_sayingRowA d (by omega) hPp65.1  ) ?_
          rintro _ ⟨q18, rfl, t18⟩
          show yi_G zi_Ms d zi_mg (87, [(5, .inl j), (4, .inr (.inr (some q7))), (0, .inr (.inr (some 10))), (1, .inl x), (2, .inl y), (3, .inl w)], [.inr (.inr (some q18)), .inr (.inr (some 60))], (I8, Lp65, R8, Y8), 0 + nc8, 0 + ns8) _
          refine yi_G_callv rfl rfl (cl_rcv (cl_60 hPp65.1) rfl) rfl (k_keep d (by omega) hPp65.1 (cl_60 hPp65.1) t18 ) ?_
          rintro _ ⟨L19, rfl, hQ19⟩
          have hP19 := cl_P_t hPp65 hQ19
          show yi_G zi_Ms d zi_mg (90, [(5, .inl j), (4, .inr (.inr (some q7))), (0, .inr (.inr (some 10))), (1, .inl x), (2, .inl y), (3, .inl w)], [], (I8, L19, R8, Y8), 0 + nc8, 0 + ns8) _
          refine yi_G_run 1 (91, [(5, .inl j), (4, .inr (.inr (some q7))), (0, .inr (.inr (some 10))), (1, .inl x), (2, .inl y), (3, .inl w)], [.inr (.inr (some 10))], (I8, L19, R8, Y8), 0 + nc8, 0 + ns8) (fun _ => rfl) ?_
          refine cl_G_gr rfl (cl_T_K (cl_10 hP19.1)) rfl rfl rfl (hP19.1.2.2.2.1.2.2.2.2.2.2.2.2.1) ?_
          refine yi_G_run 1 (96, [(5, .inl j), (4, .inr (.inr (some q7))), (0, .inr (.inr (some 10))), (1, .inl x), (2, .inl y), (3, .inl w)], [.inr (.inr (some q7)), .inr (.inr (some 60))], (I8, L19, R8, Y8), 0 + nc8, 0 + ns8) (fun _ => rfl) ?_
          refine yi_G_callv rfl rfl (cl_rcv (cl_60 hP19.1) rfl) rfl (k_within d (by omega) hP19.1 (cl_60 hP19.1) t10 ) ?_
          rintro _ ⟨z20, rfl, hz20⟩
          show yi_G zi_Ms d zi_mg (99, [(5, .inl j), (4, .inr (.inr (some q7))), (0, .inr (.inr (some 10))), (1, .inl x), (2, .inl y), (3, .inl w)], [.inl z20], (I8, L19, R8, Y8), 0 + nc8, 0 + ns8) _
          by_cases h21 : z20 = 0
          · refine yi_G_if1 true rfl (yi_eq_t h21) ?_
            refine yi_G_iinc [(5, .inl (j + 1)), (4, .inr (.inr (some q7))), (0, .inr (.inr (some 10))), (1, .inl x), (2, .inl y), (3, .inl w)] rfl rfl rfl (by rw [show yi_w (j + 1) = j + 1 from (yi_wn (by omega) (by omega)).trans (by omega)]; rfl) ?_
            refine yi_G_run 1 (65, [(5, .inl (j + 1)), (4, .inr (.inr (some q7))), (0, .inr (.inr (some 10))), (1, .inl x), (2, .inl y), (3, .inl w)], [], (I8, L19, R8, Y8), 0 + nc8, 0 + ns8) (fun _ => rfl) ?_
            exact ih65 _ (by omega) (j + 1) L19 hP19 (by omega) rfl
          · refine yi_G_if1 false rfl (yi_eq_f h21) ?_
            refine yi_G_run 1 (104, [(5, .inl j), (4, .inr (.inr (some q7))), (0, .inr (.inr (some 10))), (1, .inl x), (2, .inl y), (3, .inl w)], [.inl j], (I8, L19, R8, Y8), 0 + nc8, 0 + ns8) (fun _ => rfl) ?_
            exact yi_G_reti rfl rfl (⟨_, _, _, _, _, _, _, rfl, hP19, by omega, by omega⟩)
      exact pt65 _ 0 L8 hP8 (by omega) rfl
    · refine yi_G_if1 false rfl (yi_eq_f h12) ?_
      refine yi_G_run 1 (61, [(4, .inr (.inr (some q7))), (0, .inr (.inr (some 10))), (1, .inl x), (2, .inl y), (3, .inl w)], [.inl (-2)], (I8, L8, R8, Y8), 0 + nc8, 0 + ns8) (fun _ => rfl) ?_
      exact yi_G_reti rfl rfl (⟨_, _, _, _, _, _, _, rfl, hP8, by omega, by omega⟩)
