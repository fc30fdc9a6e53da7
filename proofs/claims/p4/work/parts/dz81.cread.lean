/-! The class reads a land, codes and all. -/
theorem p_beginC {d : Nat} {I L : Nat → Nat → Int} {R : Nat → Nat → Option Nat} {Y : (Nat → Nat) × (Nat → Nat) × Nat} {q : Nat} {K P V : Nat → Int} {te : Nat} (hX : cs_S R Y ∧ cs_T I L K P V te) : yi_P zi_Ms d 248 [.inr (.inr (some 11)), .inr (.inr (some q))] (I, L, R, Y) (fun r => ∃ I' L' R', r = (none, (I', L', R', Y), 0, 0) ∧ I' 11 11 = 0 ∧ cs_A I' L' K te 0 ∧ (∀ p k, p ≠ 11 → I' p k = I p k ∧ L' p k = L p k) ∧ R' 11 6 = some q ∧ (∀ p k, ¬ (p = 11 ∧ k = 6) → R' p k = R p k) ∧ I' 11 3 = 0 ∧ I' 11 5 = 0 ∧ I' 11 7 = 0) := by
  refine yi_P_of (M := zi_m248) rfl (fun d k => ?_)
  show yi_D zi_Ms d zi_m248 k (0, [(0, .inr (.inr (some 11))), (1, .inr (.inr (some q)))], [], (I, L, R, Y), 0, 0) _
  refine yi_D_run 2 (2, [(0, .inr (.inr (some 11))), (1, .inr (.inr (some q)))], [.inr (.inr (some q)), .inr (.inr (some 11))], (I, L, R, Y), 0, 0) (fun _ => rfl) ?_
  refine yi_D_pr rfl (fun R1 n2 n3 => ?_)
  refine yi_D_run 2 (7, [(0, .inr (.inr (some 11))), (1, .inr (.inr (some q)))], [.inl 0, .inr (.inr (some 11))], (I, L, R1, Y), 0, 0) (fun _ => rfl) ?_
  refine yi_D_pi rfl (fun _ => ?_)
  generalize w5 : yi_u I 11 11 0 = I4
  refine yi_D_run 2 (12, [(0, .inr (.inr (some 11))), (1, .inr (.inr (some q)))], [.inl 0, .inr (.inr (some 11))], (I4, L, R1, Y), 0, 0) (fun _ => rfl) ?_
  refine yi_D_pi rfl (fun _ => ?_)
  generalize w7 : yi_u I4 11 3 0 = I6
  refine yi_D_run 2 (17, [(0, .inr (.inr (some 11))), (1, .inr (.inr (some q)))], [.inl 0, .inr (.inr (some 11))], (I6, L, R1, Y), 0, 0) (fun _ => rfl) ?_
  refine yi_D_pi rfl (fun _ => ?_)
  generalize w9 : yi_u I6 11 5 0 = I8
  refine yi_D_run 2 (22, [(0, .inr (.inr (some 11))), (1, .inr (.inr (some q)))], [.inl 0, .inr (.inr (some 11))], (I8, L, R1, Y), 0, 0) (fun _ => rfl) ?_
  refine yi_D_pi rfl (fun _ => ?_)
  generalize w11 : yi_u I8 11 7 0 = I10
  refine yi_D_run 2 (27, [(0, .inr (.inr (some 11))), (1, .inr (.inr (some q)))], [.inl (-1), .inr (.inr (some 11))], (I10, L, R1, Y), 0, 0) (fun _ => rfl) ?_
  refine yi_D_pi rfl (fun _ => ?_)
  generalize w13 : yi_u I10 11 8 (-1) = I12
  refine yi_D_run 1 (31, [(0, .inr (.inr (some 11))), (1, .inr (.inr (some q)))], [.inr (.inr (some 11))], (I12, L, R1, Y), 0, 0) (fun _ => rfl) ?_
  refine yi_D_callv rfl (p_advance_0 ⟨cs_S_r hX.1 n3, cs_T_11 hX.2 (fun p k hp => by rw [← w13, yi_u_ne _ _ (by omega), ← w11, yi_u_ne _ _ (by omega), ← w9, yi_u_ne _ _ (by omega), ← w7, yi_u_ne _ _ (by omega), ← w5, yi_u_ne _ _ (by omega)]) (fun _ _ _ => rfl)⟩ (by rw [← w13, yi_u_ne _ _ (by omega), ← w11, yi_u_ne _ _ (by omega), ← w9, yi_u_ne _ _ (by omega), ← w7, yi_u_ne _ _ (by omega), ← w5, yi_u_eq]) (by rw [← w13, yi_u_eq])) ?_
  rintro _ ⟨I14, L15, rfl, hG16, hf17, hA18⟩
  show yi_D zi_Ms d zi_m248 k (34, [(0, .inr (.inr (some 11))), (1, .inr (.inr (some q)))], [], (I14, L15, R1, Y), 0, 0) _
  refine yi_D_retv rfl ?_
  exact ⟨_, _, _, rfl, hf17, hA18, fun p k hp => ⟨by rw [hG16.1 p k (by omega), ← w13, yi_u_ne _ _ (by omega), ← w11, yi_u_ne _ _ (by omega), ← w9, yi_u_ne _ _ (by omega), ← w7, yi_u_ne _ _ (by omega), ← w5, yi_u_ne _ _ (by omega)], hG16.2 p k (by omega)⟩, n2, n3, (by rw [hG16.1 11 3 (by omega), ← w13, yi_u_ne _ _ (by omega), ← w11, yi_u_ne _ _ (by omega), ← w9, yi_u_ne _ _ (by omega), ← w7, yi_u_eq]), (by rw [hG16.1 11 5 (by omega), ← w13, yi_u_ne _ _ (by omega), ← w11, yi_u_ne _ _ (by omega), ← w9, yi_u_eq]), (by rw [hG16.1 11 7 (by omega), ← w13, yi_u_ne _ _ (by omega), ← w11, yi_u_eq])⟩
theorem p_readLandC {d : Nat} {I L : Nat → Nat → Int} {R : Nat → Nat → Option Nat} {Y : (Nat → Nat) × (Nat → Nat) × Nat} {q : Nat} {K P V : Nat → Int} {te : Nat} (hX : cs_S R Y ∧ cs_T I L K P V te) (hN : cs_N0 I L R Y q) (hpr : R q 12 = some (q + 13) ∧ Y.1 (q + 13) = 20 ∧ Y.2.1 (q + 13) = 1 ∧ I (q + 13) 0 = 258) : yi_P zi_Ms d 258 [.inr (.inr (some 11)), .inr (.inr (some q))] (I, L, R, Y) (fun r => ∃ I' L' R' Y' n m f, r = (some (.inl f), (I', L', R', Y'), n, m) ∧ cs_HB q I L R Y I' L' R' Y' ∧ sp_R K P V (0, 0, 0, [], sp_ld0, sp_nm0, []) (.inr f) ∧ (f = 0 → ∃ a ld nm cs u, sp_R K P V (0, 0, 0, [], sp_ld0, sp_nm0, []) (.inl (2, a, 0, [], ld, nm, cs)) ∧ K a = 0 ∧ cs_W I' L' R' Y' K P V te q ld nm ∧ ln_S I' R' Y' q u ld cs ∧ u ≤ 1000)) := by
  refine yi_P_of (M := zi_m258) rfl (fun d k => ?_)
  show yi_D zi_Ms d zi_m258 k (0, [(0, .inr (.inr (some 11))), (1, .inr (.inr (some q)))], [], (I, L, R, Y), 0, 0) _
  refine yi_D_run 2 (2, [(0, .inr (.inr (some 11))), (1, .inr (.inr (some q)))], [.inr (.inr (some q)), .inr (.inr (some 11))], (I, L, R, Y), 0, 0) (fun _ => rfl) ?_
  refine yi_D_callv rfl (p_beginC hX) ?_
  rintro _ ⟨I1, L2, R3, rfl, g4, g5, g6, g7, g8, g9, g10, g11⟩
  have hW12 : cs_W I1 L2 R3 Y K P V te q sp_ld0 sp_nm0 := ⟨cs_S_r hX.1 g8, cs_T_11 hX.2 (fun p k hp => (g6 p k hp).1) (fun p k hp => (g6 p k hp).2), cs_Ld_0 hN g6 g7 g8⟩
  have hH13 : cs_HB q I L R Y I1 L2 R3 Y := ⟨fun p k _ hp _ _ => g6 p k hp, fun p k hp => g8 p k (by omega), Nat.le_refl _, fun _ _ => ⟨rfl, rfl⟩⟩
  have hq20 := hN.1.1
  have hq14 := hN.1.2.2.2.2.2
  have hln0 : ln_S I1 R3 Y q 0 sp_ld0 [] := ⟨⟨g9, g11⟩, fun j hj => absurd (show (j : Int) < 0 from hj) (by omega), fun w hj => absurd (show (w : Int) < 0 from hj) (by omega), q + 13, ⟨(g8 q 12 (by omega)).trans hpr.1, by omega, by omega, hpr.2.1⟩, Or.inl ⟨by decide, hpr.2.2.1, ((g6 (q + 13) 0 (by omega)).1).trans hpr.2.2.2⟩⟩
  show yi_D zi_Ms d zi_m258 k (5, [(0, .inr (.inr (some 11))), (1, .inr (.inr (some q)))], [], (I1, L2, R3, Y), 0, 0) _
  refine yi_D_run 1 (6, [(0, .inr (.inr (some 11))), (1, .inr (.inr (some q)))], [.inr (.inr (some 11))], (I1, L2, R3, Y), 0, 0) (fun _ => rfl) ?_
  refine yi_D_callv rfl (p_readDaysC hW12 g4 g5 [] ⟨rfl, rfl⟩ hln0 (Nat.le_refl 0)) ?_
  rintro _ ⟨I14, L15, R16, Y17, n18, m19, rfl, hH20, (⟨a21, ld22, nm23, cs24, u25, hR26, lt27, hf28, hA29, hW30, hln31, hu32⟩ | ⟨f33, hR34, hz35, he36⟩)⟩
  · have hH37 := cs_HB_t hH13 hH20
    have hR38 := hR26
    show yi_D zi_Ms d zi_m258 k (9, [(0, .inr (.inr (some 11))), (1, .inr (.inr (some q)))], [], (I14, L15, R16, Y17), (0 + n18), (0 + m19)) _
    refine yi_D_run 2 (11, [(2, .inl 0), (0, .inr (.inr (some 11))), (1, .inr (.inr (some q)))], [], (I14, L15, R16, Y17), (0 + n18), (0 + m19)) (fun _ => rfl) ?_
    have pt11 : ∀ j11, j11 ≤ k → ∀ (y2 : Int) (J1 : Nat → Nat → Int) (G1 : Nat → Nat → Int) (R1 : Nat → Nat → Option Nat) (Y1 : (Nat → Nat) × (Nat → Nat) × Nat) (a1 : Nat) (ld1 : Nat → Int) (nm1 : Int → Int) (cs1 : List (Int × Int)) (u1 : Nat) (n1 : Nat) (m1 : Nat), (0 ≤ y2 ∧ y2 < (a1 : Int)) → (cs_HB q I L R Y J1 G1 R1 Y1) → (cs_W J1 G1 R1 Y1 K P V te q ld1 nm1) → (J1 11 11 = 0) → (cs_A J1 G1 K te a1) → (sp_R K P V (0, 0, 0, [], sp_ld0, sp_nm0, []) (.inl (2, a1, 0, [], ld1, nm1, cs1))) → (ln_S J1 R1 Y1 q u1 ld1 cs1) → (u1 ≤ a1) → yi_D zi_Ms d zi_m258 j11 (11, [(2, .inl y2), (0, .inr (.inr (some 11))), (1, .inr (.inr (some q)))], [], (J1, G1, R1, Y1), n1, m1) (fun r => ∃ I' L' R' Y' n m f, r = (some (.inl f), (I', L', R', Y'), n, m) ∧ cs_HB q I L R Y I' L' R' Y' ∧ sp_R K P V (0, 0, 0, [], sp_ld0, sp_nm0, []) (.inr f) ∧ (f = 0 → ∃ a ld nm cs u, sp_R K P V (0, 0, 0, [], sp_ld0, sp_nm0, []) (.inl (2, a, 0, [], ld, nm, cs)) ∧ K a = 0 ∧ cs_W I' L' R' Y' K P V te q ld nm ∧ ln_S I' R' Y' q u ld cs ∧ u ≤ 1000)) := by
      intro j11
      induction j11 with
      | zero => intros; exact yi_D_0
      | succ j11 ih11 =>
      intro hk11 y2 J1 G1 R1 Y1 a1 ld1 nm1 cs1 u1 n1 m1 hn9 hH9 hW9 hf9 hA9 hR9 hln9 hua9
      have hle9 := hA9.2.1
      have hte9 := hX.2.1
      refine yi_D_run1 1 (15, [(2, .inl y2), (0, .inr (.inr (some 11))), (1, .inr (.inr (some q)))], [.inl 1000, .inl y2], (J1, G1, R1, Y1), n1, m1) (fun _ => rfl) ?_
      have h39 : ¬ (1000 ≤ y2) := by omega
      refine yi_D_if2 false rfl (yi_ge_f h39) ?_
      refine yi_D_run 1 (19, [(2, .inl y2), (0, .inr (.inr (some 11))), (1, .inr (.inr (some q)))], [.inr (.inr (some 11))], (J1, G1, R1, Y1), n1, m1) (fun _ => rfl) ?_
      refine yi_D_gi (v := 0) rfl rfl rfl hf9 (fun _ => ?_)
      refine yi_D_if1 false rfl (by decide) ?_
      refine yi_D_run 1 (26, [(2, .inl y2), (0, .inr (.inr (some 11))), (1, .inr (.inr (some q)))], [.inr (.inr (some 11))], (J1, G1, R1, Y1), n1, m1) (fun _ => rfl) ?_
      refine yi_D_gi (v := K a1) rfl rfl rfl hA9.2.2.1 (fun _ => ?_)
      by_cases h40 : (K a1) = 0
      · refine yi_D_if1 true rfl (yi_eq_t h40) ?_
        refine yi_D_run 1 (142, [(2, .inl y2), (0, .inr (.inr (some 11))), (1, .inr (.inr (some q)))], [.inr (.inr (some 11))], (J1, G1, R1, Y1), n1, m1) (fun _ => rfl) ?_
        refine yi_D_gi (v := 0) rfl rfl rfl hf9 (fun _ => ?_)
        refine yi_D_reti rfl ?_
        exact ⟨_, _, _, _, _, _, _, rfl, hH9, sp_R_s hR9 (by
          show sp_line K P V _ _ _ _ = _
          unfold sp_line
          rw [if_pos (by omega)]), fun _ => ⟨_, _, _, _, _, hR9, by omega, hW9, hln9, Nat.le_trans hua9 (Nat.le_trans hA9.2.1 hX.2.1)⟩⟩
      · refine yi_D_if1 false rfl (yi_eq_f h40) ?_
        refine yi_D_run 1 (33, [(2, .inl y2), (0, .inr (.inr (some 11))), (1, .inr (.inr (some q)))], [.inr (.inr (some 11))], (J1, G1, R1, Y1), n1, m1) (fun _ => rfl) ?_
        refine yi_D_gi (v := K a1) rfl rfl rfl hA9.2.2.1 (fun _ => ?_)
        by_cases h41 : (K a1) = 5
        · refine yi_D_tsi 0 rfl (by omega) (by decide) rfl ?_
          refine yi_D_run 1 (89, [(2, .inl y2), (0, .inr (.inr (some 11))), (1, .inr (.inr (some q)))], [.inr (.inr (some 11))], (J1, G1, R1, Y1), n1, m1) (fun _ => rfl) ?_
          refine yi_D_callv rfl (p_readPersonC hW9 hf9 hA9 cs1 (by omega) hln9 hua9) ?_
          rintro _ ⟨I42, L43, R44, Y45, n46, m47, rfl, hH48, (⟨a49, ld50, nm51, cs52, u53, hR54, lt55, hf56, hA57, hW58, hln59, hu60⟩ | ⟨f61, hR62, hz63, he64⟩)⟩
          · have hH65 := cs_HB_t hH9 hH48
            have hR66 := sp_R_t hR9 hR54
            show yi_D zi_Ms d zi_m258 j11 (92, [(2, .inl y2), (0, .inr (.inr (some 11))), (1, .inr (.inr (some q)))], [], (I42, L43, R44, Y45), (n1 + n46), (m1 + m47)) _
            refine yi_D_run 1 (135, [(2, .inl y2), (0, .inr (.inr (some 11))), (1, .inr (.inr (some q)))], [], (I42, L43, R44, Y45), (n1 + n46), (m1 + m47)) (fun _ => rfl) ?_
            refine yi_D_iinc [(2, .inl (y2 + 1)), (0, .inr (.inr (some 11))), (1, .inr (.inr (some q)))] rfl rfl rfl (by rw [show yi_w (y2 + 1) = y2 + 1 from (yi_wn (by omega) (by omega)).trans (by omega)]; rfl) ?_
            refine yi_D_run 1 (11, [(2, .inl (y2 + 1)), (0, .inr (.inr (some 11))), (1, .inr (.inr (some q)))], [], (I42, L43, R44, Y45), (n1 + n46), (m1 + m47)) (fun _ => rfl) ?_
            exact yi_D_mono (ih11 (by omega) (y2 + 1) I42 L43 R44 Y45 a49 ld50 nm51 cs52 u53 (n1 + n46) (m1 + m47) (by omega) hH65 hW58 hf56 hA57 hR66 hln59 hu60) (by omega)
          · have hH65 := cs_HB_t hH9 hH48
            have hx67 := sp_R_t hR9 hR62
            have hn68 : ¬ I42 11 11 = 0 := by rw [he64]; exact hz63
            show yi_D zi_Ms d zi_m258 j11 (92, [(2, .inl y2), (0, .inr (.inr (some 11))), (1, .inr (.inr (some q)))], [], (I42, L43, R44, Y45), (n1 + n46), (m1 + m47)) _
            refine yi_D_run 1 (135, [(2, .inl y2), (0, .inr (.inr (some 11))), (1, .inr (.inr (some q)))], [], (I42, L43, R44, Y45), (n1 + n46), (m1 + m47)) (fun _ => rfl) ?_
            refine yi_D_iinc [(2, .inl (yi_w (y2 + 1))), (0, .inr (.inr (some 11))), (1, .inr (.inr (some q)))] rfl rfl rfl rfl ?_
            refine yi_D_run 1 (11, [(2, .inl (yi_w (y2 + 1))), (0, .inr (.inr (some 11))), (1, .inr (.inr (some q)))], [], (I42, L43, R44, Y45), (n1 + n46), (m1 + m47)) (fun _ => rfl) ?_
            refine yi_D_run 2 (15, [(2, .inl (yi_w (y2 + 1))), (0, .inr (.inr (some 11))), (1, .inr (.inr (some q)))], [.inl 1000, .inl (yi_w (y2 + 1))], (I42, L43, R44, Y45), (n1 + n46), (m1 + m47)) (fun _ => rfl) ?_
            by_cases h69 : 1000 ≤ (yi_w (y2 + 1))
            · refine yi_D_if2 true rfl (yi_ge_t h69) ?_
              refine yi_D_run 1 (142, [(2, .inl (yi_w (y2 + 1))), (0, .inr (.inr (some 11))), (1, .inr (.inr (some q)))], [.inr (.inr (some 11))], (I42, L43, R44, Y45), (n1 + n46), (m1 + m47)) (fun _ => rfl) ?_
              refine yi_D_gi (v := I42 11 11) rfl rfl rfl rfl (fun _ => ?_)
              refine yi_D_reti rfl ?_
              exact ⟨_, _, _, _, _, _, _, rfl, hH65, by rw [he64]; exact hx67, fun h0 => absurd h0 hn68⟩
            · refine yi_D_if2 false rfl (yi_ge_f h69) ?_
              refine yi_D_run 1 (19, [(2, .inl (yi_w (y2 + 1))), (0, .inr (.inr (some 11))), (1, .inr (.inr (some q)))], [.inr (.inr (some 11))], (I42, L43, R44, Y45), (n1 + n46), (m1 + m47)) (fun _ => rfl) ?_
              refine yi_D_gi (v := I42 11 11) rfl rfl rfl rfl (fun _ => ?_)
              have h70 : ¬ ((I42 11 11) = 0) := by omega
              refine yi_D_if1 true rfl (yi_ne_t h70) ?_
              refine yi_D_run 1 (142, [(2, .inl (yi_w (y2 + 1))), (0, .inr (.inr (some 11))), (1, .inr (.inr (some q)))], [.inr (.inr (some 11))], (I42, L43, R44, Y45), (n1 + n46), (m1 + m47)) (fun _ => rfl) ?_
              refine yi_D_gi (v := I42 11 11) rfl rfl rfl rfl (fun _ => ?_)
              refine yi_D_reti rfl ?_
              exact ⟨_, _, _, _, _, _, _, rfl, hH65, by rw [he64]; exact hx67, fun h0 => absurd h0 hn68⟩
        by_cases h71 : (K a1) = 7
        · refine yi_D_tsi 2 rfl (by omega) (by decide) rfl ?_
          refine yi_D_run 1 (96, [(2, .inl y2), (0, .inr (.inr (some 11))), (1, .inr (.inr (some q)))], [.inr (.inr (some 11))], (J1, G1, R1, Y1), n1, m1) (fun _ => rfl) ?_
          refine yi_D_callv rfl (p_readEventC hW9 hf9 hA9 cs1 (by omega) hln9 hua9) ?_
          rintro _ ⟨I72, L73, R74, Y75, n76, m77, rfl, hH78, (⟨a79, ld80, nm81, cs82, u83, hR84, lt85, hf86, hA87, hW88, hln89, hu90⟩ | ⟨f91, hR92, hz93, he94⟩)⟩
          · have hH95 := cs_HB_t hH9 hH78
            have hR96 := sp_R_t hR9 hR84
            show yi_D zi_Ms d zi_m258 j11 (99, [(2, .inl y2), (0, .inr (.inr (some 11))), (1, .inr (.inr (some q)))], [], (I72, L73, R74, Y75), (n1 + n76), (m1 + m77)) _
            refine yi_D_run 1 (135, [(2, .inl y2), (0, .inr (.inr (some 11))), (1, .inr (.inr (some q)))], [], (I72, L73, R74, Y75), (n1 + n76), (m1 + m77)) (fun _ => rfl) ?_
            refine yi_D_iinc [(2, .inl (y2 + 1)), (0, .inr (.inr (some 11))), (1, .inr (.inr (some q)))] rfl rfl rfl (by rw [show yi_w (y2 + 1) = y2 + 1 from (yi_wn (by omega) (by omega)).trans (by omega)]; rfl) ?_
            refine yi_D_run 1 (11, [(2, .inl (y2 + 1)), (0, .inr (.inr (some 11))), (1, .inr (.inr (some q)))], [], (I72, L73, R74, Y75), (n1 + n76), (m1 + m77)) (fun _ => rfl) ?_
            exact yi_D_mono (ih11 (by omega) (y2 + 1) I72 L73 R74 Y75 a79 ld80 nm81 cs82 u83 (n1 + n76) (m1 + m77) (by omega) hH95 hW88 hf86 hA87 hR96 hln89 hu90) (by omega)
          · have hH95 := cs_HB_t hH9 hH78
            have hx97 := sp_R_t hR9 hR92
            have hn98 : ¬ I72 11 11 = 0 := by rw [he94]; exact hz93
            show yi_D zi_Ms d zi_m258 j11 (99, [(2, .inl y2), (0, .inr (.inr (some 11))), (1, .inr (.inr (some q)))], [], (I72, L73, R74, Y75), (n1 + n76), (m1 + m77)) _
            refine yi_D_run 1 (135, [(2, .inl y2), (0, .inr (.inr (some 11))), (1, .inr (.inr (some q)))], [], (I72, L73, R74, Y75), (n1 + n76), (m1 + m77)) (fun _ => rfl) ?_
            refine yi_D_iinc [(2, .inl (yi_w (y2 + 1))), (0, .inr (.inr (some 11))), (1, .inr (.inr (some q)))] rfl rfl rfl rfl ?_
            refine yi_D_run 1 (11, [(2, .inl (yi_w (y2 + 1))), (0, .inr (.inr (some 11))), (1, .inr (.inr (some q)))], [], (I72, L73, R74, Y75), (n1 + n76), (m1 + m77)) (fun _ => rfl) ?_
            refine yi_D_run 2 (15, [(2, .inl (yi_w (y2 + 1))), (0, .inr (.inr (some 11))), (1, .inr (.inr (some q)))], [.inl 1000, .inl (yi_w (y2 + 1))], (I72, L73, R74, Y75), (n1 + n76), (m1 + m77)) (fun _ => rfl) ?_
            by_cases h99 : 1000 ≤ (yi_w (y2 + 1))
            · refine yi_D_if2 true rfl (yi_ge_t h99) ?_
              refine yi_D_run 1 (142, [(2, .inl (yi_w (y2 + 1))), (0, .inr (.inr (some 11))), (1, .inr (.inr (some q)))], [.inr (.inr (some 11))], (I72, L73, R74, Y75), (n1 + n76), (m1 + m77)) (fun _ => rfl) ?_
              refine yi_D_gi (v := I72 11 11) rfl rfl rfl rfl (fun _ => ?_)
              refine yi_D_reti rfl ?_
              exact ⟨_, _, _, _, _, _, _, rfl, hH95, by rw [he94]; exact hx97, fun h0 => absurd h0 hn98⟩
            · refine yi_D_if2 false rfl (yi_ge_f h99) ?_
              refine yi_D_run 1 (19, [(2, .inl (yi_w (y2 + 1))), (0, .inr (.inr (some 11))), (1, .inr (.inr (some q)))], [.inr (.inr (some 11))], (I72, L73, R74, Y75), (n1 + n76), (m1 + m77)) (fun _ => rfl) ?_
              refine yi_D_gi (v := I72 11 11) rfl rfl rfl rfl (fun _ => ?_)
              have h100 : ¬ ((I72 11 11) = 0) := by omega
              refine yi_D_if1 true rfl (yi_ne_t h100) ?_
              refine yi_D_run 1 (142, [(2, .inl (yi_w (y2 + 1))), (0, .inr (.inr (some 11))), (1, .inr (.inr (some q)))], [.inr (.inr (some 11))], (I72, L73, R74, Y75), (n1 + n76), (m1 + m77)) (fun _ => rfl) ?_
              refine yi_D_gi (v := I72 11 11) rfl rfl rfl rfl (fun _ => ?_)
              refine yi_D_reti rfl ?_
              exact ⟨_, _, _, _, _, _, _, rfl, hH95, by rw [he94]; exact hx97, fun h0 => absurd h0 hn98⟩
        by_cases h101 : (K a1) = 8
        · refine yi_D_tsi 3 rfl (by omega) (by decide) rfl ?_
          refine yi_D_run 1 (103, [(2, .inl y2), (0, .inr (.inr (some 11))), (1, .inr (.inr (some q)))], [.inr (.inr (some 11))], (J1, G1, R1, Y1), n1, m1) (fun _ => rfl) ?_
          refine yi_D_callv rfl (p_readProphetC hW9 hf9 hA9 cs1 (by omega) hln9 hua9) ?_
          rintro _ ⟨I102, L103, R104, Y105, n106, m107, rfl, hH108, (⟨a109, ld110, nm111, cs112, u113, hR114, lt115, hf116, hA117, hW118, hln119, hu120⟩ | ⟨f121, hR122, hz123, he124⟩)⟩
          · have hH125 := cs_HB_t hH9 hH108
            have hR126 := sp_R_t hR9 hR114
            show yi_D zi_Ms d zi_m258 j11 (106, [(2, .inl y2), (0, .inr (.inr (some 11))), (1, .inr (.inr (some q)))], [], (I102, L103, R104, Y105), (n1 + n106), (m1 + m107)) _
            refine yi_D_run 1 (135, [(2, .inl y2), (0, .inr (.inr (some 11))), (1, .inr (.inr (some q)))], [], (I102, L103, R104, Y105), (n1 + n106), (m1 + m107)) (fun _ => rfl) ?_
            refine yi_D_iinc [(2, .inl (y2 + 1)), (0, .inr (.inr (some 11))), (1, .inr (.inr (some q)))] rfl rfl rfl (by rw [show yi_w (y2 + 1) = y2 + 1 from (yi_wn (by omega) (by omega)).trans (by omega)]; rfl) ?_
            refine yi_D_run 1 (11, [(2, .inl (y2 + 1)), (0, .inr (.inr (some 11))), (1, .inr (.inr (some q)))], [], (I102, L103, R104, Y105), (n1 + n106), (m1 + m107)) (fun _ => rfl) ?_
            exact yi_D_mono (ih11 (by omega) (y2 + 1) I102 L103 R104 Y105 a109 ld110 nm111 cs112 u113 (n1 + n106) (m1 + m107) (by omega) hH125 hW118 hf116 hA117 hR126 hln119 hu120) (by omega)
          · have hH125 := cs_HB_t hH9 hH108
            have hx127 := sp_R_t hR9 hR122
            have hn128 : ¬ I102 11 11 = 0 := by rw [he124]; exact hz123
            show yi_D zi_Ms d zi_m258 j11 (106, [(2, .inl y2), (0, .inr (.inr (some 11))), (1, .inr (.inr (some q)))], [], (I102, L103, R104, Y105), (n1 + n106), (m1 + m107)) _
            refine yi_D_run 1 (135, [(2, .inl y2), (0, .inr (.inr (some 11))), (1, .inr (.inr (some q)))], [], (I102, L103, R104, Y105), (n1 + n106), (m1 + m107)) (fun _ => rfl) ?_
            refine yi_D_iinc [(2, .inl (yi_w (y2 + 1))), (0, .inr (.inr (some 11))), (1, .inr (.inr (some q)))] rfl rfl rfl rfl ?_
            refine yi_D_run 1 (11, [(2, .inl (yi_w (y2 + 1))), (0, .inr (.inr (some 11))), (1, .inr (.inr (some q)))], [], (I102, L103, R104, Y105), (n1 + n106), (m1 + m107)) (fun _ => rfl) ?_
            refine yi_D_run 2 (15, [(2, .inl (yi_w (y2 + 1))), (0, .inr (.inr (some 11))), (1, .inr (.inr (some q)))], [.inl 1000, .inl (yi_w (y2 + 1))], (I102, L103, R104, Y105), (n1 + n106), (m1 + m107)) (fun _ => rfl) ?_
            by_cases h129 : 1000 ≤ (yi_w (y2 + 1))
            · refine yi_D_if2 true rfl (yi_ge_t h129) ?_
              refine yi_D_run 1 (142, [(2, .inl (yi_w (y2 + 1))), (0, .inr (.inr (some 11))), (1, .inr (.inr (some q)))], [.inr (.inr (some 11))], (I102, L103, R104, Y105), (n1 + n106), (m1 + m107)) (fun _ => rfl) ?_
              refine yi_D_gi (v := I102 11 11) rfl rfl rfl rfl (fun _ => ?_)
              refine yi_D_reti rfl ?_
              exact ⟨_, _, _, _, _, _, _, rfl, hH125, by rw [he124]; exact hx127, fun h0 => absurd h0 hn128⟩
            · refine yi_D_if2 false rfl (yi_ge_f h129) ?_
              refine yi_D_run 1 (19, [(2, .inl (yi_w (y2 + 1))), (0, .inr (.inr (some 11))), (1, .inr (.inr (some q)))], [.inr (.inr (some 11))], (I102, L103, R104, Y105), (n1 + n106), (m1 + m107)) (fun _ => rfl) ?_
              refine yi_D_gi (v := I102 11 11) rfl rfl rfl rfl (fun _ => ?_)
              have h130 : ¬ ((I102 11 11) = 0) := by omega
              refine yi_D_if1 true rfl (yi_ne_t h130) ?_
              refine yi_D_run 1 (142, [(2, .inl (yi_w (y2 + 1))), (0, .inr (.inr (some 11))), (1, .inr (.inr (some q)))], [.inr (.inr (some 11))], (I102, L103, R104, Y105), (n1 + n106), (m1 + m107)) (fun _ => rfl) ?_
              refine yi_D_gi (v := I102 11 11) rfl rfl rfl rfl (fun _ => ?_)
              refine yi_D_reti rfl ?_
              exact ⟨_, _, _, _, _, _, _, rfl, hH125, by rw [he124]; exact hx127, fun h0 => absurd h0 hn128⟩
        by_cases h131 : (K a1) = 10
        · refine yi_D_tsi 5 rfl (by omega) (by decide) rfl ?_
          refine yi_D_run 1 (110, [(2, .inl y2), (0, .inr (.inr (some 11))), (1, .inr (.inr (some q)))], [.inr (.inr (some 11))], (J1, G1, R1, Y1), n1, m1) (fun _ => rfl) ?_
          refine yi_D_callv rfl (p_readLawC hW9 hf9 hA9 cs1 (by omega) hln9 hua9) ?_
          rintro _ ⟨I132, L133, R134, Y135, n136, m137, rfl, hH138, (⟨a139, ld140, nm141, cs142, u143, hR144, lt145, hf146, hA147, hW148, hln149, hu150⟩ | ⟨f151, hR152, hz153, he154⟩)⟩
          · have hH155 := cs_HB_t hH9 hH138
            have hR156 := sp_R_t hR9 hR144
            show yi_D zi_Ms d zi_m258 j11 (113, [(2, .inl y2), (0, .inr (.inr (some 11))), (1, .inr (.inr (some q)))], [], (I132, L133, R134, Y135), (n1 + n136), (m1 + m137)) _
            refine yi_D_run 1 (135, [(2, .inl y2), (0, .inr (.inr (some 11))), (1, .inr (.inr (some q)))], [], (I132, L133, R134, Y135), (n1 + n136), (m1 + m137)) (fun _ => rfl) ?_
            refine yi_D_iinc [(2, .inl (y2 + 1)), (0, .inr (.inr (some 11))), (1, .inr (.inr (some q)))] rfl rfl rfl (by rw [show yi_w (y2 + 1) = y2 + 1 from (yi_wn (by omega) (by omega)).trans (by omega)]; rfl) ?_
            refine yi_D_run 1 (11, [(2, .inl (y2 + 1)), (0, .inr (.inr (some 11))), (1, .inr (.inr (some q)))], [], (I132, L133, R134, Y135), (n1 + n136), (m1 + m137)) (fun _ => rfl) ?_
            exact yi_D_mono (ih11 (by omega) (y2 + 1) I132 L133 R134 Y135 a139 ld140 nm141 cs142 u143 (n1 + n136) (m1 + m137) (by omega) hH155 hW148 hf146 hA147 hR156 hln149 hu150) (by omega)
          · have hH155 := cs_HB_t hH9 hH138
            have hx157 := sp_R_t hR9 hR152
            have hn158 : ¬ I132 11 11 = 0 := by rw [he154]; exact hz153
            show yi_D zi_Ms d zi_m258 j11 (113, [(2, .inl y2), (0, .inr (.inr (some 11))), (1, .inr (.inr (some q)))], [], (I132, L133, R134, Y135), (n1 + n136), (m1 + m137)) _
            refine yi_D_run 1 (135, [(2, .inl y2), (0, .inr (.inr (some 11))), (1, .inr (.inr (some q)))], [], (I132, L133, R134, Y135), (n1 + n136), (m1 + m137)) (fun _ => rfl) ?_
            refine yi_D_iinc [(2, .inl (yi_w (y2 + 1))), (0, .inr (.inr (some 11))), (1, .inr (.inr (some q)))] rfl rfl rfl rfl ?_
            refine yi_D_run 1 (11, [(2, .inl (yi_w (y2 + 1))), (0, .inr (.inr (some 11))), (1, .inr (.inr (some q)))], [], (I132, L133, R134, Y135), (n1 + n136), (m1 + m137)) (fun _ => rfl) ?_
            refine yi_D_run 2 (15, [(2, .inl (yi_w (y2 + 1))), (0, .inr (.inr (some 11))), (1, .inr (.inr (some q)))], [.inl 1000, .inl (yi_w (y2 + 1))], (I132, L133, R134, Y135), (n1 + n136), (m1 + m137)) (fun _ => rfl) ?_
            by_cases h159 : 1000 ≤ (yi_w (y2 + 1))
            · refine yi_D_if2 true rfl (yi_ge_t h159) ?_
              refine yi_D_run 1 (142, [(2, .inl (yi_w (y2 + 1))), (0, .inr (.inr (some 11))), (1, .inr (.inr (some q)))], [.inr (.inr (some 11))], (I132, L133, R134, Y135), (n1 + n136), (m1 + m137)) (fun _ => rfl) ?_
              refine yi_D_gi (v := I132 11 11) rfl rfl rfl rfl (fun _ => ?_)
              refine yi_D_reti rfl ?_
              exact ⟨_, _, _, _, _, _, _, rfl, hH155, by rw [he154]; exact hx157, fun h0 => absurd h0 hn158⟩
            · refine yi_D_if2 false rfl (yi_ge_f h159) ?_
              refine yi_D_run 1 (19, [(2, .inl (yi_w (y2 + 1))), (0, .inr (.inr (some 11))), (1, .inr (.inr (some q)))], [.inr (.inr (some 11))], (I132, L133, R134, Y135), (n1 + n136), (m1 + m137)) (fun _ => rfl) ?_
              refine yi_D_gi (v := I132 11 11) rfl rfl rfl rfl (fun _ => ?_)
              have h160 : ¬ ((I132 11 11) = 0) := by omega
              refine yi_D_if1 true rfl (yi_ne_t h160) ?_
              refine yi_D_run 1 (142, [(2, .inl (yi_w (y2 + 1))), (0, .inr (.inr (some 11))), (1, .inr (.inr (some q)))], [.inr (.inr (some 11))], (I132, L133, R134, Y135), (n1 + n136), (m1 + m137)) (fun _ => rfl) ?_
              refine yi_D_gi (v := I132 11 11) rfl rfl rfl rfl (fun _ => ?_)
              refine yi_D_reti rfl ?_
              exact ⟨_, _, _, _, _, _, _, rfl, hH155, by rw [he154]; exact hx157, fun h0 => absurd h0 hn158⟩
        by_cases h161 : (K a1) = 11
        · refine yi_D_tsi 6 rfl (by omega) (by decide) rfl ?_
          refine yi_D_run 1 (117, [(2, .inl y2), (0, .inr (.inr (some 11))), (1, .inr (.inr (some q)))], [.inr (.inr (some 11))], (J1, G1, R1, Y1), n1, m1) (fun _ => rfl) ?_
          refine yi_D_callv rfl (p_readWishC hW9 hf9 hA9 cs1 (by omega) hln9 hua9) ?_
          rintro _ ⟨I162, L163, R164, Y165, n166, m167, rfl, hH168, (⟨a169, ld170, nm171, cs172, u173, hR174, lt175, hf176, hA177, hW178, hln179, hu180⟩ | ⟨f181, hR182, hz183, he184⟩)⟩
          · have hH185 := cs_HB_t hH9 hH168
            have hR186 := sp_R_t hR9 hR174
            show yi_D zi_Ms d zi_m258 j11 (120, [(2, .inl y2), (0, .inr (.inr (some 11))), (1, .inr (.inr (some q)))], [], (I162, L163, R164, Y165), (n1 + n166), (m1 + m167)) _
            refine yi_D_run 1 (135, [(2, .inl y2), (0, .inr (.inr (some 11))), (1, .inr (.inr (some q)))], [], (I162, L163, R164, Y165), (n1 + n166), (m1 + m167)) (fun _ => rfl) ?_
            refine yi_D_iinc [(2, .inl (y2 + 1)), (0, .inr (.inr (some 11))), (1, .inr (.inr (some q)))] rfl rfl rfl (by rw [show yi_w (y2 + 1) = y2 + 1 from (yi_wn (by omega) (by omega)).trans (by omega)]; rfl) ?_
            refine yi_D_run 1 (11, [(2, .inl (y2 + 1)), (0, .inr (.inr (some 11))), (1, .inr (.inr (some q)))], [], (I162, L163, R164, Y165), (n1 + n166), (m1 + m167)) (fun _ => rfl) ?_
            exact yi_D_mono (ih11 (by omega) (y2 + 1) I162 L163 R164 Y165 a169 ld170 nm171 cs172 u173 (n1 + n166) (m1 + m167) (by omega) hH185 hW178 hf176 hA177 hR186 hln179 hu180) (by omega)
          · have hH185 := cs_HB_t hH9 hH168
            have hx187 := sp_R_t hR9 hR182
            have hn188 : ¬ I162 11 11 = 0 := by rw [he184]; exact hz183
            show yi_D zi_Ms d zi_m258 j11 (120, [(2, .inl y2), (0, .inr (.inr (some 11))), (1, .inr (.inr (some q)))], [], (I162, L163, R164, Y165), (n1 + n166), (m1 + m167)) _
            refine yi_D_run 1 (135, [(2, .inl y2), (0, .inr (.inr (some 11))), (1, .inr (.inr (some q)))], [], (I162, L163, R164, Y165), (n1 + n166), (m1 + m167)) (fun _ => rfl) ?_
            refine yi_D_iinc [(2, .inl (yi_w (y2 + 1))), (0, .inr (.inr (some 11))), (1, .inr (.inr (some q)))] rfl rfl rfl rfl ?_
            refine yi_D_run 1 (11, [(2, .inl (yi_w (y2 + 1))), (0, .inr (.inr (some 11))), (1, .inr (.inr (some q)))], [], (I162, L163, R164, Y165), (n1 + n166), (m1 + m167)) (fun _ => rfl) ?_
            refine yi_D_run 2 (15, [(2, .inl (yi_w (y2 + 1))), (0, .inr (.inr (some 11))), (1, .inr (.inr (some q)))], [.inl 1000, .inl (yi_w (y2 + 1))], (I162, L163, R164, Y165), (n1 + n166), (m1 + m167)) (fun _ => rfl) ?_
            by_cases h189 : 1000 ≤ (yi_w (y2 + 1))
            · refine yi_D_if2 true rfl (yi_ge_t h189) ?_
              refine yi_D_run 1 (142, [(2, .inl (yi_w (y2 + 1))), (0, .inr (.inr (some 11))), (1, .inr (.inr (some q)))], [.inr (.inr (some 11))], (I162, L163, R164, Y165), (n1 + n166), (m1 + m167)) (fun _ => rfl) ?_
              refine yi_D_gi (v := I162 11 11) rfl rfl rfl rfl (fun _ => ?_)
              refine yi_D_reti rfl ?_
              exact ⟨_, _, _, _, _, _, _, rfl, hH185, by rw [he184]; exact hx187, fun h0 => absurd h0 hn188⟩
            · refine yi_D_if2 false rfl (yi_ge_f h189) ?_
              refine yi_D_run 1 (19, [(2, .inl (yi_w (y2 + 1))), (0, .inr (.inr (some 11))), (1, .inr (.inr (some q)))], [.inr (.inr (some 11))], (I162, L163, R164, Y165), (n1 + n166), (m1 + m167)) (fun _ => rfl) ?_
              refine yi_D_gi (v := I162 11 11) rfl rfl rfl rfl (fun _ => ?_)
              have h190 : ¬ ((I162 11 11) = 0) := by omega
              refine yi_D_if1 true rfl (yi_ne_t h190) ?_
              refine yi_D_run 1 (142, [(2, .inl (yi_w (y2 + 1))), (0, .inr (.inr (some 11))), (1, .inr (.inr (some q)))], [.inr (.inr (some 11))], (I162, L163, R164, Y165), (n1 + n166), (m1 + m167)) (fun _ => rfl) ?_
              refine yi_D_gi (v := I162 11 11) rfl rfl rfl rfl (fun _ => ?_)
              refine yi_D_reti rfl ?_
              exact ⟨_, _, _, _, _, _, _, rfl, hH185, by rw [he184]; exact hx187, fun h0 => absurd h0 hn188⟩
        by_cases h191 : (K a1) = 13
        · refine yi_D_tsi 8 rfl (by omega) (by decide) rfl ?_
          refine yi_D_run 1 (124, [(2, .inl y2), (0, .inr (.inr (some 11))), (1, .inr (.inr (some q)))], [.inr (.inr (some 11))], (J1, G1, R1, Y1), n1, m1) (fun _ => rfl) ?_
          refine yi_D_callv rfl (p_readPriceC hW9 hf9 hA9 cs1 (by omega) hln9 hua9) ?_
          rintro _ ⟨I192, L193, R194, Y195, n196, m197, rfl, hH198, (⟨a199, ld200, nm201, cs202, u203, hR204, lt205, hf206, hA207, hW208, hln209, hu210⟩ | ⟨f211, hR212, hz213, he214⟩)⟩
          · have hH215 := cs_HB_t hH9 hH198
            have hR216 := sp_R_t hR9 hR204
            show yi_D zi_Ms d zi_m258 j11 (127, [(2, .inl y2), (0, .inr (.inr (some 11))), (1, .inr (.inr (some q)))], [], (I192, L193, R194, Y195), (n1 + n196), (m1 + m197)) _
            refine yi_D_run 1 (135, [(2, .inl y2), (0, .inr (.inr (some 11))), (1, .inr (.inr (some q)))], [], (I192, L193, R194, Y195), (n1 + n196), (m1 + m197)) (fun _ => rfl) ?_
            refine yi_D_iinc [(2, .inl (y2 + 1)), (0, .inr (.inr (some 11))), (1, .inr (.inr (some q)))] rfl rfl rfl (by rw [show yi_w (y2 + 1) = y2 + 1 from (yi_wn (by omega) (by omega)).trans (by omega)]; rfl) ?_
            refine yi_D_run 1 (11, [(2, .inl (y2 + 1)), (0, .inr (.inr (some 11))), (1, .inr (.inr (some q)))], [], (I192, L193, R194, Y195), (n1 + n196), (m1 + m197)) (fun _ => rfl) ?_
            exact yi_D_mono (ih11 (by omega) (y2 + 1) I192 L193 R194 Y195 a199 ld200 nm201 cs202 u203 (n1 + n196) (m1 + m197) (by omega) hH215 hW208 hf206 hA207 hR216 hln209 hu210) (by omega)
          · have hH215 := cs_HB_t hH9 hH198
            have hx217 := sp_R_t hR9 hR212
            have hn218 : ¬ I192 11 11 = 0 := by rw [he214]; exact hz213
            show yi_D zi_Ms d zi_m258 j11 (127, [(2, .inl y2), (0, .inr (.inr (some 11))), (1, .inr (.inr (some q)))], [], (I192, L193, R194, Y195), (n1 + n196), (m1 + m197)) _
            refine yi_D_run 1 (135, [(2, .inl y2), (0, .inr (.inr (some 11))), (1, .inr (.inr (some q)))], [], (I192, L193, R194, Y195), (n1 + n196), (m1 + m197)) (fun _ => rfl) ?_
            refine yi_D_iinc [(2, .inl (yi_w (y2 + 1))), (0, .inr (.inr (some 11))), (1, .inr (.inr (some q)))] rfl rfl rfl rfl ?_
            refine yi_D_run 1 (11, [(2, .inl (yi_w (y2 + 1))), (0, .inr (.inr (some 11))), (1, .inr (.inr (some q)))], [], (I192, L193, R194, Y195), (n1 + n196), (m1 + m197)) (fun _ => rfl) ?_
            refine yi_D_run 2 (15, [(2, .inl (yi_w (y2 + 1))), (0, .inr (.inr (some 11))), (1, .inr (.inr (some q)))], [.inl 1000, .inl (yi_w (y2 + 1))], (I192, L193, R194, Y195), (n1 + n196), (m1 + m197)) (fun _ => rfl) ?_
            by_cases h219 : 1000 ≤ (yi_w (y2 + 1))
            · refine yi_D_if2 true rfl (yi_ge_t h219) ?_
              refine yi_D_run 1 (142, [(2, .inl (yi_w (y2 + 1))), (0, .inr (.inr (some 11))), (1, .inr (.inr (some q)))], [.inr (.inr (some 11))], (I192, L193, R194, Y195), (n1 + n196), (m1 + m197)) (fun _ => rfl) ?_
              refine yi_D_gi (v := I192 11 11) rfl rfl rfl rfl (fun _ => ?_)
              refine yi_D_reti rfl ?_
              exact ⟨_, _, _, _, _, _, _, rfl, hH215, by rw [he214]; exact hx217, fun h0 => absurd h0 hn218⟩
            · refine yi_D_if2 false rfl (yi_ge_f h219) ?_
              refine yi_D_run 1 (19, [(2, .inl (yi_w (y2 + 1))), (0, .inr (.inr (some 11))), (1, .inr (.inr (some q)))], [.inr (.inr (some 11))], (I192, L193, R194, Y195), (n1 + n196), (m1 + m197)) (fun _ => rfl) ?_
              refine yi_D_gi (v := I192 11 11) rfl rfl rfl rfl (fun _ => ?_)
              have h220 : ¬ ((I192 11 11) = 0) := by omega
              refine yi_D_if1 true rfl (yi_ne_t h220) ?_
              refine yi_D_run 1 (142, [(2, .inl (yi_w (y2 + 1))), (0, .inr (.inr (some 11))), (1, .inr (.inr (some q)))], [.inr (.inr (some 11))], (I192, L193, R194, Y195), (n1 + n196), (m1 + m197)) (fun _ => rfl) ?_
              refine yi_D_gi (v := I192 11 11) rfl rfl rfl rfl (fun _ => ?_)
              refine yi_D_reti rfl ?_
              exact ⟨_, _, _, _, _, _, _, rfl, hH215, by rw [he214]; exact hx217, fun h0 => absurd h0 hn218⟩
        by_cases h221 : (K a1) = 6
        · refine yi_D_tsi 1 rfl (by omega) (by decide) rfl ?_
          refine yi_D_run 2 (132, [(2, .inl y2), (0, .inr (.inr (some 11))), (1, .inr (.inr (some q)))], [.inl 1, .inr (.inr (some 11))], (J1, G1, R1, Y1), n1, m1) (fun _ => rfl) ?_
          refine yi_D_callv rfl (p_wrong_z ⟨by omega, by omega⟩ hW9 hf9 hA9) ?_
          rintro _ ⟨I222, rfl, hg223, he224⟩
          have hH225 := cs_HB_t hH9 (cs_H_F (q := q) (R := R1) (Y := Y1) (cs_G_F (⟨fun p k hp => hg223 p k (by omega), fun _ _ _ => rfl⟩ : cs_G J1 G1 I222 G1)))
          have hx226 : sp_R K P V (0, 0, 0, [], sp_ld0, sp_nm0, []) (.inr (sp_f P a1 1)) := sp_R_s hR9 (by
            show sp_line K P V _ _ _ _ = _
            unfold sp_line
            repeat (first | rw [if_pos (by omega)] | rw [if_neg (by omega)]))
          have hz227 : ¬ sp_f P a1 1 = 0 := sp_f_ne hW9 hA9.2.1 (by omega)
          have hn228 : ¬ I222 11 11 = 0 := by rw [he224]; exact hz227
          show yi_D zi_Ms d zi_m258 j11 (135, [(2, .inl y2), (0, .inr (.inr (some 11))), (1, .inr (.inr (some q)))], [], (I222, G1, R1, Y1), n1, m1) _
          refine yi_D_iinc [(2, .inl (yi_w (y2 + 1))), (0, .inr (.inr (some 11))), (1, .inr (.inr (some q)))] rfl rfl rfl rfl ?_
          refine yi_D_run 1 (11, [(2, .inl (yi_w (y2 + 1))), (0, .inr (.inr (some 11))), (1, .inr (.inr (some q)))], [], (I222, G1, R1, Y1), n1, m1) (fun _ => rfl) ?_
          refine yi_D_run 2 (15, [(2, .inl (yi_w (y2 + 1))), (0, .inr (.inr (some 11))), (1, .inr (.inr (some q)))], [.inl 1000, .inl (yi_w (y2 + 1))], (I222, G1, R1, Y1), n1, m1) (fun _ => rfl) ?_
          by_cases h229 : 1000 ≤ (yi_w (y2 + 1))
          · refine yi_D_if2 true rfl (yi_ge_t h229) ?_
            refine yi_D_run 1 (142, [(2, .inl (yi_w (y2 + 1))), (0, .inr (.inr (some 11))), (1, .inr (.inr (some q)))], [.inr (.inr (some 11))], (I222, G1, R1, Y1), n1, m1) (fun _ => rfl) ?_
            refine yi_D_gi (v := I222 11 11) rfl rfl rfl rfl (fun _ => ?_)
            refine yi_D_reti rfl ?_
            exact ⟨_, _, _, _, _, _, _, rfl, hH225, by rw [he224]; exact hx226, fun h0 => absurd h0 hn228⟩
          · refine yi_D_if2 false rfl (yi_ge_f h229) ?_
            refine yi_D_run 1 (19, [(2, .inl (yi_w (y2 + 1))), (0, .inr (.inr (some 11))), (1, .inr (.inr (some q)))], [.inr (.inr (some 11))], (I222, G1, R1, Y1), n1, m1) (fun _ => rfl) ?_
            refine yi_D_gi (v := I222 11 11) rfl rfl rfl rfl (fun _ => ?_)
            have h230 : ¬ ((I222 11 11) = 0) := by omega
            refine yi_D_if1 true rfl (yi_ne_t h230) ?_
            refine yi_D_run 1 (142, [(2, .inl (yi_w (y2 + 1))), (0, .inr (.inr (some 11))), (1, .inr (.inr (some q)))], [.inr (.inr (some 11))], (I222, G1, R1, Y1), n1, m1) (fun _ => rfl) ?_
            refine yi_D_gi (v := I222 11 11) rfl rfl rfl rfl (fun _ => ?_)
            refine yi_D_reti rfl ?_
            exact ⟨_, _, _, _, _, _, _, rfl, hH225, by rw [he224]; exact hx226, fun h0 => absurd h0 hn228⟩
        by_cases h231 : (K a1) = 9
        · refine yi_D_tsi 4 rfl (by omega) (by decide) rfl ?_
          refine yi_D_run 2 (132, [(2, .inl y2), (0, .inr (.inr (some 11))), (1, .inr (.inr (some q)))], [.inl 1, .inr (.inr (some 11))], (J1, G1, R1, Y1), n1, m1) (fun _ => rfl) ?_
          refine yi_D_callv rfl (p_wrong_z ⟨by omega, by omega⟩ hW9 hf9 hA9) ?_
          rintro _ ⟨I232, rfl, hg233, he234⟩
          have hH235 := cs_HB_t hH9 (cs_H_F (q := q) (R := R1) (Y := Y1) (cs_G_F (⟨fun p k hp => hg233 p k (by omega), fun _ _ _ => rfl⟩ : cs_G J1 G1 I232 G1)))
          have hx236 : sp_R K P V (0, 0, 0, [], sp_ld0, sp_nm0, []) (.inr (sp_f P a1 1)) := sp_R_s hR9 (by
            show sp_line K P V _ _ _ _ = _
            unfold sp_line
            repeat (first | rw [if_pos (by omega)] | rw [if_neg (by omega)]))
          have hz237 : ¬ sp_f P a1 1 = 0 := sp_f_ne hW9 hA9.2.1 (by omega)
          have hn238 : ¬ I232 11 11 = 0 := by rw [he234]; exact hz237
          show yi_D zi_Ms d zi_m258 j11 (135, [(2, .inl y2), (0, .inr (.inr (some 11))), (1, .inr (.inr (some q)))], [], (I232, G1, R1, Y1), n1, m1) _
          refine yi_D_iinc [(2, .inl (yi_w (y2 + 1))), (0, .inr (.inr (some 11))), (1, .inr (.inr (some q)))] rfl rfl rfl rfl ?_
          refine yi_D_run 1 (11, [(2, .inl (yi_w (y2 + 1))), (0, .inr (.inr (some 11))), (1, .inr (.inr (some q)))], [], (I232, G1, R1, Y1), n1, m1) (fun _ => rfl) ?_
          refine yi_D_run 2 (15, [(2, .inl (yi_w (y2 + 1))), (0, .inr (.inr (some 11))), (1, .inr (.inr (some q)))], [.inl 1000, .inl (yi_w (y2 + 1))], (I232, G1, R1, Y1), n1, m1) (fun _ => rfl) ?_
          by_cases h239 : 1000 ≤ (yi_w (y2 + 1))
          · refine yi_D_if2 true rfl (yi_ge_t h239) ?_
            refine yi_D_run 1 (142, [(2, .inl (yi_w (y2 + 1))), (0, .inr (.inr (some 11))), (1, .inr (.inr (some q)))], [.inr (.inr (some 11))], (I232, G1, R1, Y1), n1, m1) (fun _ => rfl) ?_
            refine yi_D_gi (v := I232 11 11) rfl rfl rfl rfl (fun _ => ?_)
            refine yi_D_reti rfl ?_
            exact ⟨_, _, _, _, _, _, _, rfl, hH235, by rw [he234]; exact hx236, fun h0 => absurd h0 hn238⟩
          · refine yi_D_if2 false rfl (yi_ge_f h239) ?_
            refine yi_D_run 1 (19, [(2, .inl (yi_w (y2 + 1))), (0, .inr (.inr (some 11))), (1, .inr (.inr (some q)))], [.inr (.inr (some 11))], (I232, G1, R1, Y1), n1, m1) (fun _ => rfl) ?_
            refine yi_D_gi (v := I232 11 11) rfl rfl rfl rfl (fun _ => ?_)
            have h240 : ¬ ((I232 11 11) = 0) := by omega
            refine yi_D_if1 true rfl (yi_ne_t h240) ?_
            refine yi_D_run 1 (142, [(2, .inl (yi_w (y2 + 1))), (0, .inr (.inr (some 11))), (1, .inr (.inr (some q)))], [.inr (.inr (some 11))], (I232, G1, R1, Y1), n1, m1) (fun _ => rfl) ?_
            refine yi_D_gi (v := I232 11 11) rfl rfl rfl rfl (fun _ => ?_)
            refine yi_D_reti rfl ?_
            exact ⟨_, _, _, _, _, _, _, rfl, hH235, by rw [he234]; exact hx236, fun h0 => absurd h0 hn238⟩
        by_cases h241 : (K a1) = 12
        · refine yi_D_tsi 7 rfl (by omega) (by decide) rfl ?_
          refine yi_D_run 2 (132, [(2, .inl y2), (0, .inr (.inr (some 11))), (1, .inr (.inr (some q)))], [.inl 1, .inr (.inr (some 11))], (J1, G1, R1, Y1), n1, m1) (fun _ => rfl) ?_
          refine yi_D_callv rfl (p_wrong_z ⟨by omega, by omega⟩ hW9 hf9 hA9) ?_
          rintro _ ⟨I242, rfl, hg243, he244⟩
          have hH245 := cs_HB_t hH9 (cs_H_F (q := q) (R := R1) (Y := Y1) (cs_G_F (⟨fun p k hp => hg243 p k (by omega), fun _ _ _ => rfl⟩ : cs_G J1 G1 I242 G1)))
          have hx246 : sp_R K P V (0, 0, 0, [], sp_ld0, sp_nm0, []) (.inr (sp_f P a1 1)) := sp_R_s hR9 (by
            show sp_line K P V _ _ _ _ = _
            unfold sp_line
            repeat (first | rw [if_pos (by omega)] | rw [if_neg (by omega)]))
          have hz247 : ¬ sp_f P a1 1 = 0 := sp_f_ne hW9 hA9.2.1 (by omega)
          have hn248 : ¬ I242 11 11 = 0 := by rw [he244]; exact hz247
          show yi_D zi_Ms d zi_m258 j11 (135, [(2, .inl y2), (0, .inr (.inr (some 11))), (1, .inr (.inr (some q)))], [], (I242, G1, R1, Y1), n1, m1) _
          refine yi_D_iinc [(2, .inl (yi_w (y2 + 1))), (0, .inr (.inr (some 11))), (1, .inr (.inr (some q)))] rfl rfl rfl rfl ?_
          refine yi_D_run 1 (11, [(2, .inl (yi_w (y2 + 1))), (0, .inr (.inr (some 11))), (1, .inr (.inr (some q)))], [], (I242, G1, R1, Y1), n1, m1) (fun _ => rfl) ?_
          refine yi_D_run 2 (15, [(2, .inl (yi_w (y2 + 1))), (0, .inr (.inr (some 11))), (1, .inr (.inr (some q)))], [.inl 1000, .inl (yi_w (y2 + 1))], (I242, G1, R1, Y1), n1, m1) (fun _ => rfl) ?_
          by_cases h249 : 1000 ≤ (yi_w (y2 + 1))
          · refine yi_D_if2 true rfl (yi_ge_t h249) ?_
            refine yi_D_run 1 (142, [(2, .inl (yi_w (y2 + 1))), (0, .inr (.inr (some 11))), (1, .inr (.inr (some q)))], [.inr (.inr (some 11))], (I242, G1, R1, Y1), n1, m1) (fun _ => rfl) ?_
            refine yi_D_gi (v := I242 11 11) rfl rfl rfl rfl (fun _ => ?_)
            refine yi_D_reti rfl ?_
            exact ⟨_, _, _, _, _, _, _, rfl, hH245, by rw [he244]; exact hx246, fun h0 => absurd h0 hn248⟩
          · refine yi_D_if2 false rfl (yi_ge_f h249) ?_
            refine yi_D_run 1 (19, [(2, .inl (yi_w (y2 + 1))), (0, .inr (.inr (some 11))), (1, .inr (.inr (some q)))], [.inr (.inr (some 11))], (I242, G1, R1, Y1), n1, m1) (fun _ => rfl) ?_
            refine yi_D_gi (v := I242 11 11) rfl rfl rfl rfl (fun _ => ?_)
            have h250 : ¬ ((I242 11 11) = 0) := by omega
            refine yi_D_if1 true rfl (yi_ne_t h250) ?_
            refine yi_D_run 1 (142, [(2, .inl (yi_w (y2 + 1))), (0, .inr (.inr (some 11))), (1, .inr (.inr (some q)))], [.inr (.inr (some 11))], (I242, G1, R1, Y1), n1, m1) (fun _ => rfl) ?_
            refine yi_D_gi (v := I242 11 11) rfl rfl rfl rfl (fun _ => ?_)
            refine yi_D_reti rfl ?_
            exact ⟨_, _, _, _, _, _, _, rfl, hH245, by rw [he244]; exact hx246, fun h0 => absurd h0 hn248⟩
        refine yi_D_tso rfl (by omega) ?_
        refine yi_D_run 2 (132, [(2, .inl y2), (0, .inr (.inr (some 11))), (1, .inr (.inr (some q)))], [.inl 1, .inr (.inr (some 11))], (J1, G1, R1, Y1), n1, m1) (fun _ => rfl) ?_
        refine yi_D_callv rfl (p_wrong_z ⟨by omega, by omega⟩ hW9 hf9 hA9) ?_
        rintro _ ⟨I251, rfl, hg252, he253⟩
        have hH254 := cs_HB_t hH9 (cs_H_F (q := q) (R := R1) (Y := Y1) (cs_G_F (⟨fun p k hp => hg252 p k (by omega), fun _ _ _ => rfl⟩ : cs_G J1 G1 I251 G1)))
        have hx255 : sp_R K P V (0, 0, 0, [], sp_ld0, sp_nm0, []) (.inr (sp_f P a1 1)) := sp_R_s hR9 (by
          show sp_line K P V _ _ _ _ = _
          unfold sp_line
          repeat (first | rw [if_pos (by omega)] | rw [if_neg (by omega)]))
        have hz256 : ¬ sp_f P a1 1 = 0 := sp_f_ne hW9 hA9.2.1 (by omega)
        have hn257 : ¬ I251 11 11 = 0 := by rw [he253]; exact hz256
        show yi_D zi_Ms d zi_m258 j11 (135, [(2, .inl y2), (0, .inr (.inr (some 11))), (1, .inr (.inr (some q)))], [], (I251, G1, R1, Y1), n1, m1) _
        refine yi_D_iinc [(2, .inl (yi_w (y2 + 1))), (0, .inr (.inr (some 11))), (1, .inr (.inr (some q)))] rfl rfl rfl rfl ?_
        refine yi_D_run 1 (11, [(2, .inl (yi_w (y2 + 1))), (0, .inr (.inr (some 11))), (1, .inr (.inr (some q)))], [], (I251, G1, R1, Y1), n1, m1) (fun _ => rfl) ?_
        refine yi_D_run 2 (15, [(2, .inl (yi_w (y2 + 1))), (0, .inr (.inr (some 11))), (1, .inr (.inr (some q)))], [.inl 1000, .inl (yi_w (y2 + 1))], (I251, G1, R1, Y1), n1, m1) (fun _ => rfl) ?_
        by_cases h258 : 1000 ≤ (yi_w (y2 + 1))
        · refine yi_D_if2 true rfl (yi_ge_t h258) ?_
          refine yi_D_run 1 (142, [(2, .inl (yi_w (y2 + 1))), (0, .inr (.inr (some 11))), (1, .inr (.inr (some q)))], [.inr (.inr (some 11))], (I251, G1, R1, Y1), n1, m1) (fun _ => rfl) ?_
          refine yi_D_gi (v := I251 11 11) rfl rfl rfl rfl (fun _ => ?_)
          refine yi_D_reti rfl ?_
          exact ⟨_, _, _, _, _, _, _, rfl, hH254, by rw [he253]; exact hx255, fun h0 => absurd h0 hn257⟩
        · refine yi_D_if2 false rfl (yi_ge_f h258) ?_
          refine yi_D_run 1 (19, [(2, .inl (yi_w (y2 + 1))), (0, .inr (.inr (some 11))), (1, .inr (.inr (some q)))], [.inr (.inr (some 11))], (I251, G1, R1, Y1), n1, m1) (fun _ => rfl) ?_
          refine yi_D_gi (v := I251 11 11) rfl rfl rfl rfl (fun _ => ?_)
          have h259 : ¬ ((I251 11 11) = 0) := by omega
          refine yi_D_if1 true rfl (yi_ne_t h259) ?_
          refine yi_D_run 1 (142, [(2, .inl (yi_w (y2 + 1))), (0, .inr (.inr (some 11))), (1, .inr (.inr (some q)))], [.inr (.inr (some 11))], (I251, G1, R1, Y1), n1, m1) (fun _ => rfl) ?_
          refine yi_D_gi (v := I251 11 11) rfl rfl rfl rfl (fun _ => ?_)
          refine yi_D_reti rfl ?_
          exact ⟨_, _, _, _, _, _, _, rfl, hH254, by rw [he253]; exact hx255, fun h0 => absurd h0 hn257⟩
    exact pt11 k (Nat.le_refl _) 0 I14 L15 R16 Y17 a21 ld22 nm23 cs24 u25 (0 + n18) (0 + m19) (by omega) hH37 hW30 hf28 hA29 hR38 hln31 hu32
  · have hH37 := cs_HB_t hH13 hH20
    have hx260 := hR34
    have hn261 : ¬ I14 11 11 = 0 := by rw [he36]; exact hz35
    show yi_D zi_Ms d zi_m258 k (9, [(0, .inr (.inr (some 11))), (1, .inr (.inr (some q)))], [], (I14, L15, R16, Y17), (0 + n18), (0 + m19)) _
    refine yi_D_run 2 (11, [(2, .inl 0), (0, .inr (.inr (some 11))), (1, .inr (.inr (some q)))], [], (I14, L15, R16, Y17), (0 + n18), (0 + m19)) (fun _ => rfl) ?_
    refine yi_D_run 2 (15, [(2, .inl 0), (0, .inr (.inr (some 11))), (1, .inr (.inr (some q)))], [.inl 1000, .inl 0], (I14, L15, R16, Y17), (0 + n18), (0 + m19)) (fun _ => rfl) ?_
    refine yi_D_if2 false rfl (by decide) ?_
    refine yi_D_run 1 (19, [(2, .inl 0), (0, .inr (.inr (some 11))), (1, .inr (.inr (some q)))], [.inr (.inr (some 11))], (I14, L15, R16, Y17), (0 + n18), (0 + m19)) (fun _ => rfl) ?_
    refine yi_D_gi (v := I14 11 11) rfl rfl rfl rfl (fun _ => ?_)
    have h262 : ¬ ((I14 11 11) = 0) := by omega
    refine yi_D_if1 true rfl (yi_ne_t h262) ?_
    refine yi_D_run 1 (142, [(2, .inl 0), (0, .inr (.inr (some 11))), (1, .inr (.inr (some q)))], [.inr (.inr (some 11))], (I14, L15, R16, Y17), (0 + n18), (0 + m19)) (fun _ => rfl) ?_
    refine yi_D_gi (v := I14 11 11) rfl rfl rfl rfl (fun _ => ?_)
    refine yi_D_reti rfl ?_
    exact ⟨_, _, _, _, _, _, _, rfl, hH37, by rw [he36]; exact hx260, fun h0 => absurd h0 hn261⟩
