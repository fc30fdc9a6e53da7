/-! A promise. -/
theorem c_promise (D : Nat) (hD : 6 ≤ D) {I L : Nat → Nat → Int} {X : ym_X} (hS : ym_S X) {pe pr : Int} (hLR : ym_LR I) (hS0 : ym_S0 I) (hl : 0 ≤ I 82 25 ∧ I 82 25 ≤ 512) (hU : ym_UB I) (h00 : ym_SB I 0) : yi_E zi_Ms D 90 [.inr (.inr (some 82)), .inl pe, .inl pr] (I, L, X) (fun r => ∃ z I' L', (r = (some (.inl z), (I', L', X), 0, 0)) ∧ (∀ p k, p ≠ 100 ∧ ¬ (p = 82 ∧ k = 0) ∧ ¬ (p = 82 ∧ k = 30) → I' p k = I p k) ∧ (∀ p k, p ≠ 97 → L' p k = L p k) ∧ ym_UB I' ∧ ym_SB I' 0 ∧ (∀ k : Nat, 110 ≤ k → k < 550 → I' 100 k = I 100 k)) := by
  obtain ⟨d, rfl⟩ : ∃ d, D = d + 1 := ⟨D - 1, by omega⟩
  refine yi_E_of (M := zi_m90) rfl rfl ?_
  obtain ⟨l0, l1, l2, l3, l4, l5⟩ := id hLR
  obtain ⟨t0, t1, t2, t3, t4⟩ := id hS0
  have hU1 := hU.1
  show yi_G zi_Ms d zi_m90 (0, [(0, .inr (.inr (some 82))), (1, .inl pe), (2, .inl pr)], [], (I, L, X), 0, 0) _
  refine yi_G_run 2 (2, [(0, .inr (.inr (some 82))), (1, .inl pe), (2, .inl pr)], [.inl 0, .inr (.inr (some 82))], (I, L, X), 0, 0) (fun _ => rfl) ?_
  refine yi_G_put (5, [(0, .inr (.inr (some 82))), (1, .inl pe), (2, .inl pr)], [], ((yi_u I 82 0 0), L, X), 0, 0) rfl (ym_pi hS rfl rfl) ?_
  generalize w2 : yi_u I 82 0 0 = I1
  refine yi_G_run 2 (7, [(0, .inr (.inr (some 82))), (1, .inl pe), (2, .inl pr)], [.inl pe, .inr (.inr (some 82))], (I1, L, X), 0, 0) (fun _ => rfl) ?_
  have r4 : I1 88 1 = I 88 1 := by rw [← w2, yi_u_ne _ _ (by omega)]
  refine yi_G_callv rfl rfl (ym_rcv hS) rfl (c_isPerson d (by omega) hS r4) ?_
  rintro _ (⟨c3, rfl⟩ | ⟨c3, rfl⟩)
  · show yi_G zi_Ms d zi_m90 (10, [(0, .inr (.inr (some 82))), (1, .inl pe), (2, .inl pr)], [.inl 1], (I1, L, X), 0, 0) _
    refine yi_G_if1 false rfl (by decide) ?_
    refine yi_G_run 3 (17, [(0, .inr (.inr (some 82))), (1, .inl pe), (2, .inl pr)], [.inl 99, .inl 0, .inl pr], (I1, L, X), 0, 0) (fun _ => rfl) ?_
    refine yi_G_calls rfl rfl (c_within d (by omega) hS) ?_
    rintro _ (⟨c5, rfl⟩ | ⟨c5, rfl⟩)
    · show yi_G zi_Ms d zi_m90 (20, [(0, .inr (.inr (some 82))), (1, .inl pe), (2, .inl pr)], [.inl 1], (I1, L, X), 0, 0) _
      refine yi_G_if1 false rfl (by decide) ?_
      refine yi_G_run 1 (24, [(0, .inr (.inr (some 82))), (1, .inl pe), (2, .inl pr)], [.inr (.inr (some 82))], (I1, L, X), 0, 0) (fun _ => rfl) ?_
      refine yi_G_get (27, [(0, .inr (.inr (some 82))), (1, .inl pe), (2, .inl pr)], [.inr (.inr (some 100))], (I1, L, X), 0, 0) rfl (ym_gr hS 17 rfl rfl rfl) ?_
      refine yi_G_run 1 (28, [(0, .inr (.inr (some 82))), (1, .inl pe), (2, .inl pr)], [.inl 2, .inr (.inr (some 100))], (I1, L, X), 0, 0) (fun _ => rfl) ?_
      have r6 : I1 100 2 = I 100 2 := by rw [← w2, yi_u_ne _ _ (by omega)]
      refine yi_G_iald (29, [(0, .inr (.inr (some 82))), (1, .inl pe), (2, .inl pr)], [.inl (I 100 2)], (I1, L, X), 0, 0) rfl (ym_li hS 17 rfl (by omega) (by omega) r6) ?_
      refine yi_G_run 1 (31, [(0, .inr (.inr (some 82))), (1, .inl pe), (2, .inl pr)], [.inl 20, .inl (I 100 2)], (I1, L, X), 0, 0) (fun _ => rfl) ?_
      by_cases h7 : (I 100 2) = 20
      · refine yi_G_if2 false rfl (yi_ne_f h7) ?_
        refine yi_G_run 1 (35, [(0, .inr (.inr (some 82))), (1, .inl pe), (2, .inl pr)], [.inl (-1)], (I1, L, X), 0, 0) (fun _ => rfl) ?_
        exact yi_G_reti rfl rfl (⟨_, _, _, rfl, (fun p k hp => by rw [← w2, yi_u_ne _ _ (fun z => by omega)]), (fun _ _ _ => rfl), ⟨by rw [← w2, yi_u_ne _ _ (by omega)]; exact hU.1, fun u a b => ym_SB_t (I := I) (by omega) (fun k => by rw [← w2, yi_u_ne _ _ (by omega)]) (hU.2 u a (by rw [← w2, yi_u_ne _ _ (by omega)] at b; exact b))⟩, ym_SB_t (I := I) (by omega) (fun k => by rw [← w2, yi_u_ne _ _ (by omega)]) h00, fun k _ _ => (fun k => by rw [← w2, yi_u_ne _ _ (by omega)]) k⟩)
      · refine yi_G_if2 true rfl (yi_ne_t h7) ?_
        refine yi_G_run 1 (37, [(0, .inr (.inr (some 82))), (1, .inl pe), (2, .inl pr)], [.inr (.inr (some 82))], (I1, L, X), 0, 0) (fun _ => rfl) ?_
        have r12 : I1 82 25 = I 82 25 := by rw [← w2, yi_u_ne _ _ (by omega)]
        refine yi_G_callv rfl rfl (ym_rcv hS) rfl (c_keeps d (by omega) hS ⟨by rw [← w2, yi_u_ne _ _ (by omega)]; exact hU.1, fun u a b => ym_SB_t (I := I) (by omega) (fun k => by rw [← w2, yi_u_ne _ _ (by omega)]) (hU.2 u a (by rw [← w2, yi_u_ne _ _ (by omega)] at b; exact b))⟩ (ym_SB_t (I := I) (by omega) (fun k => by rw [← w2, yi_u_ne _ _ (by omega)]) h00) ⟨(by rw [r12]; omega), (by rw [r12]; omega)⟩) ?_
        rintro _ ⟨I8, L10, rfl, f9, f11, ubk, lok⟩
        show yi_G zi_Ms d zi_m90 (40, [(0, .inr (.inr (some 82))), (1, .inl pe), (2, .inl pr)], [], (I8, L10, X), 0, 0) _
        refine yi_G_run 1 (41, [(0, .inr (.inr (some 82))), (1, .inl pe), (2, .inl pr)], [.inr (.inr (some 82))], (I8, L10, X), 0, 0) (fun _ => rfl) ?_
        refine yi_G_get (44, [(0, .inr (.inr (some 82))), (1, .inl pe), (2, .inl pr)], [.inr (.inr (some 100))], (I8, L10, X), 0, 0) rfl (ym_gr hS 17 rfl rfl rfl) ?_
        refine yi_G_run 3 (48, [(0, .inr (.inr (some 82))), (1, .inl pe), (2, .inl pr)], [.inr (.inr (some 82)), .inl 2, .inl 68, .inr (.inr (some 100))], (I8, L10, X), 0, 0) (fun _ => rfl) ?_
        refine yi_G_get (51, [(0, .inr (.inr (some 82))), (1, .inl pe), (2, .inl pr)], [.inr (.inr (some 100)), .inl 2, .inl 68, .inr (.inr (some 100))], (I8, L10, X), 0, 0) rfl (ym_gr hS 17 rfl rfl rfl) ?_
        refine yi_G_run 1 (52, [(0, .inr (.inr (some 82))), (1, .inl pe), (2, .inl pr)], [.inl 2, .inr (.inr (some 100)), .inl 2, .inl 68, .inr (.inr (some 100))], (I8, L10, X), 0, 0) (fun _ => rfl) ?_
        have e2 : I8 100 2 = I 100 2 := by rw [lok 2 (by omega)]; exact (fun k => by rw [← w2, yi_u_ne _ _ (by omega)]) 2
        refine yi_G_iald (53, [(0, .inr (.inr (some 82))), (1, .inl pe), (2, .inl pr)], [.inl (I8 100 2), .inl 2, .inl 68, .inr (.inr (some 100))], (I8, L10, X), 0, 0) rfl (ym_li hS 17 rfl (by omega) (by omega) rfl) ?_
        refine yi_G_imul rfl (2 * (I8 100 2)) (yi_wn (by omega) (by omega)) ?_
        refine yi_G_iadd rfl (68 + (2 * (I8 100 2))) (yi_wn (by omega) (by omega)) ?_
        refine yi_G_run 1 (56, [(0, .inr (.inr (some 82))), (1, .inl pe), (2, .inl pr)], [.inl pe, .inl (68 + (2 * (I8 100 2))), .inr (.inr (some 100))], (I8, L10, X), 0, 0) (fun _ => rfl) ?_
        refine yi_G_iast (57, [(0, .inr (.inr (some 82))), (1, .inl pe), (2, .inl pr)], [], ((yi_u I8 100 ((68 + (2 * (I8 100 2))).toNat) pe), L10, X), 0, 0) rfl (ym_si hS 17 rfl (by omega) (by omega)) ?_
        generalize w14 : yi_u I8 100 ((68 + (2 * (I8 100 2))).toNat) pe = I13
        refine yi_G_run 1 (58, [(0, .inr (.inr (some 82))), (1, .inl pe), (2, .inl pr)], [.inr (.inr (some 82))], (I13, L10, X), 0, 0) (fun _ => rfl) ?_
        refine yi_G_get (61, [(0, .inr (.inr (some 82))), (1, .inl pe), (2, .inl pr)], [.inr (.inr (some 100))], (I13, L10, X), 0, 0) rfl (ym_gr hS 17 rfl rfl rfl) ?_
        refine yi_G_run 3 (65, [(0, .inr (.inr (some 82))), (1, .inl pe), (2, .inl pr)], [.inr (.inr (some 82)), .inl 2, .inl 68, .inr (.inr (some 100))], (I13, L10, X), 0, 0) (fun _ => rfl) ?_
        refine yi_G_get (68, [(0, .inr (.inr (some 82))), (1, .inl pe), (2, .inl pr)], [.inr (.inr (some 100)), .inl 2, .inl 68, .inr (.inr (some 100))], (I13, L10, X), 0, 0) rfl (ym_gr hS 17 rfl rfl rfl) ?_
        refine yi_G_run 1 (69, [(0, .inr (.inr (some 82))), (1, .inl pe), (2, .inl pr)], [.inl 2, .inr (.inr (some 100)), .inl 2, .inl 68, .inr (.inr (some 100))], (I13, L10, X), 0, 0) (fun _ => rfl) ?_
        have e3 : I13 100 2 = I 100 2 := by rw [← w14, yi_u_ne _ _ (by omega)]; exact e2
        refine yi_G_iald (70, [(0, .inr (.inr (some 82))), (1, .inl pe), (2, .inl pr)], [.inl (I13 100 2), .inl 2, .inl 68, .inr (.inr (some 100))], (I13, L10, X), 0, 0) rfl (ym_li hS 17 rfl (by omega) (by omega) rfl) ?_
        refine yi_G_imul rfl (2 * (I13 100 2)) (yi_wn (by omega) (by omega)) ?_
        refine yi_G_iadd rfl (68 + (2 * (I13 100 2))) (yi_wn (by omega) (by omega)) ?_
        refine yi_G_run 1 (73, [(0, .inr (.inr (some 82))), (1, .inl pe), (2, .inl pr)], [.inl 1, .inl (68 + (2 * (I13 100 2))), .inr (.inr (some 100))], (I13, L10, X), 0, 0) (fun _ => rfl) ?_
        refine yi_G_iadd rfl ((68 + (2 * (I13 100 2))) + 1) (yi_wn (by omega) (by omega)) ?_
        refine yi_G_run 1 (75, [(0, .inr (.inr (some 82))), (1, .inl pe), (2, .inl pr)], [.inl pr, .inl ((68 + (2 * (I13 100 2))) + 1), .inr (.inr (some 100))], (I13, L10, X), 0, 0) (fun _ => rfl) ?_
        refine yi_G_iast (76, [(0, .inr (.inr (some 82))), (1, .inl pe), (2, .inl pr)], [], ((yi_u I13 100 (((68 + (2 * (I13 100 2))) + 1).toNat) pr), L10, X), 0, 0) rfl (ym_si hS 17 rfl (by omega) (by omega)) ?_
        generalize w16 : yi_u I13 100 (((68 + (2 * (I13 100 2))) + 1).toNat) pr = I15
        refine yi_G_run 1 (77, [(0, .inr (.inr (some 82))), (1, .inl pe), (2, .inl pr)], [.inr (.inr (some 82))], (I15, L10, X), 0, 0) (fun _ => rfl) ?_
        refine yi_G_get (80, [(0, .inr (.inr (some 82))), (1, .inl pe), (2, .inl pr)], [.inr (.inr (some 100))], (I15, L10, X), 0, 0) rfl (ym_gr hS 17 rfl rfl rfl) ?_
        refine yi_G_run 2 (82, [(0, .inr (.inr (some 82))), (1, .inl pe), (2, .inl pr)], [.inl 2, .inr (.inr (some 100)), .inl 2, .inr (.inr (some 100))], (I15, L10, X), 0, 0) (fun _ => rfl) ?_
        have e4 : I15 100 2 = I 100 2 := by rw [← w16, yi_u_ne _ _ (by omega)]; exact e3
        refine yi_G_iald (83, [(0, .inr (.inr (some 82))), (1, .inl pe), (2, .inl pr)], [.inl (I15 100 2), .inl 2, .inr (.inr (some 100))], (I15, L10, X), 0, 0) rfl (ym_li hS 17 rfl (by omega) (by omega) rfl) ?_
        refine yi_G_run 1 (84, [(0, .inr (.inr (some 82))), (1, .inl pe), (2, .inl pr)], [.inl 1, .inl (I15 100 2), .inl 2, .inr (.inr (some 100))], (I15, L10, X), 0, 0) (fun _ => rfl) ?_
        refine yi_G_iadd rfl ((I15 100 2) + 1) (yi_wn (by omega) (by omega)) ?_
        refine yi_G_iast (86, [(0, .inr (.inr (some 82))), (1, .inl pe), (2, .inl pr)], [], ((yi_u I15 100 2 ((I15 100 2) + 1)), L10, X), 0, 0) rfl (ym_si hS 17 rfl (by omega) (by omega)) ?_
        generalize w18 : yi_u I15 100 2 ((I15 100 2) + 1) = I17
        refine yi_G_run 1 (87, [(0, .inr (.inr (some 82))), (1, .inl pe), (2, .inl pr)], [.inr (.inr (some 82))], (I17, L10, X), 0, 0) (fun _ => rfl) ?_
        refine yi_G_get (90, [(0, .inr (.inr (some 82))), (1, .inl pe), (2, .inl pr)], [.inr (.inr (some 100))], (I17, L10, X), 0, 0) rfl (ym_gr hS 17 rfl rfl rfl) ?_
        refine yi_G_run 1 (91, [(0, .inr (.inr (some 82))), (1, .inl pe), (2, .inl pr)], [.inl 2, .inr (.inr (some 100))], (I17, L10, X), 0, 0) (fun _ => rfl) ?_
        have r19 : I17 100 2 = (I15 100 2) + 1 := by rw [← w18, yi_u_eq]
        refine yi_G_iald (92, [(0, .inr (.inr (some 82))), (1, .inl pe), (2, .inl pr)], [.inl ((I15 100 2) + 1)], (I17, L10, X), 0, 0) rfl (ym_li hS 17 rfl (by omega) (by omega) r19) ?_
        exact yi_G_reti rfl rfl (⟨_, _, _, rfl, (fun p k hp => by rw [← w18, yi_u_ne _ _ (fun z => by omega), ← w16, yi_u_ne _ _ (fun z => by omega), ← w14, yi_u_ne _ _ (fun z => by omega), f9 p k (by omega), ← w2, yi_u_ne _ _ (fun z => by omega)]), (fun p k hp => by rw [f11 p k (by omega)]), ⟨by rw [← w18, yi_u_ne _ _ (by omega), ← w16, yi_u_ne _ _ (by omega), ← w14, yi_u_ne _ _ (by omega)]; exact ubk.1, fun u a b => ym_SB_cp (I := I8) (by omega) (by omega) (fun k a1 b1 => by rw [← w18, yi_u_ne _ _ (by omega), ← w16, yi_u_ne _ _ (by omega), ← w14, yi_u_ne _ _ (by omega)]) (ubk.2 u a (by rw [← w18, yi_u_ne _ _ (by omega), ← w16, yi_u_ne _ _ (by omega), ← w14, yi_u_ne _ _ (by omega)] at b; exact b))⟩, (by
        have h0 : ym_SB I8 0 := ym_SB_cp (I := I) (by omega) (by omega) (fun k a b => by rw [lok _ (by omega), ← w2, yi_u_ne _ _ (by omega)]) h00
        obtain ⟨g1, g2, g3, g4, g5⟩ := h0
        have n2 : I17 100 2 = I15 100 2 + 1 := by rw [← w18, yi_u_eq]
        refine ⟨by rw [← w18, yi_u_ne _ _ (by omega), ← w16, yi_u_ne _ _ (by omega), ← w14, yi_u_ne _ _ (by omega)]; exact g1, by rw [← w18, yi_u_ne _ _ (by omega), ← w16, yi_u_ne _ _ (by omega), ← w14, yi_u_ne _ _ (by omega)]; exact g2, ⟨?_, ?_⟩, fun s a b => by rw [← w18, yi_u_ne _ _ (by omega), ← w16, yi_u_ne _ _ (by omega), ← w14, yi_u_ne _ _ (by omega)]; exact g4 s a b, fun k a b => by rw [← w18, yi_u_ne _ _ (by omega), ← w16, yi_u_ne _ _ (by omega), ← w14, yi_u_ne _ _ (by omega)]; exact g5 k a b⟩
        · show 0 ≤ I17 100 2
          omega
        · show I17 100 2 ≤ 20
          omega), (fun k a b => by rw [← w18, yi_u_ne _ _ (by omega), ← w16, yi_u_ne _ _ (by omega), ← w14, yi_u_ne _ _ (by omega), lok k (by omega)]; exact (fun k => by rw [← w2, yi_u_ne _ _ (by omega)]) k)⟩)
    · show yi_G zi_Ms d zi_m90 (20, [(0, .inr (.inr (some 82))), (1, .inl pe), (2, .inl pr)], [.inl 0], (I1, L, X), 0, 0) _
      refine yi_G_if1 true rfl (by decide) ?_
      refine yi_G_run 1 (35, [(0, .inr (.inr (some 82))), (1, .inl pe), (2, .inl pr)], [.inl (-1)], (I1, L, X), 0, 0) (fun _ => rfl) ?_
      exact yi_G_reti rfl rfl (⟨_, _, _, rfl, (fun p k hp => by rw [← w2, yi_u_ne _ _ (fun z => by omega)]), (fun _ _ _ => rfl), ⟨by rw [← w2, yi_u_ne _ _ (by omega)]; exact hU.1, fun u a b => ym_SB_t (I := I) (by omega) (fun k => by rw [← w2, yi_u_ne _ _ (by omega)]) (hU.2 u a (by rw [← w2, yi_u_ne _ _ (by omega)] at b; exact b))⟩, ym_SB_t (I := I) (by omega) (fun k => by rw [← w2, yi_u_ne _ _ (by omega)]) h00, fun k _ _ => (fun k => by rw [← w2, yi_u_ne _ _ (by omega)]) k⟩)
  · show yi_G zi_Ms d zi_m90 (10, [(0, .inr (.inr (some 82))), (1, .inl pe), (2, .inl pr)], [.inl 0], (I1, L, X), 0, 0) _
    refine yi_G_if1 true rfl (by decide) ?_
    refine yi_G_run 1 (35, [(0, .inr (.inr (some 82))), (1, .inl pe), (2, .inl pr)], [.inl (-1)], (I1, L, X), 0, 0) (fun _ => rfl) ?_
    exact yi_G_reti rfl rfl (⟨_, _, _, rfl, (fun p k hp => by rw [← w2, yi_u_ne _ _ (fun z => by omega)]), (fun _ _ _ => rfl), ⟨by rw [← w2, yi_u_ne _ _ (by omega)]; exact hU.1, fun u a b => ym_SB_t (I := I) (by omega) (fun k => by rw [← w2, yi_u_ne _ _ (by omega)]) (hU.2 u a (by rw [← w2, yi_u_ne _ _ (by omega)] at b; exact b))⟩, ym_SB_t (I := I) (by omega) (fun k => by rw [← w2, yi_u_ne _ _ (by omega)]) h00, fun k _ _ => (fun k => by rw [← w2, yi_u_ne _ _ (by omega)]) k⟩)
