/-! Formulas laid on rows; the futures of a land. -/
theorem c_laysFormula (D : Nat) (hD : 7 ≤ D) {I L : Nat → Nat → Int} {X : ym_X} (hS : ym_S X) {row fr ki e : Int} (hLR : ym_LR I) (hPW : ym_PW I) (hP : ym_PG I fr e) (h0 : 0 ≤ row) (h1 : row ≤ 311) (hF : 0 ≤ I 82 24 ∧ I 82 24 ≤ 32768) (hl : 0 ≤ I 82 25 ∧ I 82 25 ≤ 512) : yi_E zi_Ms D 75 [.inr (.inr (some 82)), .inl row, .inl fr, .inl ki] (I, L, X) (fun r => ∃ I' L', r = (none, (I', L', X), 0, 0) ∧ (∀ p k, p ≠ 96 ∧ p ≠ 99 ∧ ¬ (p = 82 ∧ k = 28) → I' p k = I p k) ∧ (∀ p k, p ≠ 97 → L' p k = L p k)) := by
  obtain ⟨d, rfl⟩ : ∃ d, D = d + 1 := ⟨D - 1, by omega⟩
  refine yi_E_of (M := zi_m75) rfl rfl ?_
  obtain ⟨l0, l1, l2, l3, l4, l5⟩ := id hLR
  have pt42 : ∀ (m : Nat) (f : Int) (b : Int) (I1 : Nat → Nat → Int) (L1 : Nat → Nat → Int), (0 ≤ f) → (f ≤ I 82 24) → (∀ p k, p ≠ 96 ∧ p ≠ 99 ∧ ¬ (p = 82 ∧ k = 28) → I1 p k = I p k) → (∀ p k, p ≠ 97 → L1 p k = L p k) → (I 82 24 - f).toNat = m → yi_G zi_Ms d zi_m75 (42, [(5, .inl f), (4, .inl b), (0, .inr (.inr (some 82))), (1, .inl row), (2, .inl fr), (3, .inl ki)], [], (I1, L1, X), 0, 0) (fun r => ∃ I' L', r = (none, (I', L', X), 0, 0) ∧ (∀ p k, p ≠ 96 ∧ p ≠ 99 ∧ ¬ (p = 82 ∧ k = 28) → I' p k = I p k) ∧ (∀ p k, p ≠ 97 → L' p k = L p k)) := by
    intro m42
    induction m42 using Nat.strongRecOn with
    | _ m42 ih42 =>
    intro f b I1 L1 f0 f1 fm fl hm42
    refine yi_G_run 2 (45, [(5, .inl f), (4, .inl b), (0, .inr (.inr (some 82))), (1, .inl row), (2, .inl fr), (3, .inl ki)], [.inr (.inr (some 82)), .inl f], (I1, L1, X), 0, 0) (fun _ => rfl) ?_
    have r1 : I1 82 24 = I 82 24 := by rw [fm 82 (24) (by omega)]
    refine yi_G_get (48, [(5, .inl f), (4, .inl b), (0, .inr (.inr (some 82))), (1, .inl row), (2, .inl fr), (3, .inl ki)], [.inl (I 82 24), .inl f], (I1, L1, X), 0, 0) rfl (ym_gi hS rfl rfl r1) ?_
    by_cases h2 : (I 82 24) ≤ f
    · refine yi_G_if2 true rfl (yi_ge_t h2) ?_
      refine yi_G_run 2 (103, [(5, .inl f), (4, .inl b), (0, .inr (.inr (some 82))), (1, .inl row), (2, .inl fr), (3, .inl ki)], [.inl 0, .inr (.inr (some 82))], (I1, L1, X), 0, 0) (fun _ => rfl) ?_
      refine yi_G_put (106, [(5, .inl f), (4, .inl b), (0, .inr (.inr (some 82))), (1, .inl row), (2, .inl fr), (3, .inl ki)], [], ((yi_u I1 82 28 0), L1, X), 0, 0) rfl (ym_pi hS rfl rfl) ?_
      generalize w4 : yi_u I1 82 28 0 = I3
      exact yi_G_retv rfl rfl (⟨_, _, rfl, (fun p k hp => by rw [← w4, yi_u_ne _ _ (fun z => by omega), fm p k (by omega)]), (fun p k hp => by rw [fl p k (by omega)])⟩)
    · refine yi_G_if2 false rfl (yi_ge_f h2) ?_
      refine yi_G_run 1 (53, [(5, .inl f), (4, .inl b), (0, .inr (.inr (some 82))), (1, .inl row), (2, .inl fr), (3, .inl ki)], [.inl b], (I1, L1, X), 0, 0) (fun _ => rfl) ?_
      by_cases h5 : b = 0
      · refine yi_G_if1 false rfl (yi_ne_f h5) ?_
        refine yi_G_run 2 (59, [(5, .inl f), (4, .inl b), (0, .inr (.inr (some 82))), (1, .inl row), (2, .inl fr), (3, .inl ki)], [.inl f, .inr (.inr (some 82))], (I1, L1, X), 0, 0) (fun _ => rfl) ?_
        refine yi_G_callv rfl rfl (ym_rcv hS) rfl (c_laysFuture d (by omega) hS (ym_LR_t (fun k => by rw [fm 88 k (by omega)]) hLR) (ym_PW_t (fun k => by rw [fm 88 k (by omega)]) (fun k => by rw [fm 98 k (by omega)]) hPW) (by omega) (by omega)) ?_
        rintro _ ⟨I6, rfl, f7, h8⟩
        show yi_G zi_Ms d zi_m75 (62, [(5, .inl f), (4, .inl b), (0, .inr (.inr (some 82))), (1, .inl row), (2, .inl fr), (3, .inl ki)], [], (I6, L1, X), 0, 0) _
        refine yi_G_run 2 (64, [(5, .inl f), (4, .inl b), (0, .inr (.inr (some 82))), (1, .inl row), (2, .inl fr), (3, .inl ki)], [.inl fr, .inr (.inr (some 82))], (I6, L1, X), 0, 0) (fun _ => rfl) ?_
        refine yi_G_callv rfl rfl (ym_rcv hS) rfl (c_worthAt d (by omega) hS (ym_LR_t (fun k => by rw [f7 88 k (by omega), fm 88 k (by omega)]) hLR) (ym_PG_t (fun k => by rw [f7 89 k (by omega), fm 89 k (by omega)]) (fun k => by rw [f7 90 k (by omega), fm 90 k (by omega)]) hP)) ?_
        rintro _ ⟨z9, I10, rfl, f11⟩
        show yi_G zi_Ms d zi_m75 (67, [(5, .inl f), (4, .inl b), (0, .inr (.inr (some 82))), (1, .inl row), (2, .inl fr), (3, .inl ki)], [.inl z9], (I10, L1, X), 0, 0) _
        by_cases h12 : z9 = 0
        · refine yi_G_if1 true rfl (yi_eq_t h12) ?_
          refine yi_G_run 3 (77, [(5, .inl f), (4, .inl b), (0, .inr (.inr (some 82))), (1, .inl row), (2, .inl fr), (3, .inl ki)], [.inl 2, .inl ki, .inl 0], (I10, L1, X), 0, 0) (fun _ => rfl) ?_
          by_cases h13 : ki = 2
          · refine yi_G_if2 false rfl (yi_ne_f h13) ?_
            refine yi_G_run 2 (85, [(5, .inl f), (4, .inl b), (0, .inr (.inr (some 82))), (1, .inl row), (2, .inl fr), (3, .inl ki)], [.inl 1, .inl 0], (I10, L1, X), 0, 0) (fun _ => rfl) ?_
            refine yi_G_if2 false rfl (by decide) ?_
            refine yi_G_run 3 (92, [(5, .inl f), (4, .inl b), (0, .inr (.inr (some 82))), (1, .inl row), (2, .inl fr), (3, .inl ki)], [.inl f, .inl row, .inr (.inr (some 82))], (I10, L1, X), 0, 0) (fun _ => rfl) ?_
            refine yi_G_callv rfl rfl (ym_rcv hS) rfl (w_sets (by omega) hS (by omega) (by omega) (by omega) (by omega) ) ?_
            rintro _ ⟨L14, rfl, f15⟩
            show yi_G zi_Ms d zi_m75 (95, [(5, .inl f), (4, .inl b), (0, .inr (.inr (some 82))), (1, .inl row), (2, .inl fr), (3, .inl ki)], [], (I10, L14, X), 0, 0) _
            refine yi_G_iinc [(5, .inl (f + 1)), (4, .inl b), (0, .inr (.inr (some 82))), (1, .inl row), (2, .inl fr), (3, .inl ki)] rfl rfl rfl (by rw [show yi_w (f + 1) = f + 1 from (yi_wn (by omega) (by omega)).trans (by omega)]; rfl) ?_
            refine yi_G_run 1 (42, [(5, .inl (f + 1)), (4, .inl b), (0, .inr (.inr (some 82))), (1, .inl row), (2, .inl fr), (3, .inl ki)], [], (I10, L14, X), 0, 0) (fun _ => rfl) ?_
            exact ih42 _ (by omega) (f + 1) b I10 L14 (by omega) (by omega) (fun p k hp => by rw [f11 p k (by omega), f7 p k (by omega), fm p k (by omega)]) (fun p k hp => by rw [f15 p k (by omega), fl p k (by omega)]) rfl
          · refine yi_G_if2 true rfl (yi_ne_t h13) ?_
            refine yi_G_run 1 (85, [(5, .inl f), (4, .inl b), (0, .inr (.inr (some 82))), (1, .inl row), (2, .inl fr), (3, .inl ki)], [.inl 0, .inl 0], (I10, L1, X), 0, 0) (fun _ => rfl) ?_
            refine yi_G_if2 true rfl (by decide) ?_
            refine yi_G_iinc [(5, .inl (f + 1)), (4, .inl b), (0, .inr (.inr (some 82))), (1, .inl row), (2, .inl fr), (3, .inl ki)] rfl rfl rfl (by rw [show yi_w (f + 1) = f + 1 from (yi_wn (by omega) (by omega)).trans (by omega)]; rfl) ?_
            refine yi_G_run 1 (42, [(5, .inl (f + 1)), (4, .inl b), (0, .inr (.inr (some 82))), (1, .inl row), (2, .inl fr), (3, .inl ki)], [], (I10, L1, X), 0, 0) (fun _ => rfl) ?_
            exact ih42 _ (by omega) (f + 1) b I10 L1 (by omega) (by omega) (fun p k hp => by rw [f11 p k (by omega), f7 p k (by omega), fm p k (by omega)]) (fun p k hp => by rw [fl p k (by omega)]) rfl
        · refine yi_G_if1 false rfl (yi_eq_f h12) ?_
          refine yi_G_run 4 (77, [(5, .inl f), (4, .inl b), (0, .inr (.inr (some 82))), (1, .inl row), (2, .inl fr), (3, .inl ki)], [.inl 2, .inl ki, .inl 1], (I10, L1, X), 0, 0) (fun _ => rfl) ?_
          by_cases h16 : ki = 2
          · refine yi_G_if2 false rfl (yi_ne_f h16) ?_
            refine yi_G_run 2 (85, [(5, .inl f), (4, .inl b), (0, .inr (.inr (some 82))), (1, .inl row), (2, .inl fr), (3, .inl ki)], [.inl 1, .inl 1], (I10, L1, X), 0, 0) (fun _ => rfl) ?_
            refine yi_G_if2 true rfl (by decide) ?_
            refine yi_G_iinc [(5, .inl (f + 1)), (4, .inl b), (0, .inr (.inr (some 82))), (1, .inl row), (2, .inl fr), (3, .inl ki)] rfl rfl rfl (by rw [show yi_w (f + 1) = f + 1 from (yi_wn (by omega) (by omega)).trans (by omega)]; rfl) ?_
            refine yi_G_run 1 (42, [(5, .inl (f + 1)), (4, .inl b), (0, .inr (.inr (some 82))), (1, .inl row), (2, .inl fr), (3, .inl ki)], [], (I10, L1, X), 0, 0) (fun _ => rfl) ?_
            exact ih42 _ (by omega) (f + 1) b I10 L1 (by omega) (by omega) (fun p k hp => by rw [f11 p k (by omega), f7 p k (by omega), fm p k (by omega)]) (fun p k hp => by rw [fl p k (by omega)]) rfl
          · refine yi_G_if2 true rfl (yi_ne_t h16) ?_
            refine yi_G_run 1 (85, [(5, .inl f), (4, .inl b), (0, .inr (.inr (some 82))), (1, .inl row), (2, .inl fr), (3, .inl ki)], [.inl 0, .inl 1], (I10, L1, X), 0, 0) (fun _ => rfl) ?_
            refine yi_G_if2 false rfl (by decide) ?_
            refine yi_G_run 3 (92, [(5, .inl f), (4, .inl b), (0, .inr (.inr (some 82))), (1, .inl row), (2, .inl fr), (3, .inl ki)], [.inl f, .inl row, .inr (.inr (some 82))], (I10, L1, X), 0, 0) (fun _ => rfl) ?_
            refine yi_G_callv rfl rfl (ym_rcv hS) rfl (w_sets (by omega) hS (by omega) (by omega) (by omega) (by omega) ) ?_
            rintro _ ⟨L17, rfl, f18⟩
            show yi_G zi_Ms d zi_m75 (95, [(5, .inl f), (4, .inl b), (0, .inr (.inr (some 82))), (1, .inl row), (2, .inl fr), (3, .inl ki)], [], (I10, L17, X), 0, 0) _
            refine yi_G_iinc [(5, .inl (f + 1)), (4, .inl b), (0, .inr (.inr (some 82))), (1, .inl row), (2, .inl fr), (3, .inl ki)] rfl rfl rfl (by rw [show yi_w (f + 1) = f + 1 from (yi_wn (by omega) (by omega)).trans (by omega)]; rfl) ?_
            refine yi_G_run 1 (42, [(5, .inl (f + 1)), (4, .inl b), (0, .inr (.inr (some 82))), (1, .inl row), (2, .inl fr), (3, .inl ki)], [], (I10, L17, X), 0, 0) (fun _ => rfl) ?_
            exact ih42 _ (by omega) (f + 1) b I10 L17 (by omega) (by omega) (fun p k hp => by rw [f11 p k (by omega), f7 p k (by omega), fm p k (by omega)]) (fun p k hp => by rw [f18 p k (by omega), fl p k (by omega)]) rfl
      · refine yi_G_if1 true rfl (yi_ne_t h5) ?_
        refine yi_G_run 2 (103, [(5, .inl f), (4, .inl b), (0, .inr (.inr (some 82))), (1, .inl row), (2, .inl fr), (3, .inl ki)], [.inl 0, .inr (.inr (some 82))], (I1, L1, X), 0, 0) (fun _ => rfl) ?_
        refine yi_G_put (106, [(5, .inl f), (4, .inl b), (0, .inr (.inr (some 82))), (1, .inl row), (2, .inl fr), (3, .inl ki)], [], ((yi_u I1 82 28 0), L1, X), 0, 0) rfl (ym_pi hS rfl rfl) ?_
        generalize w20 : yi_u I1 82 28 0 = I19
        exact yi_G_retv rfl rfl (⟨_, _, rfl, (fun p k hp => by rw [← w20, yi_u_ne _ _ (fun z => by omega), fm p k (by omega)]), (fun p k hp => by rw [fl p k (by omega)])⟩)
  show yi_G zi_Ms d zi_m75 (0, [(0, .inr (.inr (some 82))), (1, .inl row), (2, .inl fr), (3, .inl ki)], [], (I, L, X), 0, 0) _
  refine yi_G_run 2 (2, [(0, .inr (.inr (some 82))), (1, .inl row), (2, .inl fr), (3, .inl ki)], [.inl row, .inr (.inr (some 82))], (I, L, X), 0, 0) (fun _ => rfl) ?_
  refine yi_G_callv rfl rfl (ym_rcv hS) rfl (w_clears (by omega) hS (by omega) (by omega) (by omega) (by omega)) ?_
  rintro _ ⟨L21, rfl, f22⟩
  show yi_G zi_Ms d zi_m75 (5, [(0, .inr (.inr (some 82))), (1, .inl row), (2, .inl fr), (3, .inl ki)], [], (I, L21, X), 0, 0) _
  refine yi_G_run 3 (8, [(0, .inr (.inr (some 82))), (1, .inl row), (2, .inl fr), (3, .inl ki)], [.inl 1, .inl ki, .inr (.inr (some 82))], (I, L21, X), 0, 0) (fun _ => rfl) ?_
  by_cases h23 : ki = 1
  · refine yi_G_if2 false rfl (yi_ne_f h23) ?_
    refine yi_G_run 2 (16, [(0, .inr (.inr (some 82))), (1, .inl row), (2, .inl fr), (3, .inl ki)], [.inl 1, .inr (.inr (some 82))], (I, L21, X), 0, 0) (fun _ => rfl) ?_
    refine yi_G_put (19, [(0, .inr (.inr (some 82))), (1, .inl row), (2, .inl fr), (3, .inl ki)], [], ((yi_u I 82 28 1), L21, X), 0, 0) rfl (ym_pi hS rfl rfl) ?_
    generalize w25 : yi_u I 82 28 1 = I24
    refine yi_G_run 2 (21, [(0, .inr (.inr (some 82))), (1, .inl row), (2, .inl fr), (3, .inl ki)], [.inl 4, .inl ki], (I24, L21, X), 0, 0) (fun _ => rfl) ?_
    by_cases h26 : ki = 4
    · refine yi_G_if2 false rfl (yi_ne_f h26) ?_
      refine yi_G_run 2 (26, [(0, .inr (.inr (some 82))), (1, .inl row), (2, .inl fr), (3, .inl ki)], [.inl fr, .inr (.inr (some 82))], (I24, L21, X), 0, 0) (fun _ => rfl) ?_
      refine yi_G_callv rfl rfl (ym_rcv hS) rfl (c_isNaming d (by omega) hS (ym_LR_t (fun k => by rw [← w25, yi_u_ne _ _ (fun z => absurd z.1 (by decide))]) hLR) (ym_PG_t (fun k => by rw [← w25, yi_u_ne _ _ (fun z => absurd z.1 (by decide))]) (fun k => by rw [← w25, yi_u_ne _ _ (fun z => absurd z.1 (by decide))]) hP)) ?_
      rintro _ (rfl | rfl)
      · show yi_G zi_Ms d zi_m75 (29, [(0, .inr (.inr (some 82))), (1, .inl row), (2, .inl fr), (3, .inl ki)], [.inl 1], (I24, L21, X), 0, 0) _
        refine yi_G_if1 false rfl (by decide) ?_
        refine yi_G_run 5 (42, [(5, .inl 0), (4, .inl 1), (0, .inr (.inr (some 82))), (1, .inl row), (2, .inl fr), (3, .inl ki)], [], (I24, L21, X), 0, 0) (fun _ => rfl) ?_
        exact pt42 _  0 1 I24 L21 (by omega) (by omega) (fun p k hp => by rw [← w25, yi_u_ne _ _ (fun z => by omega)]) (fun p k hp => by rw [f22 p k (by omega)]) rfl
      · show yi_G zi_Ms d zi_m75 (29, [(0, .inr (.inr (some 82))), (1, .inl row), (2, .inl fr), (3, .inl ki)], [.inl 0], (I24, L21, X), 0, 0) _
        refine yi_G_if1 true rfl (by decide) ?_
        refine yi_G_run 4 (42, [(5, .inl 0), (4, .inl 0), (0, .inr (.inr (some 82))), (1, .inl row), (2, .inl fr), (3, .inl ki)], [], (I24, L21, X), 0, 0) (fun _ => rfl) ?_
        exact pt42 _  0 0 I24 L21 (by omega) (by omega) (fun p k hp => by rw [← w25, yi_u_ne _ _ (fun z => by omega)]) (fun p k hp => by rw [f22 p k (by omega)]) rfl
    · refine yi_G_if2 true rfl (yi_ne_t h26) ?_
      refine yi_G_run 4 (42, [(5, .inl 0), (4, .inl 0), (0, .inr (.inr (some 82))), (1, .inl row), (2, .inl fr), (3, .inl ki)], [], (I24, L21, X), 0, 0) (fun _ => rfl) ?_
      exact pt42 _  0 0 I24 L21 (by omega) (by omega) (fun p k hp => by rw [← w25, yi_u_ne _ _ (fun z => by omega)]) (fun p k hp => by rw [f22 p k (by omega)]) rfl
  · refine yi_G_if2 true rfl (yi_ne_t h23) ?_
    refine yi_G_run 1 (16, [(0, .inr (.inr (some 82))), (1, .inl row), (2, .inl fr), (3, .inl ki)], [.inl 0, .inr (.inr (some 82))], (I, L21, X), 0, 0) (fun _ => rfl) ?_
    refine yi_G_put (19, [(0, .inr (.inr (some 82))), (1, .inl row), (2, .inl fr), (3, .inl ki)], [], ((yi_u I 82 28 0), L21, X), 0, 0) rfl (ym_pi hS rfl rfl) ?_
    generalize w28 : yi_u I 82 28 0 = I27
    refine yi_G_run 2 (21, [(0, .inr (.inr (some 82))), (1, .inl row), (2, .inl fr), (3, .inl ki)], [.inl 4, .inl ki], (I27, L21, X), 0, 0) (fun _ => rfl) ?_
    by_cases h29 : ki = 4
    · refine yi_G_if2 false rfl (yi_ne_f h29) ?_
      refine yi_G_run 2 (26, [(0, .inr (.inr (some 82))), (1, .inl row), (2, .inl fr), (3, .inl ki)], [.inl fr, .inr (.inr (some 82))], (I27, L21, X), 0, 0) (fun _ => rfl) ?_
      refine yi_G_callv rfl rfl (ym_rcv hS) rfl (c_isNaming d (by omega) hS (ym_LR_t (fun k => by rw [← w28, yi_u_ne _ _ (fun z => absurd z.1 (by decide))]) hLR) (ym_PG_t (fun k => by rw [← w28, yi_u_ne _ _ (fun z => absurd z.1 (by decide))]) (fun k => by rw [← w28, yi_u_ne _ _ (fun z => absurd z.1 (by decide))]) hP)) ?_
      rintro _ (rfl | rfl)
      · show yi_G zi_Ms d zi_m75 (29, [(0, .inr (.inr (some 82))), (1, .inl row), (2, .inl fr), (3, .inl ki)], [.inl 1], (I27, L21, X), 0, 0) _
        refine yi_G_if1 false rfl (by decide) ?_
        refine yi_G_run 5 (42, [(5, .inl 0), (4, .inl 1), (0, .inr (.inr (some 82))), (1, .inl row), (2, .inl fr), (3, .inl ki)], [], (I27, L21, X), 0, 0) (fun _ => rfl) ?_
        exact pt42 _  0 1 I27 L21 (by omega) (by omega) (fun p k hp => by rw [← w28, yi_u_ne _ _ (fun z => by omega)]) (fun p k hp => by rw [f22 p k (by omega)]) rfl
      · show yi_G zi_Ms d zi_m75 (29, [(0, .inr (.inr (some 82))), (1, .inl row), (2, .inl fr), (3, .inl ki)], [.inl 0], (I27, L21, X), 0, 0) _
        refine yi_G_if1 true rfl (by decide) ?_
        refine yi_G_run 4 (42, [(5, .inl 0), (4, .inl 0), (0, .inr (.inr (some 82))), (1, .inl row), (2, .inl fr), (3, .inl ki)], [], (I27, L21, X), 0, 0) (fun _ => rfl) ?_
        exact pt42 _  0 0 I27 L21 (by omega) (by omega) (fun p k hp => by rw [← w28, yi_u_ne _ _ (fun z => by omega)]) (fun p k hp => by rw [f22 p k (by omega)]) rfl
    · refine yi_G_if2 true rfl (yi_ne_t h29) ?_
      refine yi_G_run 4 (42, [(5, .inl 0), (4, .inl 0), (0, .inr (.inr (some 82))), (1, .inl row), (2, .inl fr), (3, .inl ki)], [], (I27, L21, X), 0, 0) (fun _ => rfl) ?_
      exact pt42 _  0 0 I27 L21 (by omega) (by omega) (fun p k hp => by rw [← w28, yi_u_ne _ _ (fun z => by omega)]) (fun p k hp => by rw [f22 p k (by omega)]) rfl
