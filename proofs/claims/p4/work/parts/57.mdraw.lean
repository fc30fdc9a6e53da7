/-! What makes a word sure; draws. -/
theorem c_findMaking (D : Nat) (hD : 5 ≤ D) {I L : Nat → Nat → Int} {X : ym_X} (hS : ym_S X) {nu : Int} (hLR : ym_LR I) (hS0 : ym_S0 I) (hl : 0 ≤ I 82 25 ∧ I 82 25 ≤ 512) (h0 : 0 ≤ nu) (h1 : nu ≤ 95) : yi_E zi_Ms D 29 [.inr (.inr (some 82)), .inl nu] (I, L, X) (fun r => ∃ z I' L', r = (some (.inl z), (I', L', X), 0, 0) ∧ (∀ p k, p ≠ 103 ∧ p ≠ 104 ∧ ¬ (p = 82 ∧ k = 37) → I' p k = I p k) ∧ (∀ p k, p ≠ 97 → L' p k = L p k) ∧ -1 ≤ z ∧ z ≤ 2) := by
  obtain ⟨d, rfl⟩ : ∃ d, D = d + 1 := ⟨D - 1, by omega⟩
  refine yi_E_of (M := zi_m29) rfl rfl ?_
  obtain ⟨l0, l1, l2, l3, l4, l5⟩ := id hLR
  obtain ⟨t0, t1, t2, t3, t4⟩ := id hS0
  show yi_G zi_Ms d zi_m29 (0, [(0, .inr (.inr (some 82))), (1, .inl nu)], [], (I, L, X), 0, 0) _
  refine yi_G_run 1 (1, [(0, .inr (.inr (some 82))), (1, .inl nu)], [.inr (.inr (some 82))], (I, L, X), 0, 0) (fun _ => rfl) ?_
  refine yi_G_callv rfl rfl (ym_rcv hS) rfl (c_findOpen d (by omega) hS hLR hS0 ⟨(by omega), (by omega)⟩) ?_
  rintro _ ⟨I1, L3, rfl, f2, f4, ob, oh⟩
  show yi_G zi_Ms d zi_m29 (4, [(0, .inr (.inr (some 82))), (1, .inl nu)], [], (I1, L3, X), 0, 0) _
  refine yi_G_run 2 (6, [(0, .inr (.inr (some 82))), (1, .inl nu)], [.inl nu, .inr (.inr (some 82))], (I1, L3, X), 0, 0) (fun _ => rfl) ?_
  refine yi_G_callv rfl rfl (ym_rcv hS) rfl (c_rowOf d (by omega) hS (ym_LR_t (fun k => by rw [f2 88 k (by omega)]) hLR) (by omega) (by omega)) ?_
  rintro _ ⟨z5, rfl, h6a, h6b⟩
  show yi_G zi_Ms d zi_m29 (9, [(0, .inr (.inr (some 82))), (1, .inl nu)], [.inl z5], (I1, L3, X), 0, 0) _
  refine yi_G_run 4 (14, [(2, .inl z5), (0, .inr (.inr (some 82))), (1, .inl nu)], [.inl z5, .inl 39, .inr (.inr (some 82))], (I1, L3, X), 0, 0) (fun _ => rfl) ?_
  have r7 : I1 82 25 = I 82 25 := by rw [f2 82 (25) (by omega)]
  refine yi_G_callv rfl rfl (ym_rcv hS) rfl (c_makes d (by omega) hS (by omega) (by omega) (by omega) (by omega) ⟨(by rw [r7]; omega), (by rw [r7]; omega)⟩) ?_
  rintro _ (rfl | rfl)
  · show yi_G zi_Ms d zi_m29 (17, [(2, .inl z5), (0, .inr (.inr (some 82))), (1, .inl nu)], [.inl 1], (I1, L3, X), 0, 0) _
    refine yi_G_if1 false rfl (by decide) ?_
    refine yi_G_run 1 (21, [(2, .inl z5), (0, .inr (.inr (some 82))), (1, .inl nu)], [.inl 0], (I1, L3, X), 0, 0) (fun _ => rfl) ?_
    exact yi_G_reti rfl rfl (⟨_, _, _, rfl, (fun p k hp => by rw [f2 p k (by omega)]), (fun p k hp => by rw [f4 p k (by omega)]), by omega, by omega⟩)
  · show yi_G zi_Ms d zi_m29 (17, [(2, .inl z5), (0, .inr (.inr (some 82))), (1, .inl nu)], [.inl 0], (I1, L3, X), 0, 0) _
    refine yi_G_if1 true rfl (by decide) ?_
    refine yi_G_run 2 (24, [(3, .inl 1), (2, .inl z5), (0, .inr (.inr (some 82))), (1, .inl nu)], [], (I1, L3, X), 0, 0) (fun _ => rfl) ?_
    have pt24 : ∀ (m : Nat) (mq : Int) (Ka : Nat → Nat → Int), (∀ p k, p ≠ 97 → Ka p k = L3 p k) → (1 ≤ mq) → (mq ≤ 3) → (3 - mq).toNat = m → yi_G zi_Ms d zi_m29 (24, [(3, .inl mq), (2, .inl z5), (0, .inr (.inr (some 82))), (1, .inl nu)], [], (I1, Ka, X), 0, 0) (fun r => ∃ z I' L', r = (some (.inl z), (I', L', X), 0, 0) ∧ (∀ p k, p ≠ 103 ∧ p ≠ 104 ∧ ¬ (p = 82 ∧ k = 37) → I' p k = I p k) ∧ (∀ p k, p ≠ 97 → L' p k = L p k) ∧ -1 ≤ z ∧ z ≤ 2) := by
      intro m24
      induction m24 using Nat.strongRecOn with
      | _ m24 ih24 =>
      intro mq Ka fKa mq0 mq1 hm24
      refine yi_G_run 2 (26, [(3, .inl mq), (2, .inl z5), (0, .inr (.inr (some 82))), (1, .inl nu)], [.inl 3, .inl mq], (I1, Ka, X), 0, 0) (fun _ => rfl) ?_
      by_cases h8 : 3 ≤ mq
      · refine yi_G_if2 true rfl (yi_ge_t h8) ?_
        refine yi_G_run 1 (199, [(3, .inl mq), (2, .inl z5), (0, .inr (.inr (some 82))), (1, .inl nu)], [.inl (-1)], (I1, Ka, X), 0, 0) (fun _ => rfl) ?_
        exact yi_G_reti rfl rfl (⟨_, _, _, rfl, (fun p k hp => by rw [f2 p k (by omega)]), (fun p k hp => by rw [fKa p k (by omega), f4 p k (by omega)]), by omega, by omega⟩)
      · refine yi_G_if2 false rfl (yi_ge_f h8) ?_
        refine yi_G_run 2 (32, [(4, .inl 0), (3, .inl mq), (2, .inl z5), (0, .inr (.inr (some 82))), (1, .inl nu)], [], (I1, Ka, X), 0, 0) (fun _ => rfl) ?_
        have pt32 : ∀ (m : Nat) (a : Int) (Kb : Nat → Nat → Int), (∀ p k, p ≠ 97 → Kb p k = Ka p k) → (0 ≤ a) → (a ≤ I1 82 37) → (I1 82 37 - a).toNat = m → yi_G zi_Ms d zi_m29 (32, [(4, .inl a), (3, .inl mq), (2, .inl z5), (0, .inr (.inr (some 82))), (1, .inl nu)], [], (I1, Kb, X), 0, 0) (fun r => ∃ z I' L', r = (some (.inl z), (I', L', X), 0, 0) ∧ (∀ p k, p ≠ 103 ∧ p ≠ 104 ∧ ¬ (p = 82 ∧ k = 37) → I' p k = I p k) ∧ (∀ p k, p ≠ 97 → L' p k = L p k) ∧ -1 ≤ z ∧ z ≤ 2) := by
          intro m32
          induction m32 using Nat.strongRecOn with
          | _ m32 ih32 =>
          intro a Kb fKb a0 a1 hm32
          refine yi_G_run 2 (35, [(4, .inl a), (3, .inl mq), (2, .inl z5), (0, .inr (.inr (some 82))), (1, .inl nu)], [.inr (.inr (some 82)), .inl a], (I1, Kb, X), 0, 0) (fun _ => rfl) ?_
          refine yi_G_get (38, [(4, .inl a), (3, .inl mq), (2, .inl z5), (0, .inr (.inr (some 82))), (1, .inl nu)], [.inl (I1 82 37), .inl a], (I1, Kb, X), 0, 0) rfl (ym_gi hS rfl rfl rfl) ?_
          by_cases h9 : (I1 82 37) ≤ a
          · refine yi_G_if2 true rfl (yi_ge_t h9) ?_
            refine yi_G_iinc [(3, .inl (mq + 1)), (4, .inl a), (2, .inl z5), (0, .inr (.inr (some 82))), (1, .inl nu)] rfl rfl rfl (by rw [show yi_w (mq + 1) = mq + 1 from (yi_wn (by omega) (by omega)).trans (by omega)]; rfl) ?_
            refine yi_G_run 1 (24, [(3, .inl (mq + 1)), (4, .inl a), (2, .inl z5), (0, .inr (.inr (some 82))), (1, .inl nu)], [], (I1, Kb, X), 0, 0) (fun _ => rfl) ?_
            refine yi_G_al (al := [(3, .inl (mq + 1)), (2, .inl z5), (0, .inr (.inr (some 82))), (1, .inl nu)]) (show ([3, 2, 0, 1] : List Nat).Nodup by decide) (show ([3, 4, 2, 0, 1] : List Nat).Nodup by decide) (yi_mc (List.mem_of_getElem? (i := 0) rfl) (yi_mc (List.mem_of_getElem? (i := 2) rfl) (yi_mc (List.mem_of_getElem? (i := 3) rfl) (yi_mc (List.mem_of_getElem? (i := 4) rfl) yi_mn)))) ?_
            exact ih24 _ (by omega) (mq + 1) Kb (fun p k hp => by rw [fKb p k (by omega), fKa p k (by omega)]) (by omega) (by omega) rfl
          · refine yi_G_if2 false rfl (yi_ge_f h9) ?_
            refine yi_G_run 2 (43, [(4, .inl a), (3, .inl mq), (2, .inl z5), (0, .inr (.inr (some 82))), (1, .inl nu)], [.inl 1, .inl mq], (I1, Kb, X), 0, 0) (fun _ => rfl) ?_
            by_cases h10 : mq = 1
            · refine yi_G_if2 false rfl (yi_ne_f h10) ?_
              refine yi_G_run 3 (57, [(5, .inl a), (4, .inl a), (3, .inl mq), (2, .inl z5), (0, .inr (.inr (some 82))), (1, .inl nu)], [], (I1, Kb, X), 0, 0) (fun _ => rfl) ?_
              have pt57 : ∀ (m : Nat) (b : Int) (Kc : Nat → Nat → Int), (∀ p k, p ≠ 97 → Kc p k = Kb p k) → (0 ≤ b) → (b ≤ I1 82 37 + 1) → (I1 82 37 + 1 - b).toNat = m → yi_G zi_Ms d zi_m29 (57, [(5, .inl b), (4, .inl a), (3, .inl mq), (2, .inl z5), (0, .inr (.inr (some 82))), (1, .inl nu)], [], (I1, Kc, X), 0, 0) (fun r => ∃ z I' L', r = (some (.inl z), (I', L', X), 0, 0) ∧ (∀ p k, p ≠ 103 ∧ p ≠ 104 ∧ ¬ (p = 82 ∧ k = 37) → I' p k = I p k) ∧ (∀ p k, p ≠ 97 → L' p k = L p k) ∧ -1 ≤ z ∧ z ≤ 2) := by
                intro m57
                induction m57 using Nat.strongRecOn with
                | _ m57 ih57 =>
                intro b Kc fKc b0 b1 hm57
                refine yi_G_run 3 (61, [(5, .inl b), (4, .inl a), (3, .inl mq), (2, .inl z5), (0, .inr (.inr (some 82))), (1, .inl nu)], [.inl 1, .inl mq, .inl b], (I1, Kc, X), 0, 0) (fun _ => rfl) ?_
                by_cases h11 : mq = 1
                · refine yi_G_if2 false rfl (yi_ne_f h11) ?_
                  refine yi_G_run 2 (67, [(5, .inl b), (4, .inl a), (3, .inl mq), (2, .inl z5), (0, .inr (.inr (some 82))), (1, .inl nu)], [.inl 1, .inl a, .inl b], (I1, Kc, X), 0, 0) (fun _ => rfl) ?_
                  refine yi_G_iadd rfl (a + 1) (yi_wn (by omega) (by omega)) ?_
                  refine yi_G_run 1 (75, [(5, .inl b), (4, .inl a), (3, .inl mq), (2, .inl z5), (0, .inr (.inr (some 82))), (1, .inl nu)], [.inl (a + 1), .inl b], (I1, Kc, X), 0, 0) (fun _ => rfl) ?_
                  by_cases h12 : (a + 1) ≤ b
                  · refine yi_G_if2 true rfl (yi_ge_t h12) ?_
                    refine yi_G_iinc [(4, .inl (a + 1)), (5, .inl b), (3, .inl mq), (2, .inl z5), (0, .inr (.inr (some 82))), (1, .inl nu)] rfl rfl rfl (by rw [show yi_w (a + 1) = a + 1 from (yi_wn (by omega) (by omega)).trans (by omega)]; rfl) ?_
                    refine yi_G_run 1 (32, [(4, .inl (a + 1)), (5, .inl b), (3, .inl mq), (2, .inl z5), (0, .inr (.inr (some 82))), (1, .inl nu)], [], (I1, Kc, X), 0, 0) (fun _ => rfl) ?_
                    refine yi_G_al (al := [(4, .inl (a + 1)), (3, .inl mq), (2, .inl z5), (0, .inr (.inr (some 82))), (1, .inl nu)]) (show ([4, 3, 2, 0, 1] : List Nat).Nodup by decide) (show ([4, 5, 3, 2, 0, 1] : List Nat).Nodup by decide) (yi_mc (List.mem_of_getElem? (i := 0) rfl) (yi_mc (List.mem_of_getElem? (i := 2) rfl) (yi_mc (List.mem_of_getElem? (i := 3) rfl) (yi_mc (List.mem_of_getElem? (i := 4) rfl) (yi_mc (List.mem_of_getElem? (i := 5) rfl) yi_mn))))) ?_
                    exact ih32 _ (by omega) (a + 1) Kc (fun p k hp => by rw [fKc p k (by omega), fKb p k (by omega)]) (by omega) (by omega) rfl
                  · refine yi_G_if2 false rfl (yi_ge_f h12) ?_
                    refine yi_G_run 3 (83, [(5, .inl b), (4, .inl a), (3, .inl mq), (2, .inl z5), (0, .inr (.inr (some 82))), (1, .inl nu)], [.inl 59, .inl 39, .inr (.inr (some 82))], (I1, Kc, X), 0, 0) (fun _ => rfl) ?_
                    have r13 : I1 82 25 = I 82 25 := by rw [f2 82 (25) (by omega)]
                    refine yi_G_callv rfl rfl (ym_rcv hS) rfl (w_copiesRow (by omega) hS (by omega) (by omega) (by omega) (by omega) (by rw [r13]; omega) (by rw [r13]; omega)) ?_
                    rintro _ ⟨L14, rfl, f15⟩
                    show yi_G zi_Ms d zi_m29 (86, [(5, .inl b), (4, .inl a), (3, .inl mq), (2, .inl z5), (0, .inr (.inr (some 82))), (1, .inl nu)], [], (I1, L14, X), 0, 0) _
                    refine yi_G_run 4 (91, [(5, .inl b), (4, .inl a), (3, .inl mq), (2, .inl z5), (0, .inr (.inr (some 82))), (1, .inl nu)], [.inr (.inr (some 82)), .inr (.inr (some 82)), .inl 59, .inr (.inr (some 82))], (I1, L14, X), 0, 0) (fun _ => rfl) ?_
                    refine yi_G_get (94, [(5, .inl b), (4, .inl a), (3, .inl mq), (2, .inl z5), (0, .inr (.inr (some 82))), (1, .inl nu)], [.inr (.inr (some 103)), .inr (.inr (some 82)), .inl 59, .inr (.inr (some 82))], (I1, L14, X), 0, 0) rfl (ym_gr hS 20 rfl rfl rfl) ?_
                    refine yi_G_run 1 (96, [(5, .inl b), (4, .inl a), (3, .inl mq), (2, .inl z5), (0, .inr (.inr (some 82))), (1, .inl nu)], [.inl a, .inr (.inr (some 103)), .inr (.inr (some 82)), .inl 59, .inr (.inr (some 82))], (I1, L14, X), 0, 0) (fun _ => rfl) ?_
                    have oa := oh a (by omega) (by omega)
                    refine yi_G_iald (97, [(5, .inl b), (4, .inl a), (3, .inl mq), (2, .inl z5), (0, .inr (.inr (some 82))), (1, .inl nu)], [.inl (I1 103 (a.toNat)), .inr (.inr (some 82)), .inl 59, .inr (.inr (some 82))], (I1, L14, X), 0, 0) rfl (ym_li hS 20 rfl (by omega) (by omega) rfl) ?_
                    refine yi_G_callv rfl rfl (ym_rcv hS) rfl (c_rowOf d (by omega) hS (ym_LR_t (fun k => by rw [f2 88 k (by omega)]) hLR) (by omega) (by omega)) ?_
                    rintro _ ⟨z16, rfl, h17a, h17b⟩
                    show yi_G zi_Ms d zi_m29 (100, [(5, .inl b), (4, .inl a), (3, .inl mq), (2, .inl z5), (0, .inr (.inr (some 82))), (1, .inl nu)], [.inl z16, .inl 59, .inr (.inr (some 82))], (I1, L14, X), 0, 0) _
                    have r18 : I1 82 25 = I 82 25 := by rw [f2 82 (25) (by omega)]
                    refine yi_G_callv rfl rfl (ym_rcv hS) rfl (w_meets (by omega) hS (by omega) (by omega) (by omega) (by omega) (by rw [r18]; omega) (by rw [r18]; omega)) ?_
                    rintro _ ⟨L19, rfl, f20⟩
                    show yi_G zi_Ms d zi_m29 (103, [(5, .inl b), (4, .inl a), (3, .inl mq), (2, .inl z5), (0, .inr (.inr (some 82))), (1, .inl nu)], [], (I1, L19, X), 0, 0) _
                    refine yi_G_run 4 (108, [(5, .inl b), (4, .inl a), (3, .inl mq), (2, .inl z5), (0, .inr (.inr (some 82))), (1, .inl nu)], [.inr (.inr (some 82)), .inr (.inr (some 82)), .inl 59, .inr (.inr (some 82))], (I1, L19, X), 0, 0) (fun _ => rfl) ?_
                    refine yi_G_get (111, [(5, .inl b), (4, .inl a), (3, .inl mq), (2, .inl z5), (0, .inr (.inr (some 82))), (1, .inl nu)], [.inr (.inr (some 103)), .inr (.inr (some 82)), .inl 59, .inr (.inr (some 82))], (I1, L19, X), 0, 0) rfl (ym_gr hS 20 rfl rfl rfl) ?_
                    refine yi_G_run 1 (113, [(5, .inl b), (4, .inl a), (3, .inl mq), (2, .inl z5), (0, .inr (.inr (some 82))), (1, .inl nu)], [.inl b, .inr (.inr (some 103)), .inr (.inr (some 82)), .inl 59, .inr (.inr (some 82))], (I1, L19, X), 0, 0) (fun _ => rfl) ?_
                    have obb := oh b (by omega) (by omega)
                    refine yi_G_iald (114, [(5, .inl b), (4, .inl a), (3, .inl mq), (2, .inl z5), (0, .inr (.inr (some 82))), (1, .inl nu)], [.inl (I1 103 (b.toNat)), .inr (.inr (some 82)), .inl 59, .inr (.inr (some 82))], (I1, L19, X), 0, 0) rfl (ym_li hS 20 rfl (by omega) (by omega) rfl) ?_
                    refine yi_G_callv rfl rfl (ym_rcv hS) rfl (c_rowOf d (by omega) hS (ym_LR_t (fun k => by rw [f2 88 k (by omega)]) hLR) (by omega) (by omega)) ?_
                    rintro _ ⟨z21, rfl, h22a, h22b⟩
                    show yi_G zi_Ms d zi_m29 (117, [(5, .inl b), (4, .inl a), (3, .inl mq), (2, .inl z5), (0, .inr (.inr (some 82))), (1, .inl nu)], [.inl z21, .inl 59, .inr (.inr (some 82))], (I1, L19, X), 0, 0) _
                    have r23 : I1 82 25 = I 82 25 := by rw [f2 82 (25) (by omega)]
                    refine yi_G_callv rfl rfl (ym_rcv hS) rfl (w_meets (by omega) hS (by omega) (by omega) (by omega) (by omega) (by rw [r23]; omega) (by rw [r23]; omega)) ?_
                    rintro _ ⟨L24, rfl, f25⟩
                    show yi_G zi_Ms d zi_m29 (120, [(5, .inl b), (4, .inl a), (3, .inl mq), (2, .inl z5), (0, .inr (.inr (some 82))), (1, .inl nu)], [], (I1, L24, X), 0, 0) _
                    refine yi_G_run 1 (121, [(5, .inl b), (4, .inl a), (3, .inl mq), (2, .inl z5), (0, .inr (.inr (some 82))), (1, .inl nu)], [.inr (.inr (some 82))], (I1, L24, X), 0, 0) (fun _ => rfl) ?_
                    refine yi_G_get (124, [(5, .inl b), (4, .inl a), (3, .inl mq), (2, .inl z5), (0, .inr (.inr (some 82))), (1, .inl nu)], [.inr (.inr (some 103))], (I1, L24, X), 0, 0) rfl (ym_gr hS 20 rfl rfl rfl) ?_
                    refine yi_G_run 1 (126, [(5, .inl b), (4, .inl a), (3, .inl mq), (2, .inl z5), (0, .inr (.inr (some 82))), (1, .inl nu)], [.inl a, .inr (.inr (some 103))], (I1, L24, X), 0, 0) (fun _ => rfl) ?_
                    refine yi_G_iald (127, [(5, .inl b), (4, .inl a), (3, .inl mq), (2, .inl z5), (0, .inr (.inr (some 82))), (1, .inl nu)], [.inl (I1 103 (a.toNat))], (I1, L24, X), 0, 0) rfl (ym_li hS 20 rfl (by omega) (by omega) rfl) ?_
                    refine yi_G_run 1 (128, [(5, .inl b), (4, .inl a), (3, .inl mq), (2, .inl z5), (0, .inr (.inr (some 82))), (1, .inl nu)], [.inl nu, .inl (I1 103 (a.toNat))], (I1, L24, X), 0, 0) (fun _ => rfl) ?_
                    by_cases h26 : (I1 103 (a.toNat)) = nu
                    · refine yi_G_if2 true rfl (yi_eq_t h26) ?_
                      refine yi_G_iinc [(5, .inl (b + 1)), (4, .inl a), (3, .inl mq), (2, .inl z5), (0, .inr (.inr (some 82))), (1, .inl nu)] rfl rfl rfl (by rw [show yi_w (b + 1) = b + 1 from (yi_wn (by omega) (by omega)).trans (by omega)]; rfl) ?_
                      refine yi_G_run 1 (57, [(5, .inl (b + 1)), (4, .inl a), (3, .inl mq), (2, .inl z5), (0, .inr (.inr (some 82))), (1, .inl nu)], [], (I1, L24, X), 0, 0) (fun _ => rfl) ?_
                      exact ih57 _ (by omega) (b + 1) L24 (fun p k hp => by rw [f25 p k (by omega), f20 p k (by omega), f15 p k (by omega), fKc p k (by omega)]) (by omega) (by omega) rfl
                    · refine yi_G_if2 false rfl (yi_eq_f h26) ?_
                      refine yi_G_run 1 (132, [(5, .inl b), (4, .inl a), (3, .inl mq), (2, .inl z5), (0, .inr (.inr (some 82))), (1, .inl nu)], [.inr (.inr (some 82))], (I1, L24, X), 0, 0) (fun _ => rfl) ?_
                      refine yi_G_get (135, [(5, .inl b), (4, .inl a), (3, .inl mq), (2, .inl z5), (0, .inr (.inr (some 82))), (1, .inl nu)], [.inr (.inr (some 103))], (I1, L24, X), 0, 0) rfl (ym_gr hS 20 rfl rfl rfl) ?_
                      refine yi_G_run 1 (137, [(5, .inl b), (4, .inl a), (3, .inl mq), (2, .inl z5), (0, .inr (.inr (some 82))), (1, .inl nu)], [.inl b, .inr (.inr (some 103))], (I1, L24, X), 0, 0) (fun _ => rfl) ?_
                      refine yi_G_iald (138, [(5, .inl b), (4, .inl a), (3, .inl mq), (2, .inl z5), (0, .inr (.inr (some 82))), (1, .inl nu)], [.inl (I1 103 (b.toNat))], (I1, L24, X), 0, 0) rfl (ym_li hS 20 rfl (by omega) (by omega) rfl) ?_
                      refine yi_G_run 1 (139, [(5, .inl b), (4, .inl a), (3, .inl mq), (2, .inl z5), (0, .inr (.inr (some 82))), (1, .inl nu)], [.inl nu, .inl (I1 103 (b.toNat))], (I1, L24, X), 0, 0) (fun _ => rfl) ?_
                      by_cases h27 : (I1 103 (b.toNat)) = nu
                      · refine yi_G_if2 true rfl (yi_eq_t h27) ?_
                        refine yi_G_iinc [(5, .inl (b + 1)), (4, .inl a), (3, .inl mq), (2, .inl z5), (0, .inr (.inr (some 82))), (1, .inl nu)] rfl rfl rfl (by rw [show yi_w (b + 1) = b + 1 from (yi_wn (by omega) (by omega)).trans (by omega)]; rfl) ?_
                        refine yi_G_run 1 (57, [(5, .inl (b + 1)), (4, .inl a), (3, .inl mq), (2, .inl z5), (0, .inr (.inr (some 82))), (1, .inl nu)], [], (I1, L24, X), 0, 0) (fun _ => rfl) ?_
                        exact ih57 _ (by omega) (b + 1) L24 (fun p k hp => by rw [f25 p k (by omega), f20 p k (by omega), f15 p k (by omega), fKc p k (by omega)]) (by omega) (by omega) rfl
                      · refine yi_G_if2 false rfl (yi_eq_f h27) ?_
                        refine yi_G_run 3 (146, [(5, .inl b), (4, .inl a), (3, .inl mq), (2, .inl z5), (0, .inr (.inr (some 82))), (1, .inl nu)], [.inl z5, .inl 59, .inr (.inr (some 82))], (I1, L24, X), 0, 0) (fun _ => rfl) ?_
                        have r28 : I1 82 25 = I 82 25 := by rw [f2 82 (25) (by omega)]
                        refine yi_G_callv rfl rfl (ym_rcv hS) rfl (c_makes d (by omega) hS (by omega) (by omega) (by omega) (by omega) ⟨(by rw [r28]; omega), (by rw [r28]; omega)⟩) ?_
                        rintro _ (rfl | rfl)
                        · show yi_G zi_Ms d zi_m29 (149, [(5, .inl b), (4, .inl a), (3, .inl mq), (2, .inl z5), (0, .inr (.inr (some 82))), (1, .inl nu)], [.inl 1], (I1, L24, X), 0, 0) _
                          refine yi_G_if1 false rfl (by decide) ?_
                          refine yi_G_run 1 (153, [(5, .inl b), (4, .inl a), (3, .inl mq), (2, .inl z5), (0, .inr (.inr (some 82))), (1, .inl nu)], [.inr (.inr (some 82))], (I1, L24, X), 0, 0) (fun _ => rfl) ?_
                          refine yi_G_get (156, [(5, .inl b), (4, .inl a), (3, .inl mq), (2, .inl z5), (0, .inr (.inr (some 82))), (1, .inl nu)], [.inr (.inr (some 104))], (I1, L24, X), 0, 0) rfl (ym_gr hS 21 rfl rfl rfl) ?_
                          refine yi_G_run 2 (158, [(5, .inl b), (4, .inl a), (3, .inl mq), (2, .inl z5), (0, .inr (.inr (some 82))), (1, .inl nu)], [.inr (.inr (some 82)), .inl 0, .inr (.inr (some 104))], (I1, L24, X), 0, 0) (fun _ => rfl) ?_
                          refine yi_G_get (161, [(5, .inl b), (4, .inl a), (3, .inl mq), (2, .inl z5), (0, .inr (.inr (some 82))), (1, .inl nu)], [.inr (.inr (some 103)), .inl 0, .inr (.inr (some 104))], (I1, L24, X), 0, 0) rfl (ym_gr hS 20 rfl rfl rfl) ?_
                          refine yi_G_run 1 (163, [(5, .inl b), (4, .inl a), (3, .inl mq), (2, .inl z5), (0, .inr (.inr (some 82))), (1, .inl nu)], [.inl a, .inr (.inr (some 103)), .inl 0, .inr (.inr (some 104))], (I1, L24, X), 0, 0) (fun _ => rfl) ?_
                          refine yi_G_iald (164, [(5, .inl b), (4, .inl a), (3, .inl mq), (2, .inl z5), (0, .inr (.inr (some 82))), (1, .inl nu)], [.inl (I1 103 (a.toNat)), .inl 0, .inr (.inr (some 104))], (I1, L24, X), 0, 0) rfl (ym_li hS 20 rfl (by omega) (by omega) rfl) ?_
                          refine yi_G_iast (165, [(5, .inl b), (4, .inl a), (3, .inl mq), (2, .inl z5), (0, .inr (.inr (some 82))), (1, .inl nu)], [], ((yi_u I1 104 0 (I1 103 (a.toNat))), L24, X), 0, 0) rfl (ym_si hS 21 rfl (by omega) (by omega)) ?_
                          generalize w30 : yi_u I1 104 0 (I1 103 (a.toNat)) = I29
                          refine yi_G_run 1 (166, [(5, .inl b), (4, .inl a), (3, .inl mq), (2, .inl z5), (0, .inr (.inr (some 82))), (1, .inl nu)], [.inr (.inr (some 82))], (I29, L24, X), 0, 0) (fun _ => rfl) ?_
                          refine yi_G_get (169, [(5, .inl b), (4, .inl a), (3, .inl mq), (2, .inl z5), (0, .inr (.inr (some 82))), (1, .inl nu)], [.inr (.inr (some 104))], (I29, L24, X), 0, 0) rfl (ym_gr hS 21 rfl rfl rfl) ?_
                          refine yi_G_run 2 (171, [(5, .inl b), (4, .inl a), (3, .inl mq), (2, .inl z5), (0, .inr (.inr (some 82))), (1, .inl nu)], [.inr (.inr (some 82)), .inl 1, .inr (.inr (some 104))], (I29, L24, X), 0, 0) (fun _ => rfl) ?_
                          refine yi_G_get (174, [(5, .inl b), (4, .inl a), (3, .inl mq), (2, .inl z5), (0, .inr (.inr (some 82))), (1, .inl nu)], [.inr (.inr (some 103)), .inl 1, .inr (.inr (some 104))], (I29, L24, X), 0, 0) rfl (ym_gr hS 20 rfl rfl rfl) ?_
                          refine yi_G_run 1 (176, [(5, .inl b), (4, .inl a), (3, .inl mq), (2, .inl z5), (0, .inr (.inr (some 82))), (1, .inl nu)], [.inl b, .inr (.inr (some 103)), .inl 1, .inr (.inr (some 104))], (I29, L24, X), 0, 0) (fun _ => rfl) ?_
                          have r31 : I29 103 (b.toNat) = I1 103 (b.toNat) := by rw [← w30, yi_u_ne _ _ (by omega)]
                          refine yi_G_iald (177, [(5, .inl b), (4, .inl a), (3, .inl mq), (2, .inl z5), (0, .inr (.inr (some 82))), (1, .inl nu)], [.inl (I1 103 (b.toNat)), .inl 1, .inr (.inr (some 104))], (I29, L24, X), 0, 0) rfl (ym_li hS 20 rfl (by omega) (by omega) r31) ?_
                          refine yi_G_iast (178, [(5, .inl b), (4, .inl a), (3, .inl mq), (2, .inl z5), (0, .inr (.inr (some 82))), (1, .inl nu)], [], ((yi_u I29 104 1 (I1 103 (b.toNat))), L24, X), 0, 0) rfl (ym_si hS 21 rfl (by omega) (by omega)) ?_
                          generalize w33 : yi_u I29 104 1 (I1 103 (b.toNat)) = I32
                          refine yi_G_run 1 (179, [(5, .inl b), (4, .inl a), (3, .inl mq), (2, .inl z5), (0, .inr (.inr (some 82))), (1, .inl nu)], [.inl mq], (I32, L24, X), 0, 0) (fun _ => rfl) ?_
                          exact yi_G_reti rfl rfl (⟨_, _, _, rfl, (fun p k hp => by rw [← w33, yi_u_ne _ _ (fun z => by omega), ← w30, yi_u_ne _ _ (fun z => by omega), f2 p k (by omega)]), (fun p k hp => by rw [f25 p k (by omega), f20 p k (by omega), f15 p k (by omega), fKc p k (by omega), fKb p k (by omega), fKa p k (by omega), f4 p k (by omega)]), by omega, by omega⟩)
                        · show yi_G zi_Ms d zi_m29 (149, [(5, .inl b), (4, .inl a), (3, .inl mq), (2, .inl z5), (0, .inr (.inr (some 82))), (1, .inl nu)], [.inl 0], (I1, L24, X), 0, 0) _
                          refine yi_G_if1 true rfl (by decide) ?_
                          refine yi_G_iinc [(5, .inl (b + 1)), (4, .inl a), (3, .inl mq), (2, .inl z5), (0, .inr (.inr (some 82))), (1, .inl nu)] rfl rfl rfl (by rw [show yi_w (b + 1) = b + 1 from (yi_wn (by omega) (by omega)).trans (by omega)]; rfl) ?_
                          refine yi_G_run 1 (57, [(5, .inl (b + 1)), (4, .inl a), (3, .inl mq), (2, .inl z5), (0, .inr (.inr (some 82))), (1, .inl nu)], [], (I1, L24, X), 0, 0) (fun _ => rfl) ?_
                          exact ih57 _ (by omega) (b + 1) L24 (fun p k hp => by rw [f25 p k (by omega), f20 p k (by omega), f15 p k (by omega), fKc p k (by omega)]) (by omega) (by omega) rfl
                · refine yi_G_if2 true rfl (yi_ne_t h11) ?_
                  refine yi_G_run 1 (72, [(5, .inl b), (4, .inl a), (3, .inl mq), (2, .inl z5), (0, .inr (.inr (some 82))), (1, .inl nu)], [.inr (.inr (some 82)), .inl b], (I1, Kc, X), 0, 0) (fun _ => rfl) ?_
                  refine yi_G_get (75, [(5, .inl b), (4, .inl a), (3, .inl mq), (2, .inl z5), (0, .inr (.inr (some 82))), (1, .inl nu)], [.inl (I1 82 37), .inl b], (I1, Kc, X), 0, 0) rfl (ym_gi hS rfl rfl rfl) ?_
                  by_cases h34 : (I1 82 37) ≤ b
                  · refine yi_G_if2 true rfl (yi_ge_t h34) ?_
                    refine yi_G_iinc [(4, .inl (a + 1)), (5, .inl b), (3, .inl mq), (2, .inl z5), (0, .inr (.inr (some 82))), (1, .inl nu)] rfl rfl rfl (by rw [show yi_w (a + 1) = a + 1 from (yi_wn (by omega) (by omega)).trans (by omega)]; rfl) ?_
                    refine yi_G_run 1 (32, [(4, .inl (a + 1)), (5, .inl b), (3, .inl mq), (2, .inl z5), (0, .inr (.inr (some 82))), (1, .inl nu)], [], (I1, Kc, X), 0, 0) (fun _ => rfl) ?_
                    refine yi_G_al (al := [(4, .inl (a + 1)), (3, .inl mq), (2, .inl z5), (0, .inr (.inr (some 82))), (1, .inl nu)]) (show ([4, 3, 2, 0, 1] : List Nat).Nodup by decide) (show ([4, 5, 3, 2, 0, 1] : List Nat).Nodup by decide) (yi_mc (List.mem_of_getElem? (i := 0) rfl) (yi_mc (List.mem_of_getElem? (i := 2) rfl) (yi_mc (List.mem_of_getElem? (i := 3) rfl) (yi_mc (List.mem_of_getElem? (i := 4) rfl) (yi_mc (List.mem_of_getElem? (i := 5) rfl) yi_mn))))) ?_
                    exact ih32 _ (by omega) (a + 1) Kc (fun p k hp => by rw [fKc p k (by omega), fKb p k (by omega)]) (by omega) (by omega) rfl
                  · refine yi_G_if2 false rfl (yi_ge_f h34) ?_
                    refine yi_G_run 3 (83, [(5, .inl b), (4, .inl a), (3, .inl mq), (2, .inl z5), (0, .inr (.inr (some 82))), (1, .inl nu)], [.inl 59, .inl 39, .inr (.inr (some 82))], (I1, Kc, X), 0, 0) (fun _ => rfl) ?_
                    have r35 : I1 82 25 = I 82 25 := by rw [f2 82 (25) (by omega)]
                    refine yi_G_callv rfl rfl (ym_rcv hS) rfl (w_copiesRow (by omega) hS (by omega) (by omega) (by omega) (by omega) (by rw [r35]; omega) (by rw [r35]; omega)) ?_
                    rintro _ ⟨L36, rfl, f37⟩
                    show yi_G zi_Ms d zi_m29 (86, [(5, .inl b), (4, .inl a), (3, .inl mq), (2, .inl z5), (0, .inr (.inr (some 82))), (1, .inl nu)], [], (I1, L36, X), 0, 0) _
                    refine yi_G_run 4 (91, [(5, .inl b), (4, .inl a), (3, .inl mq), (2, .inl z5), (0, .inr (.inr (some 82))), (1, .inl nu)], [.inr (.inr (some 82)), .inr (.inr (some 82)), .inl 59, .inr (.inr (some 82))], (I1, L36, X), 0, 0) (fun _ => rfl) ?_
                    refine yi_G_get (94, [(5, .inl b), (4, .inl a), (3, .inl mq), (2, .inl z5), (0, .inr (.inr (some 82))), (1, .inl nu)], [.inr (.inr (some 103)), .inr (.inr (some 82)), .inl 59, .inr (.inr (some 82))], (I1, L36, X), 0, 0) rfl (ym_gr hS 20 rfl rfl rfl) ?_
                    refine yi_G_run 1 (96, [(5, .inl b), (4, .inl a), (3, .inl mq), (2, .inl z5), (0, .inr (.inr (some 82))), (1, .inl nu)], [.inl a, .inr (.inr (some 103)), .inr (.inr (some 82)), .inl 59, .inr (.inr (some 82))], (I1, L36, X), 0, 0) (fun _ => rfl) ?_
                    have oa := oh a (by omega) (by omega)
                    refine yi_G_iald (97, [(5, .inl b), (4, .inl a), (3, .inl mq), (2, .inl z5), (0, .inr (.inr (some 82))), (1, .inl nu)], [.inl (I1 103 (a.toNat)), .inr (.inr (some 82)), .inl 59, .inr (.inr (some 82))], (I1, L36, X), 0, 0) rfl (ym_li hS 20 rfl (by omega) (by omega) rfl) ?_
                    refine yi_G_callv rfl rfl (ym_rcv hS) rfl (c_rowOf d (by omega) hS (ym_LR_t (fun k => by rw [f2 88 k (by omega)]) hLR) (by omega) (by omega)) ?_
                    rintro _ ⟨z38, rfl, h39a, h39b⟩
                    show yi_G zi_Ms d zi_m29 (100, [(5, .inl b), (4, .inl a), (3, .inl mq), (2, .inl z5), (0, .inr (.inr (some 82))), (1, .inl nu)], [.inl z38, .inl 59, .inr (.inr (some 82))], (I1, L36, X), 0, 0) _
                    have r40 : I1 82 25 = I 82 25 := by rw [f2 82 (25) (by omega)]
                    refine yi_G_callv rfl rfl (ym_rcv hS) rfl (w_meets (by omega) hS (by omega) (by omega) (by omega) (by omega) (by rw [r40]; omega) (by rw [r40]; omega)) ?_
                    rintro _ ⟨L41, rfl, f42⟩
                    show yi_G zi_Ms d zi_m29 (103, [(5, .inl b), (4, .inl a), (3, .inl mq), (2, .inl z5), (0, .inr (.inr (some 82))), (1, .inl nu)], [], (I1, L41, X), 0, 0) _
                    refine yi_G_run 4 (108, [(5, .inl b), (4, .inl a), (3, .inl mq), (2, .inl z5), (0, .inr (.inr (some 82))), (1, .inl nu)], [.inr (.inr (some 82)), .inr (.inr (some 82)), .inl 59, .inr (.inr (some 82))], (I1, L41, X), 0, 0) (fun _ => rfl) ?_
                    refine yi_G_get (111, [(5, .inl b), (4, .inl a), (3, .inl mq), (2, .inl z5), (0, .inr (.inr (some 82))), (1, .inl nu)], [.inr (.inr (some 103)), .inr (.inr (some 82)), .inl 59, .inr (.inr (some 82))], (I1, L41, X), 0, 0) rfl (ym_gr hS 20 rfl rfl rfl) ?_
                    refine yi_G_run 1 (113, [(5, .inl b), (4, .inl a), (3, .inl mq), (2, .inl z5), (0, .inr (.inr (some 82))), (1, .inl nu)], [.inl b, .inr (.inr (some 103)), .inr (.inr (some 82)), .inl 59, .inr (.inr (some 82))], (I1, L41, X), 0, 0) (fun _ => rfl) ?_
                    have obb := oh b (by omega) (by omega)
                    refine yi_G_iald (114, [(5, .inl b), (4, .inl a), (3, .inl mq), (2, .inl z5), (0, .inr (.inr (some 82))), (1, .inl nu)], [.inl (I1 103 (b.toNat)), .inr (.inr (some 82)), .inl 59, .inr (.inr (some 82))], (I1, L41, X), 0, 0) rfl (ym_li hS 20 rfl (by omega) (by omega) rfl) ?_
                    refine yi_G_callv rfl rfl (ym_rcv hS) rfl (c_rowOf d (by omega) hS (ym_LR_t (fun k => by rw [f2 88 k (by omega)]) hLR) (by omega) (by omega)) ?_
                    rintro _ ⟨z43, rfl, h44a, h44b⟩
                    show yi_G zi_Ms d zi_m29 (117, [(5, .inl b), (4, .inl a), (3, .inl mq), (2, .inl z5), (0, .inr (.inr (some 82))), (1, .inl nu)], [.inl z43, .inl 59, .inr (.inr (some 82))], (I1, L41, X), 0, 0) _
                    have r45 : I1 82 25 = I 82 25 := by rw [f2 82 (25) (by omega)]
                    refine yi_G_callv rfl rfl (ym_rcv hS) rfl (w_meets (by omega) hS (by omega) (by omega) (by omega) (by omega) (by rw [r45]; omega) (by rw [r45]; omega)) ?_
                    rintro _ ⟨L46, rfl, f47⟩
                    show yi_G zi_Ms d zi_m29 (120, [(5, .inl b), (4, .inl a), (3, .inl mq), (2, .inl z5), (0, .inr (.inr (some 82))), (1, .inl nu)], [], (I1, L46, X), 0, 0) _
                    refine yi_G_run 1 (121, [(5, .inl b), (4, .inl a), (3, .inl mq), (2, .inl z5), (0, .inr (.inr (some 82))), (1, .inl nu)], [.inr (.inr (some 82))], (I1, L46, X), 0, 0) (fun _ => rfl) ?_
                    refine yi_G_get (124, [(5, .inl b), (4, .inl a), (3, .inl mq), (2, .inl z5), (0, .inr (.inr (some 82))), (1, .inl nu)], [.inr (.inr (some 103))], (I1, L46, X), 0, 0) rfl (ym_gr hS 20 rfl rfl rfl) ?_
                    refine yi_G_run 1 (126, [(5, .inl b), (4, .inl a), (3, .inl mq), (2, .inl z5), (0, .inr (.inr (some 82))), (1, .inl nu)], [.inl a, .inr (.inr (some 103))], (I1, L46, X), 0, 0) (fun _ => rfl) ?_
                    refine yi_G_iald (127, [(5, .inl b), (4, .inl a), (3, .inl mq), (2, .inl z5), (0, .inr (.inr (some 82))), (1, .inl nu)], [.inl (I1 103 (a.toNat))], (I1, L46, X), 0, 0) rfl (ym_li hS 20 rfl (by omega) (by omega) rfl) ?_
                    refine yi_G_run 1 (128, [(5, .inl b), (4, .inl a), (3, .inl mq), (2, .inl z5), (0, .inr (.inr (some 82))), (1, .inl nu)], [.inl nu, .inl (I1 103 (a.toNat))], (I1, L46, X), 0, 0) (fun _ => rfl) ?_
                    by_cases h48 : (I1 103 (a.toNat)) = nu
                    · refine yi_G_if2 true rfl (yi_eq_t h48) ?_
                      refine yi_G_iinc [(5, .inl (b + 1)), (4, .inl a), (3, .inl mq), (2, .inl z5), (0, .inr (.inr (some 82))), (1, .inl nu)] rfl rfl rfl (by rw [show yi_w (b + 1) = b + 1 from (yi_wn (by omega) (by omega)).trans (by omega)]; rfl) ?_
                      refine yi_G_run 1 (57, [(5, .inl (b + 1)), (4, .inl a), (3, .inl mq), (2, .inl z5), (0, .inr (.inr (some 82))), (1, .inl nu)], [], (I1, L46, X), 0, 0) (fun _ => rfl) ?_
                      exact ih57 _ (by omega) (b + 1) L46 (fun p k hp => by rw [f47 p k (by omega), f42 p k (by omega), f37 p k (by omega), fKc p k (by omega)]) (by omega) (by omega) rfl
                    · refine yi_G_if2 false rfl (yi_eq_f h48) ?_
                      refine yi_G_run 1 (132, [(5, .inl b), (4, .inl a), (3, .inl mq), (2, .inl z5), (0, .inr (.inr (some 82))), (1, .inl nu)], [.inr (.inr (some 82))], (I1, L46, X), 0, 0) (fun _ => rfl) ?_
                      refine yi_G_get (135, [(5, .inl b), (4, .inl a), (3, .inl mq), (2, .inl z5), (0, .inr (.inr (some 82))), (1, .inl nu)], [.inr (.inr (some 103))], (I1, L46, X), 0, 0) rfl (ym_gr hS 20 rfl rfl rfl) ?_
                      refine yi_G_run 1 (137, [(5, .inl b), (4, .inl a), (3, .inl mq), (2, .inl z5), (0, .inr (.inr (some 82))), (1, .inl nu)], [.inl b, .inr (.inr (some 103))], (I1, L46, X), 0, 0) (fun _ => rfl) ?_
                      refine yi_G_iald (138, [(5, .inl b), (4, .inl a), (3, .inl mq), (2, .inl z5), (0, .inr (.inr (some 82))), (1, .inl nu)], [.inl (I1 103 (b.toNat))], (I1, L46, X), 0, 0) rfl (ym_li hS 20 rfl (by omega) (by omega) rfl) ?_
                      refine yi_G_run 1 (139, [(5, .inl b), (4, .inl a), (3, .inl mq), (2, .inl z5), (0, .inr (.inr (some 82))), (1, .inl nu)], [.inl nu, .inl (I1 103 (b.toNat))], (I1, L46, X), 0, 0) (fun _ => rfl) ?_
                      by_cases h49 : (I1 103 (b.toNat)) = nu
                      · refine yi_G_if2 true rfl (yi_eq_t h49) ?_
                        refine yi_G_iinc [(5, .inl (b + 1)), (4, .inl a), (3, .inl mq), (2, .inl z5), (0, .inr (.inr (some 82))), (1, .inl nu)] rfl rfl rfl (by rw [show yi_w (b + 1) = b + 1 from (yi_wn (by omega) (by omega)).trans (by omega)]; rfl) ?_
                        refine yi_G_run 1 (57, [(5, .inl (b + 1)), (4, .inl a), (3, .inl mq), (2, .inl z5), (0, .inr (.inr (some 82))), (1, .inl nu)], [], (I1, L46, X), 0, 0) (fun _ => rfl) ?_
                        exact ih57 _ (by omega) (b + 1) L46 (fun p k hp => by rw [f47 p k (by omega), f42 p k (by omega), f37 p k (by omega), fKc p k (by omega)]) (by omega) (by omega) rfl
                      · refine yi_G_if2 false rfl (yi_eq_f h49) ?_
                        refine yi_G_run 3 (146, [(5, .inl b), (4, .inl a), (3, .inl mq), (2, .inl z5), (0, .inr (.inr (some 82))), (1, .inl nu)], [.inl z5, .inl 59, .inr (.inr (some 82))], (I1, L46, X), 0, 0) (fun _ => rfl) ?_
                        have r50 : I1 82 25 = I 82 25 := by rw [f2 82 (25) (by omega)]
                        refine yi_G_callv rfl rfl (ym_rcv hS) rfl (c_makes d (by omega) hS (by omega) (by omega) (by omega) (by omega) ⟨(by rw [r50]; omega), (by rw [r50]; omega)⟩) ?_
                        rintro _ (rfl | rfl)
                        · show yi_G zi_Ms d zi_m29 (149, [(5, .inl b), (4, .inl a), (3, .inl mq), (2, .inl z5), (0, .inr (.inr (some 82))), (1, .inl nu)], [.inl 1], (I1, L46, X), 0, 0) _
                          refine yi_G_if1 false rfl (by decide) ?_
                          refine yi_G_run 1 (153, [(5, .inl b), (4, .inl a), (3, .inl mq), (2, .inl z5), (0, .inr (.inr (some 82))), (1, .inl nu)], [.inr (.inr (some 82))], (I1, L46, X), 0, 0) (fun _ => rfl) ?_
                          refine yi_G_get (156, [(5, .inl b), (4, .inl a), (3, .inl mq), (2, .inl z5), (0, .inr (.inr (some 82))), (1, .inl nu)], [.inr (.inr (some 104))], (I1, L46, X), 0, 0) rfl (ym_gr hS 21 rfl rfl rfl) ?_
                          refine yi_G_run 2 (158, [(5, .inl b), (4, .inl a), (3, .inl mq), (2, .inl z5), (0, .inr (.inr (some 82))), (1, .inl nu)], [.inr (.inr (some 82)), .inl 0, .inr (.inr (some 104))], (I1, L46, X), 0, 0) (fun _ => rfl) ?_
                          refine yi_G_get (161, [(5, .inl b), (4, .inl a), (3, .inl mq), (2, .inl z5), (0, .inr (.inr (some 82))), (1, .inl nu)], [.inr (.inr (some 103)), .inl 0, .inr (.inr (some 104))], (I1, L46, X), 0, 0) rfl (ym_gr hS 20 rfl rfl rfl) ?_
                          refine yi_G_run 1 (163, [(5, .inl b), (4, .inl a), (3, .inl mq), (2, .inl z5), (0, .inr (.inr (some 82))), (1, .inl nu)], [.inl a, .inr (.inr (some 103)), .inl 0, .inr (.inr (some 104))], (I1, L46, X), 0, 0) (fun _ => rfl) ?_
                          refine yi_G_iald (164, [(5, .inl b), (4, .inl a), (3, .inl mq), (2, .inl z5), (0, .inr (.inr (some 82))), (1, .inl nu)], [.inl (I1 103 (a.toNat)), .inl 0, .inr (.inr (some 104))], (I1, L46, X), 0, 0) rfl (ym_li hS 20 rfl (by omega) (by omega) rfl) ?_
                          refine yi_G_iast (165, [(5, .inl b), (4, .inl a), (3, .inl mq), (2, .inl z5), (0, .inr (.inr (some 82))), (1, .inl nu)], [], ((yi_u I1 104 0 (I1 103 (a.toNat))), L46, X), 0, 0) rfl (ym_si hS 21 rfl (by omega) (by omega)) ?_
                          generalize w52 : yi_u I1 104 0 (I1 103 (a.toNat)) = I51
                          refine yi_G_run 1 (166, [(5, .inl b), (4, .inl a), (3, .inl mq), (2, .inl z5), (0, .inr (.inr (some 82))), (1, .inl nu)], [.inr (.inr (some 82))], (I51, L46, X), 0, 0) (fun _ => rfl) ?_
                          refine yi_G_get (169, [(5, .inl b), (4, .inl a), (3, .inl mq), (2, .inl z5), (0, .inr (.inr (some 82))), (1, .inl nu)], [.inr (.inr (some 104))], (I51, L46, X), 0, 0) rfl (ym_gr hS 21 rfl rfl rfl) ?_
                          refine yi_G_run 2 (171, [(5, .inl b), (4, .inl a), (3, .inl mq), (2, .inl z5), (0, .inr (.inr (some 82))), (1, .inl nu)], [.inr (.inr (some 82)), .inl 1, .inr (.inr (some 104))], (I51, L46, X), 0, 0) (fun _ => rfl) ?_
                          refine yi_G_get (174, [(5, .inl b), (4, .inl a), (3, .inl mq), (2, .inl z5), (0, .inr (.inr (some 82))), (1, .inl nu)], [.inr (.inr (some 103)), .inl 1, .inr (.inr (some 104))], (I51, L46, X), 0, 0) rfl (ym_gr hS 20 rfl rfl rfl) ?_
                          refine yi_G_run 1 (176, [(5, .inl b), (4, .inl a), (3, .inl mq), (2, .inl z5), (0, .inr (.inr (some 82))), (1, .inl nu)], [.inl b, .inr (.inr (some 103)), .inl 1, .inr (.inr (some 104))], (I51, L46, X), 0, 0) (fun _ => rfl) ?_
                          have r53 : I51 103 (b.toNat) = I1 103 (b.toNat) := by rw [← w52, yi_u_ne _ _ (by omega)]
                          refine yi_G_iald (177, [(5, .inl b), (4, .inl a), (3, .inl mq), (2, .inl z5), (0, .inr (.inr (some 82))), (1, .inl nu)], [.inl (I1 103 (b.toNat)), .inl 1, .inr (.inr (some 104))], (I51, L46, X), 0, 0) rfl (ym_li hS 20 rfl (by omega) (by omega) r53) ?_
                          refine yi_G_iast (178, [(5, .inl b), (4, .inl a), (3, .inl mq), (2, .inl z5), (0, .inr (.inr (some 82))), (1, .inl nu)], [], ((yi_u I51 104 1 (I1 103 (b.toNat))), L46, X), 0, 0) rfl (ym_si hS 21 rfl (by omega) (by omega)) ?_
                          generalize w55 : yi_u I51 104 1 (I1 103 (b.toNat)) = I54
                          refine yi_G_run 1 (179, [(5, .inl b), (4, .inl a), (3, .inl mq), (2, .inl z5), (0, .inr (.inr (some 82))), (1, .inl nu)], [.inl mq], (I54, L46, X), 0, 0) (fun _ => rfl) ?_
                          exact yi_G_reti rfl rfl (⟨_, _, _, rfl, (fun p k hp => by rw [← w55, yi_u_ne _ _ (fun z => by omega), ← w52, yi_u_ne _ _ (fun z => by omega), f2 p k (by omega)]), (fun p k hp => by rw [f47 p k (by omega), f42 p k (by omega), f37 p k (by omega), fKc p k (by omega), fKb p k (by omega), fKa p k (by omega), f4 p k (by omega)]), by omega, by omega⟩)
                        · show yi_G zi_Ms d zi_m29 (149, [(5, .inl b), (4, .inl a), (3, .inl mq), (2, .inl z5), (0, .inr (.inr (some 82))), (1, .inl nu)], [.inl 0], (I1, L46, X), 0, 0) _
                          refine yi_G_if1 true rfl (by decide) ?_
                          refine yi_G_iinc [(5, .inl (b + 1)), (4, .inl a), (3, .inl mq), (2, .inl z5), (0, .inr (.inr (some 82))), (1, .inl nu)] rfl rfl rfl (by rw [show yi_w (b + 1) = b + 1 from (yi_wn (by omega) (by omega)).trans (by omega)]; rfl) ?_
                          refine yi_G_run 1 (57, [(5, .inl (b + 1)), (4, .inl a), (3, .inl mq), (2, .inl z5), (0, .inr (.inr (some 82))), (1, .inl nu)], [], (I1, L46, X), 0, 0) (fun _ => rfl) ?_
                          exact ih57 _ (by omega) (b + 1) L46 (fun p k hp => by rw [f47 p k (by omega), f42 p k (by omega), f37 p k (by omega), fKc p k (by omega)]) (by omega) (by omega) rfl
              exact pt57 _ a Kb (fun _ _ _ => rfl) (by omega) (by omega) rfl
            · refine yi_G_if2 true rfl (yi_ne_t h10) ?_
              refine yi_G_run 2 (54, [(4, .inl a), (3, .inl mq), (2, .inl z5), (0, .inr (.inr (some 82))), (1, .inl nu)], [.inl 1, .inl a], (I1, Kb, X), 0, 0) (fun _ => rfl) ?_
              refine yi_G_iadd rfl (a + 1) (yi_wn (by omega) (by omega)) ?_
              refine yi_G_run 1 (57, [(5, .inl (a + 1)), (4, .inl a), (3, .inl mq), (2, .inl z5), (0, .inr (.inr (some 82))), (1, .inl nu)], [], (I1, Kb, X), 0, 0) (fun _ => rfl) ?_
              have pt57 : ∀ (m : Nat) (b : Int) (Kc : Nat → Nat → Int), (∀ p k, p ≠ 97 → Kc p k = Kb p k) → (0 ≤ b) → (b ≤ I1 82 37 + 1) → (I1 82 37 + 1 - b).toNat = m → yi_G zi_Ms d zi_m29 (57, [(5, .inl b), (4, .inl a), (3, .inl mq), (2, .inl z5), (0, .inr (.inr (some 82))), (1, .inl nu)], [], (I1, Kc, X), 0, 0) (fun r => ∃ z I' L', r = (some (.inl z), (I', L', X), 0, 0) ∧ (∀ p k, p ≠ 103 ∧ p ≠ 104 ∧ ¬ (p = 82 ∧ k = 37) → I' p k = I p k) ∧ (∀ p k, p ≠ 97 → L' p k = L p k) ∧ -1 ≤ z ∧ z ≤ 2) := by
                intro m57
                induction m57 using Nat.strongRecOn with
                | _ m57 ih57 =>
                intro b Kc fKc b0 b1 hm57
                refine yi_G_run 3 (61, [(5, .inl b), (4, .inl a), (3, .inl mq), (2, .inl z5), (0, .inr (.inr (some 82))), (1, .inl nu)], [.inl 1, .inl mq, .inl b], (I1, Kc, X), 0, 0) (fun _ => rfl) ?_
                by_cases h56 : mq = 1
                · refine yi_G_if2 false rfl (yi_ne_f h56) ?_
                  refine yi_G_run 2 (67, [(5, .inl b), (4, .inl a), (3, .inl mq), (2, .inl z5), (0, .inr (.inr (some 82))), (1, .inl nu)], [.inl 1, .inl a, .inl b], (I1, Kc, X), 0, 0) (fun _ => rfl) ?_
                  refine yi_G_iadd rfl (a + 1) (yi_wn (by omega) (by omega)) ?_
                  refine yi_G_run 1 (75, [(5, .inl b), (4, .inl a), (3, .inl mq), (2, .inl z5), (0, .inr (.inr (some 82))), (1, .inl nu)], [.inl (a + 1), .inl b], (I1, Kc, X), 0, 0) (fun _ => rfl) ?_
                  by_cases h57 : (a + 1) ≤ b
                  · refine yi_G_if2 true rfl (yi_ge_t h57) ?_
                    refine yi_G_iinc [(4, .inl (a + 1)), (5, .inl b), (3, .inl mq), (2, .inl z5), (0, .inr (.inr (some 82))), (1, .inl nu)] rfl rfl rfl (by rw [show yi_w (a + 1) = a + 1 from (yi_wn (by omega) (by omega)).trans (by omega)]; rfl) ?_
                    refine yi_G_run 1 (32, [(4, .inl (a + 1)), (5, .inl b), (3, .inl mq), (2, .inl z5), (0, .inr (.inr (some 82))), (1, .inl nu)], [], (I1, Kc, X), 0, 0) (fun _ => rfl) ?_
                    refine yi_G_al (al := [(4, .inl (a + 1)), (3, .inl mq), (2, .inl z5), (0, .inr (.inr (some 82))), (1, .inl nu)]) (show ([4, 3, 2, 0, 1] : List Nat).Nodup by decide) (show ([4, 5, 3, 2, 0, 1] : List Nat).Nodup by decide) (yi_mc (List.mem_of_getElem? (i := 0) rfl) (yi_mc (List.mem_of_getElem? (i := 2) rfl) (yi_mc (List.mem_of_getElem? (i := 3) rfl) (yi_mc (List.mem_of_getElem? (i := 4) rfl) (yi_mc (List.mem_of_getElem? (i := 5) rfl) yi_mn))))) ?_
                    exact ih32 _ (by omega) (a + 1) Kc (fun p k hp => by rw [fKc p k (by omega), fKb p k (by omega)]) (by omega) (by omega) rfl
                  · refine yi_G_if2 false rfl (yi_ge_f h57) ?_
                    refine yi_G_run 3 (83, [(5, .inl b), (4, .inl a), (3, .inl mq), (2, .inl z5), (0, .inr (.inr (some 82))), (1, .inl nu)], [.inl 59, .inl 39, .inr (.inr (some 82))], (I1, Kc, X), 0, 0) (fun _ => rfl) ?_
                    have r58 : I1 82 25 = I 82 25 := by rw [f2 82 (25) (by omega)]
                    refine yi_G_callv rfl rfl (ym_rcv hS) rfl (w_copiesRow (by omega) hS (by omega) (by omega) (by omega) (by omega) (by rw [r58]; omega) (by rw [r58]; omega)) ?_
                    rintro _ ⟨L59, rfl, f60⟩
                    show yi_G zi_Ms d zi_m29 (86, [(5, .inl b), (4, .inl a), (3, .inl mq), (2, .inl z5), (0, .inr (.inr (some 82))), (1, .inl nu)], [], (I1, L59, X), 0, 0) _
                    refine yi_G_run 4 (91, [(5, .inl b), (4, .inl a), (3, .inl mq), (2, .inl z5), (0, .inr (.inr (some 82))), (1, .inl nu)], [.inr (.inr (some 82)), .inr (.inr (some 82)), .inl 59, .inr (.inr (some 82))], (I1, L59, X), 0, 0) (fun _ => rfl) ?_
                    refine yi_G_get (94, [(5, .inl b), (4, .inl a), (3, .inl mq), (2, .inl z5), (0, .inr (.inr (some 82))), (1, .inl nu)], [.inr (.inr (some 103)), .inr (.inr (some 82)), .inl 59, .inr (.inr (some 82))], (I1, L59, X), 0, 0) rfl (ym_gr hS 20 rfl rfl rfl) ?_
                    refine yi_G_run 1 (96, [(5, .inl b), (4, .inl a), (3, .inl mq), (2, .inl z5), (0, .inr (.inr (some 82))), (1, .inl nu)], [.inl a, .inr (.inr (some 103)), .inr (.inr (some 82)), .inl 59, .inr (.inr (some 82))], (I1, L59, X), 0, 0) (fun _ => rfl) ?_
                    have oa := oh a (by omega) (by omega)
                    refine yi_G_iald (97, [(5, .inl b), (4, .inl a), (3, .inl mq), (2, .inl z5), (0, .inr (.inr (some 82))), (1, .inl nu)], [.inl (I1 103 (a.toNat)), .inr (.inr (some 82)), .inl 59, .inr (.inr (some 82))], (I1, L59, X), 0, 0) rfl (ym_li hS 20 rfl (by omega) (by omega) rfl) ?_
                    refine yi_G_callv rfl rfl (ym_rcv hS) rfl (c_rowOf d (by omega) hS (ym_LR_t (fun k => by rw [f2 88 k (by omega)]) hLR) (by omega) (by omega)) ?_
                    rintro _ ⟨z61, rfl, h62a, h62b⟩
                    show yi_G zi_Ms d zi_m29 (100, [(5, .inl b), (4, .inl a), (3, .inl mq), (2, .inl z5), (0, .inr (.inr (some 82))), (1, .inl nu)], [.inl z61, .inl 59, .inr (.inr (some 82))], (I1, L59, X), 0, 0) _
                    have r63 : I1 82 25 = I 82 25 := by rw [f2 82 (25) (by omega)]
                    refine yi_G_callv rfl rfl (ym_rcv hS) rfl (w_meets (by omega) hS (by omega) (by omega) (by omega) (by omega) (by rw [r63]; omega) (by rw [r63]; omega)) ?_
                    rintro _ ⟨L64, rfl, f65⟩
                    show yi_G zi_Ms d zi_m29 (103, [(5, .inl b), (4, .inl a), (3, .inl mq), (2, .inl z5), (0, .inr (.inr (some 82))), (1, .inl nu)], [], (I1, L64, X), 0, 0) _
                    refine yi_G_run 4 (108, [(5, .inl b), (4, .inl a), (3, .inl mq), (2, .inl z5), (0, .inr (.inr (some 82))), (1, .inl nu)], [.inr (.inr (some 82)), .inr (.inr (some 82)), .inl 59, .inr (.inr (some 82))], (I1, L64, X), 0, 0) (fun _ => rfl) ?_
                    refine yi_G_get (111, [(5, .inl b), (4, .inl a), (3, .inl mq), (2, .inl z5), (0, .inr (.inr (some 82))), (1, .inl nu)], [.inr (.inr (some 103)), .inr (.inr (some 82)), .inl 59, .inr (.inr (some 82))], (I1, L64, X), 0, 0) rfl (ym_gr hS 20 rfl rfl rfl) ?_
                    refine yi_G_run 1 (113, [(5, .inl b), (4, .inl a), (3, .inl mq), (2, .inl z5), (0, .inr (.inr (some 82))), (1, .inl nu)], [.inl b, .inr (.inr (some 103)), .inr (.inr (some 82)), .inl 59, .inr (.inr (some 82))], (I1, L64, X), 0, 0) (fun _ => rfl) ?_
                    have obb := oh b (by omega) (by omega)
                    refine yi_G_iald (114, [(5, .inl b), (4, .inl a), (3, .inl mq), (2, .inl z5), (0, .inr (.inr (some 82))), (1, .inl nu)], [.inl (I1 103 (b.toNat)), .inr (.inr (some 82)), .inl 59, .inr (.inr (some 82))], (I1, L64, X), 0, 0) rfl (ym_li hS 20 rfl (by omega) (by omega) rfl) ?_
                    refine yi_G_callv rfl rfl (ym_rcv hS) rfl (c_rowOf d (by omega) hS (ym_LR_t (fun k => by rw [f2 88 k (by omega)]) hLR) (by omega) (by omega)) ?_
                    rintro _ ⟨z66, rfl, h67a, h67b⟩
                    show yi_G zi_Ms d zi_m29 (117, [(5, .inl b), (4, .inl a), (3, .inl mq), (2, .inl z5), (0, .inr (.inr (some 82))), (1, .inl nu)], [.inl z66, .inl 59, .inr (.inr (some 82))], (I1, L64, X), 0, 0) _
                    have r68 : I1 82 25 = I 82 25 := by rw [f2 82 (25) (by omega)]
                    refine yi_G_callv rfl rfl (ym_rcv hS) rfl (w_meets (by omega) hS (by omega) (by omega) (by omega) (by omega) (by rw [r68]; omega) (by rw [r68]; omega)) ?_
                    rintro _ ⟨L69, rfl, f70⟩
                    show yi_G zi_Ms d zi_m29 (120, [(5, .inl b), (4, .inl a), (3, .inl mq), (2, .inl z5), (0, .inr (.inr (some 82))), (1, .inl nu)], [], (I1, L69, X), 0, 0) _
                    refine yi_G_run 1 (121, [(5, .inl b), (4, .inl a), (3, .inl mq), (2, .inl z5), (0, .inr (.inr (some 82))), (1, .inl nu)], [.inr (.inr (some 82))], (I1, L69, X), 0, 0) (fun _ => rfl) ?_
                    refine yi_G_get (124, [(5, .inl b), (4, .inl a), (3, .inl mq), (2, .inl z5), (0, .inr (.inr (some 82))), (1, .inl nu)], [.inr (.inr (some 103))], (I1, L69, X), 0, 0) rfl (ym_gr hS 20 rfl rfl rfl) ?_
                    refine yi_G_run 1 (126, [(5, .inl b), (4, .inl a), (3, .inl mq), (2, .inl z5), (0, .inr (.inr (some 82))), (1, .inl nu)], [.inl a, .inr (.inr (some 103))], (I1, L69, X), 0, 0) (fun _ => rfl) ?_
                    refine yi_G_iald (127, [(5, .inl b), (4, .inl a), (3, .inl mq), (2, .inl z5), (0, .inr (.inr (some 82))), (1, .inl nu)], [.inl (I1 103 (a.toNat))], (I1, L69, X), 0, 0) rfl (ym_li hS 20 rfl (by omega) (by omega) rfl) ?_
                    refine yi_G_run 1 (128, [(5, .inl b), (4, .inl a), (3, .inl mq), (2, .inl z5), (0, .inr (.inr (some 82))), (1, .inl nu)], [.inl nu, .inl (I1 103 (a.toNat))], (I1, L69, X), 0, 0) (fun _ => rfl) ?_
                    by_cases h71 : (I1 103 (a.toNat)) = nu
                    · refine yi_G_if2 true rfl (yi_eq_t h71) ?_
                      refine yi_G_iinc [(5, .inl (b + 1)), (4, .inl a), (3, .inl mq), (2, .inl z5), (0, .inr (.inr (some 82))), (1, .inl nu)] rfl rfl rfl (by rw [show yi_w (b + 1) = b + 1 from (yi_wn (by omega) (by omega)).trans (by omega)]; rfl) ?_
                      refine yi_G_run 1 (57, [(5, .inl (b + 1)), (4, .inl a), (3, .inl mq), (2, .inl z5), (0, .inr (.inr (some 82))), (1, .inl nu)], [], (I1, L69, X), 0, 0) (fun _ => rfl) ?_
                      exact ih57 _ (by omega) (b + 1) L69 (fun p k hp => by rw [f70 p k (by omega), f65 p k (by omega), f60 p k (by omega), fKc p k (by omega)]) (by omega) (by omega) rfl
                    · refine yi_G_if2 false rfl (yi_eq_f h71) ?_
                      refine yi_G_run 1 (132, [(5, .inl b), (4, .inl a), (3, .inl mq), (2, .inl z5), (0, .inr (.inr (some 82))), (1, .inl nu)], [.inr (.inr (some 82))], (I1, L69, X), 0, 0) (fun _ => rfl) ?_
                      refine yi_G_get (135, [(5, .inl b), (4, .inl a), (3, .inl mq), (2, .inl z5), (0, .inr (.inr (some 82))), (1, .inl nu)], [.inr (.inr (some 103))], (I1, L69, X), 0, 0) rfl (ym_gr hS 20 rfl rfl rfl) ?_
                      refine yi_G_run 1 (137, [(5, .inl b), (4, .inl a), (3, .inl mq), (2, .inl z5), (0, .inr (.inr (some 82))), (1, .inl nu)], [.inl b, .inr (.inr (some 103))], (I1, L69, X), 0, 0) (fun _ => rfl) ?_
                      refine yi_G_iald (138, [(5, .inl b), (4, .inl a), (3, .inl mq), (2, .inl z5), (0, .inr (.inr (some 82))), (1, .inl nu)], [.inl (I1 103 (b.toNat))], (I1, L69, X), 0, 0) rfl (ym_li hS 20 rfl (by omega) (by omega) rfl) ?_
                      refine yi_G_run 1 (139, [(5, .inl b), (4, .inl a), (3, .inl mq), (2, .inl z5), (0, .inr (.inr (some 82))), (1, .inl nu)], [.inl nu, .inl (I1 103 (b.toNat))], (I1, L69, X), 0, 0) (fun _ => rfl) ?_
                      by_cases h72 : (I1 103 (b.toNat)) = nu
                      · refine yi_G_if2 true rfl (yi_eq_t h72) ?_
                        refine yi_G_iinc [(5, .inl (b + 1)), (4, .inl a), (3, .inl mq), (2, .inl z5), (0, .inr (.inr (some 82))), (1, .inl nu)] rfl rfl rfl (by rw [show yi_w (b + 1) = b + 1 from (yi_wn (by omega) (by omega)).trans (by omega)]; rfl) ?_
                        refine yi_G_run 1 (57, [(5, .inl (b + 1)), (4, .inl a), (3, .inl mq), (2, .inl z5), (0, .inr (.inr (some 82))), (1, .inl nu)], [], (I1, L69, X), 0, 0) (fun _ => rfl) ?_
                        exact ih57 _ (by omega) (b + 1) L69 (fun p k hp => by rw [f70 p k (by omega), f65 p k (by omega), f60 p k (by omega), fKc p k (by omega)]) (by omega) (by omega) rfl
                      · refine yi_G_if2 false rfl (yi_eq_f h72) ?_
                        refine yi_G_run 3 (146, [(5, .inl b), (4, .inl a), (3, .inl mq), (2, .inl z5), (0, .inr (.inr (some 82))), (1, .inl nu)], [.inl z5, .inl 59, .inr (.inr (some 82))], (I1, L69, X), 0, 0) (fun _ => rfl) ?_
                        have r73 : I1 82 25 = I 82 25 := by rw [f2 82 (25) (by omega)]
                        refine yi_G_callv rfl rfl (ym_rcv hS) rfl (c_makes d (by omega) hS (by omega) (by omega) (by omega) (by omega) ⟨(by rw [r73]; omega), (by rw [r73]; omega)⟩) ?_
                        rintro _ (rfl | rfl)
                        · show yi_G zi_Ms d zi_m29 (149, [(5, .inl b), (4, .inl a), (3, .inl mq), (2, .inl z5), (0, .inr (.inr (some 82))), (1, .inl nu)], [.inl 1], (I1, L69, X), 0, 0) _
                          refine yi_G_if1 false rfl (by decide) ?_
                          refine yi_G_run 1 (153, [(5, .inl b), (4, .inl a), (3, .inl mq), (2, .inl z5), (0, .inr (.inr (some 82))), (1, .inl nu)], [.inr (.inr (some 82))], (I1, L69, X), 0, 0) (fun _ => rfl) ?_
                          refine yi_G_get (156, [(5, .inl b), (4, .inl a), (3, .inl mq), (2, .inl z5), (0, .inr (.inr (some 82))), (1, .inl nu)], [.inr (.inr (some 104))], (I1, L69, X), 0, 0) rfl (ym_gr hS 21 rfl rfl rfl) ?_
                          refine yi_G_run 2 (158, [(5, .inl b), (4, .inl a), (3, .inl mq), (2, .inl z5), (0, .inr (.inr (some 82))), (1, .inl nu)], [.inr (.inr (some 82)), .inl 0, .inr (.inr (some 104))], (I1, L69, X), 0, 0) (fun _ => rfl) ?_
                          refine yi_G_get (161, [(5, .inl b), (4, .inl a), (3, .inl mq), (2, .inl z5), (0, .inr (.inr (some 82))), (1, .inl nu)], [.inr (.inr (some 103)), .inl 0, .inr (.inr (some 104))], (I1, L69, X), 0, 0) rfl (ym_gr hS 20 rfl rfl rfl) ?_
                          refine yi_G_run 1 (163, [(5, .inl b), (4, .inl a), (3, .inl mq), (2, .inl z5), (0, .inr (.inr (some 82))), (1, .inl nu)], [.inl a, .inr (.inr (some 103)), .inl 0, .inr (.inr (some 104))], (I1, L69, X), 0, 0) (fun _ => rfl) ?_
                          refine yi_G_iald (164, [(5, .inl b), (4, .inl a), (3, .inl mq), (2, .inl z5), (0, .inr (.inr (some 82))), (1, .inl nu)], [.inl (I1 103 (a.toNat)), .inl 0, .inr (.inr (some 104))], (I1, L69, X), 0, 0) rfl (ym_li hS 20 rfl (by omega) (by omega) rfl) ?_
                          refine yi_G_iast (165, [(5, .inl b), (4, .inl a), (3, .inl mq), (2, .inl z5), (0, .inr (.inr (some 82))), (1, .inl nu)], [], ((yi_u I1 104 0 (I1 103 (a.toNat))), L69, X), 0, 0) rfl (ym_si hS 21 rfl (by omega) (by omega)) ?_
                          generalize w75 : yi_u I1 104 0 (I1 103 (a.toNat)) = I74
                          refine yi_G_run 1 (166, [(5, .inl b), (4, .inl a), (3, .inl mq), (2, .inl z5), (0, .inr (.inr (some 82))), (1, .inl nu)], [.inr (.inr (some 82))], (I74, L69, X), 0, 0) (fun _ => rfl) ?_
                          refine yi_G_get (169, [(5, .inl b), (4, .inl a), (3, .inl mq), (2, .inl z5), (0, .inr (.inr (some 82))), (1, .inl nu)], [.inr (.inr (some 104))], (I74, L69, X), 0, 0) rfl (ym_gr hS 21 rfl rfl rfl) ?_
                          refine yi_G_run 2 (171, [(5, .inl b), (4, .inl a), (3, .inl mq), (2, .inl z5), (0, .inr (.inr (some 82))), (1, .inl nu)], [.inr (.inr (some 82)), .inl 1, .inr (.inr (some 104))], (I74, L69, X), 0, 0) (fun _ => rfl) ?_
                          refine yi_G_get (174, [(5, .inl b), (4, .inl a), (3, .inl mq), (2, .inl z5), (0, .inr (.inr (some 82))), (1, .inl nu)], [.inr (.inr (some 103)), .inl 1, .inr (.inr (some 104))], (I74, L69, X), 0, 0) rfl (ym_gr hS 20 rfl rfl rfl) ?_
                          refine yi_G_run 1 (176, [(5, .inl b), (4, .inl a), (3, .inl mq), (2, .inl z5), (0, .inr (.inr (some 82))), (1, .inl nu)], [.inl b, .inr (.inr (some 103)), .inl 1, .inr (.inr (some 104))], (I74, L69, X), 0, 0) (fun _ => rfl) ?_
                          have r76 : I74 103 (b.toNat) = I1 103 (b.toNat) := by rw [← w75, yi_u_ne _ _ (by omega)]
                          refine yi_G_iald (177, [(5, .inl b), (4, .inl a), (3, .inl mq), (2, .inl z5), (0, .inr (.inr (some 82))), (1, .inl nu)], [.inl (I1 103 (b.toNat)), .inl 1, .inr (.inr (some 104))], (I74, L69, X), 0, 0) rfl (ym_li hS 20 rfl (by omega) (by omega) r76) ?_
                          refine yi_G_iast (178, [(5, .inl b), (4, .inl a), (3, .inl mq), (2, .inl z5), (0, .inr (.inr (some 82))), (1, .inl nu)], [], ((yi_u I74 104 1 (I1 103 (b.toNat))), L69, X), 0, 0) rfl (ym_si hS 21 rfl (by omega) (by omega)) ?_
                          generalize w78 : yi_u I74 104 1 (I1 103 (b.toNat)) = I77
                          refine yi_G_run 1 (179, [(5, .inl b), (4, .inl a), (3, .inl mq), (2, .inl z5), (0, .inr (.inr (some 82))), (1, .inl nu)], [.inl mq], (I77, L69, X), 0, 0) (fun _ => rfl) ?_
                          exact yi_G_reti rfl rfl (⟨_, _, _, rfl, (fun p k hp => by rw [← w78, yi_u_ne _ _ (fun z => by omega), ← w75, yi_u_ne _ _ (fun z => by omega), f2 p k (by omega)]), (fun p k hp => by rw [f70 p k (by omega), f65 p k (by omega), f60 p k (by omega), fKc p k (by omega), fKb p k (by omega), fKa p k (by omega), f4 p k (by omega)]), by omega, by omega⟩)
                        · show yi_G zi_Ms d zi_m29 (149, [(5, .inl b), (4, .inl a), (3, .inl mq), (2, .inl z5), (0, .inr (.inr (some 82))), (1, .inl nu)], [.inl 0], (I1, L69, X), 0, 0) _
                          refine yi_G_if1 true rfl (by decide) ?_
                          refine yi_G_iinc [(5, .inl (b + 1)), (4, .inl a), (3, .inl mq), (2, .inl z5), (0, .inr (.inr (some 82))), (1, .inl nu)] rfl rfl rfl (by rw [show yi_w (b + 1) = b + 1 from (yi_wn (by omega) (by omega)).trans (by omega)]; rfl) ?_
                          refine yi_G_run 1 (57, [(5, .inl (b + 1)), (4, .inl a), (3, .inl mq), (2, .inl z5), (0, .inr (.inr (some 82))), (1, .inl nu)], [], (I1, L69, X), 0, 0) (fun _ => rfl) ?_
                          exact ih57 _ (by omega) (b + 1) L69 (fun p k hp => by rw [f70 p k (by omega), f65 p k (by omega), f60 p k (by omega), fKc p k (by omega)]) (by omega) (by omega) rfl
                · refine yi_G_if2 true rfl (yi_ne_t h56) ?_
                  refine yi_G_run 1 (72, [(5, .inl b), (4, .inl a), (3, .inl mq), (2, .inl z5), (0, .inr (.inr (some 82))), (1, .inl nu)], [.inr (.inr (some 82)), .inl b], (I1, Kc, X), 0, 0) (fun _ => rfl) ?_
                  refine yi_G_get (75, [(5, .inl b), (4, .inl a), (3, .inl mq), (2, .inl z5), (0, .inr (.inr (some 82))), (1, .inl nu)], [.inl (I1 82 37), .inl b], (I1, Kc, X), 0, 0) rfl (ym_gi hS rfl rfl rfl) ?_
                  by_cases h79 : (I1 82 37) ≤ b
                  · refine yi_G_if2 true rfl (yi_ge_t h79) ?_
                    refine yi_G_iinc [(4, .inl (a + 1)), (5, .inl b), (3, .inl mq), (2, .inl z5), (0, .inr (.inr (some 82))), (1, .inl nu)] rfl rfl rfl (by rw [show yi_w (a + 1) = a + 1 from (yi_wn (by omega) (by omega)).trans (by omega)]; rfl) ?_
                    refine yi_G_run 1 (32, [(4, .inl (a + 1)), (5, .inl b), (3, .inl mq), (2, .inl z5), (0, .inr (.inr (some 82))), (1, .inl nu)], [], (I1, Kc, X), 0, 0) (fun _ => rfl) ?_
                    refine yi_G_al (al := [(4, .inl (a + 1)), (3, .inl mq), (2, .inl z5), (0, .inr (.inr (some 82))), (1, .inl nu)]) (show ([4, 3, 2, 0, 1] : List Nat).Nodup by decide) (show ([4, 5, 3, 2, 0, 1] : List Nat).Nodup by decide) (yi_mc (List.mem_of_getElem? (i := 0) rfl) (yi_mc (List.mem_of_getElem? (i := 2) rfl) (yi_mc (List.mem_of_getElem? (i := 3) rfl) (yi_mc (List.mem_of_getElem? (i := 4) rfl) (yi_mc (List.mem_of_getElem? (i := 5) rfl) yi_mn))))) ?_
                    exact ih32 _ (by omega) (a + 1) Kc (fun p k hp => by rw [fKc p k (by omega), fKb p k (by omega)]) (by omega) (by omega) rfl
                  · refine yi_G_if2 false rfl (yi_ge_f h79) ?_
                    refine yi_G_run 3 (83, [(5, .inl b), (4, .inl a), (3, .inl mq), (2, .inl z5), (0, .inr (.inr (some 82))), (1, .inl nu)], [.inl 59, .inl 39, .inr (.inr (some 82))], (I1, Kc, X), 0, 0) (fun _ => rfl) ?_
                    have r80 : I1 82 25 = I 82 25 := by rw [f2 82 (25) (by omega)]
                    refine yi_G_callv rfl rfl (ym_rcv hS) rfl (w_copiesRow (by omega) hS (by omega) (by omega) (by omega) (by omega) (by rw [r80]; omega) (by rw [r80]; omega)) ?_
                    rintro _ ⟨L81, rfl, f82⟩
                    show yi_G zi_Ms d zi_m29 (86, [(5, .inl b), (4, .inl a), (3, .inl mq), (2, .inl z5), (0, .inr (.inr (some 82))), (1, .inl nu)], [], (I1, L81, X), 0, 0) _
                    refine yi_G_run 4 (91, [(5, .inl b), (4, .inl a), (3, .inl mq), (2, .inl z5), (0, .inr (.inr (some 82))), (1, .inl nu)], [.inr (.inr (some 82)), .inr (.inr (some 82)), .inl 59, .inr (.inr (some 82))], (I1, L81, X), 0, 0) (fun _ => rfl) ?_
                    refine yi_G_get (94, [(5, .inl b), (4, .inl a), (3, .inl mq), (2, .inl z5), (0, .inr (.inr (some 82))), (1, .inl nu)], [.inr (.inr (some 103)), .inr (.inr (some 82)), .inl 59, .inr (.inr (some 82))], (I1, L81, X), 0, 0) rfl (ym_gr hS 20 rfl rfl rfl) ?_
                    refine yi_G_run 1 (96, [(5, .inl b), (4, .inl a), (3, .inl mq), (2, .inl z5), (0, .inr (.inr (some 82))), (1, .inl nu)], [.inl a, .inr (.inr (some 103)), .inr (.inr (some 82)), .inl 59, .inr (.inr (some 82))], (I1, L81, X), 0, 0) (fun _ => rfl) ?_
                    have oa := oh a (by omega) (by omega)
                    refine yi_G_iald (97, [(5, .inl b), (4, .inl a), (3, .inl mq), (2, .inl z5), (0, .inr (.inr (some 82))), (1, .inl nu)], [.inl (I1 103 (a.toNat)), .inr (.inr (some 82)), .inl 59, .inr (.inr (some 82))], (I1, L81, X), 0, 0) rfl (ym_li hS 20 rfl (by omega) (by omega) rfl) ?_
                    refine yi_G_callv rfl rfl (ym_rcv hS) rfl (c_rowOf d (by omega) hS (ym_LR_t (fun k => by rw [f2 88 k (by omega)]) hLR) (by omega) (by omega)) ?_
                    rintro _ ⟨z83, rfl, h84a, h84b⟩
                    show yi_G zi_Ms d zi_m29 (100, [(5, .inl b), (4, .inl a), (3, .inl mq), (2, .inl z5), (0, .inr (.inr (some 82))), (1, .inl nu)], [.inl z83, .inl 59, .inr (.inr (some 82))], (I1, L81, X), 0, 0) _
                    have r85 : I1 82 25 = I 82 25 := by rw [f2 82 (25) (by omega)]
                    refine yi_G_callv rfl rfl (ym_rcv hS) rfl (w_meets (by omega) hS (by omega) (by omega) (by omega) (by omega) (by rw [r85]; omega) (by rw [r85]; omega)) ?_
                    rintro _ ⟨L86, rfl, f87⟩
                    show yi_G zi_Ms d zi_m29 (103, [(5, .inl b), (4, .inl a), (3, .inl mq), (2, .inl z5), (0, .inr (.inr (some 82))), (1, .inl nu)], [], (I1, L86, X), 0, 0) _
                    refine yi_G_run 4 (108, [(5, .inl b), (4, .inl a), (3, .inl mq), (2, .inl z5), (0, .inr (.inr (some 82))), (1, .inl nu)], [.inr (.inr (some 82)), .inr (.inr (some 82)), .inl 59, .inr (.inr (some 82))], (I1, L86, X), 0, 0) (fun _ => rfl) ?_
                    refine yi_G_get (111, [(5, .inl b), (4, .inl a), (3, .inl mq), (2, .inl z5), (0, .inr (.inr (some 82))), (1, .inl nu)], [.inr (.inr (some 103)), .inr (.inr (some 82)), .inl 59, .inr (.inr (some 82))], (I1, L86, X), 0, 0) rfl (ym_gr hS 20 rfl rfl rfl) ?_
                    refine yi_G_run 1 (113, [(5, .inl b), (4, .inl a), (3, .inl mq), (2, .inl z5), (0, .inr (.inr (some 82))), (1, .inl nu)], [.inl b, .inr (.inr (some 103)), .inr (.inr (some 82)), .inl 59, .inr (.inr (some 82))], (I1, L86, X), 0, 0) (fun _ => rfl) ?_
                    have obb := oh b (by omega) (by omega)
                    refine yi_G_iald (114, [(5, .inl b), (4, .inl a), (3, .inl mq), (2, .inl z5), (0, .inr (.inr (some 82))), (1, .inl nu)], [.inl (I1 103 (b.toNat)), .inr (.inr (some 82)), .inl 59, .inr (.inr (some 82))], (I1, L86, X), 0, 0) rfl (ym_li hS 20 rfl (by omega) (by omega) rfl) ?_
                    refine yi_G_callv rfl rfl (ym_rcv hS) rfl (c_rowOf d (by omega) hS (ym_LR_t (fun k => by rw [f2 88 k (by omega)]) hLR) (by omega) (by omega)) ?_
                    rintro _ ⟨z88, rfl, h89a, h89b⟩
                    show yi_G zi_Ms d zi_m29 (117, [(5, .inl b), (4, .inl a), (3, .inl mq), (2, .inl z5), (0, .inr (.inr (some 82))), (1, .inl nu)], [.inl z88, .inl 59, .inr (.inr (some 82))], (I1, L86, X), 0, 0) _
                    have r90 : I1 82 25 = I 82 25 := by rw [f2 82 (25) (by omega)]
                    refine yi_G_callv rfl rfl (ym_rcv hS) rfl (w_meets (by omega) hS (by omega) (by omega) (by omega) (by omega) (by rw [r90]; omega) (by rw [r90]; omega)) ?_
                    rintro _ ⟨L91, rfl, f92⟩
                    show yi_G zi_Ms d zi_m29 (120, [(5, .inl b), (4, .inl a), (3, .inl mq), (2, .inl z5), (0, .inr (.inr (some 82))), (1, .inl nu)], [], (I1, L91, X), 0, 0) _
                    refine yi_G_run 1 (121, [(5, .inl b), (4, .inl a), (3, .inl mq), (2, .inl z5), (0, .inr (.inr (some 82))), (1, .inl nu)], [.inr (.inr (some 82))], (I1, L91, X), 0, 0) (fun _ => rfl) ?_
                    refine yi_G_get (124, [(5, .inl b), (4, .inl a), (3, .inl mq), (2, .inl z5), (0, .inr (.inr (some 82))), (1, .inl nu)], [.inr (.inr (some 103))], (I1, L91, X), 0, 0) rfl (ym_gr hS 20 rfl rfl rfl) ?_
                    refine yi_G_run 1 (126, [(5, .inl b), (4, .inl a), (3, .inl mq), (2, .inl z5), (0, .inr (.inr (some 82))), (1, .inl nu)], [.inl a, .inr (.inr (some 103))], (I1, L91, X), 0, 0) (fun _ => rfl) ?_
                    refine yi_G_iald (127, [(5, .inl b), (4, .inl a), (3, .inl mq), (2, .inl z5), (0, .inr (.inr (some 82))), (1, .inl nu)], [.inl (I1 103 (a.toNat))], (I1, L91, X), 0, 0) rfl (ym_li hS 20 rfl (by omega) (by omega) rfl) ?_
                    refine yi_G_run 1 (128, [(5, .inl b), (4, .inl a), (3, .inl mq), (2, .inl z5), (0, .inr (.inr (some 82))), (1, .inl nu)], [.inl nu, .inl (I1 103 (a.toNat))], (I1, L91, X), 0, 0) (fun _ => rfl) ?_
                    by_cases h93 : (I1 103 (a.toNat)) = nu
                    · refine yi_G_if2 true rfl (yi_eq_t h93) ?_
                      refine yi_G_iinc [(5, .inl (b + 1)), (4, .inl a), (3, .inl mq), (2, .inl z5), (0, .inr (.inr (some 82))), (1, .inl nu)] rfl rfl rfl (by rw [show yi_w (b + 1) = b + 1 from (yi_wn (by omega) (by omega)).trans (by omega)]; rfl) ?_
                      refine yi_G_run 1 (57, [(5, .inl (b + 1)), (4, .inl a), (3, .inl mq), (2, .inl z5), (0, .inr (.inr (some 82))), (1, .inl nu)], [], (I1, L91, X), 0, 0) (fun _ => rfl) ?_
                      exact ih57 _ (by omega) (b + 1) L91 (fun p k hp => by rw [f92 p k (by omega), f87 p k (by omega), f82 p k (by omega), fKc p k (by omega)]) (by omega) (by omega) rfl
                    · refine yi_G_if2 false rfl (yi_eq_f h93) ?_
                      refine yi_G_run 1 (132, [(5, .inl b), (4, .inl a), (3, .inl mq), (2, .inl z5), (0, .inr (.inr (some 82))), (1, .inl nu)], [.inr (.inr (some 82))], (I1, L91, X), 0, 0) (fun _ => rfl) ?_
                      refine yi_G_get (135, [(5, .inl b), (4, .inl a), (3, .inl mq), (2, .inl z5), (0, .inr (.inr (some 82))), (1, .inl nu)], [.inr (.inr (some 103))], (I1, L91, X), 0, 0) rfl (ym_gr hS 20 rfl rfl rfl) ?_
                      refine yi_G_run 1 (137, [(5, .inl b), (4, .inl a), (3, .inl mq), (2, .inl z5), (0, .inr (.inr (some 82))), (1, .inl nu)], [.inl b, .inr (.inr (some 103))], (I1, L91, X), 0, 0) (fun _ => rfl) ?_
                      refine yi_G_iald (138, [(5, .inl b), (4, .inl a), (3, .inl mq), (2, .inl z5), (0, .inr (.inr (some 82))), (1, .inl nu)], [.inl (I1 103 (b.toNat))], (I1, L91, X), 0, 0) rfl (ym_li hS 20 rfl (by omega) (by omega) rfl) ?_
                      refine yi_G_run 1 (139, [(5, .inl b), (4, .inl a), (3, .inl mq), (2, .inl z5), (0, .inr (.inr (some 82))), (1, .inl nu)], [.inl nu, .inl (I1 103 (b.toNat))], (I1, L91, X), 0, 0) (fun _ => rfl) ?_
                      by_cases h94 : (I1 103 (b.toNat)) = nu
                      · refine yi_G_if2 true rfl (yi_eq_t h94) ?_
                        refine yi_G_iinc [(5, .inl (b + 1)), (4, .inl a), (3, .inl mq), (2, .inl z5), (0, .inr (.inr (some 82))), (1, .inl nu)] rfl rfl rfl (by rw [show yi_w (b + 1) = b + 1 from (yi_wn (by omega) (by omega)).trans (by omega)]; rfl) ?_
                        refine yi_G_run 1 (57, [(5, .inl (b + 1)), (4, .inl a), (3, .inl mq), (2, .inl z5), (0, .inr (.inr (some 82))), (1, .inl nu)], [], (I1, L91, X), 0, 0) (fun _ => rfl) ?_
                        exact ih57 _ (by omega) (b + 1) L91 (fun p k hp => by rw [f92 p k (by omega), f87 p k (by omega), f82 p k (by omega), fKc p k (by omega)]) (by omega) (by omega) rfl
                      · refine yi_G_if2 false rfl (yi_eq_f h94) ?_
                        refine yi_G_run 3 (146, [(5, .inl b), (4, .inl a), (3, .inl mq), (2, .inl z5), (0, .inr (.inr (some 82))), (1, .inl nu)], [.inl z5, .inl 59, .inr (.inr (some 82))], (I1, L91, X), 0, 0) (fun _ => rfl) ?_
                        have r95 : I1 82 25 = I 82 25 := by rw [f2 82 (25) (by omega)]
                        refine yi_G_callv rfl rfl (ym_rcv hS) rfl (c_makes d (by omega) hS (by omega) (by omega) (by omega) (by omega) ⟨(by rw [r95]; omega), (by rw [r95]; omega)⟩) ?_
                        rintro _ (rfl | rfl)
                        · show yi_G zi_Ms d zi_m29 (149, [(5, .inl b), (4, .inl a), (3, .inl mq), (2, .inl z5), (0, .inr (.inr (some 82))), (1, .inl nu)], [.inl 1], (I1, L91, X), 0, 0) _
                          refine yi_G_if1 false rfl (by decide) ?_
                          refine yi_G_run 1 (153, [(5, .inl b), (4, .inl a), (3, .inl mq), (2, .inl z5), (0, .inr (.inr (some 82))), (1, .inl nu)], [.inr (.inr (some 82))], (I1, L91, X), 0, 0) (fun _ => rfl) ?_
                          refine yi_G_get (156, [(5, .inl b), (4, .inl a), (3, .inl mq), (2, .inl z5), (0, .inr (.inr (some 82))), (1, .inl nu)], [.inr (.inr (some 104))], (I1, L91, X), 0, 0) rfl (ym_gr hS 21 rfl rfl rfl) ?_
                          refine yi_G_run 2 (158, [(5, .inl b), (4, .inl a), (3, .inl mq), (2, .inl z5), (0, .inr (.inr (some 82))), (1, .inl nu)], [.inr (.inr (some 82)), .inl 0, .inr (.inr (some 104))], (I1, L91, X), 0, 0) (fun _ => rfl) ?_
                          refine yi_G_get (161, [(5, .inl b), (4, .inl a), (3, .inl mq), (2, .inl z5), (0, .inr (.inr (some 82))), (1, .inl nu)], [.inr (.inr (some 103)), .inl 0, .inr (.inr (some 104))], (I1, L91, X), 0, 0) rfl (ym_gr hS 20 rfl rfl rfl) ?_
                          refine yi_G_run 1 (163, [(5, .inl b), (4, .inl a), (3, .inl mq), (2, .inl z5), (0, .inr (.inr (some 82))), (1, .inl nu)], [.inl a, .inr (.inr (some 103)), .inl 0, .inr (.inr (some 104))], (I1, L91, X), 0, 0) (fun _ => rfl) ?_
                          refine yi_G_iald (164, [(5, .inl b), (4, .inl a), (3, .inl mq), (2, .inl z5), (0, .inr (.inr (some 82))), (1, .inl nu)], [.inl (I1 103 (a.toNat)), .inl 0, .inr (.inr (some 104))], (I1, L91, X), 0, 0) rfl (ym_li hS 20 rfl (by omega) (by omega) rfl) ?_
                          refine yi_G_iast (165, [(5, .inl b), (4, .inl a), (3, .inl mq), (2, .inl z5), (0, .inr (.inr (some 82))), (1, .inl nu)], [], ((yi_u I1 104 0 (I1 103 (a.toNat))), L91, X), 0, 0) rfl (ym_si hS 21 rfl (by omega) (by omega)) ?_
                          generalize w97 : yi_u I1 104 0 (I1 103 (a.toNat)) = I96
                          refine yi_G_run 1 (166, [(5, .inl b), (4, .inl a), (3, .inl mq), (2, .inl z5), (0, .inr (.inr (some 82))), (1, .inl nu)], [.inr (.inr (some 82))], (I96, L91, X), 0, 0) (fun _ => rfl) ?_
                          refine yi_G_get (169, [(5, .inl b), (4, .inl a), (3, .inl mq), (2, .inl z5), (0, .inr (.inr (some 82))), (1, .inl nu)], [.inr (.inr (some 104))], (I96, L91, X), 0, 0) rfl (ym_gr hS 21 rfl rfl rfl) ?_
                          refine yi_G_run 2 (171, [(5, .inl b), (4, .inl a), (3, .inl mq), (2, .inl z5), (0, .inr (.inr (some 82))), (1, .inl nu)], [.inr (.inr (some 82)), .inl 1, .inr (.inr (some 104))], (I96, L91, X), 0, 0) (fun _ => rfl) ?_
                          refine yi_G_get (174, [(5, .inl b), (4, .inl a), (3, .inl mq), (2, .inl z5), (0, .inr (.inr (some 82))), (1, .inl nu)], [.inr (.inr (some 103)), .inl 1, .inr (.inr (some 104))], (I96, L91, X), 0, 0) rfl (ym_gr hS 20 rfl rfl rfl) ?_
                          refine yi_G_run 1 (176, [(5, .inl b), (4, .inl a), (3, .inl mq), (2, .inl z5), (0, .inr (.inr (some 82))), (1, .inl nu)], [.inl b, .inr (.inr (some 103)), .inl 1, .inr (.inr (some 104))], (I96, L91, X), 0, 0) (fun _ => rfl) ?_
                          have r98 : I96 103 (b.toNat) = I1 103 (b.toNat) := by rw [← w97, yi_u_ne _ _ (by omega)]
                          refine yi_G_iald (177, [(5, .inl b), (4, .inl a), (3, .inl mq), (2, .inl z5), (0, .inr (.inr (some 82))), (1, .inl nu)], [.inl (I1 103 (b.toNat)), .inl 1, .inr (.inr (some 104))], (I96, L91, X), 0, 0) rfl (ym_li hS 20 rfl (by omega) (by omega) r98) ?_
                          refine yi_G_iast (178, [(5, .inl b), (4, .inl a), (3, .inl mq), (2, .inl z5), (0, .inr (.inr (some 82))), (1, .inl nu)], [], ((yi_u I96 104 1 (I1 103 (b.toNat))), L91, X), 0, 0) rfl (ym_si hS 21 rfl (by omega) (by omega)) ?_
                          generalize w100 : yi_u I96 104 1 (I1 103 (b.toNat)) = I99
                          refine yi_G_run 1 (179, [(5, .inl b), (4, .inl a), (3, .inl mq), (2, .inl z5), (0, .inr (.inr (some 82))), (1, .inl nu)], [.inl mq], (I99, L91, X), 0, 0) (fun _ => rfl) ?_
                          exact yi_G_reti rfl rfl (⟨_, _, _, rfl, (fun p k hp => by rw [← w100, yi_u_ne _ _ (fun z => by omega), ← w97, yi_u_ne _ _ (fun z => by omega), f2 p k (by omega)]), (fun p k hp => by rw [f92 p k (by omega), f87 p k (by omega), f82 p k (by omega), fKc p k (by omega), fKb p k (by omega), fKa p k (by omega), f4 p k (by omega)]), by omega, by omega⟩)
                        · show yi_G zi_Ms d zi_m29 (149, [(5, .inl b), (4, .inl a), (3, .inl mq), (2, .inl z5), (0, .inr (.inr (some 82))), (1, .inl nu)], [.inl 0], (I1, L91, X), 0, 0) _
                          refine yi_G_if1 true rfl (by decide) ?_
                          refine yi_G_iinc [(5, .inl (b + 1)), (4, .inl a), (3, .inl mq), (2, .inl z5), (0, .inr (.inr (some 82))), (1, .inl nu)] rfl rfl rfl (by rw [show yi_w (b + 1) = b + 1 from (yi_wn (by omega) (by omega)).trans (by omega)]; rfl) ?_
                          refine yi_G_run 1 (57, [(5, .inl (b + 1)), (4, .inl a), (3, .inl mq), (2, .inl z5), (0, .inr (.inr (some 82))), (1, .inl nu)], [], (I1, L91, X), 0, 0) (fun _ => rfl) ?_
                          exact ih57 _ (by omega) (b + 1) L91 (fun p k hp => by rw [f92 p k (by omega), f87 p k (by omega), f82 p k (by omega), fKc p k (by omega)]) (by omega) (by omega) rfl
              exact pt57 _ (a + 1) Kb (fun _ _ _ => rfl) (by omega) (by omega) rfl
        exact pt32 _ 0 Ka (fun _ _ _ => rfl) (by omega) (by omega) rfl
    exact pt24 _ 1 L3 (fun _ _ _ => rfl) (by omega) (by omega) rfl
theorem q_making (D : Nat) (hD : 6 ≤ D) {I L : Nat → Nat → Int} {X : ym_X} (hS : ym_S X) {p da ev w : Int} (hLR : ym_LR I) (hS0 : ym_S0 I) (hl : 0 ≤ I 82 25 ∧ I 82 25 ≤ 512) : yi_E zi_Ms D 79 [.inr (.inr (some 82)), .inl p, .inl da, .inl ev, .inl w] (I, L, X) (fun r => ∃ z I' L', r = (some (.inl z), (I', L', X), 0, 0) ∧ (∀ p k, p ≠ 96 ∧ p ≠ 99 ∧ p ≠ 103 ∧ p ≠ 104 ∧ p ≠ 105 ∧ p ≠ 106 ∧ p ≠ 107 ∧ p ≠ 108 ∧ ¬ (p = 82 ∧ k = 0) ∧ ¬ (p = 82 ∧ k = 34) ∧ ¬ (p = 82 ∧ k = 35) ∧ ¬ (p = 82 ∧ k = 37) ∧ ¬ (p = 82 ∧ k = 40) → I' p k = I p k) ∧ (∀ p k, p ≠ 97 ∧ ¬ (p = 82 ∧ k = 43) → L' p k = L p k)) := by
  obtain ⟨d, rfl⟩ : ∃ d, D = d + 1 := ⟨D - 1, by omega⟩
  refine yi_E_of (M := zi_m79) rfl rfl ?_
  obtain ⟨l0, l1, l2, l3, l4, l5⟩ := id hLR
  obtain ⟨t0, t1, t2, t3, t4⟩ := id hS0
  show yi_G zi_Ms d zi_m79 (0, [(0, .inr (.inr (some 82))), (1, .inl p), (2, .inl da), (3, .inl ev), (4, .inl w)], [], (I, L, X), 0, 0) _
  refine yi_G_run 2 (2, [(0, .inr (.inr (some 82))), (1, .inl p), (2, .inl da), (3, .inl ev), (4, .inl w)], [.inl 0, .inr (.inr (some 82))], (I, L, X), 0, 0) (fun _ => rfl) ?_
  refine yi_G_put (5, [(0, .inr (.inr (some 82))), (1, .inl p), (2, .inl da), (3, .inl ev), (4, .inl w)], [], ((yi_u I 82 0 0), L, X), 0, 0) rfl (ym_pi hS rfl rfl) ?_
  generalize w2 : yi_u I 82 0 0 = I1
  refine yi_G_run 4 (9, [(0, .inr (.inr (some 82))), (1, .inl p), (2, .inl da), (3, .inl ev), (4, .inl w)], [.inl ev, .inl da, .inl p, .inr (.inr (some 82))], (I1, L, X), 0, 0) (fun _ => rfl) ?_
  have r4 : I1 88 1 = I 88 1 := by rw [← w2, yi_u_ne _ _ (by omega)]
  have r5 : I1 88 0 = I 88 0 := by rw [← w2, yi_u_ne _ _ (by omega)]
  have r6 : I1 88 2 = I 88 2 := by rw [← w2, yi_u_ne _ _ (by omega)]
  refine yi_G_callv rfl rfl (ym_rcv hS) rfl (c_isWord3 d (by omega) hS r4 r5 r6) ?_
  rintro _ (⟨c3, rfl⟩ | ⟨c3, rfl⟩)
  · show yi_G zi_Ms d zi_m79 (12, [(0, .inr (.inr (some 82))), (1, .inl p), (2, .inl da), (3, .inl ev), (4, .inl w)], [.inl 1], (I1, L, X), 0, 0) _
    refine yi_G_if1 false rfl (by decide) ?_
    refine yi_G_run 3 (19, [(0, .inr (.inr (some 82))), (1, .inl p), (2, .inl da), (3, .inl ev), (4, .inl w)], [.inl 1, .inl (-1), .inl w], (I1, L, X), 0, 0) (fun _ => rfl) ?_
    refine yi_G_calls rfl rfl (c_within d (by omega) hS) ?_
    rintro _ (⟨c7, rfl⟩ | ⟨c7, rfl⟩)
    · show yi_G zi_Ms d zi_m79 (22, [(0, .inr (.inr (some 82))), (1, .inl p), (2, .inl da), (3, .inl ev), (4, .inl w)], [.inl 1], (I1, L, X), 0, 0) _
      refine yi_G_if1 true rfl (by decide) ?_
      refine yi_G_run 5 (32, [(0, .inr (.inr (some 82))), (1, .inl p), (2, .inl da), (3, .inl ev), (4, .inl w)], [.inl ev, .inl da, .inl p, .inr (.inr (some 82)), .inr (.inr (some 82))], (I1, L, X), 0, 0) (fun _ => rfl) ?_
      refine yi_G_callv rfl rfl (ym_rcv hS) rfl (c_numberOf d (by omega) hS (by omega) (by omega) (by omega) (by omega) (by omega) (by omega)) ?_
      rintro _ rfl
      show yi_G zi_Ms d zi_m79 (35, [(0, .inr (.inr (some 82))), (1, .inl p), (2, .inl da), (3, .inl ev), (4, .inl w)], [.inl (16 * (da - 1) + 4 * p + ev), .inr (.inr (some 82))], (I1, L, X), 0, 0) _
      have r14 : I1 82 25 = I 82 25 := by rw [← w2, yi_u_ne _ _ (by omega)]
      refine yi_G_callv rfl rfl (ym_rcv hS) rfl (c_findMaking d (by omega) hS (ym_LR_t (fun k => by rw [← w2, yi_u_ne _ _ (fun z => absurd z.1 (by decide))]) hLR) (ym_S0_t (fun k => by rw [← w2, yi_u_ne _ _ (fun z => absurd z.1 (by decide))]) hS0) ⟨(by rw [r14]; omega), (by rw [r14]; omega)⟩ (by omega) (by omega)) ?_
      rintro _ ⟨z12, I8, L10, rfl, f9, f11, h13a, h13b⟩
      show yi_G zi_Ms d zi_m79 (38, [(0, .inr (.inr (some 82))), (1, .inl p), (2, .inl da), (3, .inl ev), (4, .inl w)], [.inl z12], (I8, L10, X), 0, 0) _
      refine yi_G_run 2 (42, [(5, .inl z12), (0, .inr (.inr (some 82))), (1, .inl p), (2, .inl da), (3, .inl ev), (4, .inl w)], [.inl z12], (I8, L10, X), 0, 0) (fun _ => rfl) ?_
      by_cases h15 : z12 < 0
      · refine yi_G_if1 true rfl (yi_lt_t h15) ?_
        refine yi_G_run 2 (74, [(5, .inl z12), (0, .inr (.inr (some 82))), (1, .inl p), (2, .inl da), (3, .inl ev), (4, .inl w)], [.inl z12], (I8, L10, X), 0, 0) (fun _ => rfl) ?_
        exact yi_G_reti rfl rfl (⟨_, _, _, rfl, (fun p k hp => by rw [f9 p k (by omega), ← w2, yi_u_ne _ _ (fun z => by omega)]), (fun p k hp => by rw [f11 p k (by omega)])⟩)
      · refine yi_G_if1 false rfl (yi_lt_f h15) ?_
        refine yi_G_run 2 (48, [(5, .inl z12), (0, .inr (.inr (some 82))), (1, .inl p), (2, .inl da), (3, .inl ev), (4, .inl w)], [.inl (-1), .inl w], (I8, L10, X), 0, 0) (fun _ => rfl) ?_
        by_cases h16 : w = (-1)
        · refine yi_G_if2 false rfl (yi_ne_f h16) ?_
          refine yi_G_run 2 (74, [(5, .inl z12), (0, .inr (.inr (some 82))), (1, .inl p), (2, .inl da), (3, .inl ev), (4, .inl w)], [.inl z12], (I8, L10, X), 0, 0) (fun _ => rfl) ?_
          exact yi_G_reti rfl rfl (⟨_, _, _, rfl, (fun p k hp => by rw [f9 p k (by omega), ← w2, yi_u_ne _ _ (fun z => by omega)]), (fun p k hp => by rw [f11 p k (by omega)])⟩)
        · refine yi_G_if2 true rfl (yi_ne_t h16) ?_
          refine yi_G_run 2 (60, [(5, .inl z12), (0, .inr (.inr (some 82))), (1, .inl p), (2, .inl da), (3, .inl ev), (4, .inl w)], [.inl z12, .inl w], (I8, L10, X), 0, 0) (fun _ => rfl) ?_
          by_cases h17 : z12 ≤ w
          · refine yi_G_if2 true rfl (yi_ge_t h17) ?_
            refine yi_G_run 1 (74, [(5, .inl z12), (0, .inr (.inr (some 82))), (1, .inl p), (2, .inl da), (3, .inl ev), (4, .inl w)], [.inl (-1)], (I8, L10, X), 0, 0) (fun _ => rfl) ?_
            exact yi_G_reti rfl rfl (⟨_, _, _, rfl, (fun p k hp => by rw [f9 p k (by omega), ← w2, yi_u_ne _ _ (fun z => by omega)]), (fun p k hp => by rw [f11 p k (by omega)])⟩)
          · refine yi_G_if2 false rfl (yi_ge_f h17) ?_
            refine yi_G_run 1 (64, [(5, .inl z12), (0, .inr (.inr (some 82))), (1, .inl p), (2, .inl da), (3, .inl ev), (4, .inl w)], [.inr (.inr (some 82))], (I8, L10, X), 0, 0) (fun _ => rfl) ?_
            refine yi_G_get (67, [(5, .inl z12), (0, .inr (.inr (some 82))), (1, .inl p), (2, .inl da), (3, .inl ev), (4, .inl w)], [.inr (.inr (some 104))], (I8, L10, X), 0, 0) rfl (ym_gr hS 21 rfl rfl rfl) ?_
            refine yi_G_run 1 (69, [(5, .inl z12), (0, .inr (.inr (some 82))), (1, .inl p), (2, .inl da), (3, .inl ev), (4, .inl w)], [.inl w, .inr (.inr (some 104))], (I8, L10, X), 0, 0) (fun _ => rfl) ?_
            refine yi_G_iald (70, [(5, .inl z12), (0, .inr (.inr (some 82))), (1, .inl p), (2, .inl da), (3, .inl ev), (4, .inl w)], [.inl (I8 104 (w.toNat))], (I8, L10, X), 0, 0) rfl (ym_li hS 21 rfl (by omega) (by omega) rfl) ?_
            refine yi_G_run 1 (74, [(5, .inl z12), (0, .inr (.inr (some 82))), (1, .inl p), (2, .inl da), (3, .inl ev), (4, .inl w)], [.inl (I8 104 (w.toNat))], (I8, L10, X), 0, 0) (fun _ => rfl) ?_
            exact yi_G_reti rfl rfl (⟨_, _, _, rfl, (fun p k hp => by rw [f9 p k (by omega), ← w2, yi_u_ne _ _ (fun z => by omega)]), (fun p k hp => by rw [f11 p k (by omega)])⟩)
    · show yi_G zi_Ms d zi_m79 (22, [(0, .inr (.inr (some 82))), (1, .inl p), (2, .inl da), (3, .inl ev), (4, .inl w)], [.inl 0], (I1, L, X), 0, 0) _
      refine yi_G_if1 false rfl (by decide) ?_
      refine yi_G_run 1 (26, [(0, .inr (.inr (some 82))), (1, .inl p), (2, .inl da), (3, .inl ev), (4, .inl w)], [.inl (-1)], (I1, L, X), 0, 0) (fun _ => rfl) ?_
      exact yi_G_reti rfl rfl (⟨_, _, _, rfl, (fun p k hp => by rw [← w2, yi_u_ne _ _ (fun z => by omega)]), (fun _ _ _ => rfl)⟩)
  · show yi_G zi_Ms d zi_m79 (12, [(0, .inr (.inr (some 82))), (1, .inl p), (2, .inl da), (3, .inl ev), (4, .inl w)], [.inl 0], (I1, L, X), 0, 0) _
    refine yi_G_if1 true rfl (by decide) ?_
    refine yi_G_run 1 (26, [(0, .inr (.inr (some 82))), (1, .inl p), (2, .inl da), (3, .inl ev), (4, .inl w)], [.inl (-1)], (I1, L, X), 0, 0) (fun _ => rfl) ?_
    exact yi_G_reti rfl rfl (⟨_, _, _, rfl, (fun p k hp => by rw [← w2, yi_u_ne _ _ (fun z => by omega)]), (fun _ _ _ => rfl)⟩)
theorem c_draw (D : Nat) (hD : 1 ≤ D) {I L : Nat → Nat → Int} {X : ym_X} (hS : ym_S X) {m : Int} (h0 : 1 ≤ m) (h1 : m ≤ 100000) (g0 : 0 ≤ L 82 43 ∧ L 82 43 < 2147483648) : yi_E zi_Ms D 19 [.inr (.inr (some 82)), .inl m] (I, L, X) (fun r => ∃ z g', r = (some (.inl z), (I, yi_u L 82 43 g', X), 0, 0) ∧ (0 ≤ z ∧ z < m) ∧ (0 ≤ g' ∧ g' < 2147483648)) := by
  obtain ⟨d, rfl⟩ : ∃ d, D = d + 1 := ⟨D - 1, by omega⟩
  refine yi_E_of (M := zi_m19) rfl rfl ?_
  show yi_G zi_Ms d zi_m19 (0, [(0, .inr (.inr (some 82))), (1, .inl m)], [], (I, L, X), 0, 0) _
  refine yi_G_run 2 (2, [(0, .inr (.inr (some 82))), (1, .inl m)], [.inr (.inr (some 82)), .inr (.inr (some 82))], (I, L, X), 0, 0) (fun _ => rfl) ?_
  refine yi_G_get (5, [(0, .inr (.inr (some 82))), (1, .inl m)], [.inr (.inl (L 82 43)), .inr (.inr (some 82))], (I, L, X), 0, 0) rfl (ym_gl hS rfl rfl rfl) ?_
  refine yi_G_ldc2 (1103515245) rfl (by decide +kernel) ?_
  refine yi_G_lmul rfl ((L 82 43) * 1103515245) (yi_Wn (by omega) (by omega)) ?_
  refine yi_G_ldc2 (12345) rfl (by decide +kernel) ?_
  refine yi_G_ladd rfl (((L 82 43) * 1103515245) + 12345) (yi_Wn (by omega) (by omega)) ?_
  refine yi_G_ldc2 (2147483648) rfl (by decide +kernel) ?_
  refine yi_G_lrem rfl (by decide) ((((L 82 43) * 1103515245) + 12345) % 2147483648) (yi_md (by omega) rfl) ?_
  refine yi_G_put (20, [(0, .inr (.inr (some 82))), (1, .inl m)], [], (I, (yi_u L 82 43 ((((L 82 43) * 1103515245) + 12345) % 2147483648)), X), 0, 0) rfl (ym_plg hS rfl rfl) ?_
  generalize w2 : yi_u L 82 43 ((((L 82 43) * 1103515245) + 12345) % 2147483648) = L1
  refine yi_G_run 1 (21, [(0, .inr (.inr (some 82))), (1, .inl m)], [.inr (.inr (some 82))], (I, L1, X), 0, 0) (fun _ => rfl) ?_
  have r3 : L1 82 43 = (((L 82 43) * 1103515245) + 12345) % 2147483648 := by rw [← w2, yi_u_eq]
  refine yi_G_get (24, [(0, .inr (.inr (some 82))), (1, .inl m)], [.inr (.inl ((((L 82 43) * 1103515245) + 12345) % 2147483648))], (I, L1, X), 0, 0) rfl (ym_gl hS rfl rfl r3) ?_
  refine yi_G_ldc2 (65536) rfl (by decide +kernel) ?_
  refine yi_G_ldiv rfl (by decide) (((((L 82 43) * 1103515245) + 12345) % 2147483648) / 65536) (yi_dvL (by omega) rfl (by omega) (by omega)) ?_
  refine yi_G_run 2 (30, [(0, .inr (.inr (some 82))), (1, .inl m)], [.inr (.inl m), .inr (.inl (((((L 82 43) * 1103515245) + 12345) % 2147483648) / 65536))], (I, L1, X), 0, 0) (fun _ => rfl) ?_
  refine yi_G_lrem rfl (by omega) ((((((L 82 43) * 1103515245) + 12345) % 2147483648) / 65536) % m) (yi_md (by omega) rfl) ?_
  have e1 := Int.emod_nonneg ((L 82 43 * 1103515245 + 12345) % 2147483648 / 65536) (show m ≠ 0 by omega)
  have e2 := Int.emod_lt_of_pos ((L 82 43 * 1103515245 + 12345) % 2147483648 / 65536) (show 0 < m by omega)
  refine yi_G_l2i rfl ((((((L 82 43) * 1103515245) + 12345) % 2147483648) / 65536) % m) (yi_wn (by omega) (by omega)) ?_
  exact yi_G_reti rfl rfl (⟨_, (((L 82 43) * 1103515245) + 12345) % 2147483648, by rw [← w2], by omega, by omega⟩)
theorem c_laysWord (D : Nat) (hD : 3 ≤ D) {I L : Nat → Nat → Int} {X : ym_X} (hS : ym_S X) {row p da ev ki : Int} (hLR : ym_LR I) (h0 : 0 ≤ row) (h1 : row ≤ 311) (h2 : 0 ≤ p) (h3 : p ≤ 3) (h4 : 1 ≤ da) (h5 : da ≤ 6) (h6 : 0 ≤ ev) (h7 : ev ≤ 3) (hl : 0 ≤ I 82 25 ∧ I 82 25 ≤ 512) : yi_E zi_Ms D 77 [.inr (.inr (some 82)), .inl row, .inl p, .inl da, .inl ev, .inl ki] (I, L, X) (fun r => ∃ L', r = (none, (I, L', X), 0, 0) ∧ ∀ p k, p ≠ 97 → L' p k = L p k) := by
  obtain ⟨d, rfl⟩ : ∃ d, D = d + 1 := ⟨D - 1, by omega⟩
  refine yi_E_of (M := zi_m77) rfl rfl ?_
  obtain ⟨l0, l1, l2, l3, l4, l5⟩ := id hLR
  show yi_G zi_Ms d zi_m77 (0, [(0, .inr (.inr (some 82))), (1, .inl row), (2, .inl p), (3, .inl da), (4, .inl ev), (5, .inl ki)], [], (I, L, X), 0, 0) _
  refine yi_G_run 5 (6, [(0, .inr (.inr (some 82))), (1, .inl row), (2, .inl p), (3, .inl da), (4, .inl ev), (5, .inl ki)], [.inl ev, .inl da, .inl p, .inr (.inr (some 82)), .inr (.inr (some 82))], (I, L, X), 0, 0) (fun _ => rfl) ?_
  refine yi_G_callv rfl rfl (ym_rcv hS) rfl (c_wordAt d (by omega) hS hLR (by omega) (by omega) (by omega) (by omega) (by omega) (by omega)) ?_
  rintro _ ⟨z1, rfl, h2a, h2b, h2c⟩
  show yi_G zi_Ms d zi_m77 (9, [(0, .inr (.inr (some 82))), (1, .inl row), (2, .inl p), (3, .inl da), (4, .inl ev), (5, .inl ki)], [.inl z1, .inr (.inr (some 82))], (I, L, X), 0, 0) _
  refine yi_G_run 1 (10, [(0, .inr (.inr (some 82))), (1, .inl row), (2, .inl p), (3, .inl da), (4, .inl ev), (5, .inl ki)], [.inl row, .inl z1, .inr (.inr (some 82))], (I, L, X), 0, 0) (fun _ => rfl) ?_
  refine yi_G_callv rfl rfl (ym_rcv hS) rfl (w_copiesRow (by omega) hS (by omega) (by omega) (by omega) (by omega) (by omega) (by omega)) ?_
  rintro _ ⟨L3, rfl, f4⟩
  show yi_G zi_Ms d zi_m77 (13, [(0, .inr (.inr (some 82))), (1, .inl row), (2, .inl p), (3, .inl da), (4, .inl ev), (5, .inl ki)], [], (I, L3, X), 0, 0) _
  refine yi_G_run 2 (16, [(6, .inl 1), (0, .inr (.inr (some 82))), (1, .inl row), (2, .inl p), (3, .inl da), (4, .inl ev), (5, .inl ki)], [], (I, L3, X), 0, 0) (fun _ => rfl) ?_
  have pt16 : ∀ (m : Nat) (k : Int) (Ka : Nat → Nat → Int), (∀ p k, p ≠ 97 → Ka p k = L3 p k) → (1 ≤ k) → (k ≤ 6) → (6 - k).toNat = m → yi_G zi_Ms d zi_m77 (16, [(6, .inl k), (0, .inr (.inr (some 82))), (1, .inl row), (2, .inl p), (3, .inl da), (4, .inl ev), (5, .inl ki)], [], (I, Ka, X), 0, 0) (fun r => ∃ L', r = (none, (I, L', X), 0, 0) ∧ ∀ p k, p ≠ 97 → L' p k = L p k) := by
    intro m16
    induction m16 using Nat.strongRecOn with
    | _ m16 ih16 =>
    intro k Ka fKa k0 k1 hm16
    refine yi_G_run 2 (19, [(6, .inl k), (0, .inr (.inr (some 82))), (1, .inl row), (2, .inl p), (3, .inl da), (4, .inl ev), (5, .inl ki)], [.inl da, .inl k], (I, Ka, X), 0, 0) (fun _ => rfl) ?_
    by_cases h5 : da ≤ k
    · refine yi_G_if2 true rfl (yi_ge_t h5) ?_
      refine yi_G_run 2 (51, [(6, .inl 0), (0, .inr (.inr (some 82))), (1, .inl row), (2, .inl p), (3, .inl da), (4, .inl ev), (5, .inl ki)], [], (I, Ka, X), 0, 0) (fun _ => rfl) ?_
      have pt51 : ∀ (m : Nat) (k : Int) (Kb : Nat → Nat → Int), (∀ p k, p ≠ 97 → Kb p k = Ka p k) → (0 ≤ k) → (k ≤ I 88 1) → (I 88 1 - k).toNat = m → yi_G zi_Ms d zi_m77 (51, [(6, .inl k), (0, .inr (.inr (some 82))), (1, .inl row), (2, .inl p), (3, .inl da), (4, .inl ev), (5, .inl ki)], [], (I, Kb, X), 0, 0) (fun r => ∃ L', r = (none, (I, L', X), 0, 0) ∧ ∀ p k, p ≠ 97 → L' p k = L p k) := by
        intro m51
        induction m51 using Nat.strongRecOn with
        | _ m51 ih51 =>
        intro k Kb fKb k2 k3 hm51
        refine yi_G_run 2 (54, [(6, .inl k), (0, .inr (.inr (some 82))), (1, .inl row), (2, .inl p), (3, .inl da), (4, .inl ev), (5, .inl ki)], [.inr (.inr (some 82)), .inl k], (I, Kb, X), 0, 0) (fun _ => rfl) ?_
        refine yi_G_callv rfl rfl (ym_rcv hS) rfl (c_people d (by omega) hS rfl) ?_
        rintro _ rfl
        show yi_G zi_Ms d zi_m77 (57, [(6, .inl k), (0, .inr (.inr (some 82))), (1, .inl row), (2, .inl p), (3, .inl da), (4, .inl ev), (5, .inl ki)], [.inl (I 88 1), .inl k], (I, Kb, X), 0, 0) _
        by_cases h6 : (I 88 1) ≤ k
        · refine yi_G_if2 true rfl (yi_ge_t h6) ?_
          refine yi_G_run 2 (89, [(6, .inl 0), (0, .inr (.inr (some 82))), (1, .inl row), (2, .inl p), (3, .inl da), (4, .inl ev), (5, .inl ki)], [], (I, Kb, X), 0, 0) (fun _ => rfl) ?_
          have pt89 : ∀ (m : Nat) (k : Int) (Kc : Nat → Nat → Int), (∀ p k, p ≠ 97 → Kc p k = Kb p k) → (0 ≤ k) → (k ≤ I 82 25) → (I 82 25 - k).toNat = m → yi_G zi_Ms d zi_m77 (89, [(6, .inl k), (0, .inr (.inr (some 82))), (1, .inl row), (2, .inl p), (3, .inl da), (4, .inl ev), (5, .inl ki)], [], (I, Kc, X), 0, 0) (fun r => ∃ L', r = (none, (I, L', X), 0, 0) ∧ ∀ p k, p ≠ 97 → L' p k = L p k) := by
            intro m89
            induction m89 using Nat.strongRecOn with
            | _ m89 ih89 =>
            intro k Kc fKc k4 k5 hm89
            refine yi_G_run 2 (92, [(6, .inl k), (0, .inr (.inr (some 82))), (1, .inl row), (2, .inl p), (3, .inl da), (4, .inl ev), (5, .inl ki)], [.inr (.inr (some 82)), .inl k], (I, Kc, X), 0, 0) (fun _ => rfl) ?_
            refine yi_G_get (95, [(6, .inl k), (0, .inr (.inr (some 82))), (1, .inl row), (2, .inl p), (3, .inl da), (4, .inl ev), (5, .inl ki)], [.inl (I 82 25), .inl k], (I, Kc, X), 0, 0) rfl (ym_gi hS rfl rfl rfl) ?_
            by_cases h7 : (I 82 25) ≤ k
            · refine yi_G_if2 true rfl (yi_ge_t h7) ?_
              exact yi_G_retv rfl rfl (⟨_, rfl, (fun p k hp => by rw [fKc p k (by omega), fKb p k (by omega), fKa p k (by omega), f4 p k (by omega)])⟩)
            · refine yi_G_if2 false rfl (yi_ge_f h7) ?_
              refine yi_G_run 2 (101, [(6, .inl k), (0, .inr (.inr (some 82))), (1, .inl row), (2, .inl p), (3, .inl da), (4, .inl ev), (5, .inl ki)], [.inl 2, .inl ki], (I, Kc, X), 0, 0) (fun _ => rfl) ?_
              by_cases h8 : ki = 2
              · refine yi_G_if2 false rfl (yi_ne_f h8) ?_
                refine yi_G_run 1 (105, [(6, .inl k), (0, .inr (.inr (some 82))), (1, .inl row), (2, .inl p), (3, .inl da), (4, .inl ev), (5, .inl ki)], [.inr (.inr (some 82))], (I, Kc, X), 0, 0) (fun _ => rfl) ?_
                refine yi_G_get (108, [(6, .inl k), (0, .inr (.inr (some 82))), (1, .inl row), (2, .inl p), (3, .inl da), (4, .inl ev), (5, .inl ki)], [.inr (.inr (some 97))], (I, Kc, X), 0, 0) rfl (ym_gr hS 14 rfl rfl rfl) ?_
                refine yi_G_run 2 (112, [(6, .inl k), (0, .inr (.inr (some 82))), (1, .inl row), (2, .inl p), (3, .inl da), (4, .inl ev), (5, .inl ki)], [.inl row, .inl 512, .inr (.inr (some 97))], (I, Kc, X), 0, 0) (fun _ => rfl) ?_
                refine yi_G_imul rfl (512 * row) (yi_wn (by omega) (by omega)) ?_
                refine yi_G_run 1 (115, [(6, .inl k), (0, .inr (.inr (some 82))), (1, .inl row), (2, .inl p), (3, .inl da), (4, .inl ev), (5, .inl ki)], [.inl k, .inl (512 * row), .inr (.inr (some 97))], (I, Kc, X), 0, 0) (fun _ => rfl) ?_
                refine yi_G_iadd rfl ((512 * row) + k) (yi_wn (by omega) (by omega)) ?_
                refine yi_G_run 1 (117, [(6, .inl k), (0, .inr (.inr (some 82))), (1, .inl row), (2, .inl p), (3, .inl da), (4, .inl ev), (5, .inl ki)], [.inr (.inr (some 82)), .inl ((512 * row) + k), .inr (.inr (some 97))], (I, Kc, X), 0, 0) (fun _ => rfl) ?_
                refine yi_G_get (120, [(6, .inl k), (0, .inr (.inr (some 82))), (1, .inl row), (2, .inl p), (3, .inl da), (4, .inl ev), (5, .inl ki)], [.inr (.inr (some 97)), .inl ((512 * row) + k), .inr (.inr (some 97))], (I, Kc, X), 0, 0) rfl (ym_gr hS 14 rfl rfl rfl) ?_
                refine yi_G_run 2 (124, [(6, .inl k), (0, .inr (.inr (some 82))), (1, .inl row), (2, .inl p), (3, .inl da), (4, .inl ev), (5, .inl ki)], [.inl row, .inl 512, .inr (.inr (some 97)), .inl ((512 * row) + k), .inr (.inr (some 97))], (I, Kc, X), 0, 0) (fun _ => rfl) ?_
                refine yi_G_imul rfl (512 * row) (yi_wn (by omega) (by omega)) ?_
                refine yi_G_run 1 (127, [(6, .inl k), (0, .inr (.inr (some 82))), (1, .inl row), (2, .inl p), (3, .inl da), (4, .inl ev), (5, .inl ki)], [.inl k, .inl (512 * row), .inr (.inr (some 97)), .inl ((512 * row) + k), .inr (.inr (some 97))], (I, Kc, X), 0, 0) (fun _ => rfl) ?_
                refine yi_G_iadd rfl ((512 * row) + k) (yi_wn (by omega) (by omega)) ?_
                refine yi_G_lald (129, [(6, .inl k), (0, .inr (.inr (some 82))), (1, .inl row), (2, .inl p), (3, .inl da), (4, .inl ev), (5, .inl ki)], [.inr (.inl (Kc 97 (((512 * row) + k).toNat))), .inl ((512 * row) + k), .inr (.inr (some 97))], (I, Kc, X), 0, 0) rfl (ym_ll hS 14 rfl (by omega) (by omega) rfl) ?_
                refine yi_G_ldc2 ((-1)) rfl (by decide +kernel) ?_
                refine yi_G_run 1 (133, [(6, .inl k), (0, .inr (.inr (some 82))), (1, .inl row), (2, .inl p), (3, .inl da), (4, .inl ev), (5, .inl ki)], [.inr (.inl (yi_lxor (Kc 97 (((512 * row) + k).toNat)) (-1))), .inl ((512 * row) + k), .inr (.inr (some 97))], (I, Kc, X), 0, 0) (fun _ => rfl) ?_
                refine yi_G_last (134, [(6, .inl k), (0, .inr (.inr (some 82))), (1, .inl row), (2, .inl p), (3, .inl da), (4, .inl ev), (5, .inl ki)], [], (I, (yi_u Kc 97 (((512 * row) + k).toNat) (yi_lxor (Kc 97 (((512 * row) + k).toNat)) (-1))), X), 0, 0) rfl (ym_sl hS 14 rfl (by omega) (by omega)) ?_
                generalize w10 : yi_u Kc 97 (((512 * row) + k).toNat) (yi_lxor (Kc 97 (((512 * row) + k).toNat)) (-1)) = L9
                refine yi_G_iinc [(6, .inl (k + 1)), (0, .inr (.inr (some 82))), (1, .inl row), (2, .inl p), (3, .inl da), (4, .inl ev), (5, .inl ki)] rfl rfl rfl (by rw [show yi_w (k + 1) = k + 1 from (yi_wn (by omega) (by omega)).trans (by omega)]; rfl) ?_
                refine yi_G_run 1 (89, [(6, .inl (k + 1)), (0, .inr (.inr (some 82))), (1, .inl row), (2, .inl p), (3, .inl da), (4, .inl ev), (5, .inl ki)], [], (I, L9, X), 0, 0) (fun _ => rfl) ?_
                exact ih89 _ (by omega) (k + 1) L9 (fun p k hp => by rw [← w10, yi_u_ne _ _ (fun z => by omega), fKc p k (by omega)]) (by omega) (by omega) rfl
              · refine yi_G_if2 true rfl (yi_ne_t h8) ?_
                exact yi_G_retv rfl rfl (⟨_, rfl, (fun p k hp => by rw [fKc p k (by omega), fKb p k (by omega), fKa p k (by omega), f4 p k (by omega)])⟩)
          exact pt89 _ 0 Kb (fun _ _ _ => rfl) (by omega) (by omega) rfl
        · refine yi_G_if2 false rfl (yi_ge_f h6) ?_
          refine yi_G_run 2 (63, [(6, .inl k), (0, .inr (.inr (some 82))), (1, .inl row), (2, .inl p), (3, .inl da), (4, .inl ev), (5, .inl ki)], [.inl 4, .inl ki], (I, Kb, X), 0, 0) (fun _ => rfl) ?_
          by_cases h11 : ki = 4
          · refine yi_G_if2 false rfl (yi_ne_f h11) ?_
            refine yi_G_run 6 (74, [(6, .inl k), (0, .inr (.inr (some 82))), (1, .inl row), (2, .inl p), (3, .inl da), (4, .inl ev), (5, .inl ki)], [.inl ev, .inl da, .inl k, .inr (.inr (some 82)), .inl row, .inr (.inr (some 82))], (I, Kb, X), 0, 0) (fun _ => rfl) ?_
            refine yi_G_callv rfl rfl (ym_rcv hS) rfl (c_wordAt d (by omega) hS hLR (by omega) (by omega) (by omega) (by omega) (by omega) (by omega)) ?_
            rintro _ ⟨z12, rfl, h13a, h13b, h13c⟩
            show yi_G zi_Ms d zi_m77 (77, [(6, .inl k), (0, .inr (.inr (some 82))), (1, .inl row), (2, .inl p), (3, .inl da), (4, .inl ev), (5, .inl ki)], [.inl z12, .inl row, .inr (.inr (some 82))], (I, Kb, X), 0, 0) _
            refine yi_G_callv rfl rfl (ym_rcv hS) rfl (w_joins (by omega) hS (by omega) (by omega) (by omega) (by omega) (by omega) (by omega)) ?_
            rintro _ ⟨L14, rfl, f15⟩
            show yi_G zi_Ms d zi_m77 (80, [(6, .inl k), (0, .inr (.inr (some 82))), (1, .inl row), (2, .inl p), (3, .inl da), (4, .inl ev), (5, .inl ki)], [], (I, L14, X), 0, 0) _
            refine yi_G_iinc [(6, .inl (k + 1)), (0, .inr (.inr (some 82))), (1, .inl row), (2, .inl p), (3, .inl da), (4, .inl ev), (5, .inl ki)] rfl rfl rfl (by rw [show yi_w (k + 1) = k + 1 from (yi_wn (by omega) (by omega)).trans (by omega)]; rfl) ?_
            refine yi_G_run 1 (51, [(6, .inl (k + 1)), (0, .inr (.inr (some 82))), (1, .inl row), (2, .inl p), (3, .inl da), (4, .inl ev), (5, .inl ki)], [], (I, L14, X), 0, 0) (fun _ => rfl) ?_
            exact ih51 _ (by omega) (k + 1) L14 (fun p k hp => by rw [f15 p k (by omega), fKb p k (by omega)]) (by omega) (by omega) rfl
          · refine yi_G_if2 true rfl (yi_ne_t h11) ?_
            refine yi_G_run 2 (89, [(6, .inl 0), (0, .inr (.inr (some 82))), (1, .inl row), (2, .inl p), (3, .inl da), (4, .inl ev), (5, .inl ki)], [], (I, Kb, X), 0, 0) (fun _ => rfl) ?_
            have pt89 : ∀ (m : Nat) (k : Int) (Kc : Nat → Nat → Int), (∀ p k, p ≠ 97 → Kc p k = Kb p k) → (0 ≤ k) → (k ≤ I 82 25) → (I 82 25 - k).toNat = m → yi_G zi_Ms d zi_m77 (89, [(6, .inl k), (0, .inr (.inr (some 82))), (1, .inl row), (2, .inl p), (3, .inl da), (4, .inl ev), (5, .inl ki)], [], (I, Kc, X), 0, 0) (fun r => ∃ L', r = (none, (I, L', X), 0, 0) ∧ ∀ p k, p ≠ 97 → L' p k = L p k) := by
              intro m89
              induction m89 using Nat.strongRecOn with
              | _ m89 ih89 =>
              intro k Kc fKc k4 k5 hm89
              refine yi_G_run 2 (92, [(6, .inl k), (0, .inr (.inr (some 82))), (1, .inl row), (2, .inl p), (3, .inl da), (4, .inl ev), (5, .inl ki)], [.inr (.inr (some 82)), .inl k], (I, Kc, X), 0, 0) (fun _ => rfl) ?_
              refine yi_G_get (95, [(6, .inl k), (0, .inr (.inr (some 82))), (1, .inl row), (2, .inl p), (3, .inl da), (4, .inl ev), (5, .inl ki)], [.inl (I 82 25), .inl k], (I, Kc, X), 0, 0) rfl (ym_gi hS rfl rfl rfl) ?_
              by_cases h16 : (I 82 25) ≤ k
              · refine yi_G_if2 true rfl (yi_ge_t h16) ?_
                exact yi_G_retv rfl rfl (⟨_, rfl, (fun p k hp => by rw [fKc p k (by omega), fKb p k (by omega), fKa p k (by omega), f4 p k (by omega)])⟩)
              · refine yi_G_if2 false rfl (yi_ge_f h16) ?_
                refine yi_G_run 2 (101, [(6, .inl k), (0, .inr (.inr (some 82))), (1, .inl row), (2, .inl p), (3, .inl da), (4, .inl ev), (5, .inl ki)], [.inl 2, .inl ki], (I, Kc, X), 0, 0) (fun _ => rfl) ?_
                by_cases h17 : ki = 2
                · refine yi_G_if2 false rfl (yi_ne_f h17) ?_
                  refine yi_G_run 1 (105, [(6, .inl k), (0, .inr (.inr (some 82))), (1, .inl row), (2, .inl p), (3, .inl da), (4, .inl ev), (5, .inl ki)], [.inr (.inr (some 82))], (I, Kc, X), 0, 0) (fun _ => rfl) ?_
                  refine yi_G_get (108, [(6, .inl k), (0, .inr (.inr (some 82))), (1, .inl row), (2, .inl p), (3, .inl da), (4, .inl ev), (5, .inl ki)], [.inr (.inr (some 97))], (I, Kc, X), 0, 0) rfl (ym_gr hS 14 rfl rfl rfl) ?_
                  refine yi_G_run 2 (112, [(6, .inl k), (0, .inr (.inr (some 82))), (1, .inl row), (2, .inl p), (3, .inl da), (4, .inl ev), (5, .inl ki)], [.inl row, .inl 512, .inr (.inr (some 97))], (I, Kc, X), 0, 0) (fun _ => rfl) ?_
                  refine yi_G_imul rfl (512 * row) (yi_wn (by omega) (by omega)) ?_
                  refine yi_G_run 1 (115, [(6, .inl k), (0, .inr (.inr (some 82))), (1, .inl row), (2, .inl p), (3, .inl da), (4, .inl ev), (5, .inl ki)], [.inl k, .inl (512 * row), .inr (.inr (some 97))], (I, Kc, X), 0, 0) (fun _ => rfl) ?_
                  refine yi_G_iadd rfl ((512 * row) + k) (yi_wn (by omega) (by omega)) ?_
                  refine yi_G_run 1 (117, [(6, .inl k), (0, .inr (.inr (some 82))), (1, .inl row), (2, .inl p), (3, .inl da), (4, .inl ev), (5, .inl ki)], [.inr (.inr (some 82)), .inl ((512 * row) + k), .inr (.inr (some 97))], (I, Kc, X), 0, 0) (fun _ => rfl) ?_
                  refine yi_G_get (120, [(6, .inl k), (0, .inr (.inr (some 82))), (1, .inl row), (2, .inl p), (3, .inl da), (4, .inl ev), (5, .inl ki)], [.inr (.inr (some 97)), .inl ((512 * row) + k), .inr (.inr (some 97))], (I, Kc, X), 0, 0) rfl (ym_gr hS 14 rfl rfl rfl) ?_
                  refine yi_G_run 2 (124, [(6, .inl k), (0, .inr (.inr (some 82))), (1, .inl row), (2, .inl p), (3, .inl da), (4, .inl ev), (5, .inl ki)], [.inl row, .inl 512, .inr (.inr (some 97)), .inl ((512 * row) + k), .inr (.inr (some 97))], (I, Kc, X), 0, 0) (fun _ => rfl) ?_
                  refine yi_G_imul rfl (512 * row) (yi_wn (by omega) (by omega)) ?_
                  refine yi_G_run 1 (127, [(6, .inl k), (0, .inr (.inr (some 82))), (1, .inl row), (2, .inl p), (3, .inl da), (4, .inl ev), (5, .inl ki)], [.inl k, .inl (512 * row), .inr (.inr (some 97)), .inl ((512 * row) + k), .inr (.inr (some 97))], (I, Kc, X), 0, 0) (fun _ => rfl) ?_
                  refine yi_G_iadd rfl ((512 * row) + k) (yi_wn (by omega) (by omega)) ?_
                  refine yi_G_lald (129, [(6, .inl k), (0, .inr (.inr (some 82))), (1, .inl row), (2, .inl p), (3, .inl da), (4, .inl ev), (5, .inl ki)], [.inr (.inl (Kc 97 (((512 * row) + k).toNat))), .inl ((512 * row) + k), .inr (.inr (some 97))], (I, Kc, X), 0, 0) rfl (ym_ll hS 14 rfl (by omega) (by omega) rfl) ?_
                  refine yi_G_ldc2 ((-1)) rfl (by decide +kernel) ?_
                  refine yi_G_run 1 (133, [(6, .inl k), (0, .inr (.inr (some 82))), (1, .inl row), (2, .inl p), (3, .inl da), (4, .inl ev), (5, .inl ki)], [.inr (.inl (yi_lxor (Kc 97 (((512 * row) + k).toNat)) (-1))), .inl ((512 * row) + k), .inr (.inr (some 97))], (I, Kc, X), 0, 0) (fun _ => rfl) ?_
                  refine yi_G_last (134, [(6, .inl k), (0, .inr (.inr (some 82))), (1, .inl row), (2, .inl p), (3, .inl da), (4, .inl ev), (5, .inl ki)], [], (I, (yi_u Kc 97 (((512 * row) + k).toNat) (yi_lxor (Kc 97 (((512 * row) + k).toNat)) (-1))), X), 0, 0) rfl (ym_sl hS 14 rfl (by omega) (by omega)) ?_
                  generalize w19 : yi_u Kc 97 (((512 * row) + k).toNat) (yi_lxor (Kc 97 (((512 * row) + k).toNat)) (-1)) = L18
                  refine yi_G_iinc [(6, .inl (k + 1)), (0, .inr (.inr (some 82))), (1, .inl row), (2, .inl p), (3, .inl da), (4, .inl ev), (5, .inl ki)] rfl rfl rfl (by rw [show yi_w (k + 1) = k + 1 from (yi_wn (by omega) (by omega)).trans (by omega)]; rfl) ?_
                  refine yi_G_run 1 (89, [(6, .inl (k + 1)), (0, .inr (.inr (some 82))), (1, .inl row), (2, .inl p), (3, .inl da), (4, .inl ev), (5, .inl ki)], [], (I, L18, X), 0, 0) (fun _ => rfl) ?_
                  exact ih89 _ (by omega) (k + 1) L18 (fun p k hp => by rw [← w19, yi_u_ne _ _ (fun z => by omega), fKc p k (by omega)]) (by omega) (by omega) rfl
                · refine yi_G_if2 true rfl (yi_ne_t h17) ?_
                  exact yi_G_retv rfl rfl (⟨_, rfl, (fun p k hp => by rw [fKc p k (by omega), fKb p k (by omega), fKa p k (by omega), f4 p k (by omega)])⟩)
            exact pt89 _ 0 Kb (fun _ _ _ => rfl) (by omega) (by omega) rfl
      exact pt51 _ 0 Ka (fun _ _ _ => rfl) (by omega) (by omega) rfl
    · refine yi_G_if2 false rfl (yi_ge_f h5) ?_
      refine yi_G_run 2 (25, [(6, .inl k), (0, .inr (.inr (some 82))), (1, .inl row), (2, .inl p), (3, .inl da), (4, .inl ev), (5, .inl ki)], [.inl 1, .inl ki], (I, Ka, X), 0, 0) (fun _ => rfl) ?_
      by_cases h20 : ki = 1
      · refine yi_G_if2 false rfl (yi_ne_f h20) ?_
        refine yi_G_run 6 (36, [(6, .inl k), (0, .inr (.inr (some 82))), (1, .inl row), (2, .inl p), (3, .inl da), (4, .inl ev), (5, .inl ki)], [.inl ev, .inl k, .inl p, .inr (.inr (some 82)), .inl row, .inr (.inr (some 82))], (I, Ka, X), 0, 0) (fun _ => rfl) ?_
        refine yi_G_callv rfl rfl (ym_rcv hS) rfl (c_wordAt d (by omega) hS hLR (by omega) (by omega) (by omega) (by omega) (by omega) (by omega)) ?_
        rintro _ ⟨z21, rfl, h22a, h22b, h22c⟩
        show yi_G zi_Ms d zi_m77 (39, [(6, .inl k), (0, .inr (.inr (some 82))), (1, .inl row), (2, .inl p), (3, .inl da), (4, .inl ev), (5, .inl ki)], [.inl z21, .inl row, .inr (.inr (some 82))], (I, Ka, X), 0, 0) _
        refine yi_G_callv rfl rfl (ym_rcv hS) rfl (w_joins (by omega) hS (by omega) (by omega) (by omega) (by omega) (by omega) (by omega)) ?_
        rintro _ ⟨L23, rfl, f24⟩
        show yi_G zi_Ms d zi_m77 (42, [(6, .inl k), (0, .inr (.inr (some 82))), (1, .inl row), (2, .inl p), (3, .inl da), (4, .inl ev), (5, .inl ki)], [], (I, L23, X), 0, 0) _
        refine yi_G_iinc [(6, .inl (k + 1)), (0, .inr (.inr (some 82))), (1, .inl row), (2, .inl p), (3, .inl da), (4, .inl ev), (5, .inl ki)] rfl rfl rfl (by rw [show yi_w (k + 1) = k + 1 from (yi_wn (by omega) (by omega)).trans (by omega)]; rfl) ?_
        refine yi_G_run 1 (16, [(6, .inl (k + 1)), (0, .inr (.inr (some 82))), (1, .inl row), (2, .inl p), (3, .inl da), (4, .inl ev), (5, .inl ki)], [], (I, L23, X), 0, 0) (fun _ => rfl) ?_
        exact ih16 _ (by omega) (k + 1) L23 (fun p k hp => by rw [f24 p k (by omega), fKa p k (by omega)]) (by omega) (by omega) rfl
      · refine yi_G_if2 true rfl (yi_ne_t h20) ?_
        refine yi_G_run 2 (51, [(6, .inl 0), (0, .inr (.inr (some 82))), (1, .inl row), (2, .inl p), (3, .inl da), (4, .inl ev), (5, .inl ki)], [], (I, Ka, X), 0, 0) (fun _ => rfl) ?_
        have pt51 : ∀ (m : Nat) (k : Int) (Kb : Nat → Nat → Int), (∀ p k, p ≠ 97 → Kb p k = Ka p k) → (0 ≤ k) → (k ≤ I 88 1) → (I 88 1 - k).toNat = m → yi_G zi_Ms d zi_m77 (51, [(6, .inl k), (0, .inr (.inr (some 82))), (1, .inl row), (2, .inl p), (3, .inl da), (4, .inl ev), (5, .inl ki)], [], (I, Kb, X), 0, 0) (fun r => ∃ L', r = (none, (I, L', X), 0, 0) ∧ ∀ p k, p ≠ 97 → L' p k = L p k) := by
          intro m51
          induction m51 using Nat.strongRecOn with
          | _ m51 ih51 =>
          intro k Kb fKb k2 k3 hm51
          refine yi_G_run 2 (54, [(6, .inl k), (0, .inr (.inr (some 82))), (1, .inl row), (2, .inl p), (3, .inl da), (4, .inl ev), (5, .inl ki)], [.inr (.inr (some 82)), .inl k], (I, Kb, X), 0, 0) (fun _ => rfl) ?_
          refine yi_G_callv rfl rfl (ym_rcv hS) rfl (c_people d (by omega) hS rfl) ?_
          rintro _ rfl
          show yi_G zi_Ms d zi_m77 (57, [(6, .inl k), (0, .inr (.inr (some 82))), (1, .inl row), (2, .inl p), (3, .inl da), (4, .inl ev), (5, .inl ki)], [.inl (I 88 1), .inl k], (I, Kb, X), 0, 0) _
          by_cases h25 : (I 88 1) ≤ k
          · refine yi_G_if2 true rfl (yi_ge_t h25) ?_
            refine yi_G_run 2 (89, [(6, .inl 0), (0, .inr (.inr (some 82))), (1, .inl row), (2, .inl p), (3, .inl da), (4, .inl ev), (5, .inl ki)], [], (I, Kb, X), 0, 0) (fun _ => rfl) ?_
            have pt89 : ∀ (m : Nat) (k : Int) (Kc : Nat → Nat → Int), (∀ p k, p ≠ 97 → Kc p k = Kb p k) → (0 ≤ k) → (k ≤ I 82 25) → (I 82 25 - k).toNat = m → yi_G zi_Ms d zi_m77 (89, [(6, .inl k), (0, .inr (.inr (some 82))), (1, .inl row), (2, .inl p), (3, .inl da), (4, .inl ev), (5, .inl ki)], [], (I, Kc, X), 0, 0) (fun r => ∃ L', r = (none, (I, L', X), 0, 0) ∧ ∀ p k, p ≠ 97 → L' p k = L p k) := by
              intro m89
              induction m89 using Nat.strongRecOn with
              | _ m89 ih89 =>
              intro k Kc fKc k4 k5 hm89
              refine yi_G_run 2 (92, [(6, .inl k), (0, .inr (.inr (some 82))), (1, .inl row), (2, .inl p), (3, .inl da), (4, .inl ev), (5, .inl ki)], [.inr (.inr (some 82)), .inl k], (I, Kc, X), 0, 0) (fun _ => rfl) ?_
              refine yi_G_get (95, [(6, .inl k), (0, .inr (.inr (some 82))), (1, .inl row), (2, .inl p), (3, .inl da), (4, .inl ev), (5, .inl ki)], [.inl (I 82 25), .inl k], (I, Kc, X), 0, 0) rfl (ym_gi hS rfl rfl rfl) ?_
              by_cases h26 : (I 82 25) ≤ k
              · refine yi_G_if2 true rfl (yi_ge_t h26) ?_
                exact yi_G_retv rfl rfl (⟨_, rfl, (fun p k hp => by rw [fKc p k (by omega), fKb p k (by omega), fKa p k (by omega), f4 p k (by omega)])⟩)
              · refine yi_G_if2 false rfl (yi_ge_f h26) ?_
                refine yi_G_run 2 (101, [(6, .inl k), (0, .inr (.inr (some 82))), (1, .inl row), (2, .inl p), (3, .inl da), (4, .inl ev), (5, .inl ki)], [.inl 2, .inl ki], (I, Kc, X), 0, 0) (fun _ => rfl) ?_
                by_cases h27 : ki = 2
                · refine yi_G_if2 false rfl (yi_ne_f h27) ?_
                  refine yi_G_run 1 (105, [(6, .inl k), (0, .inr (.inr (some 82))), (1, .inl row), (2, .inl p), (3, .inl da), (4, .inl ev), (5, .inl ki)], [.inr (.inr (some 82))], (I, Kc, X), 0, 0) (fun _ => rfl) ?_
                  refine yi_G_get (108, [(6, .inl k), (0, .inr (.inr (some 82))), (1, .inl row), (2, .inl p), (3, .inl da), (4, .inl ev), (5, .inl ki)], [.inr (.inr (some 97))], (I, Kc, X), 0, 0) rfl (ym_gr hS 14 rfl rfl rfl) ?_
                  refine yi_G_run 2 (112, [(6, .inl k), (0, .inr (.inr (some 82))), (1, .inl row), (2, .inl p), (3, .inl da), (4, .inl ev), (5, .inl ki)], [.inl row, .inl 512, .inr (.inr (some 97))], (I, Kc, X), 0, 0) (fun _ => rfl) ?_
                  refine yi_G_imul rfl (512 * row) (yi_wn (by omega) (by omega)) ?_
                  refine yi_G_run 1 (115, [(6, .inl k), (0, .inr (.inr (some 82))), (1, .inl row), (2, .inl p), (3, .inl da), (4, .inl ev), (5, .inl ki)], [.inl k, .inl (512 * row), .inr (.inr (some 97))], (I, Kc, X), 0, 0) (fun _ => rfl) ?_
                  refine yi_G_iadd rfl ((512 * row) + k) (yi_wn (by omega) (by omega)) ?_
                  refine yi_G_run 1 (117, [(6, .inl k), (0, .inr (.inr (some 82))), (1, .inl row), (2, .inl p), (3, .inl da), (4, .inl ev), (5, .inl ki)], [.inr (.inr (some 82)), .inl ((512 * row) + k), .inr (.inr (some 97))], (I, Kc, X), 0, 0) (fun _ => rfl) ?_
                  refine yi_G_get (120, [(6, .inl k), (0, .inr (.inr (some 82))), (1, .inl row), (2, .inl p), (3, .inl da), (4, .inl ev), (5, .inl ki)], [.inr (.inr (some 97)), .inl ((512 * row) + k), .inr (.inr (some 97))], (I, Kc, X), 0, 0) rfl (ym_gr hS 14 rfl rfl rfl) ?_
                  refine yi_G_run 2 (124, [(6, .inl k), (0, .inr (.inr (some 82))), (1, .inl row), (2, .inl p), (3, .inl da), (4, .inl ev), (5, .inl ki)], [.inl row, .inl 512, .inr (.inr (some 97)), .inl ((512 * row) + k), .inr (.inr (some 97))], (I, Kc, X), 0, 0) (fun _ => rfl) ?_
                  refine yi_G_imul rfl (512 * row) (yi_wn (by omega) (by omega)) ?_
                  refine yi_G_run 1 (127, [(6, .inl k), (0, .inr (.inr (some 82))), (1, .inl row), (2, .inl p), (3, .inl da), (4, .inl ev), (5, .inl ki)], [.inl k, .inl (512 * row), .inr (.inr (some 97)), .inl ((512 * row) + k), .inr (.inr (some 97))], (I, Kc, X), 0, 0) (fun _ => rfl) ?_
                  refine yi_G_iadd rfl ((512 * row) + k) (yi_wn (by omega) (by omega)) ?_
                  refine yi_G_lald (129, [(6, .inl k), (0, .inr (.inr (some 82))), (1, .inl row), (2, .inl p), (3, .inl da), (4, .inl ev), (5, .inl ki)], [.inr (.inl (Kc 97 (((512 * row) + k).toNat))), .inl ((512 * row) + k), .inr (.inr (some 97))], (I, Kc, X), 0, 0) rfl (ym_ll hS 14 rfl (by omega) (by omega) rfl) ?_
                  refine yi_G_ldc2 ((-1)) rfl (by decide +kernel) ?_
                  refine yi_G_run 1 (133, [(6, .inl k), (0, .inr (.inr (some 82))), (1, .inl row), (2, .inl p), (3, .inl da), (4, .inl ev), (5, .inl ki)], [.inr (.inl (yi_lxor (Kc 97 (((512 * row) + k).toNat)) (-1))), .inl ((512 * row) + k), .inr (.inr (some 97))], (I, Kc, X), 0, 0) (fun _ => rfl) ?_
                  refine yi_G_last (134, [(6, .inl k), (0, .inr (.inr (some 82))), (1, .inl row), (2, .inl p), (3, .inl da), (4, .inl ev), (5, .inl ki)], [], (I, (yi_u Kc 97 (((512 * row) + k).toNat) (yi_lxor (Kc 97 (((512 * row) + k).toNat)) (-1))), X), 0, 0) rfl (ym_sl hS 14 rfl (by omega) (by omega)) ?_
                  generalize w29 : yi_u Kc 97 (((512 * row) + k).toNat) (yi_lxor (Kc 97 (((512 * row) + k).toNat)) (-1)) = L28
                  refine yi_G_iinc [(6, .inl (k + 1)), (0, .inr (.inr (some 82))), (1, .inl row), (2, .inl p), (3, .inl da), (4, .inl ev), (5, .inl ki)] rfl rfl rfl (by rw [show yi_w (k + 1) = k + 1 from (yi_wn (by omega) (by omega)).trans (by omega)]; rfl) ?_
                  refine yi_G_run 1 (89, [(6, .inl (k + 1)), (0, .inr (.inr (some 82))), (1, .inl row), (2, .inl p), (3, .inl da), (4, .inl ev), (5, .inl ki)], [], (I, L28, X), 0, 0) (fun _ => rfl) ?_
                  exact ih89 _ (by omega) (k + 1) L28 (fun p k hp => by rw [← w29, yi_u_ne _ _ (fun z => by omega), fKc p k (by omega)]) (by omega) (by omega) rfl
                · refine yi_G_if2 true rfl (yi_ne_t h27) ?_
                  exact yi_G_retv rfl rfl (⟨_, rfl, (fun p k hp => by rw [fKc p k (by omega), fKb p k (by omega), fKa p k (by omega), f4 p k (by omega)])⟩)
            exact pt89 _ 0 Kb (fun _ _ _ => rfl) (by omega) (by omega) rfl
          · refine yi_G_if2 false rfl (yi_ge_f h25) ?_
            refine yi_G_run 2 (63, [(6, .inl k), (0, .inr (.inr (some 82))), (1, .inl row), (2, .inl p), (3, .inl da), (4, .inl ev), (5, .inl ki)], [.inl 4, .inl ki], (I, Kb, X), 0, 0) (fun _ => rfl) ?_
            by_cases h30 : ki = 4
            · refine yi_G_if2 false rfl (yi_ne_f h30) ?_
              refine yi_G_run 6 (74, [(6, .inl k), (0, .inr (.inr (some 82))), (1, .inl row), (2, .inl p), (3, .inl da), (4, .inl ev), (5, .inl ki)], [.inl ev, .inl da, .inl k, .inr (.inr (some 82)), .inl row, .inr (.inr (some 82))], (I, Kb, X), 0, 0) (fun _ => rfl) ?_
              refine yi_G_callv rfl rfl (ym_rcv hS) rfl (c_wordAt d (by omega) hS hLR (by omega) (by omega) (by omega) (by omega) (by omega) (by omega)) ?_
              rintro _ ⟨z31, rfl, h32a, h32b, h32c⟩
              show yi_G zi_Ms d zi_m77 (77, [(6, .inl k), (0, .inr (.inr (some 82))), (1, .inl row), (2, .inl p), (3, .inl da), (4, .inl ev), (5, .inl ki)], [.inl z31, .inl row, .inr (.inr (some 82))], (I, Kb, X), 0, 0) _
              refine yi_G_callv rfl rfl (ym_rcv hS) rfl (w_joins (by omega) hS (by omega) (by omega) (by omega) (by omega) (by omega) (by omega)) ?_
              rintro _ ⟨L33, rfl, f34⟩
              show yi_G zi_Ms d zi_m77 (80, [(6, .inl k), (0, .inr (.inr (some 82))), (1, .inl row), (2, .inl p), (3, .inl da), (4, .inl ev), (5, .inl ki)], [], (I, L33, X), 0, 0) _
              refine yi_G_iinc [(6, .inl (k + 1)), (0, .inr (.inr (some 82))), (1, .inl row), (2, .inl p), (3, .inl da), (4, .inl ev), (5, .inl ki)] rfl rfl rfl (by rw [show yi_w (k + 1) = k + 1 from (yi_wn (by omega) (by omega)).trans (by omega)]; rfl) ?_
              refine yi_G_run 1 (51, [(6, .inl (k + 1)), (0, .inr (.inr (some 82))), (1, .inl row), (2, .inl p), (3, .inl da), (4, .inl ev), (5, .inl ki)], [], (I, L33, X), 0, 0) (fun _ => rfl) ?_
              exact ih51 _ (by omega) (k + 1) L33 (fun p k hp => by rw [f34 p k (by omega), fKb p k (by omega)]) (by omega) (by omega) rfl
            · refine yi_G_if2 true rfl (yi_ne_t h30) ?_
              refine yi_G_run 2 (89, [(6, .inl 0), (0, .inr (.inr (some 82))), (1, .inl row), (2, .inl p), (3, .inl da), (4, .inl ev), (5, .inl ki)], [], (I, Kb, X), 0, 0) (fun _ => rfl) ?_
              have pt89 : ∀ (m : Nat) (k : Int) (Kc : Nat → Nat → Int), (∀ p k, p ≠ 97 → Kc p k = Kb p k) → (0 ≤ k) → (k ≤ I 82 25) → (I 82 25 - k).toNat = m → yi_G zi_Ms d zi_m77 (89, [(6, .inl k), (0, .inr (.inr (some 82))), (1, .inl row), (2, .inl p), (3, .inl da), (4, .inl ev), (5, .inl ki)], [], (I, Kc, X), 0, 0) (fun r => ∃ L', r = (none, (I, L', X), 0, 0) ∧ ∀ p k, p ≠ 97 → L' p k = L p k) := by
                intro m89
                induction m89 using Nat.strongRecOn with
                | _ m89 ih89 =>
                intro k Kc fKc k4 k5 hm89
                refine yi_G_run 2 (92, [(6, .inl k), (0, .inr (.inr (some 82))), (1, .inl row), (2, .inl p), (3, .inl da), (4, .inl ev), (5, .inl ki)], [.inr (.inr (some 82)), .inl k], (I, Kc, X), 0, 0) (fun _ => rfl) ?_
                refine yi_G_get (95, [(6, .inl k), (0, .inr (.inr (some 82))), (1, .inl row), (2, .inl p), (3, .inl da), (4, .inl ev), (5, .inl ki)], [.inl (I 82 25), .inl k], (I, Kc, X), 0, 0) rfl (ym_gi hS rfl rfl rfl) ?_
                by_cases h35 : (I 82 25) ≤ k
                · refine yi_G_if2 true rfl (yi_ge_t h35) ?_
                  exact yi_G_retv rfl rfl (⟨_, rfl, (fun p k hp => by rw [fKc p k (by omega), fKb p k (by omega), fKa p k (by omega), f4 p k (by omega)])⟩)
                · refine yi_G_if2 false rfl (yi_ge_f h35) ?_
                  refine yi_G_run 2 (101, [(6, .inl k), (0, .inr (.inr (some 82))), (1, .inl row), (2, .inl p), (3, .inl da), (4, .inl ev), (5, .inl ki)], [.inl 2, .inl ki], (I, Kc, X), 0, 0) (fun _ => rfl) ?_
                  by_cases h36 : ki = 2
                  · refine yi_G_if2 false rfl (yi_ne_f h36) ?_
                    refine yi_G_run 1 (105, [(6, .inl k), (0, .inr (.inr (some 82))), (1, .inl row), (2, .inl p), (3, .inl da), (4, .inl ev), (5, .inl ki)], [.inr (.inr (some 82))], (I, Kc, X), 0, 0) (fun _ => rfl) ?_
                    refine yi_G_get (108, [(6, .inl k), (0, .inr (.inr (some 82))), (1, .inl row), (2, .inl p), (3, .inl da), (4, .inl ev), (5, .inl ki)], [.inr (.inr (some 97))], (I, Kc, X), 0, 0) rfl (ym_gr hS 14 rfl rfl rfl) ?_
                    refine yi_G_run 2 (112, [(6, .inl k), (0, .inr (.inr (some 82))), (1, .inl row), (2, .inl p), (3, .inl da), (4, .inl ev), (5, .inl ki)], [.inl row, .inl 512, .inr (.inr (some 97))], (I, Kc, X), 0, 0) (fun _ => rfl) ?_
                    refine yi_G_imul rfl (512 * row) (yi_wn (by omega) (by omega)) ?_
                    refine yi_G_run 1 (115, [(6, .inl k), (0, .inr (.inr (some 82))), (1, .inl row), (2, .inl p), (3, .inl da), (4, .inl ev), (5, .inl ki)], [.inl k, .inl (512 * row), .inr (.inr (some 97))], (I, Kc, X), 0, 0) (fun _ => rfl) ?_
                    refine yi_G_iadd rfl ((512 * row) + k) (yi_wn (by omega) (by omega)) ?_
                    refine yi_G_run 1 (117, [(6, .inl k), (0, .inr (.inr (some 82))), (1, .inl row), (2, .inl p), (3, .inl da), (4, .inl ev), (5, .inl ki)], [.inr (.inr (some 82)), .inl ((512 * row) + k), .inr (.inr (some 97))], (I, Kc, X), 0, 0) (fun _ => rfl) ?_
                    refine yi_G_get (120, [(6, .inl k), (0, .inr (.inr (some 82))), (1, .inl row), (2, .inl p), (3, .inl da), (4, .inl ev), (5, .inl ki)], [.inr (.inr (some 97)), .inl ((512 * row) + k), .inr (.inr (some 97))], (I, Kc, X), 0, 0) rfl (ym_gr hS 14 rfl rfl rfl) ?_
                    refine yi_G_run 2 (124, [(6, .inl k), (0, .inr (.inr (some 82))), (1, .inl row), (2, .inl p), (3, .inl da), (4, .inl ev), (5, .inl ki)], [.inl row, .inl 512, .inr (.inr (some 97)), .inl ((512 * row) + k), .inr (.inr (some 97))], (I, Kc, X), 0, 0) (fun _ => rfl) ?_
                    refine yi_G_imul rfl (512 * row) (yi_wn (by omega) (by omega)) ?_
                    refine yi_G_run 1 (127, [(6, .inl k), (0, .inr (.inr (some 82))), (1, .inl row), (2, .inl p), (3, .inl da), (4, .inl ev), (5, .inl ki)], [.inl k, .inl (512 * row), .inr (.inr (some 97)), .inl ((512 * row) + k), .inr (.inr (some 97))], (I, Kc, X), 0, 0) (fun _ => rfl) ?_
                    refine yi_G_iadd rfl ((512 * row) + k) (yi_wn (by omega) (by omega)) ?_
                    refine yi_G_lald (129, [(6, .inl k), (0, .inr (.inr (some 82))), (1, .inl row), (2, .inl p), (3, .inl da), (4, .inl ev), (5, .inl ki)], [.inr (.inl (Kc 97 (((512 * row) + k).toNat))), .inl ((512 * row) + k), .inr (.inr (some 97))], (I, Kc, X), 0, 0) rfl (ym_ll hS 14 rfl (by omega) (by omega) rfl) ?_
                    refine yi_G_ldc2 ((-1)) rfl (by decide +kernel) ?_
                    refine yi_G_run 1 (133, [(6, .inl k), (0, .inr (.inr (some 82))), (1, .inl row), (2, .inl p), (3, .inl da), (4, .inl ev), (5, .inl ki)], [.inr (.inl (yi_lxor (Kc 97 (((512 * row) + k).toNat)) (-1))), .inl ((512 * row) + k), .inr (.inr (some 97))], (I, Kc, X), 0, 0) (fun _ => rfl) ?_
                    refine yi_G_last (134, [(6, .inl k), (0, .inr (.inr (some 82))), (1, .inl row), (2, .inl p), (3, .inl da), (4, .inl ev), (5, .inl ki)], [], (I, (yi_u Kc 97 (((512 * row) + k).toNat) (yi_lxor (Kc 97 (((512 * row) + k).toNat)) (-1))), X), 0, 0) rfl (ym_sl hS 14 rfl (by omega) (by omega)) ?_
                    generalize w38 : yi_u Kc 97 (((512 * row) + k).toNat) (yi_lxor (Kc 97 (((512 * row) + k).toNat)) (-1)) = L37
                    refine yi_G_iinc [(6, .inl (k + 1)), (0, .inr (.inr (some 82))), (1, .inl row), (2, .inl p), (3, .inl da), (4, .inl ev), (5, .inl ki)] rfl rfl rfl (by rw [show yi_w (k + 1) = k + 1 from (yi_wn (by omega) (by omega)).trans (by omega)]; rfl) ?_
                    refine yi_G_run 1 (89, [(6, .inl (k + 1)), (0, .inr (.inr (some 82))), (1, .inl row), (2, .inl p), (3, .inl da), (4, .inl ev), (5, .inl ki)], [], (I, L37, X), 0, 0) (fun _ => rfl) ?_
                    exact ih89 _ (by omega) (k + 1) L37 (fun p k hp => by rw [← w38, yi_u_ne _ _ (fun z => by omega), fKc p k (by omega)]) (by omega) (by omega) rfl
                  · refine yi_G_if2 true rfl (yi_ne_t h36) ?_
                    exact yi_G_retv rfl rfl (⟨_, rfl, (fun p k hp => by rw [fKc p k (by omega), fKb p k (by omega), fKa p k (by omega), f4 p k (by omega)])⟩)
              exact pt89 _ 0 Kb (fun _ _ _ => rfl) (by omega) (by omega) rfl
        exact pt51 _ 0 Ka (fun _ _ _ => rfl) (by omega) (by omega) rfl
  exact pt16 _ 1 L3 (fun _ _ _ => rfl) (by omega) (by omega) rfl
