/-! Calls that change the story. -/
theorem c_strike (D : Nat) (hD : 5 ≤ D) {I L : Nat → Nat → Int} {X : ym_X} (hS : ym_S X) {s : Int} (hLR : ym_LR I) (hST : ym_ST I) (hl : 0 ≤ I 82 25 ∧ I 82 25 ≤ 512) : yi_E zi_Ms D 112 [.inr (.inr (some 82)), .inl s] (I, L, X) (fun r => ∃ z I' L', (r = (some (.inl z), (I', L', X), 0, 0)) ∧ (∀ p k, p ≠ 100 ∧ ¬ (p = 82 ∧ k = 0) ∧ ¬ (p = 82 ∧ k = 30) → I' p k = I p k) ∧ (∀ p k, p ≠ 97 → L' p k = L p k) ∧ ym_ST I') := by
  obtain ⟨d, rfl⟩ : ∃ d, D = d + 1 := ⟨D - 1, by omega⟩
  refine yi_E_of (M := zi_m112) rfl rfl ?_
  obtain ⟨l0, l1, l2, l3, l4, l5⟩ := id hLR
  have hS0 := hST.1
  obtain ⟨t0, t1, t2, t3, t4⟩ := id hS0
  show yi_G zi_Ms d zi_m112 (0, [(0, .inr (.inr (some 82))), (1, .inl s)], [], (I, L, X), 0, 0) _
  refine yi_G_run 2 (2, [(0, .inr (.inr (some 82))), (1, .inl s)], [.inl 0, .inr (.inr (some 82))], (I, L, X), 0, 0) (fun _ => rfl) ?_
  refine yi_G_put (5, [(0, .inr (.inr (some 82))), (1, .inl s)], [], ((yi_u I 82 0 0), L, X), 0, 0) rfl (ym_pi hS rfl rfl) ?_
  generalize w2 : yi_u I 82 0 0 = I1
  refine yi_G_run 2 (7, [(0, .inr (.inr (some 82))), (1, .inl s)], [.inl s, .inr (.inr (some 82))], (I1, L, X), 0, 0) (fun _ => rfl) ?_
  have r4 : I1 100 0 = I 100 0 := by rw [← w2, yi_u_ne _ _ (by omega)]
  refine yi_G_callv rfl rfl (ym_rcv hS) rfl (c_isSaying d (by omega) hS) ?_
  rintro _ (⟨c3, rfl⟩ | ⟨c3, rfl⟩)
  · show yi_G zi_Ms d zi_m112 (10, [(0, .inr (.inr (some 82))), (1, .inl s)], [.inl 1], (I1, L, X), 0, 0) _
    refine yi_G_if1 false rfl (by decide) ?_
    refine yi_G_run 2 (15, [(0, .inr (.inr (some 82))), (1, .inl s)], [.inl s, .inr (.inr (some 82))], (I1, L, X), 0, 0) (fun _ => rfl) ?_
    have r6 : I1 100 ((8 + 3 * s).toNat) = I 100 ((8 + 3 * s).toNat) := by rw [← w2, yi_u_ne _ _ (by omega)]
    refine yi_G_callv rfl rfl (ym_rcv hS) rfl (c_isGrand d (by omega) hS (by omega) (by omega) (by rw [r6]; exact t3 s (by omega) (by omega))) ?_
    rintro _ (⟨c5, rfl⟩ | ⟨c5, rfl⟩)
    · show yi_G zi_Ms d zi_m112 (18, [(0, .inr (.inr (some 82))), (1, .inl s)], [.inl 1], (I1, L, X), 0, 0) _
      refine yi_G_if1 false rfl (by decide) ?_
      refine yi_G_run 1 (22, [(0, .inr (.inr (some 82))), (1, .inl s)], [.inl 0], (I1, L, X), 0, 0) (fun _ => rfl) ?_
      exact yi_G_retb rfl rfl (by decide) (⟨_, _, _, rfl, (fun p k hp => by rw [← w2, yi_u_ne _ _ (fun z => by omega)]), (fun _ _ _ => rfl), (ym_ST_t (fun k => by rw [← w2, yi_u_ne _ _ (by omega)]) (by rw [← w2, yi_u_ne _ _ (by omega)]) (fun k => by rw [← w2, yi_u_ne _ _ (by omega)]) (fun k => by rw [← w2, yi_u_ne _ _ (by omega)]) hST)⟩)
    · show yi_G zi_Ms d zi_m112 (18, [(0, .inr (.inr (some 82))), (1, .inl s)], [.inl 0], (I1, L, X), 0, 0) _
      refine yi_G_if1 true rfl (by decide) ?_
      refine yi_G_run 1 (24, [(0, .inr (.inr (some 82))), (1, .inl s)], [.inr (.inr (some 82))], (I1, L, X), 0, 0) (fun _ => rfl) ?_
      have r7 : I1 82 25 = I 82 25 := by rw [← w2, yi_u_ne _ _ (by omega)]
      have stb : ym_ST I1 := (ym_ST_t (fun k => by rw [← w2, yi_u_ne _ _ (by omega)]) (by rw [← w2, yi_u_ne _ _ (by omega)]) (fun k => by rw [← w2, yi_u_ne _ _ (by omega)]) (fun k => by rw [← w2, yi_u_ne _ _ (by omega)]) hST)
      refine yi_G_callv rfl rfl (ym_rcv hS) rfl (c_keeps d (by omega) hS stb.2.1 ((ym_S0_iff _).mp stb.1) ⟨(by rw [r7]; omega), (by rw [r7]; omega)⟩) ?_
      rintro _ ⟨I8, L10, rfl, f9, f11, ubk, lok⟩
      have stI8 : ym_ST I8 := ym_ST_k stb ubk lok (fun k => f9 101 k (by omega)) (fun k => f9 102 k (by omega))
      show yi_G zi_Ms d zi_m112 (27, [(0, .inr (.inr (some 82))), (1, .inl s)], [], (I8, L10, X), 0, 0) _
      refine yi_G_run 2 (29, [(0, .inr (.inr (some 82))), (1, .inl s)], [.inl 1, .inl s], (I8, L10, X), 0, 0) (fun _ => rfl) ?_
      refine yi_G_iadd rfl (s + 1) (yi_wn (by omega) (by omega)) ?_
      refine yi_G_run 1 (31, [(2, .inl (s + 1)), (0, .inr (.inr (some 82))), (1, .inl s)], [], (I8, L10, X), 0, 0) (fun _ => rfl) ?_
      have pt31 : ∀ (m : Nat) (k : Int) (Ja : Nat → Nat → Int) (Ka : Nat → Nat → Int), (∀ p k, p ≠ 100 → Ja p k = I8 p k) → (∀ p k, p ≠ 97 → Ka p k = L10 p k) → (1 ≤ k ∧ k ≤ 12) → (ym_ST Ja) → (Ja 100 0 = I 100 0) → (12 - k).toNat = m → yi_G zi_Ms d zi_m112 (31, [(2, .inl k), (0, .inr (.inr (some 82))), (1, .inl s)], [], (Ja, Ka, X), 0, 0) (fun r => ∃ z I' L', (r = (some (.inl z), (I', L', X), 0, 0)) ∧ (∀ p k, p ≠ 100 ∧ ¬ (p = 82 ∧ k = 0) ∧ ¬ (p = 82 ∧ k = 30) → I' p k = I p k) ∧ (∀ p k, p ≠ 97 → L' p k = L p k) ∧ ym_ST I') := by
        intro m31
        induction m31 using Nat.strongRecOn with
        | _ m31 ih31 =>
        intro k Ja Ka fJa fKa k0 sta ha0 hm31
        refine yi_G_run 2 (33, [(2, .inl k), (0, .inr (.inr (some 82))), (1, .inl s)], [.inr (.inr (some 82)), .inl k], (Ja, Ka, X), 0, 0) (fun _ => rfl) ?_
        refine yi_G_get (36, [(2, .inl k), (0, .inr (.inr (some 82))), (1, .inl s)], [.inr (.inr (some 100)), .inl k], (Ja, Ka, X), 0, 0) rfl (ym_gr hS 17 rfl rfl rfl) ?_
        refine yi_G_run 1 (37, [(2, .inl k), (0, .inr (.inr (some 82))), (1, .inl s)], [.inl 0, .inr (.inr (some 100)), .inl k], (Ja, Ka, X), 0, 0) (fun _ => rfl) ?_
        refine yi_G_iald (38, [(2, .inl k), (0, .inr (.inr (some 82))), (1, .inl s)], [.inl (Ja 100 0), .inl k], (Ja, Ka, X), 0, 0) rfl (ym_li hS 17 rfl (by omega) (by omega) rfl) ?_
        by_cases h12 : (Ja 100 0) ≤ k
        · refine yi_G_if2 true rfl (yi_ge_t h12) ?_
          refine yi_G_run 1 (103, [(2, .inl k), (0, .inr (.inr (some 82))), (1, .inl s)], [.inr (.inr (some 82))], (Ja, Ka, X), 0, 0) (fun _ => rfl) ?_
          refine yi_G_get (106, [(2, .inl k), (0, .inr (.inr (some 82))), (1, .inl s)], [.inr (.inr (some 100))], (Ja, Ka, X), 0, 0) rfl (ym_gr hS 17 rfl rfl rfl) ?_
          refine yi_G_run 2 (108, [(2, .inl k), (0, .inr (.inr (some 82))), (1, .inl s)], [.inl 0, .inr (.inr (some 100)), .inl 0, .inr (.inr (some 100))], (Ja, Ka, X), 0, 0) (fun _ => rfl) ?_
          refine yi_G_iald (109, [(2, .inl k), (0, .inr (.inr (some 82))), (1, .inl s)], [.inl (Ja 100 0), .inl 0, .inr (.inr (some 100))], (Ja, Ka, X), 0, 0) rfl (ym_li hS 17 rfl (by omega) (by omega) rfl) ?_
          refine yi_G_run 1 (110, [(2, .inl k), (0, .inr (.inr (some 82))), (1, .inl s)], [.inl 1, .inl (Ja 100 0), .inl 0, .inr (.inr (some 100))], (Ja, Ka, X), 0, 0) (fun _ => rfl) ?_
          refine yi_G_isub rfl ((Ja 100 0) - 1) (yi_wn (by omega) (by omega)) ?_
          refine yi_G_iast (112, [(2, .inl k), (0, .inr (.inr (some 82))), (1, .inl s)], [], ((yi_u Ja 100 0 ((Ja 100 0) - 1)), Ka, X), 0, 0) rfl (ym_si hS 17 rfl (by omega) (by omega)) ?_
          generalize w14 : yi_u Ja 100 0 ((Ja 100 0) - 1) = I13
          refine yi_G_run 1 (113, [(2, .inl k), (0, .inr (.inr (some 82))), (1, .inl s)], [.inl 1], (I13, Ka, X), 0, 0) (fun _ => rfl) ?_
          exact yi_G_retb rfl rfl (by decide) (⟨_, _, _, rfl, (fun p k hp => by rw [← w14, yi_u_ne _ _ (fun z => by omega), fJa p k (by omega), f9 p k (by omega), ← w2, yi_u_ne _ _ (fun z => by omega)]), (fun p k hp => by rw [fKa p k (by omega), f11 p k (by omega)]), (by rw [← w14]; exact ym_ST_u sta (by omega) (by omega) (by omega) (by omega) (by omega) (by omega))⟩)
        · refine yi_G_if2 false rfl (yi_ge_f h12) ?_
          refine yi_G_run 3 (45, [(2, .inl k), (0, .inr (.inr (some 82))), (1, .inl s)], [.inl k, .inl 60, .inr (.inr (some 82))], (Ja, Ka, X), 0, 0) (fun _ => rfl) ?_
          refine yi_G_iadd rfl (60 + k) (yi_wn (by omega) (by omega)) ?_
          refine yi_G_run 2 (49, [(2, .inl k), (0, .inr (.inr (some 82))), (1, .inl s)], [.inl k, .inl 60, .inl (60 + k), .inr (.inr (some 82))], (Ja, Ka, X), 0, 0) (fun _ => rfl) ?_
          refine yi_G_iadd rfl (60 + k) (yi_wn (by omega) (by omega)) ?_
          refine yi_G_run 1 (51, [(2, .inl k), (0, .inr (.inr (some 82))), (1, .inl s)], [.inl 1, .inl (60 + k), .inl (60 + k), .inr (.inr (some 82))], (Ja, Ka, X), 0, 0) (fun _ => rfl) ?_
          refine yi_G_isub rfl ((60 + k) - 1) (yi_wn (by omega) (by omega)) ?_
          have r15 : Ja 82 25 = I 82 25 := by rw [fJa 82 (25) (by omega), f9 82 (25) (by omega), ← w2, yi_u_ne _ _ (by omega)]
          refine yi_G_callv rfl rfl (ym_rcv hS) rfl (w_copiesRow (by omega) hS (by omega) (by omega) (by omega) (by omega) (by rw [r15]; omega) (by rw [r15]; omega)) ?_
          rintro _ ⟨L16, rfl, f17⟩
          show yi_G zi_Ms d zi_m112 (55, [(2, .inl k), (0, .inr (.inr (some 82))), (1, .inl s)], [], (Ja, L16, X), 0, 0) _
          refine yi_G_run 2 (57, [(3, .inl 0), (2, .inl k), (0, .inr (.inr (some 82))), (1, .inl s)], [], (Ja, L16, X), 0, 0) (fun _ => rfl) ?_
          have pt57 : ∀ (m : Nat) (ee : Int) (Jb : Nat → Nat → Int), (∀ p k, p ≠ 100 → Jb p k = Ja p k) → (0 ≤ ee ∧ ee ≤ 3) → (ym_ST Jb) → (Jb 100 0 = I 100 0) → (3 - ee).toNat = m → yi_G zi_Ms d zi_m112 (57, [(3, .inl ee), (2, .inl k), (0, .inr (.inr (some 82))), (1, .inl s)], [], (Jb, L16, X), 0, 0) (fun r => ∃ z I' L', (r = (some (.inl z), (I', L', X), 0, 0)) ∧ (∀ p k, p ≠ 100 ∧ ¬ (p = 82 ∧ k = 0) ∧ ¬ (p = 82 ∧ k = 30) → I' p k = I p k) ∧ (∀ p k, p ≠ 97 → L' p k = L p k) ∧ ym_ST I') := by
            intro m57
            induction m57 using Nat.strongRecOn with
            | _ m57 ih57 =>
            intro ee Jb fJb e0 stbb hb0 hm57
            refine yi_G_run 2 (59, [(3, .inl ee), (2, .inl k), (0, .inr (.inr (some 82))), (1, .inl s)], [.inl 3, .inl ee], (Jb, L16, X), 0, 0) (fun _ => rfl) ?_
            by_cases h18 : 3 ≤ ee
            · refine yi_G_if2 true rfl (yi_ge_t h18) ?_
              refine yi_G_iinc [(2, .inl (k + 1)), (3, .inl ee), (0, .inr (.inr (some 82))), (1, .inl s)] rfl rfl rfl (by rw [show yi_w (k + 1) = k + 1 from (yi_wn (by omega) (by omega)).trans (by omega)]; rfl) ?_
              refine yi_G_run 1 (31, [(2, .inl (k + 1)), (3, .inl ee), (0, .inr (.inr (some 82))), (1, .inl s)], [], (Jb, L16, X), 0, 0) (fun _ => rfl) ?_
              refine yi_G_al (al := [(2, .inl (k + 1)), (0, .inr (.inr (some 82))), (1, .inl s)]) (show ([2, 0, 1] : List Nat).Nodup by decide) (show ([2, 3, 0, 1] : List Nat).Nodup by decide) (yi_mc (List.mem_of_getElem? (i := 0) rfl) (yi_mc (List.mem_of_getElem? (i := 2) rfl) (yi_mc (List.mem_of_getElem? (i := 3) rfl) yi_mn))) ?_
              exact ih31 _ (by omega) (k + 1) Jb L16 (fun p k hp => by rw [fJb p k (by omega), fJa p k (by omega)]) (fun p k hp => by rw [f17 p k (by omega), fKa p k (by omega)]) (by omega) stbb (by rw [hb0]) rfl
            · refine yi_G_if2 false rfl (yi_ge_f h18) ?_
              refine yi_G_run 1 (63, [(3, .inl ee), (2, .inl k), (0, .inr (.inr (some 82))), (1, .inl s)], [.inr (.inr (some 82))], (Jb, L16, X), 0, 0) (fun _ => rfl) ?_
              refine yi_G_get (66, [(3, .inl ee), (2, .inl k), (0, .inr (.inr (some 82))), (1, .inl s)], [.inr (.inr (some 100))], (Jb, L16, X), 0, 0) rfl (ym_gr hS 17 rfl rfl rfl) ?_
              refine yi_G_run 3 (70, [(3, .inl ee), (2, .inl k), (0, .inr (.inr (some 82))), (1, .inl s)], [.inl k, .inl 3, .inl 8, .inr (.inr (some 100))], (Jb, L16, X), 0, 0) (fun _ => rfl) ?_
              refine yi_G_imul rfl (3 * k) (yi_wn (by omega) (by omega)) ?_
              refine yi_G_iadd rfl (8 + (3 * k)) (yi_wn (by omega) (by omega)) ?_
              refine yi_G_run 1 (73, [(3, .inl ee), (2, .inl k), (0, .inr (.inr (some 82))), (1, .inl s)], [.inl 3, .inl (8 + (3 * k)), .inr (.inr (some 100))], (Jb, L16, X), 0, 0) (fun _ => rfl) ?_
              refine yi_G_isub rfl ((8 + (3 * k)) - 3) (yi_wn (by omega) (by omega)) ?_
              refine yi_G_run 1 (75, [(3, .inl ee), (2, .inl k), (0, .inr (.inr (some 82))), (1, .inl s)], [.inl ee, .inl ((8 + (3 * k)) - 3), .inr (.inr (some 100))], (Jb, L16, X), 0, 0) (fun _ => rfl) ?_
              refine yi_G_iadd rfl (((8 + (3 * k)) - 3) + ee) (yi_wn (by omega) (by omega)) ?_
              refine yi_G_run 1 (77, [(3, .inl ee), (2, .inl k), (0, .inr (.inr (some 82))), (1, .inl s)], [.inr (.inr (some 82)), .inl (((8 + (3 * k)) - 3) + ee), .inr (.inr (some 100))], (Jb, L16, X), 0, 0) (fun _ => rfl) ?_
              refine yi_G_get (80, [(3, .inl ee), (2, .inl k), (0, .inr (.inr (some 82))), (1, .inl s)], [.inr (.inr (some 100)), .inl (((8 + (3 * k)) - 3) + ee), .inr (.inr (some 100))], (Jb, L16, X), 0, 0) rfl (ym_gr hS 17 rfl rfl rfl) ?_
              refine yi_G_run 3 (84, [(3, .inl ee), (2, .inl k), (0, .inr (.inr (some 82))), (1, .inl s)], [.inl k, .inl 3, .inl 8, .inr (.inr (some 100)), .inl (((8 + (3 * k)) - 3) + ee), .inr (.inr (some 100))], (Jb, L16, X), 0, 0) (fun _ => rfl) ?_
              refine yi_G_imul rfl (3 * k) (yi_wn (by omega) (by omega)) ?_
              refine yi_G_iadd rfl (8 + (3 * k)) (yi_wn (by omega) (by omega)) ?_
              refine yi_G_run 1 (87, [(3, .inl ee), (2, .inl k), (0, .inr (.inr (some 82))), (1, .inl s)], [.inl ee, .inl (8 + (3 * k)), .inr (.inr (some 100)), .inl (((8 + (3 * k)) - 3) + ee), .inr (.inr (some 100))], (Jb, L16, X), 0, 0) (fun _ => rfl) ?_
              refine yi_G_iadd rfl ((8 + (3 * k)) + ee) (yi_wn (by omega) (by omega)) ?_
              refine yi_G_iald (89, [(3, .inl ee), (2, .inl k), (0, .inr (.inr (some 82))), (1, .inl s)], [.inl (Jb 100 (((8 + (3 * k)) + ee).toNat)), .inl (((8 + (3 * k)) - 3) + ee), .inr (.inr (some 100))], (Jb, L16, X), 0, 0) rfl (ym_li hS 17 rfl (by omega) (by omega) rfl) ?_
              refine yi_G_iast (90, [(3, .inl ee), (2, .inl k), (0, .inr (.inr (some 82))), (1, .inl s)], [], ((yi_u Jb 100 ((((8 + (3 * k)) - 3) + ee).toNat) (Jb 100 (((8 + (3 * k)) + ee).toNat))), L16, X), 0, 0) rfl (ym_si hS 17 rfl (by omega) (by omega)) ?_
              generalize w20 : yi_u Jb 100 ((((8 + (3 * k)) - 3) + ee).toNat) (Jb 100 (((8 + (3 * k)) + ee).toNat)) = I19
              refine yi_G_iinc [(3, .inl (ee + 1)), (2, .inl k), (0, .inr (.inr (some 82))), (1, .inl s)] rfl rfl rfl (by rw [show yi_w (ee + 1) = ee + 1 from (yi_wn (by omega) (by omega)).trans (by omega)]; rfl) ?_
              refine yi_G_run 1 (57, [(3, .inl (ee + 1)), (2, .inl k), (0, .inr (.inr (some 82))), (1, .inl s)], [], (I19, L16, X), 0, 0) (fun _ => rfl) ?_
              exact ih57 _ (by omega) (ee + 1) I19 (fun p k hp => by rw [← w20, yi_u_ne _ _ (fun z => by omega), fJb p k (by omega)]) (by omega) (by rw [← w20]; exact ym_ST_u stbb (by omega) (by omega) (by omega) (by omega) (fun q q0 q1 q2 => (by have e0 : ee = 0 := (by omega); subst e0; rw [Int.add_zero]; exact stbb.1.2.2.2.1 k (by omega) (by omega))) (by omega)) (by rw [← w20, yi_u_ne _ _ (by omega)]; exact hb0) rfl
          exact pt57 _ 0 Ja (fun _ _ _ => rfl) (by omega) sta ha0 rfl
      exact pt31 _ (s + 1) I8 L10 (fun _ _ _ => rfl) (fun _ _ _ => rfl) (by omega) stI8 (by rw [lok _ (by omega), ← w2, yi_u_ne _ _ (by omega)]) rfl
  · show yi_G zi_Ms d zi_m112 (10, [(0, .inr (.inr (some 82))), (1, .inl s)], [.inl 0], (I1, L, X), 0, 0) _
    refine yi_G_if1 true rfl (by decide) ?_
    refine yi_G_run 1 (22, [(0, .inr (.inr (some 82))), (1, .inl s)], [.inl 0], (I1, L, X), 0, 0) (fun _ => rfl) ?_
    exact yi_G_retb rfl rfl (by decide) (⟨_, _, _, rfl, (fun p k hp => by rw [← w2, yi_u_ne _ _ (fun z => by omega)]), (fun _ _ _ => rfl), (ym_ST_t (fun k => by rw [← w2, yi_u_ne _ _ (by omega)]) (by rw [← w2, yi_u_ne _ _ (by omega)]) (fun k => by rw [← w2, yi_u_ne _ _ (by omega)]) (fun k => by rw [← w2, yi_u_ne _ _ (by omega)]) hST)⟩)
theorem c_come (D : Nat) (hD : 5 ≤ D) {I L : Nat → Nat → Int} {X : ym_X} (hS : ym_S X) {p ev : Int} (hLR : ym_LR I) (hST : ym_ST I) (hl : 0 ≤ I 82 25 ∧ I 82 25 ≤ 512) : yi_E zi_Ms D 12 [.inr (.inr (some 82)), .inl p, .inl ev] (I, L, X) (fun r => ∃ z I' L', (r = (some (.inl z), (I', L', X), 0, 0)) ∧ (∀ p k, p ≠ 100 ∧ ¬ (p = 82 ∧ k = 0) ∧ ¬ (p = 82 ∧ k = 30) → I' p k = I p k) ∧ (∀ p k, p ≠ 97 → L' p k = L p k) ∧ ym_ST I') := by
  obtain ⟨d, rfl⟩ : ∃ d, D = d + 1 := ⟨D - 1, by omega⟩
  refine yi_E_of (M := zi_m12) rfl rfl ?_
  obtain ⟨l0, l1, l2, l3, l4, l5⟩ := id hLR
  have hS0 := hST.1
  obtain ⟨t0, t1, t2, t3, t4⟩ := id hS0
  show yi_G zi_Ms d zi_m12 (0, [(0, .inr (.inr (some 82))), (1, .inl p), (2, .inl ev)], [], (I, L, X), 0, 0) _
  refine yi_G_run 2 (2, [(0, .inr (.inr (some 82))), (1, .inl p), (2, .inl ev)], [.inl 0, .inr (.inr (some 82))], (I, L, X), 0, 0) (fun _ => rfl) ?_
  refine yi_G_put (5, [(0, .inr (.inr (some 82))), (1, .inl p), (2, .inl ev)], [], ((yi_u I 82 0 0), L, X), 0, 0) rfl (ym_pi hS rfl rfl) ?_
  generalize w2 : yi_u I 82 0 0 = I1
  refine yi_G_run 1 (6, [(0, .inr (.inr (some 82))), (1, .inl p), (2, .inl ev)], [.inr (.inr (some 82))], (I1, L, X), 0, 0) (fun _ => rfl) ?_
  refine yi_G_get (9, [(0, .inr (.inr (some 82))), (1, .inl p), (2, .inl ev)], [.inr (.inr (some 100))], (I1, L, X), 0, 0) rfl (ym_gr hS 17 rfl rfl rfl) ?_
  refine yi_G_run 1 (10, [(0, .inr (.inr (some 82))), (1, .inl p), (2, .inl ev)], [.inl 1, .inr (.inr (some 100))], (I1, L, X), 0, 0) (fun _ => rfl) ?_
  have r3 : I1 100 1 = I 100 1 := by rw [← w2, yi_u_ne _ _ (by omega)]
  refine yi_G_iald (11, [(0, .inr (.inr (some 82))), (1, .inl p), (2, .inl ev)], [.inl (I 100 1)], (I1, L, X), 0, 0) rfl (ym_li hS 17 rfl (by omega) (by omega) r3) ?_
  refine yi_G_run 3 (14, [(3, .inl (I 100 1)), (0, .inr (.inr (some 82))), (1, .inl p), (2, .inl ev)], [.inl p, .inr (.inr (some 82))], (I1, L, X), 0, 0) (fun _ => rfl) ?_
  have r5 : I1 88 1 = I 88 1 := by rw [← w2, yi_u_ne _ _ (by omega)]
  refine yi_G_callv rfl rfl (ym_rcv hS) rfl (c_isPerson d (by omega) hS r5) ?_
  rintro _ (⟨c4, rfl⟩ | ⟨c4, rfl⟩)
  · show yi_G zi_Ms d zi_m12 (17, [(3, .inl (I 100 1)), (0, .inr (.inr (some 82))), (1, .inl p), (2, .inl ev)], [.inl 1], (I1, L, X), 0, 0) _
    refine yi_G_if1 false rfl (by decide) ?_
    refine yi_G_run 2 (22, [(3, .inl (I 100 1)), (0, .inr (.inr (some 82))), (1, .inl p), (2, .inl ev)], [.inl ev, .inr (.inr (some 82))], (I1, L, X), 0, 0) (fun _ => rfl) ?_
    have r7 : I1 88 2 = I 88 2 := by rw [← w2, yi_u_ne _ _ (by omega)]
    refine yi_G_callv rfl rfl (ym_rcv hS) rfl (c_isEvent d (by omega) hS r7) ?_
    rintro _ (⟨c6, rfl⟩ | ⟨c6, rfl⟩)
    · show yi_G zi_Ms d zi_m12 (25, [(3, .inl (I 100 1)), (0, .inr (.inr (some 82))), (1, .inl p), (2, .inl ev)], [.inl 1], (I1, L, X), 0, 0) _
      refine yi_G_if1 false rfl (by decide) ?_
      refine yi_G_run 2 (30, [(3, .inl (I 100 1)), (0, .inr (.inr (some 82))), (1, .inl p), (2, .inl ev)], [.inr (.inr (some 82)), .inl (I 100 1)], (I1, L, X), 0, 0) (fun _ => rfl) ?_
      have r8 : I1 88 0 = I 88 0 := by rw [← w2, yi_u_ne _ _ (by omega)]
      refine yi_G_callv rfl rfl (ym_rcv hS) rfl (c_days d (by omega) hS r8) ?_
      rintro _ rfl
      show yi_G zi_Ms d zi_m12 (33, [(3, .inl (I 100 1)), (0, .inr (.inr (some 82))), (1, .inl p), (2, .inl ev)], [.inl (I 88 0), .inl (I 100 1)], (I1, L, X), 0, 0) _
      by_cases h9 : (I 88 0) < (I 100 1)
      · refine yi_G_if2 true rfl (yi_gt_t h9) ?_
        refine yi_G_run 1 (58, [(3, .inl (I 100 1)), (0, .inr (.inr (some 82))), (1, .inl p), (2, .inl ev)], [.inl 0], (I1, L, X), 0, 0) (fun _ => rfl) ?_
        exact yi_G_retb rfl rfl (by decide) (⟨_, _, _, rfl, (fun p k hp => by rw [← w2, yi_u_ne _ _ (fun z => by omega)]), (fun _ _ _ => rfl), (ym_ST_t (fun k => by rw [← w2, yi_u_ne _ _ (by omega)]) (by rw [← w2, yi_u_ne _ _ (by omega)]) (fun k => by rw [← w2, yi_u_ne _ _ (by omega)]) (fun k => by rw [← w2, yi_u_ne _ _ (by omega)]) hST)⟩)
      · refine yi_G_if2 false rfl (yi_gt_f h9) ?_
        refine yi_G_run 1 (37, [(3, .inl (I 100 1)), (0, .inr (.inr (some 82))), (1, .inl p), (2, .inl ev)], [.inr (.inr (some 82))], (I1, L, X), 0, 0) (fun _ => rfl) ?_
        refine yi_G_get (40, [(3, .inl (I 100 1)), (0, .inr (.inr (some 82))), (1, .inl p), (2, .inl ev)], [.inr (.inr (some 100))], (I1, L, X), 0, 0) rfl (ym_gr hS 17 rfl rfl rfl) ?_
        refine yi_G_run 2 (43, [(3, .inl (I 100 1)), (0, .inr (.inr (some 82))), (1, .inl p), (2, .inl ev)], [.inr (.inr (some 82)), .inl 44, .inr (.inr (some 100))], (I1, L, X), 0, 0) (fun _ => rfl) ?_
        have m1 := yi_mb (a := I 88 1) (b := I 100 1 - 1) (A := 4) (B := 5) (by omega) (by omega) (by omega) (by omega)
        have r10 : I1 88 1 = I 88 1 := by rw [← w2, yi_u_ne _ _ (by omega)]
        refine yi_G_callv rfl rfl (ym_rcv hS) rfl (c_people d (by omega) hS r10) ?_
        rintro _ rfl
        show yi_G zi_Ms d zi_m12 (46, [(3, .inl (I 100 1)), (0, .inr (.inr (some 82))), (1, .inl p), (2, .inl ev)], [.inl (I 88 1), .inl 44, .inr (.inr (some 100))], (I1, L, X), 0, 0) _
        refine yi_G_run 2 (48, [(3, .inl (I 100 1)), (0, .inr (.inr (some 82))), (1, .inl p), (2, .inl ev)], [.inl 1, .inl (I 100 1), .inl (I 88 1), .inl 44, .inr (.inr (some 100))], (I1, L, X), 0, 0) (fun _ => rfl) ?_
        refine yi_G_isub rfl ((I 100 1) - 1) (yi_wn (by omega) (by omega)) ?_
        refine yi_G_imul rfl ((I 88 1) * ((I 100 1) - 1)) (yi_wn (by omega) (by omega)) ?_
        refine yi_G_iadd rfl (44 + ((I 88 1) * ((I 100 1) - 1))) (yi_wn (by omega) (by omega)) ?_
        refine yi_G_run 1 (52, [(3, .inl (I 100 1)), (0, .inr (.inr (some 82))), (1, .inl p), (2, .inl ev)], [.inl p, .inl (44 + ((I 88 1) * ((I 100 1) - 1))), .inr (.inr (some 100))], (I1, L, X), 0, 0) (fun _ => rfl) ?_
        refine yi_G_iadd rfl ((44 + ((I 88 1) * ((I 100 1) - 1))) + p) (yi_wn (by omega) (by omega)) ?_
        have r11 : I1 100 (((44 + ((I 88 1) * ((I 100 1) - 1))) + p).toNat) = I 100 (((44 + ((I 88 1) * ((I 100 1) - 1))) + p).toNat) := by rw [← w2, yi_u_ne _ _ (by omega)]
        refine yi_G_iald (54, [(3, .inl (I 100 1)), (0, .inr (.inr (some 82))), (1, .inl p), (2, .inl ev)], [.inl (I 100 (((44 + ((I 88 1) * ((I 100 1) - 1))) + p).toNat))], (I1, L, X), 0, 0) rfl (ym_li hS 17 rfl (by omega) (by omega) r11) ?_
        by_cases h12 : (I 100 (((44 + ((I 88 1) * ((I 100 1) - 1))) + p).toNat)) < 0
        · refine yi_G_if1 true rfl (yi_lt_t h12) ?_
          refine yi_G_run 1 (60, [(3, .inl (I 100 1)), (0, .inr (.inr (some 82))), (1, .inl p), (2, .inl ev)], [.inr (.inr (some 82))], (I1, L, X), 0, 0) (fun _ => rfl) ?_
          have r16 : I1 82 25 = I 82 25 := by rw [← w2, yi_u_ne _ _ (by omega)]
          refine yi_G_callv rfl rfl (ym_rcv hS) rfl (c_findLeft d (by omega) hS (ym_LR_t (fun k => by rw [← w2, yi_u_ne _ _ (fun z => absurd z.1 (by decide))]) hLR) (ym_S0_t (fun k => by rw [← w2, yi_u_ne _ _ (fun z => absurd z.1 (by decide))]) hS0) ⟨(by rw [r16]; omega), (by rw [r16]; omega)⟩) ?_
          rintro _ ⟨z15, L13, rfl, f14⟩
          show yi_G zi_Ms d zi_m12 (63, [(3, .inl (I 100 1)), (0, .inr (.inr (some 82))), (1, .inl p), (2, .inl ev)], [.inl z15], (I1, L13, X), 0, 0) _
          refine yi_G_run 7 (71, [(3, .inl (I 100 1)), (0, .inr (.inr (some 82))), (1, .inl p), (2, .inl ev)], [.inl ev, .inl (I 100 1), .inl p, .inr (.inr (some 82)), .inl 39, .inr (.inr (some 82))], (I1, L13, X), 0, 0) (fun _ => rfl) ?_
          refine yi_G_callv rfl rfl (ym_rcv hS) rfl (c_wordAt d (by omega) hS (ym_LR_t (fun k => by rw [← w2, yi_u_ne _ _ (fun z => absurd z.1 (by decide))]) hLR) (by omega) (by omega) (by omega) (by omega) (by omega) (by omega)) ?_
          rintro _ ⟨z17, rfl, h18a, h18b, h18c⟩
          show yi_G zi_Ms d zi_m12 (74, [(3, .inl (I 100 1)), (0, .inr (.inr (some 82))), (1, .inl p), (2, .inl ev)], [.inl z17, .inl 39, .inr (.inr (some 82))], (I1, L13, X), 0, 0) _
          have r19 : I1 82 25 = I 82 25 := by rw [← w2, yi_u_ne _ _ (by omega)]
          refine yi_G_callv rfl rfl (ym_rcv hS) rfl (w_isAny (by omega) hS (by omega) (by omega) (by omega) (by omega) (by rw [r19]; omega) (by rw [r19]; omega)) ?_
          rintro _ (rfl | rfl)
          · show yi_G zi_Ms d zi_m12 (77, [(3, .inl (I 100 1)), (0, .inr (.inr (some 82))), (1, .inl p), (2, .inl ev)], [.inl 1], (I1, L13, X), 0, 0) _
            refine yi_G_if1 true rfl (by decide) ?_
            refine yi_G_run 1 (83, [(3, .inl (I 100 1)), (0, .inr (.inr (some 82))), (1, .inl p), (2, .inl ev)], [.inr (.inr (some 82))], (I1, L13, X), 0, 0) (fun _ => rfl) ?_
            have r20 : I1 82 25 = I 82 25 := by rw [← w2, yi_u_ne _ _ (by omega)]
            have stb : ym_ST I1 := (ym_ST_t (fun k => by rw [← w2, yi_u_ne _ _ (by omega)]) (by rw [← w2, yi_u_ne _ _ (by omega)]) (fun k => by rw [← w2, yi_u_ne _ _ (by omega)]) (fun k => by rw [← w2, yi_u_ne _ _ (by omega)]) hST)
            refine yi_G_callv rfl rfl (ym_rcv hS) rfl (c_keeps d (by omega) hS stb.2.1 ((ym_S0_iff _).mp stb.1) ⟨(by rw [r20]; omega), (by rw [r20]; omega)⟩) ?_
            rintro _ ⟨I21, L23, rfl, f22, f24, ubk, lok⟩
            have stI21 : ym_ST I21 := ym_ST_k stb ubk lok (fun k => f22 101 k (by omega)) (fun k => f22 102 k (by omega))
            show yi_G zi_Ms d zi_m12 (86, [(3, .inl (I 100 1)), (0, .inr (.inr (some 82))), (1, .inl p), (2, .inl ev)], [], (I21, L23, X), 0, 0) _
            refine yi_G_run 1 (87, [(3, .inl (I 100 1)), (0, .inr (.inr (some 82))), (1, .inl p), (2, .inl ev)], [.inr (.inr (some 82))], (I21, L23, X), 0, 0) (fun _ => rfl) ?_
            refine yi_G_get (90, [(3, .inl (I 100 1)), (0, .inr (.inr (some 82))), (1, .inl p), (2, .inl ev)], [.inr (.inr (some 100))], (I21, L23, X), 0, 0) rfl (ym_gr hS 17 rfl rfl rfl) ?_
            refine yi_G_run 2 (93, [(3, .inl (I 100 1)), (0, .inr (.inr (some 82))), (1, .inl p), (2, .inl ev)], [.inr (.inr (some 82)), .inl 44, .inr (.inr (some 100))], (I21, L23, X), 0, 0) (fun _ => rfl) ?_
            have r25 : I21 88 1 = I 88 1 := by rw [f22 88 (1) (by omega), ← w2, yi_u_ne _ _ (by omega)]
            refine yi_G_callv rfl rfl (ym_rcv hS) rfl (c_people d (by omega) hS r25) ?_
            rintro _ rfl
            show yi_G zi_Ms d zi_m12 (96, [(3, .inl (I 100 1)), (0, .inr (.inr (some 82))), (1, .inl p), (2, .inl ev)], [.inl (I 88 1), .inl 44, .inr (.inr (some 100))], (I21, L23, X), 0, 0) _
            refine yi_G_run 2 (98, [(3, .inl (I 100 1)), (0, .inr (.inr (some 82))), (1, .inl p), (2, .inl ev)], [.inl 1, .inl (I 100 1), .inl (I 88 1), .inl 44, .inr (.inr (some 100))], (I21, L23, X), 0, 0) (fun _ => rfl) ?_
            refine yi_G_isub rfl ((I 100 1) - 1) (yi_wn (by omega) (by omega)) ?_
            refine yi_G_imul rfl ((I 88 1) * ((I 100 1) - 1)) (yi_wn (by omega) (by omega)) ?_
            refine yi_G_iadd rfl (44 + ((I 88 1) * ((I 100 1) - 1))) (yi_wn (by omega) (by omega)) ?_
            refine yi_G_run 1 (102, [(3, .inl (I 100 1)), (0, .inr (.inr (some 82))), (1, .inl p), (2, .inl ev)], [.inl p, .inl (44 + ((I 88 1) * ((I 100 1) - 1))), .inr (.inr (some 100))], (I21, L23, X), 0, 0) (fun _ => rfl) ?_
            refine yi_G_iadd rfl ((44 + ((I 88 1) * ((I 100 1) - 1))) + p) (yi_wn (by omega) (by omega)) ?_
            refine yi_G_run 1 (104, [(3, .inl (I 100 1)), (0, .inr (.inr (some 82))), (1, .inl p), (2, .inl ev)], [.inl ev, .inl ((44 + ((I 88 1) * ((I 100 1) - 1))) + p), .inr (.inr (some 100))], (I21, L23, X), 0, 0) (fun _ => rfl) ?_
            refine yi_G_iast (105, [(3, .inl (I 100 1)), (0, .inr (.inr (some 82))), (1, .inl p), (2, .inl ev)], [], ((yi_u I21 100 (((44 + ((I 88 1) * ((I 100 1) - 1))) + p).toNat) ev), L23, X), 0, 0) rfl (ym_si hS 17 rfl (by omega) (by omega)) ?_
            generalize w27 : yi_u I21 100 (((44 + ((I 88 1) * ((I 100 1) - 1))) + p).toNat) ev = I26
            refine yi_G_run 4 (111, [(5, .inl 0), (4, .inl 1), (3, .inl (I 100 1)), (0, .inr (.inr (some 82))), (1, .inl p), (2, .inl ev)], [], (I26, L23, X), 0, 0) (fun _ => rfl) ?_
            have pt111 : ∀ (m : Nat) (al : Int) (j : Int), (0 ≤ j ∧ j ≤ I 88 1) → (al = 0 ∨ al = 1) → (I 88 1 - j).toNat = m → yi_G zi_Ms d zi_m12 (111, [(5, .inl j), (4, .inl al), (3, .inl (I 100 1)), (0, .inr (.inr (some 82))), (1, .inl p), (2, .inl ev)], [], (I26, L23, X), 0, 0) (fun r => ∃ z I' L', (r = (some (.inl z), (I', L', X), 0, 0)) ∧ (∀ p k, p ≠ 100 ∧ ¬ (p = 82 ∧ k = 0) ∧ ¬ (p = 82 ∧ k = 30) → I' p k = I p k) ∧ (∀ p k, p ≠ 97 → L' p k = L p k) ∧ ym_ST I') := by
              intro m111
              induction m111 using Nat.strongRecOn with
              | _ m111 ih111 =>
              intro al j j0 al0 hm111
              refine yi_G_run 2 (114, [(5, .inl j), (4, .inl al), (3, .inl (I 100 1)), (0, .inr (.inr (some 82))), (1, .inl p), (2, .inl ev)], [.inr (.inr (some 82)), .inl j], (I26, L23, X), 0, 0) (fun _ => rfl) ?_
              have r28 : I26 88 1 = I 88 1 := by rw [← w27, yi_u_ne _ _ (by omega), f22 88 (1) (by omega), ← w2, yi_u_ne _ _ (by omega)]
              refine yi_G_callv rfl rfl (ym_rcv hS) rfl (c_people d (by omega) hS r28) ?_
              rintro _ rfl
              show yi_G zi_Ms d zi_m12 (117, [(5, .inl j), (4, .inl al), (3, .inl (I 100 1)), (0, .inr (.inr (some 82))), (1, .inl p), (2, .inl ev)], [.inl (I 88 1), .inl j], (I26, L23, X), 0, 0) _
              by_cases h29 : (I 88 1) ≤ j
              · refine yi_G_if2 true rfl (yi_ge_t h29) ?_
                refine yi_G_run 1 (161, [(5, .inl j), (4, .inl al), (3, .inl (I 100 1)), (0, .inr (.inr (some 82))), (1, .inl p), (2, .inl ev)], [.inr (.inr (some 82))], (I26, L23, X), 0, 0) (fun _ => rfl) ?_
                have q1 : I26 100 1 = I 100 1 := by rw [← w27, yi_u_ne _ _ (by omega), lok _ (by omega), ← w2, yi_u_ne _ _ (by omega)]
                refine yi_G_get (164, [(5, .inl j), (4, .inl al), (3, .inl (I 100 1)), (0, .inr (.inr (some 82))), (1, .inl p), (2, .inl ev)], [.inr (.inr (some 100))], (I26, L23, X), 0, 0) rfl (ym_gr hS 17 rfl rfl rfl) ?_
                refine yi_G_run 2 (166, [(5, .inl j), (4, .inl al), (3, .inl (I 100 1)), (0, .inr (.inr (some 82))), (1, .inl p), (2, .inl ev)], [.inl 1, .inr (.inr (some 100)), .inl 1, .inr (.inr (some 100))], (I26, L23, X), 0, 0) (fun _ => rfl) ?_
                refine yi_G_iald (167, [(5, .inl j), (4, .inl al), (3, .inl (I 100 1)), (0, .inr (.inr (some 82))), (1, .inl p), (2, .inl ev)], [.inl (I26 100 1), .inl 1, .inr (.inr (some 100))], (I26, L23, X), 0, 0) rfl (ym_li hS 17 rfl (by omega) (by omega) rfl) ?_
                refine yi_G_run 1 (169, [(5, .inl j), (4, .inl al), (3, .inl (I 100 1)), (0, .inr (.inr (some 82))), (1, .inl p), (2, .inl ev)], [.inl al, .inl (I26 100 1), .inl 1, .inr (.inr (some 100))], (I26, L23, X), 0, 0) (fun _ => rfl) ?_
                by_cases h30 : al = 0
                · refine yi_G_if1 true rfl (yi_eq_t h30) ?_
                  refine yi_G_run 1 (177, [(5, .inl j), (4, .inl al), (3, .inl (I 100 1)), (0, .inr (.inr (some 82))), (1, .inl p), (2, .inl ev)], [.inl 0, .inl (I26 100 1), .inl 1, .inr (.inr (some 100))], (I26, L23, X), 0, 0) (fun _ => rfl) ?_
                  refine yi_G_iadd rfl ((I26 100 1) + 0) (yi_wn (by omega) (by omega)) ?_
                  refine yi_G_iast (179, [(5, .inl j), (4, .inl al), (3, .inl (I 100 1)), (0, .inr (.inr (some 82))), (1, .inl p), (2, .inl ev)], [], ((yi_u I26 100 1 ((I26 100 1) + 0)), L23, X), 0, 0) rfl (ym_si hS 17 rfl (by omega) (by omega)) ?_
                  generalize w32 : yi_u I26 100 1 ((I26 100 1) + 0) = I31
                  refine yi_G_run 1 (180, [(5, .inl j), (4, .inl al), (3, .inl (I 100 1)), (0, .inr (.inr (some 82))), (1, .inl p), (2, .inl ev)], [.inl 1], (I31, L23, X), 0, 0) (fun _ => rfl) ?_
                  exact yi_G_retb rfl rfl (by decide) (⟨_, _, _, rfl, (fun p k hp => by rw [← w32, yi_u_ne _ _ (fun z => by omega), ← w27, yi_u_ne _ _ (fun z => by omega), f22 p k (by omega), ← w2, yi_u_ne _ _ (fun z => by omega)]), (fun p k hp => by rw [f24 p k (by omega), f14 p k (by omega)]), (by rw [← w32]; exact ym_ST_u (by rw [← w27]; exact ym_ST_u stI21 (by omega) (by omega) (by omega) (by omega) (by omega) (by omega)) (by omega) (by omega) (by omega) (by omega) (by omega) (by omega))⟩)
                · refine yi_G_if1 false rfl (yi_eq_f h30) ?_
                  refine yi_G_run 2 (177, [(5, .inl j), (4, .inl al), (3, .inl (I 100 1)), (0, .inr (.inr (some 82))), (1, .inl p), (2, .inl ev)], [.inl 1, .inl (I26 100 1), .inl 1, .inr (.inr (some 100))], (I26, L23, X), 0, 0) (fun _ => rfl) ?_
                  refine yi_G_iadd rfl ((I26 100 1) + 1) (yi_wn (by omega) (by omega)) ?_
                  refine yi_G_iast (179, [(5, .inl j), (4, .inl al), (3, .inl (I 100 1)), (0, .inr (.inr (some 82))), (1, .inl p), (2, .inl ev)], [], ((yi_u I26 100 1 ((I26 100 1) + 1)), L23, X), 0, 0) rfl (ym_si hS 17 rfl (by omega) (by omega)) ?_
                  generalize w34 : yi_u I26 100 1 ((I26 100 1) + 1) = I33
                  refine yi_G_run 1 (180, [(5, .inl j), (4, .inl al), (3, .inl (I 100 1)), (0, .inr (.inr (some 82))), (1, .inl p), (2, .inl ev)], [.inl 1], (I33, L23, X), 0, 0) (fun _ => rfl) ?_
                  exact yi_G_retb rfl rfl (by decide) (⟨_, _, _, rfl, (fun p k hp => by rw [← w34, yi_u_ne _ _ (fun z => by omega), ← w27, yi_u_ne _ _ (fun z => by omega), f22 p k (by omega), ← w2, yi_u_ne _ _ (fun z => by omega)]), (fun p k hp => by rw [f24 p k (by omega), f14 p k (by omega)]), (by rw [← w34]; exact ym_ST_u (by rw [← w27]; exact ym_ST_u stI21 (by omega) (by omega) (by omega) (by omega) (by omega) (by omega)) (by omega) (by omega) (by omega) (by omega) (by omega) (by omega))⟩)
              · refine yi_G_if2 false rfl (yi_ge_f h29) ?_
                refine yi_G_run 1 (122, [(5, .inl j), (4, .inl al), (3, .inl (I 100 1)), (0, .inr (.inr (some 82))), (1, .inl p), (2, .inl ev)], [.inl al], (I26, L23, X), 0, 0) (fun _ => rfl) ?_
                by_cases h35 : al = 0
                · refine yi_G_if1 true rfl (yi_eq_t h35) ?_
                  refine yi_G_run 2 (154, [(4, .inl 0), (5, .inl j), (3, .inl (I 100 1)), (0, .inr (.inr (some 82))), (1, .inl p), (2, .inl ev)], [], (I26, L23, X), 0, 0) (fun _ => rfl) ?_
                  refine yi_G_iinc [(5, .inl (j + 1)), (4, .inl 0), (3, .inl (I 100 1)), (0, .inr (.inr (some 82))), (1, .inl p), (2, .inl ev)] rfl rfl rfl (by rw [show yi_w (j + 1) = j + 1 from (yi_wn (by omega) (by omega)).trans (by omega)]; rfl) ?_
                  refine yi_G_run 1 (111, [(5, .inl (j + 1)), (4, .inl 0), (3, .inl (I 100 1)), (0, .inr (.inr (some 82))), (1, .inl p), (2, .inl ev)], [], (I26, L23, X), 0, 0) (fun _ => rfl) ?_
                  exact ih111 _ (by omega) 0 (j + 1) (by omega) (by omega) rfl
                · refine yi_G_if1 false rfl (yi_eq_f h35) ?_
                  refine yi_G_run 1 (126, [(5, .inl j), (4, .inl al), (3, .inl (I 100 1)), (0, .inr (.inr (some 82))), (1, .inl p), (2, .inl ev)], [.inr (.inr (some 82))], (I26, L23, X), 0, 0) (fun _ => rfl) ?_
                  refine yi_G_get (129, [(5, .inl j), (4, .inl al), (3, .inl (I 100 1)), (0, .inr (.inr (some 82))), (1, .inl p), (2, .inl ev)], [.inr (.inr (some 100))], (I26, L23, X), 0, 0) rfl (ym_gr hS 17 rfl rfl rfl) ?_
                  refine yi_G_run 2 (132, [(5, .inl j), (4, .inl al), (3, .inl (I 100 1)), (0, .inr (.inr (some 82))), (1, .inl p), (2, .inl ev)], [.inr (.inr (some 82)), .inl 44, .inr (.inr (some 100))], (I26, L23, X), 0, 0) (fun _ => rfl) ?_
                  have r36 : I26 88 1 = I 88 1 := by rw [← w27, yi_u_ne _ _ (by omega), f22 88 (1) (by omega), ← w2, yi_u_ne _ _ (by omega)]
                  refine yi_G_callv rfl rfl (ym_rcv hS) rfl (c_people d (by omega) hS r36) ?_
                  rintro _ rfl
                  show yi_G zi_Ms d zi_m12 (135, [(5, .inl j), (4, .inl al), (3, .inl (I 100 1)), (0, .inr (.inr (some 82))), (1, .inl p), (2, .inl ev)], [.inl (I 88 1), .inl 44, .inr (.inr (some 100))], (I26, L23, X), 0, 0) _
                  refine yi_G_run 2 (137, [(5, .inl j), (4, .inl al), (3, .inl (I 100 1)), (0, .inr (.inr (some 82))), (1, .inl p), (2, .inl ev)], [.inl 1, .inl (I 100 1), .inl (I 88 1), .inl 44, .inr (.inr (some 100))], (I26, L23, X), 0, 0) (fun _ => rfl) ?_
                  refine yi_G_isub rfl ((I 100 1) - 1) (yi_wn (by omega) (by omega)) ?_
                  refine yi_G_imul rfl ((I 88 1) * ((I 100 1) - 1)) (yi_wn (by omega) (by omega)) ?_
                  refine yi_G_iadd rfl (44 + ((I 88 1) * ((I 100 1) - 1))) (yi_wn (by omega) (by omega)) ?_
                  refine yi_G_run 1 (142, [(5, .inl j), (4, .inl al), (3, .inl (I 100 1)), (0, .inr (.inr (some 82))), (1, .inl p), (2, .inl ev)], [.inl j, .inl (44 + ((I 88 1) * ((I 100 1) - 1))), .inr (.inr (some 100))], (I26, L23, X), 0, 0) (fun _ => rfl) ?_
                  refine yi_G_iadd rfl ((44 + ((I 88 1) * ((I 100 1) - 1))) + j) (yi_wn (by omega) (by omega)) ?_
                  refine yi_G_iald (144, [(5, .inl j), (4, .inl al), (3, .inl (I 100 1)), (0, .inr (.inr (some 82))), (1, .inl p), (2, .inl ev)], [.inl (I26 100 (((44 + ((I 88 1) * ((I 100 1) - 1))) + j).toNat))], (I26, L23, X), 0, 0) rfl (ym_li hS 17 rfl (by omega) (by omega) rfl) ?_
                  by_cases h37 : (I26 100 (((44 + ((I 88 1) * ((I 100 1) - 1))) + j).toNat)) < 0
                  · refine yi_G_if1 true rfl (yi_lt_t h37) ?_
                    refine yi_G_run 2 (154, [(4, .inl 0), (5, .inl j), (3, .inl (I 100 1)), (0, .inr (.inr (some 82))), (1, .inl p), (2, .inl ev)], [], (I26, L23, X), 0, 0) (fun _ => rfl) ?_
                    refine yi_G_iinc [(5, .inl (j + 1)), (4, .inl 0), (3, .inl (I 100 1)), (0, .inr (.inr (some 82))), (1, .inl p), (2, .inl ev)] rfl rfl rfl (by rw [show yi_w (j + 1) = j + 1 from (yi_wn (by omega) (by omega)).trans (by omega)]; rfl) ?_
                    refine yi_G_run 1 (111, [(5, .inl (j + 1)), (4, .inl 0), (3, .inl (I 100 1)), (0, .inr (.inr (some 82))), (1, .inl p), (2, .inl ev)], [], (I26, L23, X), 0, 0) (fun _ => rfl) ?_
                    exact ih111 _ (by omega) 0 (j + 1) (by omega) (by omega) rfl
                  · refine yi_G_if1 false rfl (yi_lt_f h37) ?_
                    refine yi_G_run 3 (154, [(4, .inl 1), (5, .inl j), (3, .inl (I 100 1)), (0, .inr (.inr (some 82))), (1, .inl p), (2, .inl ev)], [], (I26, L23, X), 0, 0) (fun _ => rfl) ?_
                    refine yi_G_iinc [(5, .inl (j + 1)), (4, .inl 1), (3, .inl (I 100 1)), (0, .inr (.inr (some 82))), (1, .inl p), (2, .inl ev)] rfl rfl rfl (by rw [show yi_w (j + 1) = j + 1 from (yi_wn (by omega) (by omega)).trans (by omega)]; rfl) ?_
                    refine yi_G_run 1 (111, [(5, .inl (j + 1)), (4, .inl 1), (3, .inl (I 100 1)), (0, .inr (.inr (some 82))), (1, .inl p), (2, .inl ev)], [], (I26, L23, X), 0, 0) (fun _ => rfl) ?_
                    exact ih111 _ (by omega) 1 (j + 1) (by omega) (by omega) rfl
            exact pt111 _ 1 0 (by omega) (by omega) rfl
          · show yi_G zi_Ms d zi_m12 (77, [(3, .inl (I 100 1)), (0, .inr (.inr (some 82))), (1, .inl p), (2, .inl ev)], [.inl 0], (I1, L13, X), 0, 0) _
            refine yi_G_if1 false rfl (by decide) ?_
            refine yi_G_run 1 (81, [(3, .inl (I 100 1)), (0, .inr (.inr (some 82))), (1, .inl p), (2, .inl ev)], [.inl 0], (I1, L13, X), 0, 0) (fun _ => rfl) ?_
            exact yi_G_retb rfl rfl (by decide) (⟨_, _, _, rfl, (fun p k hp => by rw [← w2, yi_u_ne _ _ (fun z => by omega)]), (fun p k hp => by rw [f14 p k (by omega)]), (ym_ST_t (fun k => by rw [← w2, yi_u_ne _ _ (by omega)]) (by rw [← w2, yi_u_ne _ _ (by omega)]) (fun k => by rw [← w2, yi_u_ne _ _ (by omega)]) (fun k => by rw [← w2, yi_u_ne _ _ (by omega)]) hST)⟩)
        · refine yi_G_if1 false rfl (yi_lt_f h12) ?_
          refine yi_G_run 1 (58, [(3, .inl (I 100 1)), (0, .inr (.inr (some 82))), (1, .inl p), (2, .inl ev)], [.inl 0], (I1, L, X), 0, 0) (fun _ => rfl) ?_
          exact yi_G_retb rfl rfl (by decide) (⟨_, _, _, rfl, (fun p k hp => by rw [← w2, yi_u_ne _ _ (fun z => by omega)]), (fun _ _ _ => rfl), (ym_ST_t (fun k => by rw [← w2, yi_u_ne _ _ (by omega)]) (by rw [← w2, yi_u_ne _ _ (by omega)]) (fun k => by rw [← w2, yi_u_ne _ _ (by omega)]) (fun k => by rw [← w2, yi_u_ne _ _ (by omega)]) hST)⟩)
    · show yi_G zi_Ms d zi_m12 (25, [(3, .inl (I 100 1)), (0, .inr (.inr (some 82))), (1, .inl p), (2, .inl ev)], [.inl 0], (I1, L, X), 0, 0) _
      refine yi_G_if1 true rfl (by decide) ?_
      refine yi_G_run 1 (58, [(3, .inl (I 100 1)), (0, .inr (.inr (some 82))), (1, .inl p), (2, .inl ev)], [.inl 0], (I1, L, X), 0, 0) (fun _ => rfl) ?_
      exact yi_G_retb rfl rfl (by decide) (⟨_, _, _, rfl, (fun p k hp => by rw [← w2, yi_u_ne _ _ (fun z => by omega)]), (fun _ _ _ => rfl), (ym_ST_t (fun k => by rw [← w2, yi_u_ne _ _ (by omega)]) (by rw [← w2, yi_u_ne _ _ (by omega)]) (fun k => by rw [← w2, yi_u_ne _ _ (by omega)]) (fun k => by rw [← w2, yi_u_ne _ _ (by omega)]) hST)⟩)
  · show yi_G zi_Ms d zi_m12 (17, [(3, .inl (I 100 1)), (0, .inr (.inr (some 82))), (1, .inl p), (2, .inl ev)], [.inl 0], (I1, L, X), 0, 0) _
    refine yi_G_if1 true rfl (by decide) ?_
    refine yi_G_run 1 (58, [(3, .inl (I 100 1)), (0, .inr (.inr (some 82))), (1, .inl p), (2, .inl ev)], [.inl 0], (I1, L, X), 0, 0) (fun _ => rfl) ?_
    exact yi_G_retb rfl rfl (by decide) (⟨_, _, _, rfl, (fun p k hp => by rw [← w2, yi_u_ne _ _ (fun z => by omega)]), (fun _ _ _ => rfl), (ym_ST_t (fun k => by rw [← w2, yi_u_ne _ _ (by omega)]) (by rw [← w2, yi_u_ne _ _ (by omega)]) (fun k => by rw [← w2, yi_u_ne _ _ (by omega)]) (fun k => by rw [← w2, yi_u_ne _ _ (by omega)]) hST)⟩)
