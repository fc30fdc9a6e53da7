/-! The duel. -/
theorem c_winsDuel {X : ym_X} (hS : ym_S X) : ∀ (n D : Nat), n + 5 ≤ D → ∀ (I L : Nat → Nat → Int) (nx ot st : Int), ym_LR I → (0 ≤ I 82 25 ∧ I 82 25 ≤ 512) → ym_un st = n → yi_E zi_Ms D 129 [.inr (.inr (some 82)), .inl nx, .inl ot, .inl st] (I, L, X) (fun r => ∃ z I' L', (r = (some (.inl z), (I', L', X), 0, 0) ∧ (z = 0 ∨ z = 1)) ∧ (∀ p k, ¬ (p = 82 ∧ k = 40) → I' p k = I p k) ∧ (∀ p k, p ≠ 97 → L' p k = L p k)) := by
  intro n
  induction n using Nat.strongRecOn with
  | _ n ihc =>
  intro D hD I L nx ot st hLR hl hn
  obtain ⟨d, rfl⟩ : ∃ d, D = d + 1 := ⟨D - 1, by omega⟩
  refine yi_E_of (M := zi_m129) rfl rfl ?_
  obtain ⟨l0, l1, l2, l3, l4, l5⟩ := id hLR
  show yi_G zi_Ms d zi_m129 (0, [(0, .inr (.inr (some 82))), (1, .inl nx), (2, .inl ot), (3, .inl st)], [], (I, L, X), 0, 0) _
  refine yi_G_run 2 (3, [(4, .inl 0), (0, .inr (.inr (some 82))), (1, .inl nx), (2, .inl ot), (3, .inl st)], [], (I, L, X), 0, 0) (fun _ => rfl) ?_
  have pt3 : ∀ (m : Nat) (k : Int) (Jb : Nat → Nat → Int) (Kb : Nat → Nat → Int), (∀ p k, ¬ (p = 82 ∧ k = 40) → Jb p k = I p k) → (∀ p k, p ≠ 97 → Kb p k = L p k) → (0 ≤ k) → (k ≤ I 88 5) → (I 88 5 - k).toNat = m → yi_G zi_Ms d zi_m129 (3, [(4, .inl k), (0, .inr (.inr (some 82))), (1, .inl nx), (2, .inl ot), (3, .inl st)], [], (Jb, Kb, X), 0, 0) (fun r => ∃ z I' L', (r = (some (.inl z), (I', L', X), 0, 0) ∧ (z = 0 ∨ z = 1)) ∧ (∀ p k, ¬ (p = 82 ∧ k = 40) → I' p k = I p k) ∧ (∀ p k, p ≠ 97 → L' p k = L p k)) := by
    intro m3
    induction m3 using Nat.strongRecOn with
    | _ m3 ih3 =>
    intro k Jb Kb fJb fKb k0 k1 hm3
    refine yi_G_run 2 (6, [(4, .inl k), (0, .inr (.inr (some 82))), (1, .inl nx), (2, .inl ot), (3, .inl st)], [.inr (.inr (some 82)), .inl k], (Jb, Kb, X), 0, 0) (fun _ => rfl) ?_
    refine yi_G_get (9, [(4, .inl k), (0, .inr (.inr (some 82))), (1, .inl nx), (2, .inl ot), (3, .inl st)], [.inr (.inr (some 88)), .inl k], (Jb, Kb, X), 0, 0) rfl (ym_gr hS 5 rfl rfl rfl) ?_
    refine yi_G_run 1 (10, [(4, .inl k), (0, .inr (.inr (some 82))), (1, .inl nx), (2, .inl ot), (3, .inl st)], [.inl 5, .inr (.inr (some 88)), .inl k], (Jb, Kb, X), 0, 0) (fun _ => rfl) ?_
    have r1 : Jb 88 5 = I 88 5 := by rw [fJb 88 (5) (by omega)]
    refine yi_G_iald (11, [(4, .inl k), (0, .inr (.inr (some 82))), (1, .inl nx), (2, .inl ot), (3, .inl st)], [.inl (I 88 5), .inl k], (Jb, Kb, X), 0, 0) rfl (ym_li hS 5 rfl (by omega) (by omega) r1) ?_
    by_cases h2 : (I 88 5) ≤ k
    · refine yi_G_if2 true rfl (yi_ge_t h2) ?_
      refine yi_G_run 2 (95, [(4, .inl k), (0, .inr (.inr (some 82))), (1, .inl nx), (2, .inl ot), (3, .inl st)], [.inl (-1), .inr (.inr (some 82))], (Jb, Kb, X), 0, 0) (fun _ => rfl) ?_
      refine yi_G_put (98, [(4, .inl k), (0, .inr (.inr (some 82))), (1, .inl nx), (2, .inl ot), (3, .inl st)], [], ((yi_u Jb 82 40 (-1)), Kb, X), 0, 0) rfl (ym_pi hS rfl rfl) ?_
      generalize w4 : yi_u Jb 82 40 (-1) = I3
      refine yi_G_run 1 (99, [(4, .inl k), (0, .inr (.inr (some 82))), (1, .inl nx), (2, .inl ot), (3, .inl st)], [.inl 0], (I3, Kb, X), 0, 0) (fun _ => rfl) ?_
      exact yi_G_retb rfl rfl (by decide) (⟨_, _, _, ⟨rfl, by omega⟩, (fun p k hp => by rw [← w4, yi_u_ne _ _ (fun z => by omega), fJb p k (by omega)]), (fun p k hp => by rw [fKb p k (by omega)])⟩)
    · refine yi_G_if2 false rfl (yi_ge_f h2) ?_
      refine yi_G_run 1 (15, [(4, .inl k), (0, .inr (.inr (some 82))), (1, .inl nx), (2, .inl ot), (3, .inl st)], [.inr (.inr (some 82))], (Jb, Kb, X), 0, 0) (fun _ => rfl) ?_
      refine yi_G_get (18, [(4, .inl k), (0, .inr (.inr (some 82))), (1, .inl nx), (2, .inl ot), (3, .inl st)], [.inr (.inr (some 88))], (Jb, Kb, X), 0, 0) rfl (ym_gr hS 5 rfl rfl rfl) ?_
      refine yi_G_run 3 (23, [(4, .inl k), (0, .inr (.inr (some 82))), (1, .inl nx), (2, .inl ot), (3, .inl st)], [.inl k, .inl 3, .inl 25, .inr (.inr (some 88))], (Jb, Kb, X), 0, 0) (fun _ => rfl) ?_
      refine yi_G_imul rfl (3 * k) (yi_wn (by omega) (by omega)) ?_
      refine yi_G_iadd rfl (25 + (3 * k)) (yi_wn (by omega) (by omega)) ?_
      have r5 : Jb 88 ((25 + (3 * k)).toNat) = I 88 ((25 + (3 * k)).toNat) := by rw [fJb 88 ((25 + (3 * k)).toNat) (by omega)]
      refine yi_G_iald (26, [(4, .inl k), (0, .inr (.inr (some 82))), (1, .inl nx), (2, .inl ot), (3, .inl st)], [.inl (I 88 ((25 + (3 * k)).toNat))], (Jb, Kb, X), 0, 0) rfl (ym_li hS 5 rfl (by omega) (by omega) r5) ?_
      refine yi_G_run 1 (27, [(4, .inl k), (0, .inr (.inr (some 82))), (1, .inl nx), (2, .inl ot), (3, .inl st)], [.inl nx, .inl (I 88 ((25 + (3 * k)).toNat))], (Jb, Kb, X), 0, 0) (fun _ => rfl) ?_
      by_cases h6 : (I 88 ((25 + (3 * k)).toNat)) = nx
      · refine yi_G_if2 false rfl (yi_ne_f h6) ?_
        refine yi_G_run 2 (33, [(4, .inl k), (0, .inr (.inr (some 82))), (1, .inl nx), (2, .inl ot), (3, .inl st)], [.inl k, .inl st], (Jb, Kb, X), 0, 0) (fun _ => rfl) ?_
        refine yi_G_calls rfl rfl (c_isIn d (by omega) hS) ?_
        rintro _ (⟨c7, rfl⟩ | ⟨c7, rfl⟩)
        · show yi_G zi_Ms d zi_m129 (36, [(4, .inl k), (0, .inr (.inr (some 82))), (1, .inl nx), (2, .inl ot), (3, .inl st)], [.inl 1], (Jb, Kb, X), 0, 0) _
          refine yi_G_if1 true rfl (by decide) ?_
          refine yi_G_run 3 (61, [(5, .inl 0), (4, .inl k), (0, .inr (.inr (some 82))), (1, .inl nx), (2, .inl ot), (3, .inl st)], [.inl 0], (Jb, Kb, X), 0, 0) (fun _ => rfl) ?_
          refine yi_G_if1 true rfl (by decide) ?_
          refine yi_G_iinc [(4, .inl (k + 1)), (5, .inl 0), (0, .inr (.inr (some 82))), (1, .inl nx), (2, .inl ot), (3, .inl st)] rfl rfl rfl (by rw [show yi_w (k + 1) = k + 1 from (yi_wn (by omega) (by omega)).trans (by omega)]; rfl) ?_
          refine yi_G_run 1 (3, [(4, .inl (k + 1)), (5, .inl 0), (0, .inr (.inr (some 82))), (1, .inl nx), (2, .inl ot), (3, .inl st)], [], (Jb, Kb, X), 0, 0) (fun _ => rfl) ?_
          refine yi_G_al (al := [(4, .inl (k + 1)), (0, .inr (.inr (some 82))), (1, .inl nx), (2, .inl ot), (3, .inl st)]) (show ([4, 0, 1, 2, 3] : List Nat).Nodup by decide) (show ([4, 5, 0, 1, 2, 3] : List Nat).Nodup by decide) (yi_mc (List.mem_of_getElem? (i := 0) rfl) (yi_mc (List.mem_of_getElem? (i := 2) rfl) (yi_mc (List.mem_of_getElem? (i := 3) rfl) (yi_mc (List.mem_of_getElem? (i := 4) rfl) (yi_mc (List.mem_of_getElem? (i := 5) rfl) yi_mn))))) ?_
          exact ih3 _ (by omega) (k + 1) Jb Kb (fun p k hp => by rw [fJb p k (by omega)]) (fun p k hp => by rw [fKb p k (by omega)]) (by omega) (by omega) rfl
        · show yi_G zi_Ms d zi_m129 (36, [(4, .inl k), (0, .inr (.inr (some 82))), (1, .inl nx), (2, .inl ot), (3, .inl st)], [.inl 0], (Jb, Kb, X), 0, 0) _
          refine yi_G_if1 false rfl (by decide) ?_
          refine yi_G_run 6 (46, [(4, .inl k), (0, .inr (.inr (some 82))), (1, .inl nx), (2, .inl ot), (3, .inl st)], [.inl (yi_ior st (yi_shl 1 k)), .inr (.inr (some 82))], (Jb, Kb, X), 0, 0) (fun _ => rfl) ?_
          have r12 : Jb 82 25 = I 82 25 := by rw [fJb 82 (25) (by omega)]
          refine yi_G_callv rfl rfl (ym_rcv hS) rfl (c_canWish d (by omega) hS (ym_LR_t (fun k => by rw [fJb 88 k (by omega)]) hLR) ⟨(by rw [r12]; omega), (by rw [r12]; omega)⟩) ?_
          rintro _ ⟨z10, L8, ⟨rfl, h11⟩, f9⟩
          show yi_G zi_Ms d zi_m129 (49, [(4, .inl k), (0, .inr (.inr (some 82))), (1, .inl nx), (2, .inl ot), (3, .inl st)], [.inl z10], (Jb, L8, X), 0, 0) _
          by_cases h13 : z10 = 0
          · refine yi_G_if1 true rfl (yi_eq_t h13) ?_
            refine yi_G_run 3 (61, [(5, .inl 0), (4, .inl k), (0, .inr (.inr (some 82))), (1, .inl nx), (2, .inl ot), (3, .inl st)], [.inl 0], (Jb, L8, X), 0, 0) (fun _ => rfl) ?_
            refine yi_G_if1 true rfl (by decide) ?_
            refine yi_G_iinc [(4, .inl (k + 1)), (5, .inl 0), (0, .inr (.inr (some 82))), (1, .inl nx), (2, .inl ot), (3, .inl st)] rfl rfl rfl (by rw [show yi_w (k + 1) = k + 1 from (yi_wn (by omega) (by omega)).trans (by omega)]; rfl) ?_
            refine yi_G_run 1 (3, [(4, .inl (k + 1)), (5, .inl 0), (0, .inr (.inr (some 82))), (1, .inl nx), (2, .inl ot), (3, .inl st)], [], (Jb, L8, X), 0, 0) (fun _ => rfl) ?_
            refine yi_G_al (al := [(4, .inl (k + 1)), (0, .inr (.inr (some 82))), (1, .inl nx), (2, .inl ot), (3, .inl st)]) (show ([4, 0, 1, 2, 3] : List Nat).Nodup by decide) (show ([4, 5, 0, 1, 2, 3] : List Nat).Nodup by decide) (yi_mc (List.mem_of_getElem? (i := 0) rfl) (yi_mc (List.mem_of_getElem? (i := 2) rfl) (yi_mc (List.mem_of_getElem? (i := 3) rfl) (yi_mc (List.mem_of_getElem? (i := 4) rfl) (yi_mc (List.mem_of_getElem? (i := 5) rfl) yi_mn))))) ?_
            exact ih3 _ (by omega) (k + 1) Jb L8 (fun p k hp => by rw [fJb p k (by omega)]) (fun p k hp => by rw [f9 p k (by omega), fKb p k (by omega)]) (by omega) (by omega) rfl
          · refine yi_G_if1 false rfl (yi_eq_f h13) ?_
            refine yi_G_run 4 (61, [(5, .inl 1), (4, .inl k), (0, .inr (.inr (some 82))), (1, .inl nx), (2, .inl ot), (3, .inl st)], [.inl 1], (Jb, L8, X), 0, 0) (fun _ => rfl) ?_
            refine yi_G_if1 false rfl (by decide) ?_
            refine yi_G_run 8 (73, [(5, .inl 1), (4, .inl k), (0, .inr (.inr (some 82))), (1, .inl nx), (2, .inl ot), (3, .inl st)], [.inl (yi_ior st (yi_shl 1 k)), .inl nx, .inl ot, .inr (.inr (some 82))], (Jb, L8, X), 0, 0) (fun _ => rfl) ?_
            have hk6 : ((k.toNat : Nat) : Int) = k := by omega
            have hu := ym_un_lt (x := st) (w := k.toNat) (by omega) (by rw [hk6]; assumption)
            rw [hk6] at hu
            have r20 : Jb 82 25 = I 82 25 := by rw [fJb 82 (25) (by omega)]
            refine yi_G_callv rfl rfl (ym_rcv hS) rfl (ihc _ (by omega) d (by omega) Jb L8 ot nx (yi_ior st (yi_shl 1 k)) (ym_LR_t (fun k => by rw [fJb 88 k (by omega)]) hLR) ⟨(by rw [r20]; omega), (by rw [r20]; omega)⟩ rfl) ?_
            rintro _ ⟨z18, I14, L16, ⟨rfl, h19⟩, f15, f17⟩
            show yi_G zi_Ms d zi_m129 (76, [(5, .inl 1), (4, .inl k), (0, .inr (.inr (some 82))), (1, .inl nx), (2, .inl ot), (3, .inl st)], [.inl z18], (I14, L16, X), 0, 0) _
            by_cases h21 : z18 = 0
            · refine yi_G_if1 false rfl (yi_ne_f h21) ?_
              refine yi_G_run 2 (82, [(5, .inl 1), (4, .inl k), (0, .inr (.inr (some 82))), (1, .inl nx), (2, .inl ot), (3, .inl st)], [.inl k, .inr (.inr (some 82))], (I14, L16, X), 0, 0) (fun _ => rfl) ?_
              refine yi_G_put (85, [(5, .inl 1), (4, .inl k), (0, .inr (.inr (some 82))), (1, .inl nx), (2, .inl ot), (3, .inl st)], [], ((yi_u I14 82 40 k), L16, X), 0, 0) rfl (ym_pi hS rfl rfl) ?_
              generalize w23 : yi_u I14 82 40 k = I22
              refine yi_G_run 1 (86, [(5, .inl 1), (4, .inl k), (0, .inr (.inr (some 82))), (1, .inl nx), (2, .inl ot), (3, .inl st)], [.inl 1], (I22, L16, X), 0, 0) (fun _ => rfl) ?_
              exact yi_G_retb rfl rfl (by decide) (⟨_, _, _, ⟨rfl, by omega⟩, (fun p k hp => by rw [← w23, yi_u_ne _ _ (fun z => by omega), f15 p k (by omega), fJb p k (by omega)]), (fun p k hp => by rw [f17 p k (by omega), f9 p k (by omega), fKb p k (by omega)])⟩)
            · refine yi_G_if1 true rfl (yi_ne_t h21) ?_
              refine yi_G_iinc [(4, .inl (k + 1)), (5, .inl 1), (0, .inr (.inr (some 82))), (1, .inl nx), (2, .inl ot), (3, .inl st)] rfl rfl rfl (by rw [show yi_w (k + 1) = k + 1 from (yi_wn (by omega) (by omega)).trans (by omega)]; rfl) ?_
              refine yi_G_run 1 (3, [(4, .inl (k + 1)), (5, .inl 1), (0, .inr (.inr (some 82))), (1, .inl nx), (2, .inl ot), (3, .inl st)], [], (I14, L16, X), 0, 0) (fun _ => rfl) ?_
              refine yi_G_al (al := [(4, .inl (k + 1)), (0, .inr (.inr (some 82))), (1, .inl nx), (2, .inl ot), (3, .inl st)]) (show ([4, 0, 1, 2, 3] : List Nat).Nodup by decide) (show ([4, 5, 0, 1, 2, 3] : List Nat).Nodup by decide) (yi_mc (List.mem_of_getElem? (i := 0) rfl) (yi_mc (List.mem_of_getElem? (i := 2) rfl) (yi_mc (List.mem_of_getElem? (i := 3) rfl) (yi_mc (List.mem_of_getElem? (i := 4) rfl) (yi_mc (List.mem_of_getElem? (i := 5) rfl) yi_mn))))) ?_
              exact ih3 _ (by omega) (k + 1) I14 L16 (fun p k hp => by rw [f15 p k (by omega), fJb p k (by omega)]) (fun p k hp => by rw [f17 p k (by omega), f9 p k (by omega), fKb p k (by omega)]) (by omega) (by omega) rfl
      · refine yi_G_if2 true rfl (yi_ne_t h6) ?_
        refine yi_G_run 3 (61, [(5, .inl 0), (4, .inl k), (0, .inr (.inr (some 82))), (1, .inl nx), (2, .inl ot), (3, .inl st)], [.inl 0], (Jb, Kb, X), 0, 0) (fun _ => rfl) ?_
        refine yi_G_if1 true rfl (by decide) ?_
        refine yi_G_iinc [(4, .inl (k + 1)), (5, .inl 0), (0, .inr (.inr (some 82))), (1, .inl nx), (2, .inl ot), (3, .inl st)] rfl rfl rfl (by rw [show yi_w (k + 1) = k + 1 from (yi_wn (by omega) (by omega)).trans (by omega)]; rfl) ?_
        refine yi_G_run 1 (3, [(4, .inl (k + 1)), (5, .inl 0), (0, .inr (.inr (some 82))), (1, .inl nx), (2, .inl ot), (3, .inl st)], [], (Jb, Kb, X), 0, 0) (fun _ => rfl) ?_
        refine yi_G_al (al := [(4, .inl (k + 1)), (0, .inr (.inr (some 82))), (1, .inl nx), (2, .inl ot), (3, .inl st)]) (show ([4, 0, 1, 2, 3] : List Nat).Nodup by decide) (show ([4, 5, 0, 1, 2, 3] : List Nat).Nodup by decide) (yi_mc (List.mem_of_getElem? (i := 0) rfl) (yi_mc (List.mem_of_getElem? (i := 2) rfl) (yi_mc (List.mem_of_getElem? (i := 3) rfl) (yi_mc (List.mem_of_getElem? (i := 4) rfl) (yi_mc (List.mem_of_getElem? (i := 5) rfl) yi_mn))))) ?_
        exact ih3 _ (by omega) (k + 1) Jb Kb (fun p k hp => by rw [fJb p k (by omega)]) (fun p k hp => by rw [fKb p k (by omega)]) (by omega) (by omega) rfl
  exact pt3 _ 0 I L (fun _ _ _ => rfl) (fun _ _ _ => rfl) (by omega) (by omega) rfl
theorem q_duel (D : Nat) (hD : 13 ≤ D) {I L : Nat → Nat → Int} {X : ym_X} (hS : ym_S X) {fi ot w : Int} (hLR : ym_LR I) (hS0 : ym_S0 I) (hl : 0 ≤ I 82 25 ∧ I 82 25 ≤ 512) : yi_E zi_Ms D 20 [.inr (.inr (some 82)), .inl fi, .inl ot, .inl w] (I, L, X) (fun r => ∃ z I' L', r = (some (.inl z), (I', L', X), 0, 0) ∧ (∀ p k, p ≠ 96 ∧ p ≠ 99 ∧ p ≠ 103 ∧ p ≠ 104 ∧ p ≠ 105 ∧ p ≠ 106 ∧ p ≠ 107 ∧ p ≠ 108 ∧ ¬ (p = 82 ∧ k = 0) ∧ ¬ (p = 82 ∧ k = 34) ∧ ¬ (p = 82 ∧ k = 35) ∧ ¬ (p = 82 ∧ k = 37) ∧ ¬ (p = 82 ∧ k = 40) → I' p k = I p k) ∧ (∀ p k, p ≠ 97 ∧ ¬ (p = 82 ∧ k = 43) → L' p k = L p k)) := by
  obtain ⟨d, rfl⟩ : ∃ d, D = d + 1 := ⟨D - 1, by omega⟩
  refine yi_E_of (M := zi_m20) rfl rfl ?_
  obtain ⟨l0, l1, l2, l3, l4, l5⟩ := id hLR
  obtain ⟨t0, t1, t2, t3, t4⟩ := id hS0
  show yi_G zi_Ms d zi_m20 (0, [(0, .inr (.inr (some 82))), (1, .inl fi), (2, .inl ot), (3, .inl w)], [], (I, L, X), 0, 0) _
  refine yi_G_run 2 (2, [(0, .inr (.inr (some 82))), (1, .inl fi), (2, .inl ot), (3, .inl w)], [.inl 0, .inr (.inr (some 82))], (I, L, X), 0, 0) (fun _ => rfl) ?_
  refine yi_G_put (5, [(0, .inr (.inr (some 82))), (1, .inl fi), (2, .inl ot), (3, .inl w)], [], ((yi_u I 82 0 0), L, X), 0, 0) rfl (ym_pi hS rfl rfl) ?_
  generalize w2 : yi_u I 82 0 0 = I1
  refine yi_G_run 2 (7, [(0, .inr (.inr (some 82))), (1, .inl fi), (2, .inl ot), (3, .inl w)], [.inl fi, .inr (.inr (some 82))], (I1, L, X), 0, 0) (fun _ => rfl) ?_
  have r4 : I1 88 3 = I 88 3 := by rw [← w2, yi_u_ne _ _ (by omega)]
  refine yi_G_callv rfl rfl (ym_rcv hS) rfl (c_isProphet d (by omega) hS r4) ?_
  rintro _ (⟨c3, rfl⟩ | ⟨c3, rfl⟩)
  · show yi_G zi_Ms d zi_m20 (10, [(0, .inr (.inr (some 82))), (1, .inl fi), (2, .inl ot), (3, .inl w)], [.inl 1], (I1, L, X), 0, 0) _
    refine yi_G_if1 false rfl (by decide) ?_
    refine yi_G_run 2 (15, [(0, .inr (.inr (some 82))), (1, .inl fi), (2, .inl ot), (3, .inl w)], [.inl ot, .inr (.inr (some 82))], (I1, L, X), 0, 0) (fun _ => rfl) ?_
    have r6 : I1 88 3 = I 88 3 := by rw [← w2, yi_u_ne _ _ (by omega)]
    refine yi_G_callv rfl rfl (ym_rcv hS) rfl (c_isProphet d (by omega) hS r6) ?_
    rintro _ (⟨c5, rfl⟩ | ⟨c5, rfl⟩)
    · show yi_G zi_Ms d zi_m20 (18, [(0, .inr (.inr (some 82))), (1, .inl fi), (2, .inl ot), (3, .inl w)], [.inl 1], (I1, L, X), 0, 0) _
      refine yi_G_if1 false rfl (by decide) ?_
      refine yi_G_run 2 (23, [(0, .inr (.inr (some 82))), (1, .inl fi), (2, .inl ot), (3, .inl w)], [.inl ot, .inl fi], (I1, L, X), 0, 0) (fun _ => rfl) ?_
      by_cases h7 : fi = ot
      · refine yi_G_if2 true rfl (yi_eq_t h7) ?_
        refine yi_G_run 1 (36, [(0, .inr (.inr (some 82))), (1, .inl fi), (2, .inl ot), (3, .inl w)], [.inl (-1)], (I1, L, X), 0, 0) (fun _ => rfl) ?_
        exact yi_G_reti rfl rfl (⟨_, _, _, rfl, (fun p k hp => by rw [← w2, yi_u_ne _ _ (fun z => by omega)]), (fun _ _ _ => rfl)⟩)
      · refine yi_G_if2 false rfl (yi_eq_f h7) ?_
        refine yi_G_run 3 (29, [(0, .inr (.inr (some 82))), (1, .inl fi), (2, .inl ot), (3, .inl w)], [.inl 1, .inl 0, .inl w], (I1, L, X), 0, 0) (fun _ => rfl) ?_
        refine yi_G_calls rfl rfl (c_within d (by omega) hS) ?_
        rintro _ (⟨c8, rfl⟩ | ⟨c8, rfl⟩)
        · show yi_G zi_Ms d zi_m20 (32, [(0, .inr (.inr (some 82))), (1, .inl fi), (2, .inl ot), (3, .inl w)], [.inl 1], (I1, L, X), 0, 0) _
          refine yi_G_if1 true rfl (by decide) ?_
          refine yi_G_run 1 (38, [(0, .inr (.inr (some 82))), (1, .inl fi), (2, .inl ot), (3, .inl w)], [.inr (.inr (some 82))], (I1, L, X), 0, 0) (fun _ => rfl) ?_
          have r12 : I1 82 25 = I 82 25 := by rw [← w2, yi_u_ne _ _ (by omega)]
          refine yi_G_callv rfl rfl (ym_rcv hS) rfl (c_findLeft d (by omega) hS (ym_LR_t (fun k => by rw [← w2, yi_u_ne _ _ (fun z => absurd z.1 (by decide))]) hLR) (ym_S0_t (fun k => by rw [← w2, yi_u_ne _ _ (fun z => absurd z.1 (by decide))]) hS0) ⟨(by rw [r12]; omega), (by rw [r12]; omega)⟩) ?_
          rintro _ ⟨z11, L9, rfl, f10⟩
          show yi_G zi_Ms d zi_m20 (41, [(0, .inr (.inr (some 82))), (1, .inl fi), (2, .inl ot), (3, .inl w)], [.inl z11], (I1, L9, X), 0, 0) _
          refine yi_G_run 5 (46, [(0, .inr (.inr (some 82))), (1, .inl fi), (2, .inl ot), (3, .inl w)], [.inl 0, .inl ot, .inl fi, .inr (.inr (some 82))], (I1, L9, X), 0, 0) (fun _ => rfl) ?_
          have hu : ym_un 0 ≤ 6 := by decide
          have r19 : I1 82 25 = I 82 25 := by rw [← w2, yi_u_ne _ _ (by omega)]
          refine yi_G_callv rfl rfl (ym_rcv hS) rfl (c_winsDuel hS _ d (by omega) I1 L9 fi ot 0 (ym_LR_t (fun k => by rw [← w2, yi_u_ne _ _ (fun z => absurd z.1 (by decide))]) hLR) ⟨(by rw [r19]; omega), (by rw [r19]; omega)⟩ rfl) ?_
          rintro _ ⟨z17, I13, L15, ⟨rfl, h18⟩, f14, f16⟩
          show yi_G zi_Ms d zi_m20 (49, [(0, .inr (.inr (some 82))), (1, .inl fi), (2, .inl ot), (3, .inl w)], [.inl z17], (I13, L15, X), 0, 0) _
          refine yi_G_run 2 (52, [(4, .inl z17), (0, .inr (.inr (some 82))), (1, .inl fi), (2, .inl ot), (3, .inl w)], [.inl w], (I13, L15, X), 0, 0) (fun _ => rfl) ?_
          by_cases h20 : w = 0
          · refine yi_G_if1 false rfl (yi_ne_f h20) ?_
            refine yi_G_run 1 (57, [(4, .inl z17), (0, .inr (.inr (some 82))), (1, .inl fi), (2, .inl ot), (3, .inl w)], [.inl z17], (I13, L15, X), 0, 0) (fun _ => rfl) ?_
            by_cases h21 : z17 = 0
            · refine yi_G_if1 true rfl (yi_eq_t h21) ?_
              refine yi_G_run 2 (72, [(4, .inl z17), (0, .inr (.inr (some 82))), (1, .inl fi), (2, .inl ot), (3, .inl w)], [.inl 0], (I13, L15, X), 0, 0) (fun _ => rfl) ?_
              exact yi_G_reti rfl rfl (⟨_, _, _, rfl, (fun p k hp => by rw [f14 p k (by omega), ← w2, yi_u_ne _ _ (fun z => by omega)]), (fun p k hp => by rw [f16 p k (by omega), f10 p k (by omega)])⟩)
            · refine yi_G_if1 false rfl (yi_eq_f h21) ?_
              refine yi_G_run 2 (72, [(4, .inl z17), (0, .inr (.inr (some 82))), (1, .inl fi), (2, .inl ot), (3, .inl w)], [.inl 1], (I13, L15, X), 0, 0) (fun _ => rfl) ?_
              exact yi_G_reti rfl rfl (⟨_, _, _, rfl, (fun p k hp => by rw [f14 p k (by omega), ← w2, yi_u_ne _ _ (fun z => by omega)]), (fun p k hp => by rw [f16 p k (by omega), f10 p k (by omega)])⟩)
          · refine yi_G_if1 true rfl (yi_ne_t h20) ?_
            refine yi_G_run 1 (69, [(4, .inl z17), (0, .inr (.inr (some 82))), (1, .inl fi), (2, .inl ot), (3, .inl w)], [.inr (.inr (some 82))], (I13, L15, X), 0, 0) (fun _ => rfl) ?_
            refine yi_G_get (72, [(4, .inl z17), (0, .inr (.inr (some 82))), (1, .inl fi), (2, .inl ot), (3, .inl w)], [.inl (I13 82 40)], (I13, L15, X), 0, 0) rfl (ym_gi hS rfl rfl rfl) ?_
            exact yi_G_reti rfl rfl (⟨_, _, _, rfl, (fun p k hp => by rw [f14 p k (by omega), ← w2, yi_u_ne _ _ (fun z => by omega)]), (fun p k hp => by rw [f16 p k (by omega), f10 p k (by omega)])⟩)
        · show yi_G zi_Ms d zi_m20 (32, [(0, .inr (.inr (some 82))), (1, .inl fi), (2, .inl ot), (3, .inl w)], [.inl 0], (I1, L, X), 0, 0) _
          refine yi_G_if1 false rfl (by decide) ?_
          refine yi_G_run 1 (36, [(0, .inr (.inr (some 82))), (1, .inl fi), (2, .inl ot), (3, .inl w)], [.inl (-1)], (I1, L, X), 0, 0) (fun _ => rfl) ?_
          exact yi_G_reti rfl rfl (⟨_, _, _, rfl, (fun p k hp => by rw [← w2, yi_u_ne _ _ (fun z => by omega)]), (fun _ _ _ => rfl)⟩)
    · show yi_G zi_Ms d zi_m20 (18, [(0, .inr (.inr (some 82))), (1, .inl fi), (2, .inl ot), (3, .inl w)], [.inl 0], (I1, L, X), 0, 0) _
      refine yi_G_if1 true rfl (by decide) ?_
      refine yi_G_run 1 (36, [(0, .inr (.inr (some 82))), (1, .inl fi), (2, .inl ot), (3, .inl w)], [.inl (-1)], (I1, L, X), 0, 0) (fun _ => rfl) ?_
      exact yi_G_reti rfl rfl (⟨_, _, _, rfl, (fun p k hp => by rw [← w2, yi_u_ne _ _ (fun z => by omega)]), (fun _ _ _ => rfl)⟩)
  · show yi_G zi_Ms d zi_m20 (10, [(0, .inr (.inr (some 82))), (1, .inl fi), (2, .inl ot), (3, .inl w)], [.inl 0], (I1, L, X), 0, 0) _
    refine yi_G_if1 true rfl (by decide) ?_
    refine yi_G_run 1 (36, [(0, .inr (.inr (some 82))), (1, .inl fi), (2, .inl ot), (3, .inl w)], [.inl (-1)], (I1, L, X), 0, 0) (fun _ => rfl) ?_
    exact yi_G_reti rfl rfl (⟨_, _, _, rfl, (fun p k hp => by rw [← w2, yi_u_ne _ _ (fun z => by omega)]), (fun _ _ _ => rfl)⟩)
