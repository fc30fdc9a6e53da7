/-! Who keeps what. -/
theorem c_findsKeeper {X : ym_X} (hS : ym_S X) : ∀ (n D : Nat), n + 4 ≤ D → ∀ (I L : Nat → Nat → Int) (w : Int), ym_LR I → ym_S0 I → 0 ≤ w → w < I 100 2 → ym_tg I I → (4 - ym_tm I).toNat = n → yi_E zi_Ms D 33 [.inr (.inr (some 82)), .inl w] (I, L, X) (fun r => ∃ z I', (r = (some (.inl z), (I', L, X), 0, 0) ∧ (z = 0 ∨ z = 1)) ∧ (∀ p k, p ≠ 106 ∧ p ≠ 107 → I' p k = I p k) ∧ ym_tg I I') := by
  intro n
  induction n using Nat.strongRecOn with
  | _ n ihc =>
  intro D hD I L w hLR hS0 hw0 hw1 htg hn
  obtain ⟨d, rfl⟩ : ∃ d, D = d + 1 := ⟨D - 1, by omega⟩
  refine yi_E_of (M := zi_m33) rfl rfl ?_
  obtain ⟨l0, l1, l2, l3, l4, l5⟩ := id hLR
  obtain ⟨t0, t1, t2, t3, t4⟩ := id hS0
  show yi_G zi_Ms d zi_m33 (0, [(0, .inr (.inr (some 82))), (1, .inl w)], [], (I, L, X), 0, 0) _
  refine yi_G_run 2 (2, [(2, .inl 0), (0, .inr (.inr (some 82))), (1, .inl w)], [], (I, L, X), 0, 0) (fun _ => rfl) ?_
  have pt2 : ∀ (m : Nat) (u : Int) (Jb : Nat → Nat → Int), (∀ p k, p ≠ 106 ∧ p ≠ 107 → Jb p k = I p k) → (0 ≤ u) → (u ≤ I 88 1) → (ym_tg I Jb) → (I 88 1 - u).toNat = m → yi_G zi_Ms d zi_m33 (2, [(2, .inl u), (0, .inr (.inr (some 82))), (1, .inl w)], [], (Jb, L, X), 0, 0) (fun r => ∃ z I', (r = (some (.inl z), (I', L, X), 0, 0) ∧ (z = 0 ∨ z = 1)) ∧ (∀ p k, p ≠ 106 ∧ p ≠ 107 → I' p k = I p k) ∧ ym_tg I I') := by
    intro m2
    induction m2 using Nat.strongRecOn with
    | _ m2 ih2 =>
    intro u Jb fJb u0 u1 tgb hm2
    refine yi_G_run 2 (4, [(2, .inl u), (0, .inr (.inr (some 82))), (1, .inl w)], [.inr (.inr (some 82)), .inl u], (Jb, L, X), 0, 0) (fun _ => rfl) ?_
    have r1 : Jb 88 1 = I 88 1 := by rw [fJb 88 (1) (by omega)]
    refine yi_G_callv rfl rfl (ym_rcv hS) rfl (c_people d (by omega) hS r1) ?_
    rintro _ rfl
    show yi_G zi_Ms d zi_m33 (7, [(2, .inl u), (0, .inr (.inr (some 82))), (1, .inl w)], [.inl (I 88 1), .inl u], (Jb, L, X), 0, 0) _
    by_cases h2 : (I 88 1) ≤ u
    · refine yi_G_if2 true rfl (yi_ge_t h2) ?_
      refine yi_G_run 1 (123, [(2, .inl u), (0, .inr (.inr (some 82))), (1, .inl w)], [.inl 0], (Jb, L, X), 0, 0) (fun _ => rfl) ?_
      exact yi_G_retb rfl rfl (by decide) (⟨_, _, ⟨rfl, by omega⟩, (fun p k hp => by rw [fJb p k (by omega)]), tgb⟩)
    · refine yi_G_if2 false rfl (yi_ge_f h2) ?_
      refine yi_G_run 3 (13, [(2, .inl u), (0, .inr (.inr (some 82))), (1, .inl w)], [.inl u, .inl w, .inr (.inr (some 82))], (Jb, L, X), 0, 0) (fun _ => rfl) ?_
      refine yi_G_callv rfl rfl (ym_rcv hS) rfl (c_mayKeep d (by omega) hS (by omega) (by omega) (by omega) (by omega)) ?_
      rintro _ (⟨c3, rfl⟩ | ⟨c3, rfl⟩)
      · show yi_G zi_Ms d zi_m33 (16, [(2, .inl u), (0, .inr (.inr (some 82))), (1, .inl w)], [.inl 1], (Jb, L, X), 0, 0) _
        refine yi_G_if1 false rfl (by decide) ?_
        refine yi_G_run 1 (20, [(2, .inl u), (0, .inr (.inr (some 82))), (1, .inl w)], [.inr (.inr (some 82))], (Jb, L, X), 0, 0) (fun _ => rfl) ?_
        refine yi_G_get (23, [(2, .inl u), (0, .inr (.inr (some 82))), (1, .inl w)], [.inr (.inr (some 107))], (Jb, L, X), 0, 0) rfl (ym_gr hS 24 rfl rfl rfl) ?_
        refine yi_G_run 1 (24, [(2, .inl u), (0, .inr (.inr (some 82))), (1, .inl w)], [.inl u, .inr (.inr (some 107))], (Jb, L, X), 0, 0) (fun _ => rfl) ?_
        refine yi_G_bald (25, [(2, .inl u), (0, .inr (.inr (some 82))), (1, .inl w)], [.inl (Jb 107 (u.toNat))], (Jb, L, X), 0, 0) rfl (ym_lb hS 24 rfl (by omega) (by omega) rfl) ?_
        by_cases h4 : (Jb 107 (u.toNat)) = 0
        · refine yi_G_if1 false rfl (yi_ne_f h4) ?_
          refine yi_G_run 1 (29, [(2, .inl u), (0, .inr (.inr (some 82))), (1, .inl w)], [.inr (.inr (some 82))], (Jb, L, X), 0, 0) (fun _ => rfl) ?_
          refine yi_G_get (32, [(2, .inl u), (0, .inr (.inr (some 82))), (1, .inl w)], [.inr (.inr (some 107))], (Jb, L, X), 0, 0) rfl (ym_gr hS 24 rfl rfl rfl) ?_
          refine yi_G_run 2 (34, [(2, .inl u), (0, .inr (.inr (some 82))), (1, .inl w)], [.inl 1, .inl u, .inr (.inr (some 107))], (Jb, L, X), 0, 0) (fun _ => rfl) ?_
          refine yi_G_bast (35, [(2, .inl u), (0, .inr (.inr (some 82))), (1, .inl w)], [], ((yi_u Jb 107 (u.toNat) 1), L, X), 0, 0) rfl (ym_sb hS 24 rfl (by omega) (by omega) (by omega)) ?_
          generalize w6 : yi_u Jb 107 (u.toNat) 1 = I5
          refine yi_G_run 2 (37, [(2, .inl u), (0, .inr (.inr (some 82))), (1, .inl w)], [.inl u, .inr (.inr (some 82))], (I5, L, X), 0, 0) (fun _ => rfl) ?_
          have tu := ym_tg_u (p := u) (by omega) (by omega) (ym_tg_r tgb) (by assumption)
          rw [w6] at tu
          have mb := ym_tg_m tgb
          have r9 : I5 100 2 = I 100 2 := by rw [← w6, yi_u_ne _ _ (by omega), fJb 100 (2) (by omega)]
          refine yi_G_callv rfl rfl (ym_rcv hS) rfl (c_keptBy d (by omega) hS ⟨by rw [r9]; omega, by rw [r9]; omega⟩) ?_
          rintro _ ⟨z7, rfl, h8a, h8b⟩
          show yi_G zi_Ms d zi_m33 (40, [(2, .inl u), (0, .inr (.inr (some 82))), (1, .inl w)], [.inl z7], (I5, L, X), 0, 0) _
          refine yi_G_run 1 (41, [(2, .inl u), (0, .inr (.inr (some 82))), (1, .inl w)], [.inr (.inr (some 82)), .inl z7], (I5, L, X), 0, 0) (fun _ => rfl) ?_
          have r12 : I5 100 1 = I 100 1 := by rw [← w6, yi_u_ne _ _ (by omega), fJb 100 (1) (by omega)]
          refine yi_G_callv rfl rfl (ym_rcv hS) rfl (x_daysLeft d (by omega) hS (ym_LR_t (fun k => by rw [← w6, yi_u_ne _ _ (fun z => absurd z.1 (by decide)), fJb 88 k (by omega)]) hLR) ⟨by rw [r12]; omega, by rw [r12]; omega⟩) ?_
          rintro _ ⟨z10, rfl, h11a, h11b⟩
          show yi_G zi_Ms d zi_m33 (44, [(2, .inl u), (0, .inr (.inr (some 82))), (1, .inl w)], [.inl z10, .inl z7], (I5, L, X), 0, 0) _
          by_cases h13 : z10 ≤ z7
          · refine yi_G_if2 true rfl (yi_ge_t h13) ?_
            refine yi_G_run 4 (56, [(4, .inl 0), (3, .inl 0), (2, .inl u), (0, .inr (.inr (some 82))), (1, .inl w)], [], (I5, L, X), 0, 0) (fun _ => rfl) ?_
            have pt56 : ∀ (m : Nat) (e : Int) (cn : Int) (Jc : Nat → Nat → Int), (∀ p k, p ≠ 106 ∧ p ≠ 107 → Jc p k = I5 p k) → (0 ≤ e) → (e ≤ I 100 2) → (cn = 0 ∨ cn = 1) → (ym_tg I5 Jc) → (I 100 2 - e).toNat = m → yi_G zi_Ms d zi_m33 (56, [(4, .inl e), (3, .inl cn), (2, .inl u), (0, .inr (.inr (some 82))), (1, .inl w)], [], (Jc, L, X), 0, 0) (fun r => ∃ z I', (r = (some (.inl z), (I', L, X), 0, 0) ∧ (z = 0 ∨ z = 1)) ∧ (∀ p k, p ≠ 106 ∧ p ≠ 107 → I' p k = I p k) ∧ ym_tg I I') := by
              intro m56
              induction m56 using Nat.strongRecOn with
              | _ m56 ih56 =>
              intro e cn Jc fJc e0 e1 cn0 tgc hm56
              have mc := ym_tg_m tgc
              refine yi_G_run 2 (59, [(4, .inl e), (3, .inl cn), (2, .inl u), (0, .inr (.inr (some 82))), (1, .inl w)], [.inr (.inr (some 82)), .inl e], (Jc, L, X), 0, 0) (fun _ => rfl) ?_
              refine yi_G_get (62, [(4, .inl e), (3, .inl cn), (2, .inl u), (0, .inr (.inr (some 82))), (1, .inl w)], [.inr (.inr (some 100)), .inl e], (Jc, L, X), 0, 0) rfl (ym_gr hS 17 rfl rfl rfl) ?_
              refine yi_G_run 1 (63, [(4, .inl e), (3, .inl cn), (2, .inl u), (0, .inr (.inr (some 82))), (1, .inl w)], [.inl 2, .inr (.inr (some 100)), .inl e], (Jc, L, X), 0, 0) (fun _ => rfl) ?_
              have r14 : Jc 100 2 = I 100 2 := by rw [fJc 100 (2) (by omega), ← w6, yi_u_ne _ _ (by omega), fJb 100 (2) (by omega)]
              refine yi_G_iald (64, [(4, .inl e), (3, .inl cn), (2, .inl u), (0, .inr (.inr (some 82))), (1, .inl w)], [.inl (I 100 2), .inl e], (Jc, L, X), 0, 0) rfl (ym_li hS 17 rfl (by omega) (by omega) r14) ?_
              by_cases h15 : (I 100 2) ≤ e
              · refine yi_G_if2 true rfl (yi_ge_t h15) ?_
                refine yi_G_run 1 (104, [(4, .inl e), (3, .inl cn), (2, .inl u), (0, .inr (.inr (some 82))), (1, .inl w)], [.inl cn], (Jc, L, X), 0, 0) (fun _ => rfl) ?_
                by_cases h16 : cn = 0
                · refine yi_G_if1 true rfl (yi_eq_t h16) ?_
                  refine yi_G_iinc [(2, .inl (u + 1)), (4, .inl e), (3, .inl cn), (0, .inr (.inr (some 82))), (1, .inl w)] rfl rfl rfl (by rw [show yi_w (u + 1) = u + 1 from (yi_wn (by omega) (by omega)).trans (by omega)]; rfl) ?_
                  refine yi_G_run 1 (2, [(2, .inl (u + 1)), (4, .inl e), (3, .inl cn), (0, .inr (.inr (some 82))), (1, .inl w)], [], (Jc, L, X), 0, 0) (fun _ => rfl) ?_
                  refine yi_G_al (al := [(2, .inl (u + 1)), (0, .inr (.inr (some 82))), (1, .inl w)]) (show ([2, 0, 1] : List Nat).Nodup by decide) (show ([2, 4, 3, 0, 1] : List Nat).Nodup by decide) (yi_mc (List.mem_of_getElem? (i := 0) rfl) (yi_mc (List.mem_of_getElem? (i := 3) rfl) (yi_mc (List.mem_of_getElem? (i := 4) rfl) yi_mn))) ?_
                  exact ih2 _ (by omega) (u + 1) Jc (fun p k hp => by rw [fJc p k (by omega), ← w6, yi_u_ne _ _ (fun z => by omega), fJb p k (by omega)]) (by omega) (by omega) (ym_tg_t tgb (ym_tg_t tu.1 tgc)) rfl
                · refine yi_G_if1 false rfl (yi_eq_f h16) ?_
                  refine yi_G_run 1 (108, [(4, .inl e), (3, .inl cn), (2, .inl u), (0, .inr (.inr (some 82))), (1, .inl w)], [.inr (.inr (some 82))], (Jc, L, X), 0, 0) (fun _ => rfl) ?_
                  refine yi_G_get (111, [(4, .inl e), (3, .inl cn), (2, .inl u), (0, .inr (.inr (some 82))), (1, .inl w)], [.inr (.inr (some 106))], (Jc, L, X), 0, 0) rfl (ym_gr hS 23 rfl rfl rfl) ?_
                  refine yi_G_run 2 (113, [(4, .inl e), (3, .inl cn), (2, .inl u), (0, .inr (.inr (some 82))), (1, .inl w)], [.inl u, .inl w, .inr (.inr (some 106))], (Jc, L, X), 0, 0) (fun _ => rfl) ?_
                  refine yi_G_iast (114, [(4, .inl e), (3, .inl cn), (2, .inl u), (0, .inr (.inr (some 82))), (1, .inl w)], [], ((yi_u Jc 106 (w.toNat) u), L, X), 0, 0) rfl (ym_si hS 23 rfl (by omega) (by omega)) ?_
                  generalize w18 : yi_u Jc 106 (w.toNat) u = I17
                  refine yi_G_run 1 (115, [(4, .inl e), (3, .inl cn), (2, .inl u), (0, .inr (.inr (some 82))), (1, .inl w)], [.inl 1], (I17, L, X), 0, 0) (fun _ => rfl) ?_
                  exact yi_G_retb rfl rfl (by decide) (⟨_, _, ⟨rfl, by omega⟩, (fun p k hp => by rw [← w18, yi_u_ne _ _ (fun z => by omega), fJc p k (by omega), ← w6, yi_u_ne _ _ (fun z => by omega), fJb p k (by omega)]), (fun q hq => by rw [← w18, yi_u_ne _ _ (by omega)]; exact (ym_tg_t tgb (ym_tg_t tu.1 tgc)) q hq)⟩)
              · refine yi_G_if2 false rfl (yi_ge_f h15) ?_
                refine yi_G_run 1 (68, [(4, .inl e), (3, .inl cn), (2, .inl u), (0, .inr (.inr (some 82))), (1, .inl w)], [.inl cn], (Jc, L, X), 0, 0) (fun _ => rfl) ?_
                by_cases h19 : cn = 0
                · refine yi_G_if1 false rfl (yi_ne_f h19) ?_
                  refine yi_G_run 1 (72, [(4, .inl e), (3, .inl cn), (2, .inl u), (0, .inr (.inr (some 82))), (1, .inl w)], [.inr (.inr (some 82))], (Jc, L, X), 0, 0) (fun _ => rfl) ?_
                  refine yi_G_get (75, [(4, .inl e), (3, .inl cn), (2, .inl u), (0, .inr (.inr (some 82))), (1, .inl w)], [.inr (.inr (some 106))], (Jc, L, X), 0, 0) rfl (ym_gr hS 23 rfl rfl rfl) ?_
                  refine yi_G_run 1 (77, [(4, .inl e), (3, .inl cn), (2, .inl u), (0, .inr (.inr (some 82))), (1, .inl w)], [.inl e, .inr (.inr (some 106))], (Jc, L, X), 0, 0) (fun _ => rfl) ?_
                  refine yi_G_iald (78, [(4, .inl e), (3, .inl cn), (2, .inl u), (0, .inr (.inr (some 82))), (1, .inl w)], [.inl (Jc 106 (e.toNat))], (Jc, L, X), 0, 0) rfl (ym_li hS 23 rfl (by omega) (by omega) rfl) ?_
                  refine yi_G_run 1 (79, [(4, .inl e), (3, .inl cn), (2, .inl u), (0, .inr (.inr (some 82))), (1, .inl w)], [.inl u, .inl (Jc 106 (e.toNat))], (Jc, L, X), 0, 0) (fun _ => rfl) ?_
                  by_cases h20 : (Jc 106 (e.toNat)) = u
                  · refine yi_G_if2 false rfl (yi_ne_f h20) ?_
                    refine yi_G_run 2 (85, [(4, .inl e), (3, .inl cn), (2, .inl u), (0, .inr (.inr (some 82))), (1, .inl w)], [.inl e, .inr (.inr (some 82))], (Jc, L, X), 0, 0) (fun _ => rfl) ?_
                    have r25 : Jc 100 2 = I 100 2 := by rw [fJc 100 (2) (by omega), ← w6, yi_u_ne _ _ (by omega), fJb 100 (2) (by omega)]
                    refine yi_G_callv rfl rfl (ym_rcv hS) rfl (ihc _ (by omega) d (by omega) Jc L e (ym_LR_t (fun k => by rw [fJc 88 k (by omega), ← w6, yi_u_ne _ _ (fun z => absurd z.1 (by decide)), fJb 88 k (by omega)]) hLR) (ym_S0_t (fun k => by rw [fJc 100 k (by omega), ← w6, yi_u_ne _ _ (fun z => absurd z.1 (by decide)), fJb 100 k (by omega)]) hS0) (by omega) (by rw [r25]; omega) (ym_tg_r tgc) rfl) ?_
                    rintro _ ⟨z23, I21, ⟨rfl, h24⟩, f22, tgI21⟩
                    show yi_G zi_Ms d zi_m33 (88, [(4, .inl e), (3, .inl cn), (2, .inl u), (0, .inr (.inr (some 82))), (1, .inl w)], [.inl z23], (I21, L, X), 0, 0) _
                    by_cases h26 : z23 = 0
                    · refine yi_G_if1 true rfl (yi_eq_t h26) ?_
                      refine yi_G_run 2 (97, [(3, .inl 0), (4, .inl e), (2, .inl u), (0, .inr (.inr (some 82))), (1, .inl w)], [], (I21, L, X), 0, 0) (fun _ => rfl) ?_
                      refine yi_G_iinc [(4, .inl (e + 1)), (3, .inl 0), (2, .inl u), (0, .inr (.inr (some 82))), (1, .inl w)] rfl rfl rfl (by rw [show yi_w (e + 1) = e + 1 from (yi_wn (by omega) (by omega)).trans (by omega)]; rfl) ?_
                      refine yi_G_run 1 (56, [(4, .inl (e + 1)), (3, .inl 0), (2, .inl u), (0, .inr (.inr (some 82))), (1, .inl w)], [], (I21, L, X), 0, 0) (fun _ => rfl) ?_
                      exact ih56 _ (by omega) (e + 1) 0 I21 (fun p k hp => by rw [f22 p k (by omega), fJc p k (by omega)]) (by omega) (by omega) (by omega) (ym_tg_t tgc tgI21) rfl
                    · refine yi_G_if1 false rfl (yi_eq_f h26) ?_
                      refine yi_G_run 3 (97, [(3, .inl 1), (4, .inl e), (2, .inl u), (0, .inr (.inr (some 82))), (1, .inl w)], [], (I21, L, X), 0, 0) (fun _ => rfl) ?_
                      refine yi_G_iinc [(4, .inl (e + 1)), (3, .inl 1), (2, .inl u), (0, .inr (.inr (some 82))), (1, .inl w)] rfl rfl rfl (by rw [show yi_w (e + 1) = e + 1 from (yi_wn (by omega) (by omega)).trans (by omega)]; rfl) ?_
                      refine yi_G_run 1 (56, [(4, .inl (e + 1)), (3, .inl 1), (2, .inl u), (0, .inr (.inr (some 82))), (1, .inl w)], [], (I21, L, X), 0, 0) (fun _ => rfl) ?_
                      exact ih56 _ (by omega) (e + 1) 1 I21 (fun p k hp => by rw [f22 p k (by omega), fJc p k (by omega)]) (by omega) (by omega) (by omega) (ym_tg_t tgc tgI21) rfl
                  · refine yi_G_if2 true rfl (yi_ne_t h20) ?_
                    refine yi_G_run 2 (97, [(3, .inl 0), (4, .inl e), (2, .inl u), (0, .inr (.inr (some 82))), (1, .inl w)], [], (Jc, L, X), 0, 0) (fun _ => rfl) ?_
                    refine yi_G_iinc [(4, .inl (e + 1)), (3, .inl 0), (2, .inl u), (0, .inr (.inr (some 82))), (1, .inl w)] rfl rfl rfl (by rw [show yi_w (e + 1) = e + 1 from (yi_wn (by omega) (by omega)).trans (by omega)]; rfl) ?_
                    refine yi_G_run 1 (56, [(4, .inl (e + 1)), (3, .inl 0), (2, .inl u), (0, .inr (.inr (some 82))), (1, .inl w)], [], (Jc, L, X), 0, 0) (fun _ => rfl) ?_
                    exact ih56 _ (by omega) (e + 1) 0 Jc (fun p k hp => by rw [fJc p k (by omega)]) (by omega) (by omega) (by omega) tgc rfl
                · refine yi_G_if1 true rfl (yi_ne_t h19) ?_
                  refine yi_G_run 1 (104, [(4, .inl e), (3, .inl cn), (2, .inl u), (0, .inr (.inr (some 82))), (1, .inl w)], [.inl cn], (Jc, L, X), 0, 0) (fun _ => rfl) ?_
                  by_cases h27 : cn = 0
                  · refine yi_G_if1 true rfl (yi_eq_t h27) ?_
                    refine yi_G_iinc [(2, .inl (u + 1)), (4, .inl e), (3, .inl cn), (0, .inr (.inr (some 82))), (1, .inl w)] rfl rfl rfl (by rw [show yi_w (u + 1) = u + 1 from (yi_wn (by omega) (by omega)).trans (by omega)]; rfl) ?_
                    refine yi_G_run 1 (2, [(2, .inl (u + 1)), (4, .inl e), (3, .inl cn), (0, .inr (.inr (some 82))), (1, .inl w)], [], (Jc, L, X), 0, 0) (fun _ => rfl) ?_
                    refine yi_G_al (al := [(2, .inl (u + 1)), (0, .inr (.inr (some 82))), (1, .inl w)]) (show ([2, 0, 1] : List Nat).Nodup by decide) (show ([2, 4, 3, 0, 1] : List Nat).Nodup by decide) (yi_mc (List.mem_of_getElem? (i := 0) rfl) (yi_mc (List.mem_of_getElem? (i := 3) rfl) (yi_mc (List.mem_of_getElem? (i := 4) rfl) yi_mn))) ?_
                    exact ih2 _ (by omega) (u + 1) Jc (fun p k hp => by rw [fJc p k (by omega), ← w6, yi_u_ne _ _ (fun z => by omega), fJb p k (by omega)]) (by omega) (by omega) (ym_tg_t tgb (ym_tg_t tu.1 tgc)) rfl
                  · refine yi_G_if1 false rfl (yi_eq_f h27) ?_
                    refine yi_G_run 1 (108, [(4, .inl e), (3, .inl cn), (2, .inl u), (0, .inr (.inr (some 82))), (1, .inl w)], [.inr (.inr (some 82))], (Jc, L, X), 0, 0) (fun _ => rfl) ?_
                    refine yi_G_get (111, [(4, .inl e), (3, .inl cn), (2, .inl u), (0, .inr (.inr (some 82))), (1, .inl w)], [.inr (.inr (some 106))], (Jc, L, X), 0, 0) rfl (ym_gr hS 23 rfl rfl rfl) ?_
                    refine yi_G_run 2 (113, [(4, .inl e), (3, .inl cn), (2, .inl u), (0, .inr (.inr (some 82))), (1, .inl w)], [.inl u, .inl w, .inr (.inr (some 106))], (Jc, L, X), 0, 0) (fun _ => rfl) ?_
                    refine yi_G_iast (114, [(4, .inl e), (3, .inl cn), (2, .inl u), (0, .inr (.inr (some 82))), (1, .inl w)], [], ((yi_u Jc 106 (w.toNat) u), L, X), 0, 0) rfl (ym_si hS 23 rfl (by omega) (by omega)) ?_
                    generalize w29 : yi_u Jc 106 (w.toNat) u = I28
                    refine yi_G_run 1 (115, [(4, .inl e), (3, .inl cn), (2, .inl u), (0, .inr (.inr (some 82))), (1, .inl w)], [.inl 1], (I28, L, X), 0, 0) (fun _ => rfl) ?_
                    exact yi_G_retb rfl rfl (by decide) (⟨_, _, ⟨rfl, by omega⟩, (fun p k hp => by rw [← w29, yi_u_ne _ _ (fun z => by omega), fJc p k (by omega), ← w6, yi_u_ne _ _ (fun z => by omega), fJb p k (by omega)]), (fun q hq => by rw [← w29, yi_u_ne _ _ (by omega)]; exact (ym_tg_t tgb (ym_tg_t tu.1 tgc)) q hq)⟩)
            exact pt56 _ 0 0 I5 (fun _ _ _ => rfl) (by omega) (by omega) (by omega) (ym_tg_r tu.1) rfl
          · refine yi_G_if2 false rfl (yi_ge_f h13) ?_
            refine yi_G_run 5 (56, [(4, .inl 0), (3, .inl 1), (2, .inl u), (0, .inr (.inr (some 82))), (1, .inl w)], [], (I5, L, X), 0, 0) (fun _ => rfl) ?_
            have pt56 : ∀ (m : Nat) (e : Int) (cn : Int) (Jc : Nat → Nat → Int), (∀ p k, p ≠ 106 ∧ p ≠ 107 → Jc p k = I5 p k) → (0 ≤ e) → (e ≤ I 100 2) → (cn = 0 ∨ cn = 1) → (ym_tg I5 Jc) → (I 100 2 - e).toNat = m → yi_G zi_Ms d zi_m33 (56, [(4, .inl e), (3, .inl cn), (2, .inl u), (0, .inr (.inr (some 82))), (1, .inl w)], [], (Jc, L, X), 0, 0) (fun r => ∃ z I', (r = (some (.inl z), (I', L, X), 0, 0) ∧ (z = 0 ∨ z = 1)) ∧ (∀ p k, p ≠ 106 ∧ p ≠ 107 → I' p k = I p k) ∧ ym_tg I I') := by
              intro m56
              induction m56 using Nat.strongRecOn with
              | _ m56 ih56 =>
              intro e cn Jc fJc e0 e1 cn0 tgc hm56
              have mc := ym_tg_m tgc
              refine yi_G_run 2 (59, [(4, .inl e), (3, .inl cn), (2, .inl u), (0, .inr (.inr (some 82))), (1, .inl w)], [.inr (.inr (some 82)), .inl e], (Jc, L, X), 0, 0) (fun _ => rfl) ?_
              refine yi_G_get (62, [(4, .inl e), (3, .inl cn), (2, .inl u), (0, .inr (.inr (some 82))), (1, .inl w)], [.inr (.inr (some 100)), .inl e], (Jc, L, X), 0, 0) rfl (ym_gr hS 17 rfl rfl rfl) ?_
              refine yi_G_run 1 (63, [(4, .inl e), (3, .inl cn), (2, .inl u), (0, .inr (.inr (some 82))), (1, .inl w)], [.inl 2, .inr (.inr (some 100)), .inl e], (Jc, L, X), 0, 0) (fun _ => rfl) ?_
              have r30 : Jc 100 2 = I 100 2 := by rw [fJc 100 (2) (by omega), ← w6, yi_u_ne _ _ (by omega), fJb 100 (2) (by omega)]
              refine yi_G_iald (64, [(4, .inl e), (3, .inl cn), (2, .inl u), (0, .inr (.inr (some 82))), (1, .inl w)], [.inl (I 100 2), .inl e], (Jc, L, X), 0, 0) rfl (ym_li hS 17 rfl (by omega) (by omega) r30) ?_
              by_cases h31 : (I 100 2) ≤ e
              · refine yi_G_if2 true rfl (yi_ge_t h31) ?_
                refine yi_G_run 1 (104, [(4, .inl e), (3, .inl cn), (2, .inl u), (0, .inr (.inr (some 82))), (1, .inl w)], [.inl cn], (Jc, L, X), 0, 0) (fun _ => rfl) ?_
                by_cases h32 : cn = 0
                · refine yi_G_if1 true rfl (yi_eq_t h32) ?_
                  refine yi_G_iinc [(2, .inl (u + 1)), (4, .inl e), (3, .inl cn), (0, .inr (.inr (some 82))), (1, .inl w)] rfl rfl rfl (by rw [show yi_w (u + 1) = u + 1 from (yi_wn (by omega) (by omega)).trans (by omega)]; rfl) ?_
                  refine yi_G_run 1 (2, [(2, .inl (u + 1)), (4, .inl e), (3, .inl cn), (0, .inr (.inr (some 82))), (1, .inl w)], [], (Jc, L, X), 0, 0) (fun _ => rfl) ?_
                  refine yi_G_al (al := [(2, .inl (u + 1)), (0, .inr (.inr (some 82))), (1, .inl w)]) (show ([2, 0, 1] : List Nat).Nodup by decide) (show ([2, 4, 3, 0, 1] : List Nat).Nodup by decide) (yi_mc (List.mem_of_getElem? (i := 0) rfl) (yi_mc (List.mem_of_getElem? (i := 3) rfl) (yi_mc (List.mem_of_getElem? (i := 4) rfl) yi_mn))) ?_
                  exact ih2 _ (by omega) (u + 1) Jc (fun p k hp => by rw [fJc p k (by omega), ← w6, yi_u_ne _ _ (fun z => by omega), fJb p k (by omega)]) (by omega) (by omega) (ym_tg_t tgb (ym_tg_t tu.1 tgc)) rfl
                · refine yi_G_if1 false rfl (yi_eq_f h32) ?_
                  refine yi_G_run 1 (108, [(4, .inl e), (3, .inl cn), (2, .inl u), (0, .inr (.inr (some 82))), (1, .inl w)], [.inr (.inr (some 82))], (Jc, L, X), 0, 0) (fun _ => rfl) ?_
                  refine yi_G_get (111, [(4, .inl e), (3, .inl cn), (2, .inl u), (0, .inr (.inr (some 82))), (1, .inl w)], [.inr (.inr (some 106))], (Jc, L, X), 0, 0) rfl (ym_gr hS 23 rfl rfl rfl) ?_
                  refine yi_G_run 2 (113, [(4, .inl e), (3, .inl cn), (2, .inl u), (0, .inr (.inr (some 82))), (1, .inl w)], [.inl u, .inl w, .inr (.inr (some 106))], (Jc, L, X), 0, 0) (fun _ => rfl) ?_
                  refine yi_G_iast (114, [(4, .inl e), (3, .inl cn), (2, .inl u), (0, .inr (.inr (some 82))), (1, .inl w)], [], ((yi_u Jc 106 (w.toNat) u), L, X), 0, 0) rfl (ym_si hS 23 rfl (by omega) (by omega)) ?_
                  generalize w34 : yi_u Jc 106 (w.toNat) u = I33
                  refine yi_G_run 1 (115, [(4, .inl e), (3, .inl cn), (2, .inl u), (0, .inr (.inr (some 82))), (1, .inl w)], [.inl 1], (I33, L, X), 0, 0) (fun _ => rfl) ?_
                  exact yi_G_retb rfl rfl (by decide) (⟨_, _, ⟨rfl, by omega⟩, (fun p k hp => by rw [← w34, yi_u_ne _ _ (fun z => by omega), fJc p k (by omega), ← w6, yi_u_ne _ _ (fun z => by omega), fJb p k (by omega)]), (fun q hq => by rw [← w34, yi_u_ne _ _ (by omega)]; exact (ym_tg_t tgb (ym_tg_t tu.1 tgc)) q hq)⟩)
              · refine yi_G_if2 false rfl (yi_ge_f h31) ?_
                refine yi_G_run 1 (68, [(4, .inl e), (3, .inl cn), (2, .inl u), (0, .inr (.inr (some 82))), (1, .inl w)], [.inl cn], (Jc, L, X), 0, 0) (fun _ => rfl) ?_
                by_cases h35 : cn = 0
                · refine yi_G_if1 false rfl (yi_ne_f h35) ?_
                  refine yi_G_run 1 (72, [(4, .inl e), (3, .inl cn), (2, .inl u), (0, .inr (.inr (some 82))), (1, .inl w)], [.inr (.inr (some 82))], (Jc, L, X), 0, 0) (fun _ => rfl) ?_
                  refine yi_G_get (75, [(4, .inl e), (3, .inl cn), (2, .inl u), (0, .inr (.inr (some 82))), (1, .inl w)], [.inr (.inr (some 106))], (Jc, L, X), 0, 0) rfl (ym_gr hS 23 rfl rfl rfl) ?_
                  refine yi_G_run 1 (77, [(4, .inl e), (3, .inl cn), (2, .inl u), (0, .inr (.inr (some 82))), (1, .inl w)], [.inl e, .inr (.inr (some 106))], (Jc, L, X), 0, 0) (fun _ => rfl) ?_
                  refine yi_G_iald (78, [(4, .inl e), (3, .inl cn), (2, .inl u), (0, .inr (.inr (some 82))), (1, .inl w)], [.inl (Jc 106 (e.toNat))], (Jc, L, X), 0, 0) rfl (ym_li hS 23 rfl (by omega) (by omega) rfl) ?_
                  refine yi_G_run 1 (79, [(4, .inl e), (3, .inl cn), (2, .inl u), (0, .inr (.inr (some 82))), (1, .inl w)], [.inl u, .inl (Jc 106 (e.toNat))], (Jc, L, X), 0, 0) (fun _ => rfl) ?_
                  by_cases h36 : (Jc 106 (e.toNat)) = u
                  · refine yi_G_if2 false rfl (yi_ne_f h36) ?_
                    refine yi_G_run 2 (85, [(4, .inl e), (3, .inl cn), (2, .inl u), (0, .inr (.inr (some 82))), (1, .inl w)], [.inl e, .inr (.inr (some 82))], (Jc, L, X), 0, 0) (fun _ => rfl) ?_
                    have r41 : Jc 100 2 = I 100 2 := by rw [fJc 100 (2) (by omega), ← w6, yi_u_ne _ _ (by omega), fJb 100 (2) (by omega)]
                    refine yi_G_callv rfl rfl (ym_rcv hS) rfl (ihc _ (by omega) d (by omega) Jc L e (ym_LR_t (fun k => by rw [fJc 88 k (by omega), ← w6, yi_u_ne _ _ (fun z => absurd z.1 (by decide)), fJb 88 k (by omega)]) hLR) (ym_S0_t (fun k => by rw [fJc 100 k (by omega), ← w6, yi_u_ne _ _ (fun z => absurd z.1 (by decide)), fJb 100 k (by omega)]) hS0) (by omega) (by rw [r41]; omega) (ym_tg_r tgc) rfl) ?_
                    rintro _ ⟨z39, I37, ⟨rfl, h40⟩, f38, tgI37⟩
                    show yi_G zi_Ms d zi_m33 (88, [(4, .inl e), (3, .inl cn), (2, .inl u), (0, .inr (.inr (some 82))), (1, .inl w)], [.inl z39], (I37, L, X), 0, 0) _
                    by_cases h42 : z39 = 0
                    · refine yi_G_if1 true rfl (yi_eq_t h42) ?_
                      refine yi_G_run 2 (97, [(3, .inl 0), (4, .inl e), (2, .inl u), (0, .inr (.inr (some 82))), (1, .inl w)], [], (I37, L, X), 0, 0) (fun _ => rfl) ?_
                      refine yi_G_iinc [(4, .inl (e + 1)), (3, .inl 0), (2, .inl u), (0, .inr (.inr (some 82))), (1, .inl w)] rfl rfl rfl (by rw [show yi_w (e + 1) = e + 1 from (yi_wn (by omega) (by omega)).trans (by omega)]; rfl) ?_
                      refine yi_G_run 1 (56, [(4, .inl (e + 1)), (3, .inl 0), (2, .inl u), (0, .inr (.inr (some 82))), (1, .inl w)], [], (I37, L, X), 0, 0) (fun _ => rfl) ?_
                      exact ih56 _ (by omega) (e + 1) 0 I37 (fun p k hp => by rw [f38 p k (by omega), fJc p k (by omega)]) (by omega) (by omega) (by omega) (ym_tg_t tgc tgI37) rfl
                    · refine yi_G_if1 false rfl (yi_eq_f h42) ?_
                      refine yi_G_run 3 (97, [(3, .inl 1), (4, .inl e), (2, .inl u), (0, .inr (.inr (some 82))), (1, .inl w)], [], (I37, L, X), 0, 0) (fun _ => rfl) ?_
                      refine yi_G_iinc [(4, .inl (e + 1)), (3, .inl 1), (2, .inl u), (0, .inr (.inr (some 82))), (1, .inl w)] rfl rfl rfl (by rw [show yi_w (e + 1) = e + 1 from (yi_wn (by omega) (by omega)).trans (by omega)]; rfl) ?_
                      refine yi_G_run 1 (56, [(4, .inl (e + 1)), (3, .inl 1), (2, .inl u), (0, .inr (.inr (some 82))), (1, .inl w)], [], (I37, L, X), 0, 0) (fun _ => rfl) ?_
                      exact ih56 _ (by omega) (e + 1) 1 I37 (fun p k hp => by rw [f38 p k (by omega), fJc p k (by omega)]) (by omega) (by omega) (by omega) (ym_tg_t tgc tgI37) rfl
                  · refine yi_G_if2 true rfl (yi_ne_t h36) ?_
                    refine yi_G_run 2 (97, [(3, .inl 0), (4, .inl e), (2, .inl u), (0, .inr (.inr (some 82))), (1, .inl w)], [], (Jc, L, X), 0, 0) (fun _ => rfl) ?_
                    refine yi_G_iinc [(4, .inl (e + 1)), (3, .inl 0), (2, .inl u), (0, .inr (.inr (some 82))), (1, .inl w)] rfl rfl rfl (by rw [show yi_w (e + 1) = e + 1 from (yi_wn (by omega) (by omega)).trans (by omega)]; rfl) ?_
                    refine yi_G_run 1 (56, [(4, .inl (e + 1)), (3, .inl 0), (2, .inl u), (0, .inr (.inr (some 82))), (1, .inl w)], [], (Jc, L, X), 0, 0) (fun _ => rfl) ?_
                    exact ih56 _ (by omega) (e + 1) 0 Jc (fun p k hp => by rw [fJc p k (by omega)]) (by omega) (by omega) (by omega) tgc rfl
                · refine yi_G_if1 true rfl (yi_ne_t h35) ?_
                  refine yi_G_run 1 (104, [(4, .inl e), (3, .inl cn), (2, .inl u), (0, .inr (.inr (some 82))), (1, .inl w)], [.inl cn], (Jc, L, X), 0, 0) (fun _ => rfl) ?_
                  by_cases h43 : cn = 0
                  · refine yi_G_if1 true rfl (yi_eq_t h43) ?_
                    refine yi_G_iinc [(2, .inl (u + 1)), (4, .inl e), (3, .inl cn), (0, .inr (.inr (some 82))), (1, .inl w)] rfl rfl rfl (by rw [show yi_w (u + 1) = u + 1 from (yi_wn (by omega) (by omega)).trans (by omega)]; rfl) ?_
                    refine yi_G_run 1 (2, [(2, .inl (u + 1)), (4, .inl e), (3, .inl cn), (0, .inr (.inr (some 82))), (1, .inl w)], [], (Jc, L, X), 0, 0) (fun _ => rfl) ?_
                    refine yi_G_al (al := [(2, .inl (u + 1)), (0, .inr (.inr (some 82))), (1, .inl w)]) (show ([2, 0, 1] : List Nat).Nodup by decide) (show ([2, 4, 3, 0, 1] : List Nat).Nodup by decide) (yi_mc (List.mem_of_getElem? (i := 0) rfl) (yi_mc (List.mem_of_getElem? (i := 3) rfl) (yi_mc (List.mem_of_getElem? (i := 4) rfl) yi_mn))) ?_
                    exact ih2 _ (by omega) (u + 1) Jc (fun p k hp => by rw [fJc p k (by omega), ← w6, yi_u_ne _ _ (fun z => by omega), fJb p k (by omega)]) (by omega) (by omega) (ym_tg_t tgb (ym_tg_t tu.1 tgc)) rfl
                  · refine yi_G_if1 false rfl (yi_eq_f h43) ?_
                    refine yi_G_run 1 (108, [(4, .inl e), (3, .inl cn), (2, .inl u), (0, .inr (.inr (some 82))), (1, .inl w)], [.inr (.inr (some 82))], (Jc, L, X), 0, 0) (fun _ => rfl) ?_
                    refine yi_G_get (111, [(4, .inl e), (3, .inl cn), (2, .inl u), (0, .inr (.inr (some 82))), (1, .inl w)], [.inr (.inr (some 106))], (Jc, L, X), 0, 0) rfl (ym_gr hS 23 rfl rfl rfl) ?_
                    refine yi_G_run 2 (113, [(4, .inl e), (3, .inl cn), (2, .inl u), (0, .inr (.inr (some 82))), (1, .inl w)], [.inl u, .inl w, .inr (.inr (some 106))], (Jc, L, X), 0, 0) (fun _ => rfl) ?_
                    refine yi_G_iast (114, [(4, .inl e), (3, .inl cn), (2, .inl u), (0, .inr (.inr (some 82))), (1, .inl w)], [], ((yi_u Jc 106 (w.toNat) u), L, X), 0, 0) rfl (ym_si hS 23 rfl (by omega) (by omega)) ?_
                    generalize w45 : yi_u Jc 106 (w.toNat) u = I44
                    refine yi_G_run 1 (115, [(4, .inl e), (3, .inl cn), (2, .inl u), (0, .inr (.inr (some 82))), (1, .inl w)], [.inl 1], (I44, L, X), 0, 0) (fun _ => rfl) ?_
                    exact yi_G_retb rfl rfl (by decide) (⟨_, _, ⟨rfl, by omega⟩, (fun p k hp => by rw [← w45, yi_u_ne _ _ (fun z => by omega), fJc p k (by omega), ← w6, yi_u_ne _ _ (fun z => by omega), fJb p k (by omega)]), (fun q hq => by rw [← w45, yi_u_ne _ _ (by omega)]; exact (ym_tg_t tgb (ym_tg_t tu.1 tgc)) q hq)⟩)
            exact pt56 _ 0 1 I5 (fun _ _ _ => rfl) (by omega) (by omega) (by omega) (ym_tg_r tu.1) rfl
        · refine yi_G_if1 true rfl (yi_ne_t h4) ?_
          refine yi_G_iinc [(2, .inl (u + 1)), (0, .inr (.inr (some 82))), (1, .inl w)] rfl rfl rfl (by rw [show yi_w (u + 1) = u + 1 from (yi_wn (by omega) (by omega)).trans (by omega)]; rfl) ?_
          refine yi_G_run 1 (2, [(2, .inl (u + 1)), (0, .inr (.inr (some 82))), (1, .inl w)], [], (Jb, L, X), 0, 0) (fun _ => rfl) ?_
          exact ih2 _ (by omega) (u + 1) Jb (fun p k hp => by rw [fJb p k (by omega)]) (by omega) (by omega) tgb rfl
      · show yi_G zi_Ms d zi_m33 (16, [(2, .inl u), (0, .inr (.inr (some 82))), (1, .inl w)], [.inl 0], (Jb, L, X), 0, 0) _
        refine yi_G_if1 true rfl (by decide) ?_
        refine yi_G_iinc [(2, .inl (u + 1)), (0, .inr (.inr (some 82))), (1, .inl w)] rfl rfl rfl (by rw [show yi_w (u + 1) = u + 1 from (yi_wn (by omega) (by omega)).trans (by omega)]; rfl) ?_
        refine yi_G_run 1 (2, [(2, .inl (u + 1)), (0, .inr (.inr (some 82))), (1, .inl w)], [], (Jb, L, X), 0, 0) (fun _ => rfl) ?_
        exact ih2 _ (by omega) (u + 1) Jb (fun p k hp => by rw [fJb p k (by omega)]) (by omega) (by omega) tgb rfl
  exact pt2 _ 0 I (fun _ _ _ => rfl) (by omega) (by omega) htg rfl
theorem q_kept (D : Nat) (hD : 11 ≤ D) {I L : Nat → Nat → Int} {X : ym_X} (hS : ym_S X) (hLR : ym_LR I) (hS0 : ym_S0 I) (hl : 0 ≤ I 82 25 ∧ I 82 25 ≤ 512) : yi_E zi_Ms D 68 [.inr (.inr (some 82))] (I, L, X) (fun r => ∃ z I' L', r = (some (.inl z), (I', L', X), 0, 0) ∧ (∀ p k, p ≠ 96 ∧ p ≠ 99 ∧ p ≠ 103 ∧ p ≠ 104 ∧ p ≠ 105 ∧ p ≠ 106 ∧ p ≠ 107 ∧ p ≠ 108 ∧ ¬ (p = 82 ∧ k = 0) ∧ ¬ (p = 82 ∧ k = 34) ∧ ¬ (p = 82 ∧ k = 35) ∧ ¬ (p = 82 ∧ k = 37) ∧ ¬ (p = 82 ∧ k = 40) → I' p k = I p k) ∧ (∀ p k, p ≠ 97 ∧ ¬ (p = 82 ∧ k = 43) → L' p k = L p k)) := by
  obtain ⟨d, rfl⟩ : ∃ d, D = d + 1 := ⟨D - 1, by omega⟩
  refine yi_E_of (M := zi_m68) rfl rfl ?_
  obtain ⟨l0, l1, l2, l3, l4, l5⟩ := id hLR
  obtain ⟨t0, t1, t2, t3, t4⟩ := id hS0
  show yi_G zi_Ms d zi_m68 (0, [(0, .inr (.inr (some 82)))], [], (I, L, X), 0, 0) _
  refine yi_G_run 2 (2, [(0, .inr (.inr (some 82)))], [.inl 0, .inr (.inr (some 82))], (I, L, X), 0, 0) (fun _ => rfl) ?_
  refine yi_G_put (5, [(0, .inr (.inr (some 82)))], [], ((yi_u I 82 0 0), L, X), 0, 0) rfl (ym_pi hS rfl rfl) ?_
  generalize w2 : yi_u I 82 0 0 = I1
  refine yi_G_run 4 (9, [(2, .inl 0), (1, .inl 0), (0, .inr (.inr (some 82)))], [], (I1, L, X), 0, 0) (fun _ => rfl) ?_
  have pt9 : ∀ (m : Nat) (a0 : Int) (Ja : Nat → Nat → Int), (∀ p k, p ≠ 106 → Ja p k = I1 p k) → (0 ≤ a0) → (a0 ≤ 20) → (20 - a0).toNat = m → yi_G zi_Ms d zi_m68 (9, [(2, .inl a0), (1, .inl 0), (0, .inr (.inr (some 82)))], [], (Ja, L, X), 0, 0) (fun r => ∃ z I' L', r = (some (.inl z), (I', L', X), 0, 0) ∧ (∀ p k, p ≠ 96 ∧ p ≠ 99 ∧ p ≠ 103 ∧ p ≠ 104 ∧ p ≠ 105 ∧ p ≠ 106 ∧ p ≠ 107 ∧ p ≠ 108 ∧ ¬ (p = 82 ∧ k = 0) ∧ ¬ (p = 82 ∧ k = 34) ∧ ¬ (p = 82 ∧ k = 35) ∧ ¬ (p = 82 ∧ k = 37) ∧ ¬ (p = 82 ∧ k = 40) → I' p k = I p k) ∧ (∀ p k, p ≠ 97 ∧ ¬ (p = 82 ∧ k = 43) → L' p k = L p k)) := by
    intro m9
    induction m9 using Nat.strongRecOn with
    | _ m9 ih9 =>
    intro a0 Ja fJa a1 a2 hm9
    refine yi_G_run 2 (12, [(2, .inl a0), (1, .inl 0), (0, .inr (.inr (some 82)))], [.inl 20, .inl a0], (Ja, L, X), 0, 0) (fun _ => rfl) ?_
    by_cases h3 : 20 ≤ a0
    · refine yi_G_if2 true rfl (yi_ge_t h3) ?_
      refine yi_G_run 2 (30, [(2, .inl 0), (1, .inl 0), (0, .inr (.inr (some 82)))], [], (Ja, L, X), 0, 0) (fun _ => rfl) ?_
      have pt30 : ∀ (m : Nat) (c : Int) (y : Int) (Jb : Nat → Nat → Int), (∀ p k, p ≠ 106 ∧ p ≠ 107 → Jb p k = Ja p k) → (0 ≤ c) → (c ≤ I 100 2) → (0 ≤ y ∧ y ≤ c) → (I 100 2 - c).toNat = m → yi_G zi_Ms d zi_m68 (30, [(2, .inl c), (1, .inl y), (0, .inr (.inr (some 82)))], [], (Jb, L, X), 0, 0) (fun r => ∃ z I' L', r = (some (.inl z), (I', L', X), 0, 0) ∧ (∀ p k, p ≠ 96 ∧ p ≠ 99 ∧ p ≠ 103 ∧ p ≠ 104 ∧ p ≠ 105 ∧ p ≠ 106 ∧ p ≠ 107 ∧ p ≠ 108 ∧ ¬ (p = 82 ∧ k = 0) ∧ ¬ (p = 82 ∧ k = 34) ∧ ¬ (p = 82 ∧ k = 35) ∧ ¬ (p = 82 ∧ k = 37) ∧ ¬ (p = 82 ∧ k = 40) → I' p k = I p k) ∧ (∀ p k, p ≠ 97 ∧ ¬ (p = 82 ∧ k = 43) → L' p k = L p k)) := by
        intro m30
        induction m30 using Nat.strongRecOn with
        | _ m30 ih30 =>
        intro c y Jb fJb c0 c1 y0 hm30
        refine yi_G_run 2 (32, [(2, .inl c), (1, .inl y), (0, .inr (.inr (some 82)))], [.inr (.inr (some 82)), .inl c], (Jb, L, X), 0, 0) (fun _ => rfl) ?_
        refine yi_G_get (35, [(2, .inl c), (1, .inl y), (0, .inr (.inr (some 82)))], [.inr (.inr (some 100)), .inl c], (Jb, L, X), 0, 0) rfl (ym_gr hS 17 rfl rfl rfl) ?_
        refine yi_G_run 1 (36, [(2, .inl c), (1, .inl y), (0, .inr (.inr (some 82)))], [.inl 2, .inr (.inr (some 100)), .inl c], (Jb, L, X), 0, 0) (fun _ => rfl) ?_
        have r4 : Jb 100 2 = I 100 2 := by rw [fJb 100 (2) (by omega), fJa 100 (2) (by omega), ← w2, yi_u_ne _ _ (by omega)]
        refine yi_G_iald (37, [(2, .inl c), (1, .inl y), (0, .inr (.inr (some 82)))], [.inl (I 100 2), .inl c], (Jb, L, X), 0, 0) rfl (ym_li hS 17 rfl (by omega) (by omega) r4) ?_
        by_cases h5 : (I 100 2) ≤ c
        · refine yi_G_if2 true rfl (yi_ge_t h5) ?_
          refine yi_G_run 1 (83, [(2, .inl c), (1, .inl y), (0, .inr (.inr (some 82)))], [.inl y], (Jb, L, X), 0, 0) (fun _ => rfl) ?_
          exact yi_G_reti rfl rfl (⟨_, _, _, rfl, (fun p k hp => by rw [fJb p k (by omega), fJa p k (by omega), ← w2, yi_u_ne _ _ (fun z => by omega)]), (fun _ _ _ => rfl)⟩)
        · refine yi_G_if2 false rfl (yi_ge_f h5) ?_
          refine yi_G_run 2 (42, [(3, .inl 0), (2, .inl c), (1, .inl y), (0, .inr (.inr (some 82)))], [], (Jb, L, X), 0, 0) (fun _ => rfl) ?_
          have pt42 : ∀ (m : Nat) (t : Int) (Jc : Nat → Nat → Int), (∀ p k, p ≠ 107 → Jc p k = Jb p k) → (0 ≤ t) → (t ≤ 4) → (∀ j : Int, 0 ≤ j → j < t → Jc 107 j.toNat = 0) → (4 - t).toNat = m → yi_G zi_Ms d zi_m68 (42, [(3, .inl t), (2, .inl c), (1, .inl y), (0, .inr (.inr (some 82)))], [], (Jc, L, X), 0, 0) (fun r => ∃ z I' L', r = (some (.inl z), (I', L', X), 0, 0) ∧ (∀ p k, p ≠ 96 ∧ p ≠ 99 ∧ p ≠ 103 ∧ p ≠ 104 ∧ p ≠ 105 ∧ p ≠ 106 ∧ p ≠ 107 ∧ p ≠ 108 ∧ ¬ (p = 82 ∧ k = 0) ∧ ¬ (p = 82 ∧ k = 34) ∧ ¬ (p = 82 ∧ k = 35) ∧ ¬ (p = 82 ∧ k = 37) ∧ ¬ (p = 82 ∧ k = 40) → I' p k = I p k) ∧ (∀ p k, p ≠ 97 ∧ ¬ (p = 82 ∧ k = 43) → L' p k = L p k)) := by
            intro m42
            induction m42 using Nat.strongRecOn with
            | _ m42 ih42 =>
            intro t Jc fJc t8 t9 hz hm42
            refine yi_G_run 2 (44, [(3, .inl t), (2, .inl c), (1, .inl y), (0, .inr (.inr (some 82)))], [.inl 4, .inl t], (Jc, L, X), 0, 0) (fun _ => rfl) ?_
            by_cases h6 : 4 ≤ t
            · refine yi_G_if2 true rfl (yi_ge_t h6) ?_
              refine yi_G_run 3 (63, [(3, .inl t), (2, .inl c), (1, .inl y), (0, .inr (.inr (some 82)))], [.inl c, .inr (.inr (some 82)), .inl y], (Jc, L, X), 0, 0) (fun _ => rfl) ?_
              have z0 : Jc 107 0 = 0 := hz 0 (by omega) (by omega)
              have z1 : Jc 107 1 = 0 := hz 1 (by omega) (by omega)
              have z2 : Jc 107 2 = 0 := hz 2 (by omega) (by omega)
              have z3 : Jc 107 3 = 0 := hz 3 (by omega) (by omega)
              have tz : ym_tm Jc = 0 := by unfold ym_tm; omega
              have r11 : Jc 100 2 = I 100 2 := by rw [fJc 100 (2) (by omega), fJb 100 (2) (by omega), fJa 100 (2) (by omega), ← w2, yi_u_ne _ _ (by omega)]
              refine yi_G_callv rfl rfl (ym_rcv hS) rfl (c_findsKeeper hS _ d (by omega) Jc L c (ym_LR_t (fun k => by rw [fJc 88 k (by omega), fJb 88 k (by omega), fJa 88 k (by omega), ← w2, yi_u_ne _ _ (fun z => absurd z.1 (by decide))]) hLR) (ym_S0_t (fun k => by rw [fJc 100 k (by omega), fJb 100 k (by omega), fJa 100 k (by omega), ← w2, yi_u_ne _ _ (fun z => absurd z.1 (by decide))]) hS0) (by omega) (by rw [r11]; omega) (fun q hq => ⟨Or.inl (hz (q : Int) (by omega) (by omega)), Int.le_refl _⟩) rfl) ?_
              rintro _ ⟨z9, I7, ⟨rfl, h10⟩, f8, tgI7⟩
              show yi_G zi_Ms d zi_m68 (66, [(3, .inl t), (2, .inl c), (1, .inl y), (0, .inr (.inr (some 82)))], [.inl z9, .inl y], (I7, L, X), 0, 0) _
              by_cases h12 : z9 = 0
              · refine yi_G_if1 true rfl (yi_eq_t h12) ?_
                refine yi_G_run 1 (74, [(3, .inl t), (2, .inl c), (1, .inl y), (0, .inr (.inr (some 82)))], [.inl 0, .inl y], (I7, L, X), 0, 0) (fun _ => rfl) ?_
                refine yi_G_iadd rfl (y + 0) (yi_wn (by omega) (by omega)) ?_
                refine yi_G_run 1 (76, [(1, .inl (y + 0)), (3, .inl t), (2, .inl c), (0, .inr (.inr (some 82)))], [], (I7, L, X), 0, 0) (fun _ => rfl) ?_
                refine yi_G_iinc [(2, .inl (c + 1)), (1, .inl (y + 0)), (3, .inl t), (0, .inr (.inr (some 82)))] rfl rfl rfl (by rw [show yi_w (c + 1) = c + 1 from (yi_wn (by omega) (by omega)).trans (by omega)]; rfl) ?_
                refine yi_G_run 1 (30, [(2, .inl (c + 1)), (1, .inl (y + 0)), (3, .inl t), (0, .inr (.inr (some 82)))], [], (I7, L, X), 0, 0) (fun _ => rfl) ?_
                refine yi_G_al (al := [(2, .inl (c + 1)), (1, .inl (y + 0)), (0, .inr (.inr (some 82)))]) (show ([2, 1, 0] : List Nat).Nodup by decide) (show ([2, 1, 3, 0] : List Nat).Nodup by decide) (yi_mc (List.mem_of_getElem? (i := 0) rfl) (yi_mc (List.mem_of_getElem? (i := 1) rfl) (yi_mc (List.mem_of_getElem? (i := 3) rfl) yi_mn))) ?_
                exact ih30 _ (by omega) (c + 1) (y + 0) I7 (fun p k hp => by rw [f8 p k (by omega), fJc p k (by omega), fJb p k (by omega)]) (by omega) (by omega) (by omega) rfl
              · refine yi_G_if1 false rfl (yi_eq_f h12) ?_
                refine yi_G_run 2 (74, [(3, .inl t), (2, .inl c), (1, .inl y), (0, .inr (.inr (some 82)))], [.inl 1, .inl y], (I7, L, X), 0, 0) (fun _ => rfl) ?_
                refine yi_G_iadd rfl (y + 1) (yi_wn (by omega) (by omega)) ?_
                refine yi_G_run 1 (76, [(1, .inl (y + 1)), (3, .inl t), (2, .inl c), (0, .inr (.inr (some 82)))], [], (I7, L, X), 0, 0) (fun _ => rfl) ?_
                refine yi_G_iinc [(2, .inl (c + 1)), (1, .inl (y + 1)), (3, .inl t), (0, .inr (.inr (some 82)))] rfl rfl rfl (by rw [show yi_w (c + 1) = c + 1 from (yi_wn (by omega) (by omega)).trans (by omega)]; rfl) ?_
                refine yi_G_run 1 (30, [(2, .inl (c + 1)), (1, .inl (y + 1)), (3, .inl t), (0, .inr (.inr (some 82)))], [], (I7, L, X), 0, 0) (fun _ => rfl) ?_
                refine yi_G_al (al := [(2, .inl (c + 1)), (1, .inl (y + 1)), (0, .inr (.inr (some 82)))]) (show ([2, 1, 0] : List Nat).Nodup by decide) (show ([2, 1, 3, 0] : List Nat).Nodup by decide) (yi_mc (List.mem_of_getElem? (i := 0) rfl) (yi_mc (List.mem_of_getElem? (i := 1) rfl) (yi_mc (List.mem_of_getElem? (i := 3) rfl) yi_mn))) ?_
                exact ih30 _ (by omega) (c + 1) (y + 1) I7 (fun p k hp => by rw [f8 p k (by omega), fJc p k (by omega), fJb p k (by omega)]) (by omega) (by omega) (by omega) rfl
            · refine yi_G_if2 false rfl (yi_ge_f h6) ?_
              refine yi_G_run 1 (48, [(3, .inl t), (2, .inl c), (1, .inl y), (0, .inr (.inr (some 82)))], [.inr (.inr (some 82))], (Jc, L, X), 0, 0) (fun _ => rfl) ?_
              refine yi_G_get (51, [(3, .inl t), (2, .inl c), (1, .inl y), (0, .inr (.inr (some 82)))], [.inr (.inr (some 107))], (Jc, L, X), 0, 0) rfl (ym_gr hS 24 rfl rfl rfl) ?_
              refine yi_G_run 2 (53, [(3, .inl t), (2, .inl c), (1, .inl y), (0, .inr (.inr (some 82)))], [.inl 0, .inl t, .inr (.inr (some 107))], (Jc, L, X), 0, 0) (fun _ => rfl) ?_
              refine yi_G_bast (54, [(3, .inl t), (2, .inl c), (1, .inl y), (0, .inr (.inr (some 82)))], [], ((yi_u Jc 107 (t.toNat) 0), L, X), 0, 0) rfl (ym_sb hS 24 rfl (by omega) (by omega) (by omega)) ?_
              generalize w14 : yi_u Jc 107 (t.toNat) 0 = I13
              refine yi_G_iinc [(3, .inl (t + 1)), (2, .inl c), (1, .inl y), (0, .inr (.inr (some 82)))] rfl rfl rfl (by rw [show yi_w (t + 1) = t + 1 from (yi_wn (by omega) (by omega)).trans (by omega)]; rfl) ?_
              refine yi_G_run 1 (42, [(3, .inl (t + 1)), (2, .inl c), (1, .inl y), (0, .inr (.inr (some 82)))], [], (I13, L, X), 0, 0) (fun _ => rfl) ?_
              exact ih42 _ (by omega) (t + 1) I13 (fun p k hp => by rw [← w14, yi_u_ne _ _ (fun z => by omega), fJc p k (by omega)]) (by omega) (by omega) (fun j a b => by
          rw [← w14]
          by_cases e : j = t
          · subst e; rw [yi_u_eq]
          · rw [yi_u_ne _ _ (by omega)]; exact hz j a (by omega)) rfl
          exact pt42 _ 0 Jb (fun _ _ _ => rfl) (by omega) (by omega) (fun j a b => absurd b (by omega)) rfl
      exact pt30 _ 0 0 Ja (fun _ _ _ => rfl) (by omega) (by omega) (by omega) rfl
    · refine yi_G_if2 false rfl (yi_ge_f h3) ?_
      refine yi_G_run 1 (16, [(2, .inl a0), (1, .inl 0), (0, .inr (.inr (some 82)))], [.inr (.inr (some 82))], (Ja, L, X), 0, 0) (fun _ => rfl) ?_
      refine yi_G_get (19, [(2, .inl a0), (1, .inl 0), (0, .inr (.inr (some 82)))], [.inr (.inr (some 106))], (Ja, L, X), 0, 0) rfl (ym_gr hS 23 rfl rfl rfl) ?_
      refine yi_G_run 2 (21, [(2, .inl a0), (1, .inl 0), (0, .inr (.inr (some 82)))], [.inl (-1), .inl a0, .inr (.inr (some 106))], (Ja, L, X), 0, 0) (fun _ => rfl) ?_
      refine yi_G_iast (22, [(2, .inl a0), (1, .inl 0), (0, .inr (.inr (some 82)))], [], ((yi_u Ja 106 (a0.toNat) (-1)), L, X), 0, 0) rfl (ym_si hS 23 rfl (by omega) (by omega)) ?_
      generalize w16 : yi_u Ja 106 (a0.toNat) (-1) = I15
      refine yi_G_iinc [(2, .inl (a0 + 1)), (1, .inl 0), (0, .inr (.inr (some 82)))] rfl rfl rfl (by rw [show yi_w (a0 + 1) = a0 + 1 from (yi_wn (by omega) (by omega)).trans (by omega)]; rfl) ?_
      refine yi_G_run 1 (9, [(2, .inl (a0 + 1)), (1, .inl 0), (0, .inr (.inr (some 82)))], [], (I15, L, X), 0, 0) (fun _ => rfl) ?_
      exact ih9 _ (by omega) (a0 + 1) I15 (fun p k hp => by rw [← w16, yi_u_ne _ _ (fun z => by omega), fJa p k (by omega)]) (by omega) (by omega) rfl
  exact pt9 _ 0 I1 (fun _ _ _ => rfl) (by omega) (by omega) rfl
