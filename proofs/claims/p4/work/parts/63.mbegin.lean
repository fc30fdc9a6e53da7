/-! A land begins. -/
theorem c_begins (D : Nat) (hD : 9 ≤ D) {I L : Nat → Nat → Int} {X : ym_X} (hS : ym_S X) (hLR : ym_LR I) (hPL : ym_PL I) (hFo : 1 ≤ ym_fo (I 88 0) (I 88 1) (I 88 2)) : yi_E zi_Ms D 4 [.inr (.inr (some 82))] (I, L, X) (fun r => ∃ I' L', r = (none, (I', L', X), 0, 0) ∧ (∀ p k, p ≠ 98 ∧ p ≠ 99 ∧ p ≠ 96 ∧ ¬ (p = 82 ∧ k = 20) ∧ ¬ (p = 82 ∧ k = 24) ∧ ¬ (p = 82 ∧ k = 25) ∧ ¬ (p = 82 ∧ k = 28) ∧ p ≠ 100 ∧ p ≠ 101 ∧ p ≠ 102 ∧ ¬ (p = 82 ∧ k = 30) → I' p k = I p k) ∧ (∀ p k, p ≠ 97 → L' p k = L p k) ∧ I' 82 24 = ym_fo (I 88 0) (I 88 1) (I 88 2) ∧ I' 82 25 = (ym_fo (I 88 0) (I 88 1) (I 88 2) + 63) / 64 ∧ I' 82 20 = 0 ∧ ym_PW I' ∧ ym_S0 I' ∧ I' 82 30 = 0 ∧ ∀ m : Int, 0 ≤ m → m < 5 → I' 101 m.toNat = 0 ∧ I' 102 m.toNat = 0) := by
  obtain ⟨d, rfl⟩ : ∃ d, D = d + 1 := ⟨D - 1, by omega⟩
  refine yi_E_of (M := zi_m4) rfl rfl ?_
  obtain ⟨l0, l1, l2, l3, l4, l5⟩ := id hLR
  show yi_G zi_Ms d zi_m4 (0, [(0, .inr (.inr (some 82)))], [], (I, L, X), 0, 0) _
  refine yi_G_run 1 (1, [(0, .inr (.inr (some 82)))], [.inr (.inr (some 82))], (I, L, X), 0, 0) (fun _ => rfl) ?_
  refine yi_G_callv rfl rfl (ym_rcv hS) rfl (c_findsFutures d (by omega) hS hLR hPL hFo) ?_
  rintro _ ⟨I1, L3, rfl, f2, f4, v24, v25, v20, pwn⟩
  show yi_G zi_Ms d zi_m4 (4, [(0, .inr (.inr (some 82)))], [], (I1, L3, X), 0, 0) _
  refine yi_G_run 2 (6, [(1, .inl 0), (0, .inr (.inr (some 82)))], [], (I1, L3, X), 0, 0) (fun _ => rfl) ?_
  have pt6 : ∀ (m : Nat) (k : Int) (Ja : Nat → Nat → Int), (∀ p k, p ≠ 100 → Ja p k = I1 p k) → (0 ≤ k) → (k ≤ 110) → (∀ j : Int, 0 ≤ j → j < k → Ja 100 j.toNat = (if 44 ≤ j ∧ j < 68 then -1 else 0)) → (110 - k).toNat = m → yi_G zi_Ms d zi_m4 (6, [(1, .inl k), (0, .inr (.inr (some 82)))], [], (Ja, L3, X), 0, 0) (fun r => ∃ I' L', r = (none, (I', L', X), 0, 0) ∧ (∀ p k, p ≠ 98 ∧ p ≠ 99 ∧ p ≠ 96 ∧ ¬ (p = 82 ∧ k = 20) ∧ ¬ (p = 82 ∧ k = 24) ∧ ¬ (p = 82 ∧ k = 25) ∧ ¬ (p = 82 ∧ k = 28) ∧ p ≠ 100 ∧ p ≠ 101 ∧ p ≠ 102 ∧ ¬ (p = 82 ∧ k = 30) → I' p k = I p k) ∧ (∀ p k, p ≠ 97 → L' p k = L p k) ∧ I' 82 24 = ym_fo (I 88 0) (I 88 1) (I 88 2) ∧ I' 82 25 = (ym_fo (I 88 0) (I 88 1) (I 88 2) + 63) / 64 ∧ I' 82 20 = 0 ∧ ym_PW I' ∧ ym_S0 I' ∧ I' 82 30 = 0 ∧ ∀ m : Int, 0 ≤ m → m < 5 → I' 101 m.toNat = 0 ∧ I' 102 m.toNat = 0) := by
    intro m6
    induction m6 using Nat.strongRecOn with
    | _ m6 ih6 =>
    intro k Ja fJa k0 k1 hst hm6
    refine yi_G_run 2 (9, [(1, .inl k), (0, .inr (.inr (some 82)))], [.inl 110, .inl k], (Ja, L3, X), 0, 0) (fun _ => rfl) ?_
    by_cases h5 : 110 ≤ k
    · refine yi_G_if2 true rfl (yi_ge_t h5) ?_
      refine yi_G_run 1 (42, [(1, .inl k), (0, .inr (.inr (some 82)))], [.inr (.inr (some 82))], (Ja, L3, X), 0, 0) (fun _ => rfl) ?_
      refine yi_G_get (45, [(1, .inl k), (0, .inr (.inr (some 82)))], [.inr (.inr (some 100))], (Ja, L3, X), 0, 0) rfl (ym_gr hS 17 rfl rfl rfl) ?_
      refine yi_G_run 2 (47, [(1, .inl k), (0, .inr (.inr (some 82)))], [.inl 1, .inl 1, .inr (.inr (some 100))], (Ja, L3, X), 0, 0) (fun _ => rfl) ?_
      refine yi_G_iast (48, [(1, .inl k), (0, .inr (.inr (some 82)))], [], ((yi_u Ja 100 1 1), L3, X), 0, 0) rfl (ym_si hS 17 rfl (by omega) (by omega)) ?_
      generalize w7 : yi_u Ja 100 1 1 = I6
      refine yi_G_run 2 (50, [(1, .inl 0), (0, .inr (.inr (some 82)))], [], (I6, L3, X), 0, 0) (fun _ => rfl) ?_
      have pt50 : ∀ (m : Nat) (k : Int) (Jp : Nat → Nat → Int), (∀ p k, p ≠ 100 → Jp p k = I6 p k) → (0 ≤ k) → (k ≤ 5) → (Jp 100 1 = 1) → (∀ j : Int, 0 ≤ j → j < 110 → ¬ (j = 1 ∨ (3 ≤ j ∧ j ≤ 7)) → Jp 100 j.toNat = (if 44 ≤ j ∧ j < 68 then -1 else 0)) → (5 - k).toNat = m → yi_G zi_Ms d zi_m4 (50, [(1, .inl k), (0, .inr (.inr (some 82)))], [], (Jp, L3, X), 0, 0) (fun r => ∃ I' L', r = (none, (I', L', X), 0, 0) ∧ (∀ p k, p ≠ 98 ∧ p ≠ 99 ∧ p ≠ 96 ∧ ¬ (p = 82 ∧ k = 20) ∧ ¬ (p = 82 ∧ k = 24) ∧ ¬ (p = 82 ∧ k = 25) ∧ ¬ (p = 82 ∧ k = 28) ∧ p ≠ 100 ∧ p ≠ 101 ∧ p ≠ 102 ∧ ¬ (p = 82 ∧ k = 30) → I' p k = I p k) ∧ (∀ p k, p ≠ 97 → L' p k = L p k) ∧ I' 82 24 = ym_fo (I 88 0) (I 88 1) (I 88 2) ∧ I' 82 25 = (ym_fo (I 88 0) (I 88 1) (I 88 2) + 63) / 64 ∧ I' 82 20 = 0 ∧ ym_PW I' ∧ ym_S0 I' ∧ I' 82 30 = 0 ∧ ∀ m : Int, 0 ≤ m → m < 5 → I' 101 m.toNat = 0 ∧ I' 102 m.toNat = 0) := by
        intro m50
        induction m50 using Nat.strongRecOn with
        | _ m50 ih50 =>
        intro k Jp fJp k2 k3 hp1 hp2 hm50
        refine yi_G_run 2 (52, [(1, .inl k), (0, .inr (.inr (some 82)))], [.inl 5, .inl k], (Jp, L3, X), 0, 0) (fun _ => rfl) ?_
        by_cases h8 : 5 ≤ k
        · refine yi_G_if2 true rfl (yi_ge_t h8) ?_
          refine yi_G_run 2 (84, [(1, .inl k), (0, .inr (.inr (some 82)))], [.inl 0, .inr (.inr (some 82))], (Jp, L3, X), 0, 0) (fun _ => rfl) ?_
          refine yi_G_put (87, [(1, .inl k), (0, .inr (.inr (some 82)))], [], ((yi_u Jp 82 30 0), L3, X), 0, 0) rfl (ym_pi hS rfl rfl) ?_
          generalize w10 : yi_u Jp 82 30 0 = I9
          refine yi_G_run 2 (89, [(1, .inl 0), (0, .inr (.inr (some 82)))], [], (I9, L3, X), 0, 0) (fun _ => rfl) ?_
          have s0p : ym_S0 Jp := by
            have q0 := hp2 0 (by omega) (by omega) (by omega)
            have q1 := hp1
            have q2 := hp2 2 (by omega) (by omega) (by omega)
            rw [if_neg (by omega)] at q0 q2
            refine ⟨by rw [show Jp 100 0 = 0 from q0]; omega, by rw [q1]; omega, by rw [show Jp 100 2 = 0 from q2]; omega, fun s a b => ?_, fun q a b => ?_⟩
            · have := hp2 (8 + 3 * s) (by omega) (by omega) (by omega)
              rw [if_neg (by omega)] at this
              omega
            · have := hp2 (44 + q) (by omega) (by omega) (by omega)
              rw [if_pos (by omega)] at this
              omega
          have pt89 : ∀ (m : Nat) (k : Int) (Jm : Nat → Nat → Int), (∀ p k, p ≠ 101 ∧ p ≠ 102 → Jm p k = I9 p k) → (0 ≤ k) → (k ≤ 5) → (∀ j : Int, 0 ≤ j → j < k → Jm 101 j.toNat = 0 ∧ Jm 102 j.toNat = 0) → (5 - k).toNat = m → yi_G zi_Ms d zi_m4 (89, [(1, .inl k), (0, .inr (.inr (some 82)))], [], (Jm, L3, X), 0, 0) (fun r => ∃ I' L', r = (none, (I', L', X), 0, 0) ∧ (∀ p k, p ≠ 98 ∧ p ≠ 99 ∧ p ≠ 96 ∧ ¬ (p = 82 ∧ k = 20) ∧ ¬ (p = 82 ∧ k = 24) ∧ ¬ (p = 82 ∧ k = 25) ∧ ¬ (p = 82 ∧ k = 28) ∧ p ≠ 100 ∧ p ≠ 101 ∧ p ≠ 102 ∧ ¬ (p = 82 ∧ k = 30) → I' p k = I p k) ∧ (∀ p k, p ≠ 97 → L' p k = L p k) ∧ I' 82 24 = ym_fo (I 88 0) (I 88 1) (I 88 2) ∧ I' 82 25 = (ym_fo (I 88 0) (I 88 1) (I 88 2) + 63) / 64 ∧ I' 82 20 = 0 ∧ ym_PW I' ∧ ym_S0 I' ∧ I' 82 30 = 0 ∧ ∀ m : Int, 0 ≤ m → m < 5 → I' 101 m.toNat = 0 ∧ I' 102 m.toNat = 0) := by
            intro m89
            induction m89 using Nat.strongRecOn with
            | _ m89 ih89 =>
            intro k Jm fJm k4 k5 hmk hm89
            refine yi_G_run 2 (91, [(1, .inl k), (0, .inr (.inr (some 82)))], [.inl 5, .inl k], (Jm, L3, X), 0, 0) (fun _ => rfl) ?_
            by_cases h11 : 5 ≤ k
            · refine yi_G_if2 true rfl (yi_ge_t h11) ?_
              exact yi_G_retv rfl rfl (⟨_, _, rfl, (fun p k hp => by rw [fJm p k (by omega), ← w10, yi_u_ne _ _ (fun z => by omega), fJp p k (by omega), ← w7, yi_u_ne _ _ (fun z => by omega), fJa p k (by omega), f2 p k (by omega)]), (fun p k hp => by rw [f4 p k (by omega)]), (by rw [fJm 82 24 (by omega), ← w10, yi_u_ne _ _ (by omega), fJp 82 24 (by omega), ← w7, yi_u_ne _ _ (by omega), fJa 82 24 (by omega)]; exact v24), (by rw [fJm 82 25 (by omega), ← w10, yi_u_ne _ _ (by omega), fJp 82 25 (by omega), ← w7, yi_u_ne _ _ (by omega), fJa 82 25 (by omega)]; exact v25), (by rw [fJm 82 20 (by omega), ← w10, yi_u_ne _ _ (by omega), fJp 82 20 (by omega), ← w7, yi_u_ne _ _ (by omega), fJa 82 20 (by omega)]; exact v20), (ym_PW_t (fun k => by rw [fJm 88 k (by omega), ← w10, yi_u_ne _ _ (fun z => absurd z.1 (by decide)), fJp 88 k (by omega), ← w7, yi_u_ne _ _ (fun z => absurd z.1 (by decide)), fJa 88 k (by omega)]) (fun k => by rw [fJm 98 k (by omega), ← w10, yi_u_ne _ _ (fun z => absurd z.1 (by decide)), fJp 98 k (by omega), ← w7, yi_u_ne _ _ (fun z => absurd z.1 (by decide)), fJa 98 k (by omega)]) pwn), ym_S0_t (fun k => by rw [fJm 100 k (by omega), ← w10, yi_u_ne _ _ (by omega)]) s0p, (by rw [fJm 82 30 (by omega), ← w10, yi_u_eq]), fun m a b => hmk m a (by omega)⟩)
            · refine yi_G_if2 false rfl (yi_ge_f h11) ?_
              refine yi_G_run 1 (95, [(1, .inl k), (0, .inr (.inr (some 82)))], [.inr (.inr (some 82))], (Jm, L3, X), 0, 0) (fun _ => rfl) ?_
              refine yi_G_get (98, [(1, .inl k), (0, .inr (.inr (some 82)))], [.inr (.inr (some 102))], (Jm, L3, X), 0, 0) rfl (ym_gr hS 19 rfl rfl rfl) ?_
              refine yi_G_run 2 (100, [(1, .inl k), (0, .inr (.inr (some 82)))], [.inl 0, .inl k, .inr (.inr (some 102))], (Jm, L3, X), 0, 0) (fun _ => rfl) ?_
              refine yi_G_bast (101, [(1, .inl k), (0, .inr (.inr (some 82)))], [], ((yi_u Jm 102 (k.toNat) 0), L3, X), 0, 0) rfl (ym_sb hS 19 rfl (by omega) (by omega) (by omega)) ?_
              generalize w13 : yi_u Jm 102 (k.toNat) 0 = I12
              refine yi_G_run 1 (102, [(1, .inl k), (0, .inr (.inr (some 82)))], [.inr (.inr (some 82))], (I12, L3, X), 0, 0) (fun _ => rfl) ?_
              refine yi_G_get (105, [(1, .inl k), (0, .inr (.inr (some 82)))], [.inr (.inr (some 101))], (I12, L3, X), 0, 0) rfl (ym_gr hS 18 rfl rfl rfl) ?_
              refine yi_G_run 2 (107, [(1, .inl k), (0, .inr (.inr (some 82)))], [.inl 0, .inl k, .inr (.inr (some 101))], (I12, L3, X), 0, 0) (fun _ => rfl) ?_
              refine yi_G_bast (108, [(1, .inl k), (0, .inr (.inr (some 82)))], [], ((yi_u I12 101 (k.toNat) 0), L3, X), 0, 0) rfl (ym_sb hS 18 rfl (by omega) (by omega) (by omega)) ?_
              generalize w15 : yi_u I12 101 (k.toNat) 0 = I14
              refine yi_G_iinc [(1, .inl (k + 1)), (0, .inr (.inr (some 82)))] rfl rfl rfl (by rw [show yi_w (k + 1) = k + 1 from (yi_wn (by omega) (by omega)).trans (by omega)]; rfl) ?_
              refine yi_G_run 1 (89, [(1, .inl (k + 1)), (0, .inr (.inr (some 82)))], [], (I14, L3, X), 0, 0) (fun _ => rfl) ?_
              exact ih89 _ (by omega) (k + 1) I14 (fun p k hp => by rw [← w15, yi_u_ne _ _ (fun z => by omega), ← w13, yi_u_ne _ _ (fun z => by omega), fJm p k (by omega)]) (by omega) (by omega) (fun j a b => by
          rw [← w15, ← w13]
          by_cases e : j = k
          · subst e; rw [yi_u_eq, yi_u_ne _ _ (by omega), yi_u_eq]; exact ⟨rfl, rfl⟩
          · rw [yi_u_ne _ _ (by omega), yi_u_ne _ _ (by omega), yi_u_ne _ _ (by omega), yi_u_ne _ _ (by omega)]; exact hmk j a (by omega)) rfl
          exact pt89 _ 0 I9 (fun _ _ _ => rfl) (by omega) (by omega) (fun j a b => absurd b (by omega)) rfl
        · refine yi_G_if2 false rfl (yi_ge_f h8) ?_
          refine yi_G_run 1 (56, [(1, .inl k), (0, .inr (.inr (some 82)))], [.inr (.inr (some 82))], (Jp, L3, X), 0, 0) (fun _ => rfl) ?_
          refine yi_G_get (59, [(1, .inl k), (0, .inr (.inr (some 82)))], [.inr (.inr (some 100))], (Jp, L3, X), 0, 0) rfl (ym_gr hS 17 rfl rfl rfl) ?_
          refine yi_G_run 2 (61, [(1, .inl k), (0, .inr (.inr (some 82)))], [.inl k, .inl 3, .inr (.inr (some 100))], (Jp, L3, X), 0, 0) (fun _ => rfl) ?_
          refine yi_G_iadd rfl (3 + k) (yi_wn (by omega) (by omega)) ?_
          refine yi_G_run 1 (63, [(1, .inl k), (0, .inr (.inr (some 82)))], [.inr (.inr (some 82)), .inl (3 + k), .inr (.inr (some 100))], (Jp, L3, X), 0, 0) (fun _ => rfl) ?_
          refine yi_G_get (66, [(1, .inl k), (0, .inr (.inr (some 82)))], [.inr (.inr (some 88)), .inl (3 + k), .inr (.inr (some 100))], (Jp, L3, X), 0, 0) rfl (ym_gr hS 5 rfl rfl rfl) ?_
          refine yi_G_run 3 (70, [(1, .inl k), (0, .inr (.inr (some 82)))], [.inl k, .inl 2, .inl 11, .inr (.inr (some 88)), .inl (3 + k), .inr (.inr (some 100))], (Jp, L3, X), 0, 0) (fun _ => rfl) ?_
          refine yi_G_imul rfl (2 * k) (yi_wn (by omega) (by omega)) ?_
          refine yi_G_iadd rfl (11 + (2 * k)) (yi_wn (by omega) (by omega)) ?_
          refine yi_G_run 1 (73, [(1, .inl k), (0, .inr (.inr (some 82)))], [.inl 1, .inl (11 + (2 * k)), .inr (.inr (some 88)), .inl (3 + k), .inr (.inr (some 100))], (Jp, L3, X), 0, 0) (fun _ => rfl) ?_
          refine yi_G_iadd rfl ((11 + (2 * k)) + 1) (yi_wn (by omega) (by omega)) ?_
          have r16 : Jp 88 (((11 + (2 * k)) + 1).toNat) = I 88 (((11 + (2 * k)) + 1).toNat) := by rw [fJp 88 (((11 + (2 * k)) + 1).toNat) (by omega), ← w7, yi_u_ne _ _ (by omega), fJa 88 (((11 + (2 * k)) + 1).toNat) (by omega), f2 88 (((11 + (2 * k)) + 1).toNat) (by omega)]
          refine yi_G_iald (75, [(1, .inl k), (0, .inr (.inr (some 82)))], [.inl (I 88 (((11 + (2 * k)) + 1).toNat)), .inl (3 + k), .inr (.inr (some 100))], (Jp, L3, X), 0, 0) rfl (ym_li hS 5 rfl (by omega) (by omega) r16) ?_
          refine yi_G_iast (76, [(1, .inl k), (0, .inr (.inr (some 82)))], [], ((yi_u Jp 100 ((3 + k).toNat) (I 88 (((11 + (2 * k)) + 1).toNat))), L3, X), 0, 0) rfl (ym_si hS 17 rfl (by omega) (by omega)) ?_
          generalize w18 : yi_u Jp 100 ((3 + k).toNat) (I 88 (((11 + (2 * k)) + 1).toNat)) = I17
          refine yi_G_iinc [(1, .inl (k + 1)), (0, .inr (.inr (some 82)))] rfl rfl rfl (by rw [show yi_w (k + 1) = k + 1 from (yi_wn (by omega) (by omega)).trans (by omega)]; rfl) ?_
          refine yi_G_run 1 (50, [(1, .inl (k + 1)), (0, .inr (.inr (some 82)))], [], (I17, L3, X), 0, 0) (fun _ => rfl) ?_
          exact ih50 _ (by omega) (k + 1) I17 (fun p k hp => by rw [← w18, yi_u_ne _ _ (fun z => by omega), fJp p k (by omega)]) (by omega) (by omega) (by rw [← w18, yi_u_ne _ _ (by omega)]; exact hp1) (fun j a b c => by rw [← w18, yi_u_ne _ _ (by omega)]; exact hp2 j a b c) rfl
      exact pt50 _ 0 I6 (fun _ _ _ => rfl) (by omega) (by omega) (by rw [← w7, yi_u_eq]) (fun j a b c => by rw [← w7, yi_u_ne _ _ (by omega)]; exact hst j a (by omega)) rfl
    · refine yi_G_if2 false rfl (yi_ge_f h5) ?_
      refine yi_G_run 1 (13, [(1, .inl k), (0, .inr (.inr (some 82)))], [.inr (.inr (some 82))], (Ja, L3, X), 0, 0) (fun _ => rfl) ?_
      refine yi_G_get (16, [(1, .inl k), (0, .inr (.inr (some 82)))], [.inr (.inr (some 100))], (Ja, L3, X), 0, 0) rfl (ym_gr hS 17 rfl rfl rfl) ?_
      refine yi_G_run 3 (20, [(1, .inl k), (0, .inr (.inr (some 82)))], [.inl 44, .inl k, .inl k, .inr (.inr (some 100))], (Ja, L3, X), 0, 0) (fun _ => rfl) ?_
      by_cases h19 : k < 44
      · refine yi_G_if2 true rfl (yi_lt_t h19) ?_
        refine yi_G_run 1 (34, [(1, .inl k), (0, .inr (.inr (some 82)))], [.inl 0, .inl k, .inr (.inr (some 100))], (Ja, L3, X), 0, 0) (fun _ => rfl) ?_
        refine yi_G_iast (35, [(1, .inl k), (0, .inr (.inr (some 82)))], [], ((yi_u Ja 100 (k.toNat) 0), L3, X), 0, 0) rfl (ym_si hS 17 rfl (by omega) (by omega)) ?_
        generalize w21 : yi_u Ja 100 (k.toNat) 0 = I20
        refine yi_G_iinc [(1, .inl (k + 1)), (0, .inr (.inr (some 82)))] rfl rfl rfl (by rw [show yi_w (k + 1) = k + 1 from (yi_wn (by omega) (by omega)).trans (by omega)]; rfl) ?_
        refine yi_G_run 1 (6, [(1, .inl (k + 1)), (0, .inr (.inr (some 82)))], [], (I20, L3, X), 0, 0) (fun _ => rfl) ?_
        exact ih6 _ (by omega) (k + 1) I20 (fun p k hp => by rw [← w21, yi_u_ne _ _ (fun z => by omega), fJa p k (by omega)]) (by omega) (by omega) (fun j a b => by
          rw [← w21]
          by_cases e : j = k
          · subst e; rw [yi_u_eq]; first | rw [if_pos (by omega)] | rw [if_neg (by omega)]
          · rw [yi_u_ne _ _ (by omega)]; exact hst j a (by omega)) rfl
      · refine yi_G_if2 false rfl (yi_lt_f h19) ?_
        refine yi_G_run 2 (26, [(1, .inl k), (0, .inr (.inr (some 82)))], [.inl 68, .inl k, .inl k, .inr (.inr (some 100))], (Ja, L3, X), 0, 0) (fun _ => rfl) ?_
        by_cases h22 : 68 ≤ k
        · refine yi_G_if2 true rfl (yi_ge_t h22) ?_
          refine yi_G_run 1 (34, [(1, .inl k), (0, .inr (.inr (some 82)))], [.inl 0, .inl k, .inr (.inr (some 100))], (Ja, L3, X), 0, 0) (fun _ => rfl) ?_
          refine yi_G_iast (35, [(1, .inl k), (0, .inr (.inr (some 82)))], [], ((yi_u Ja 100 (k.toNat) 0), L3, X), 0, 0) rfl (ym_si hS 17 rfl (by omega) (by omega)) ?_
          generalize w24 : yi_u Ja 100 (k.toNat) 0 = I23
          refine yi_G_iinc [(1, .inl (k + 1)), (0, .inr (.inr (some 82)))] rfl rfl rfl (by rw [show yi_w (k + 1) = k + 1 from (yi_wn (by omega) (by omega)).trans (by omega)]; rfl) ?_
          refine yi_G_run 1 (6, [(1, .inl (k + 1)), (0, .inr (.inr (some 82)))], [], (I23, L3, X), 0, 0) (fun _ => rfl) ?_
          exact ih6 _ (by omega) (k + 1) I23 (fun p k hp => by rw [← w24, yi_u_ne _ _ (fun z => by omega), fJa p k (by omega)]) (by omega) (by omega) (fun j a b => by
          rw [← w24]
          by_cases e : j = k
          · subst e; rw [yi_u_eq]; first | rw [if_pos (by omega)] | rw [if_neg (by omega)]
          · rw [yi_u_ne _ _ (by omega)]; exact hst j a (by omega)) rfl
        · refine yi_G_if2 false rfl (yi_ge_f h22) ?_
          refine yi_G_run 2 (34, [(1, .inl k), (0, .inr (.inr (some 82)))], [.inl (-1), .inl k, .inr (.inr (some 100))], (Ja, L3, X), 0, 0) (fun _ => rfl) ?_
          refine yi_G_iast (35, [(1, .inl k), (0, .inr (.inr (some 82)))], [], ((yi_u Ja 100 (k.toNat) (-1)), L3, X), 0, 0) rfl (ym_si hS 17 rfl (by omega) (by omega)) ?_
          generalize w26 : yi_u Ja 100 (k.toNat) (-1) = I25
          refine yi_G_iinc [(1, .inl (k + 1)), (0, .inr (.inr (some 82)))] rfl rfl rfl (by rw [show yi_w (k + 1) = k + 1 from (yi_wn (by omega) (by omega)).trans (by omega)]; rfl) ?_
          refine yi_G_run 1 (6, [(1, .inl (k + 1)), (0, .inr (.inr (some 82)))], [], (I25, L3, X), 0, 0) (fun _ => rfl) ?_
          exact ih6 _ (by omega) (k + 1) I25 (fun p k hp => by rw [← w26, yi_u_ne _ _ (fun z => by omega), fJa p k (by omega)]) (by omega) (by omega) (fun j a b => by
          rw [← w26]
          by_cases e : j = k
          · subst e; rw [yi_u_eq]; first | rw [if_pos (by omega)] | rw [if_neg (by omega)]
          · rw [yi_u_ne _ _ (by omega)]; exact hst j a (by omega)) rfl
  exact pt6 _ 0 I1 (fun _ _ _ => rfl) (by omega) (by omega) (fun j a b => absurd b (by omega)) rfl
