/-! Futures, clauses. -/
theorem c_laysFuture (D : Nat) (hD : 2 ≤ D) {I L : Nat → Nat → Int} {X : ym_X} (hS : ym_S X) {f : Int} (hLR : ym_LR I) (hPW : ym_PW I) (h0 : 0 ≤ f) (h1 : f ≤ 2147483647) : yi_E zi_Ms D 76 [.inr (.inr (some 82)), .inl f] (I, L, X) (fun r => ∃ I', r = (none, (I', L, X), 0, 0) ∧ (∀ p k, p ≠ 99 → I' p k = I p k) ∧ ∀ j : Int, 0 ≤ j → j < I 88 0 * I 88 1 → 1 ≤ I 88 2 → 0 ≤ I' 99 j.toNat ∧ I' 99 j.toNat < I 88 2) := by
  obtain ⟨d, rfl⟩ : ∃ d, D = d + 1 := ⟨D - 1, by omega⟩
  refine yi_E_of (M := zi_m76) rfl rfl ?_
  obtain ⟨l0, l1, l2, l3, l4, l5⟩ := id hLR
  have m1 := yi_mb (a := I 88 0) (b := I 88 1) (A := 6) (B := 4) (by omega) (by omega) (by omega) (by omega)
  have pt23 : ∀ (m : Nat) (k : Int) (n : Int) (I1 : Nat → Nat → Int), (0 ≤ k) → (k ≤ n) → ((I 88 2 = 0 ∧ n = 0) ∨ (¬ I 88 2 = 0 ∧ n = I 88 0 * I 88 1)) → (∀ p k, p ≠ 99 → I1 p k = I p k) → (∀ j : Int, 0 ≤ j → j < k → 0 ≤ I1 99 j.toNat ∧ I1 99 j.toNat < I 88 2) → (n - k).toNat = m → yi_G zi_Ms d zi_m76 (23, [(3, .inl k), (2, .inl n), (0, .inr (.inr (some 82))), (1, .inl f)], [], (I1, L, X), 0, 0) (fun r => ∃ I', r = (none, (I', L, X), 0, 0) ∧ (∀ p k, p ≠ 99 → I' p k = I p k) ∧ ∀ j : Int, 0 ≤ j → j < I 88 0 * I 88 1 → 1 ≤ I 88 2 → 0 ≤ I' 99 j.toNat ∧ I' 99 j.toNat < I 88 2) := by
    intro m
    induction m using Nat.strongRecOn with
    | _ m ih =>
    intro k n I1 k0 k1 hn fr hh hm
    refine yi_G_run 2 (25, [(3, .inl k), (2, .inl n), (0, .inr (.inr (some 82))), (1, .inl f)], [.inl n, .inl k], (I1, L, X), 0, 0) (fun _ => rfl) ?_
    by_cases h1 : n ≤ k
    · refine yi_G_if2 true rfl (yi_ge_t h1) ?_
      exact yi_G_retv rfl rfl (⟨_, rfl, fr, fun j a b c => hh j a (by omega)⟩)
    · refine yi_G_if2 false rfl (yi_ge_f h1) ?_
      refine yi_G_run 1 (29, [(3, .inl k), (2, .inl n), (0, .inr (.inr (some 82))), (1, .inl f)], [.inr (.inr (some 82))], (I1, L, X), 0, 0) (fun _ => rfl) ?_
      refine yi_G_get (32, [(3, .inl k), (2, .inl n), (0, .inr (.inr (some 82))), (1, .inl f)], [.inr (.inr (some 99))], (I1, L, X), 0, 0) rfl (ym_gr hS 16 rfl rfl rfl) ?_
      refine yi_G_run 3 (35, [(3, .inl k), (2, .inl n), (0, .inr (.inr (some 82))), (1, .inl f)], [.inr (.inr (some 82)), .inl f, .inl k, .inr (.inr (some 99))], (I1, L, X), 0, 0) (fun _ => rfl) ?_
      refine yi_G_get (38, [(3, .inl k), (2, .inl n), (0, .inr (.inr (some 82))), (1, .inl f)], [.inr (.inr (some 98)), .inl f, .inl k, .inr (.inr (some 99))], (I1, L, X), 0, 0) rfl (ym_gr hS 15 rfl rfl rfl) ?_
      refine yi_G_run 1 (39, [(3, .inl k), (2, .inl n), (0, .inr (.inr (some 82))), (1, .inl f)], [.inl k, .inr (.inr (some 98)), .inl f, .inl k, .inr (.inr (some 99))], (I1, L, X), 0, 0) (fun _ => rfl) ?_
      have r2 : I1 98 (k.toNat) = I 98 (k.toNat) := by rw [fr 98 _ (by decide)]
      refine yi_G_iald (40, [(3, .inl k), (2, .inl n), (0, .inr (.inr (some 82))), (1, .inl f)], [.inl (I 98 (k.toNat)), .inl f, .inl k, .inr (.inr (some 99))], (I1, L, X), 0, 0) rfl (ym_li hS 15 rfl (by omega) (by omega) r2) ?_
      have hp := hPW k k0 (by omega)
      have hq := yi_db h0 hp
      refine yi_G_idiv rfl (by omega) (f / (I 98 (k.toNat))) (yi_dv (by omega) rfl (by omega) (by omega)) ?_
      refine yi_G_run 1 (42, [(3, .inl k), (2, .inl n), (0, .inr (.inr (some 82))), (1, .inl f)], [.inr (.inr (some 82)), .inl (f / (I 98 (k.toNat))), .inl k, .inr (.inr (some 99))], (I1, L, X), 0, 0) (fun _ => rfl) ?_
      have r3 : I1 88 2 = I 88 2 := by rw [fr 88 _ (by decide)]
      refine yi_G_callv rfl rfl (ym_rcv hS) rfl (c_events d (by omega) hS r3) ?_
      rintro _ rfl
      show yi_G zi_Ms d zi_m76 (45, [(3, .inl k), (2, .inl n), (0, .inr (.inr (some 82))), (1, .inl f)], [.inl (I 88 2), .inl (f / (I 98 (k.toNat))), .inl k, .inr (.inr (some 99))], (I1, L, X), 0, 0) _
      refine yi_G_irem rfl (by omega) ((f / (I 98 (k.toNat))) % (I 88 2)) (yi_md (by omega) rfl) ?_
      refine yi_G_iast (47, [(3, .inl k), (2, .inl n), (0, .inr (.inr (some 82))), (1, .inl f)], [], ((yi_u I1 99 (k.toNat) ((f / (I 98 (k.toNat))) % (I 88 2))), L, X), 0, 0) rfl (ym_si hS 16 rfl (by omega) (by omega)) ?_
      generalize w5 : yi_u I1 99 (k.toNat) ((f / (I 98 (k.toNat))) % (I 88 2)) = I4
      refine yi_G_iinc [(3, .inl (k + 1)), (2, .inl n), (0, .inr (.inr (some 82))), (1, .inl f)] rfl rfl rfl (by rw [show yi_w (k + 1) = k + 1 from (yi_wn (by omega) (by omega)).trans (by omega)]; rfl) ?_
      refine yi_G_run 1 (23, [(3, .inl (k + 1)), (2, .inl n), (0, .inr (.inr (some 82))), (1, .inl f)], [], (I4, L, X), 0, 0) (fun _ => rfl) ?_
      exact ih _ (by omega) (k + 1) n I4 (by omega) (by omega) (by omega) (fun p k hp => by rw [← w5, yi_u_ne _ _ (fun z => hp z.1), fr p k hp]) (fun j a b => by
          rw [← w5]
          by_cases e : j = k
          · subst e; rw [yi_u_eq]; exact ⟨Int.emod_nonneg _ (by omega), Int.emod_lt_of_pos _ (by omega)⟩
          · rw [yi_u_ne _ _ (fun z => e (by omega))]; exact hh j a (by omega)) rfl
  show yi_G zi_Ms d zi_m76 (0, [(0, .inr (.inr (some 82))), (1, .inl f)], [], (I, L, X), 0, 0) _
  refine yi_G_run 1 (1, [(0, .inr (.inr (some 82))), (1, .inl f)], [.inr (.inr (some 82))], (I, L, X), 0, 0) (fun _ => rfl) ?_
  refine yi_G_callv rfl rfl (ym_rcv hS) rfl (c_events d (by omega) hS rfl) ?_
  rintro _ rfl
  show yi_G zi_Ms d zi_m76 (4, [(0, .inr (.inr (some 82))), (1, .inl f)], [.inl (I 88 2)], (I, L, X), 0, 0) _
  by_cases h6 : (I 88 2) = 0
  · refine yi_G_if1 false rfl (yi_ne_f h6) ?_
    refine yi_G_run 5 (23, [(3, .inl 0), (2, .inl 0), (0, .inr (.inr (some 82))), (1, .inl f)], [], (I, L, X), 0, 0) (fun _ => rfl) ?_
    exact pt23 _  0 0 I (by omega) (by omega) (by omega) (fun _ _ _ => rfl) (fun j a b => absurd b (by omega)) rfl
  · refine yi_G_if1 true rfl (yi_ne_t h6) ?_
    refine yi_G_run 1 (12, [(0, .inr (.inr (some 82))), (1, .inl f)], [.inr (.inr (some 82))], (I, L, X), 0, 0) (fun _ => rfl) ?_
    refine yi_G_callv rfl rfl (ym_rcv hS) rfl (c_days d (by omega) hS rfl) ?_
    rintro _ rfl
    show yi_G zi_Ms d zi_m76 (15, [(0, .inr (.inr (some 82))), (1, .inl f)], [.inl (I 88 0)], (I, L, X), 0, 0) _
    refine yi_G_run 1 (16, [(0, .inr (.inr (some 82))), (1, .inl f)], [.inr (.inr (some 82)), .inl (I 88 0)], (I, L, X), 0, 0) (fun _ => rfl) ?_
    refine yi_G_callv rfl rfl (ym_rcv hS) rfl (c_people d (by omega) hS rfl) ?_
    rintro _ rfl
    show yi_G zi_Ms d zi_m76 (19, [(0, .inr (.inr (some 82))), (1, .inl f)], [.inl (I 88 1), .inl (I 88 0)], (I, L, X), 0, 0) _
    refine yi_G_imul rfl ((I 88 0) * (I 88 1)) (yi_wn (by omega) (by omega)) ?_
    refine yi_G_run 3 (23, [(3, .inl 0), (2, .inl ((I 88 0) * (I 88 1))), (0, .inr (.inr (some 82))), (1, .inl f)], [], (I, L, X), 0, 0) (fun _ => rfl) ?_
    exact pt23 _  0 ((I 88 0) * (I 88 1)) I (by omega) (by omega) (by omega) (fun _ _ _ => rfl) (fun j a b => absurd b (by omega)) rfl
