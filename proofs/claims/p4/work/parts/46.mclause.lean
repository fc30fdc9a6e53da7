/-! Futures, clauses. -/
theorem c_laysFuture (D : Nat) (hD : 2 ≤ D) {I L : Nat → Nat → Int} {X : ym_X} (hS : ym_S X) {f : Int} (hLR : ym_LR I) (hPW : ym_PW I) (h0 : 0 ≤ f) (h1 : f ≤ 2147483647) : yi_E zi_Ms D 76 [.inr (.inr (some 82)), .inl f] (I, L, X) (fun r => ∃ I', r = (none, (I', L, X), 0, 0) ∧ (∀ p k, p ≠ 99 → I' p k = I p k) ∧ ∀ j : Int, 0 ≤ j → j < I 88 0 * I 88 1 → 1 ≤ I 88 2 → 0 ≤ I' 99 j.toNat ∧ I' 99 j.toNat < I 88 2) := by
  obtain ⟨d, rfl⟩ : ∃ d, D = d + 1 := ⟨D - 1, by omega⟩
  refine yi_E_of (M := zi_m76) rfl rfl ?_
  obtain ⟨l0, l1, l2, l3, l4, l5⟩ := id hLR
  have m1 := yi_mb (a := I 88 0) (b := I 88 1) (A := 6) (B := 4) (by omega) (by omega) (by omega) (by omega)
  have pt23 : ∀ (m : Nat) (k : Int) (n : Int) (I1 : Nat → Nat → Int), (0 ≤ k) → (k ≤ n) → ((I 88 2 = 0 ∧ n = 0) ∨ (¬ I 88 2 = 0 ∧ n = I 88 0 * I 88 1)) → (∀ p k, p ≠ 99 → I1 p k = I p k) → (∀ j : Int, 0 ≤ j → j < k → 0 ≤ I1 99 j.toNat ∧ I1 99 j.toNat < I 88 2) → (n - k).toNat = m → yi_G zi_Ms d zi_m76 (23, [(3, .inl k), (2, .inl n), (0, .inr (.inr (some 82))), (1, .inl f)], [], (I1, L, X), 0, 0) (fun r => ∃ I', r = (none, (I', L, X), 0, 0) ∧ (∀ p k, p ≠ 99 → I' p k = I p k) ∧ ∀ j : Int, 0 ≤ j → j < I 88 0 * I 88 1 → 1 ≤ I 88 2 → 0 ≤ I' 99 j.toNat ∧ I' 99 j.toNat < I 88 2) := by
    intro m23
    induction m23 using Nat.strongRecOn with
    | _ m23 ih23 =>
    intro k n I1 k0 k1 hn fr hh hm23
    refine yi_G_run 2 (25, [(3, .inl k), (2, .inl n), (0, .inr (.inr (some 82))), (1, .inl f)], [.inl n, .inl k], (I1, L, X), 0, 0) (fun _ => rfl) ?_
    by_cases h1 : n ≤ k
    · refine yi_G_if2 true rfl (yi_ge_t h1) ?_
      exact yi_G_retv rfl rfl (⟨_, rfl, fr, fun j a b c => hh j a (by omega)⟩)
    · refine yi_G_if2 false rfl (yi_ge_f h1) ?_
      refine yi_G_run 1 (29, [(3, .inl k), (2, .inl n), (0, .inr (.inr (some 82))), (1, .inl f)], [.inr (.inr (some 82))], (I1, L, X), 0, 0) (fun _ => rfl) ?_
      refine yi_G_get (32, [(3, .inl k), (2, .inl n), (0, .inr (.inr (some 82))), (1, .inl f)], [.inr (.inr (some 99))], (I1, L, X), 0, 0) rfl (ym_gr hS 16 rfl rfl rfl) ?_
      refine yi_G_run 3 (35, [(3, .inl k), (2, .inl n), (0, .inr (.inr (some 82))), (1, .inl f)], [.inr (.inr (some 82)), .inl f, .inl k, .inr (.inr (some 99))], (I1, L, X), 0, 0) (fun _ => rfl) ?_
      refine yi_G_get (38, [(3, .inl k), (2, .inl n), (0, .inr (.inr (some 82))), (1, .inl f)], [.inr (.inr (some 98)), .inl f, .inl k, .inr (.inr (some 99))], (I1, L, X), 0, 0) rfl (ym_gr hS 15 rfl rfl rfl) ?_
      refine yi_G_run 1 (39, [(3, .inl k), (2, .inl n), (0, .inr (.inr (some 82))), (1, .inl f)], [.inl k, .inr (.inr (some 98)), .inl f, .inl k, .inr (.inr (some 99))], (I1, L, X), 0, 0) (fun _ => rfl) ?_
      have r2 : I1 98 (k.toNat) = I 98 (k.toNat) := by rw [fr 98 (k.toNat) (by omega)]
      refine yi_G_iald (40, [(3, .inl k), (2, .inl n), (0, .inr (.inr (some 82))), (1, .inl f)], [.inl (I 98 (k.toNat)), .inl f, .inl k, .inr (.inr (some 99))], (I1, L, X), 0, 0) rfl (ym_li hS 15 rfl (by omega) (by omega) r2) ?_
      have hp := hPW k k0 (by omega) (by omega)
      have hq := yi_db h0 hp
      refine yi_G_idiv rfl (by omega) (f / (I 98 (k.toNat))) (yi_dv (by omega) rfl (by omega) (by omega)) ?_
      refine yi_G_run 1 (42, [(3, .inl k), (2, .inl n), (0, .inr (.inr (some 82))), (1, .inl f)], [.inr (.inr (some 82)), .inl (f / (I 98 (k.toNat))), .inl k, .inr (.inr (some 99))], (I1, L, X), 0, 0) (fun _ => rfl) ?_
      have r3 : I1 88 2 = I 88 2 := by rw [fr 88 (2) (by omega)]
      refine yi_G_callv rfl rfl (ym_rcv hS) rfl (c_events d (by omega) hS r3) ?_
      rintro _ rfl
      show yi_G zi_Ms d zi_m76 (45, [(3, .inl k), (2, .inl n), (0, .inr (.inr (some 82))), (1, .inl f)], [.inl (I 88 2), .inl (f / (I 98 (k.toNat))), .inl k, .inr (.inr (some 99))], (I1, L, X), 0, 0) _
      refine yi_G_irem rfl (by omega) ((f / (I 98 (k.toNat))) % (I 88 2)) (yi_md (by omega) rfl) ?_
      refine yi_G_iast (47, [(3, .inl k), (2, .inl n), (0, .inr (.inr (some 82))), (1, .inl f)], [], ((yi_u I1 99 (k.toNat) ((f / (I 98 (k.toNat))) % (I 88 2))), L, X), 0, 0) rfl (ym_si hS 16 rfl (by omega) (by omega)) ?_
      generalize w5 : yi_u I1 99 (k.toNat) ((f / (I 98 (k.toNat))) % (I 88 2)) = I4
      refine yi_G_iinc [(3, .inl (k + 1)), (2, .inl n), (0, .inr (.inr (some 82))), (1, .inl f)] rfl rfl rfl (by rw [show yi_w (k + 1) = k + 1 from (yi_wn (by omega) (by omega)).trans (by omega)]; rfl) ?_
      refine yi_G_run 1 (23, [(3, .inl (k + 1)), (2, .inl n), (0, .inr (.inr (some 82))), (1, .inl f)], [], (I4, L, X), 0, 0) (fun _ => rfl) ?_
      exact ih23 _ (by omega) (k + 1) n I4 (by omega) (by omega) (by omega) (fun p k hp => by rw [← w5, yi_u_ne _ _ (fun z => by omega), fr p k (by omega)]) (fun j a b => by
          rw [← w5]
          by_cases e : j = k
          · subst e; rw [yi_u_eq]; exact ⟨Int.emod_nonneg _ (by omega), Int.emod_lt_of_pos _ (by omega)⟩
          · rw [yi_u_ne _ _ (fun z => e (by omega))]; exact hh j a (by omega)) rfl
  show yi_G zi_Ms d zi_m76 (0, [(0, .inr (.inr (some 82))), (1, .inl f)], [], (I, L, X), 0, 0) _
  refine yi_G_run 1 (1, [(0, .inr (.inr (some 82))), (1, .inl f)], [.inr (.inr (some 82))], (I, L, X), 0, 0) (fun _ => rfl) ?_
  refine yi_G_callv rfl rfl (ym_rcv hS) rfl (c_events d (by omega) hS rfl) ?_
  rintro _ rfl
  show yi_G zi_Ms d zi_m76 (4, [(0, .inr (.inr (some 82))), (1, .inl f)], [.inl (I 88 2)], (I, L, X), 0, 0) _
  by_cases h6 : (I 88 2) = 0
  · refine yi_G_if1 false rfl (yi_ne_f h6) ?_
    refine yi_G_run 5 (23, [(3, .inl 0), (2, .inl 0), (0, .inr (.inr (some 82))), (1, .inl f)], [], (I, L, X), 0, 0) (fun _ => rfl) ?_
    exact pt23 _  0 0 I (by omega) (by omega) (by omega) (fun _ _ _ => rfl) (fun j a b => absurd b (by omega)) rfl
  · refine yi_G_if1 true rfl (yi_ne_t h6) ?_
    refine yi_G_run 1 (12, [(0, .inr (.inr (some 82))), (1, .inl f)], [.inr (.inr (some 82))], (I, L, X), 0, 0) (fun _ => rfl) ?_
    refine yi_G_callv rfl rfl (ym_rcv hS) rfl (c_days d (by omega) hS rfl) ?_
    rintro _ rfl
    show yi_G zi_Ms d zi_m76 (15, [(0, .inr (.inr (some 82))), (1, .inl f)], [.inl (I 88 0)], (I, L, X), 0, 0) _
    refine yi_G_run 1 (16, [(0, .inr (.inr (some 82))), (1, .inl f)], [.inr (.inr (some 82)), .inl (I 88 0)], (I, L, X), 0, 0) (fun _ => rfl) ?_
    refine yi_G_callv rfl rfl (ym_rcv hS) rfl (c_people d (by omega) hS rfl) ?_
    rintro _ rfl
    show yi_G zi_Ms d zi_m76 (19, [(0, .inr (.inr (some 82))), (1, .inl f)], [.inl (I 88 1), .inl (I 88 0)], (I, L, X), 0, 0) _
    refine yi_G_imul rfl ((I 88 0) * (I 88 1)) (yi_wn (by omega) (by omega)) ?_
    refine yi_G_run 3 (23, [(3, .inl 0), (2, .inl ((I 88 0) * (I 88 1))), (0, .inr (.inr (some 82))), (1, .inl f)], [], (I, L, X), 0, 0) (fun _ => rfl) ?_
    exact pt23 _  0 ((I 88 0) * (I 88 1)) I (by omega) (by omega) (by omega) (fun _ _ _ => rfl) (fun j a b => absurd b (by omega)) rfl
theorem c_hasOn (D : Nat) (hD : 2 ≤ D) {I L : Nat → Nat → Int} {X : ym_X} (hS : ym_S X) {p ev da : Int} (hLR : ym_LR I) (h0 : 0 ≤ p) (h1 : p ≤ 3) (h2 : 1 ≤ da) (h3 : da ≤ 6) : yi_E zi_Ms D 38 [.inr (.inr (some 82)), .inl p, .inl ev, .inl da] (I, L, X) (fun r => r = (some (.inl 1), (I, L, X), 0, 0) ∨ r = (some (.inl 0), (I, L, X), 0, 0)) := by
  obtain ⟨d, rfl⟩ : ∃ d, D = d + 1 := ⟨D - 1, by omega⟩
  refine yi_E_of (M := zi_m38) rfl rfl ?_
  obtain ⟨l0, l1, l2, l3, l4, l5⟩ := id hLR
  have m1 := yi_mb (a := I 88 1) (b := da - 1) (A := 4) (B := 5) (by omega) (by omega) (by omega) (by omega)
  show yi_G zi_Ms d zi_m38 (0, [(0, .inr (.inr (some 82))), (1, .inl p), (2, .inl ev), (3, .inl da)], [], (I, L, X), 0, 0) _
  refine yi_G_run 1 (1, [(0, .inr (.inr (some 82))), (1, .inl p), (2, .inl ev), (3, .inl da)], [.inr (.inr (some 82))], (I, L, X), 0, 0) (fun _ => rfl) ?_
  refine yi_G_callv rfl rfl (ym_rcv hS) rfl (c_events d (by omega) hS rfl) ?_
  rintro _ rfl
  show yi_G zi_Ms d zi_m38 (4, [(0, .inr (.inr (some 82))), (1, .inl p), (2, .inl ev), (3, .inl da)], [.inl (I 88 2)], (I, L, X), 0, 0) _
  by_cases h1 : (I 88 2) ≤ 0
  · refine yi_G_if1 true rfl (yi_le_t h1) ?_
    refine yi_G_run 1 (31, [(0, .inr (.inr (some 82))), (1, .inl p), (2, .inl ev), (3, .inl da)], [.inl 0], (I, L, X), 0, 0) (fun _ => rfl) ?_
    exact yi_G_retb rfl rfl (by decide) (Or.inr rfl)
  · refine yi_G_if1 false rfl (yi_le_f h1) ?_
    refine yi_G_run 1 (8, [(0, .inr (.inr (some 82))), (1, .inl p), (2, .inl ev), (3, .inl da)], [.inr (.inr (some 82))], (I, L, X), 0, 0) (fun _ => rfl) ?_
    refine yi_G_get (11, [(0, .inr (.inr (some 82))), (1, .inl p), (2, .inl ev), (3, .inl da)], [.inr (.inr (some 99))], (I, L, X), 0, 0) rfl (ym_gr hS 16 rfl rfl rfl) ?_
    refine yi_G_run 1 (12, [(0, .inr (.inr (some 82))), (1, .inl p), (2, .inl ev), (3, .inl da)], [.inr (.inr (some 82)), .inr (.inr (some 99))], (I, L, X), 0, 0) (fun _ => rfl) ?_
    refine yi_G_callv rfl rfl (ym_rcv hS) rfl (c_people d (by omega) hS rfl) ?_
    rintro _ rfl
    show yi_G zi_Ms d zi_m38 (15, [(0, .inr (.inr (some 82))), (1, .inl p), (2, .inl ev), (3, .inl da)], [.inl (I 88 1), .inr (.inr (some 99))], (I, L, X), 0, 0) _
    refine yi_G_run 2 (17, [(0, .inr (.inr (some 82))), (1, .inl p), (2, .inl ev), (3, .inl da)], [.inl 1, .inl da, .inl (I 88 1), .inr (.inr (some 99))], (I, L, X), 0, 0) (fun _ => rfl) ?_
    refine yi_G_isub rfl (da - 1) (yi_wn (by omega) (by omega)) ?_
    refine yi_G_imul rfl ((I 88 1) * (da - 1)) (yi_wn (by omega) (by omega)) ?_
    refine yi_G_run 1 (20, [(0, .inr (.inr (some 82))), (1, .inl p), (2, .inl ev), (3, .inl da)], [.inl p, .inl ((I 88 1) * (da - 1)), .inr (.inr (some 99))], (I, L, X), 0, 0) (fun _ => rfl) ?_
    refine yi_G_iadd rfl (((I 88 1) * (da - 1)) + p) (yi_wn (by omega) (by omega)) ?_
    refine yi_G_iald (22, [(0, .inr (.inr (some 82))), (1, .inl p), (2, .inl ev), (3, .inl da)], [.inl (I 99 ((((I 88 1) * (da - 1)) + p).toNat))], (I, L, X), 0, 0) rfl (ym_li hS 16 rfl (by omega) (by omega) rfl) ?_
    refine yi_G_run 1 (23, [(0, .inr (.inr (some 82))), (1, .inl p), (2, .inl ev), (3, .inl da)], [.inl ev, .inl (I 99 ((((I 88 1) * (da - 1)) + p).toNat))], (I, L, X), 0, 0) (fun _ => rfl) ?_
    by_cases h2 : (I 99 ((((I 88 1) * (da - 1)) + p).toNat)) = ev
    · refine yi_G_if2 false rfl (yi_ne_f h2) ?_
      refine yi_G_run 2 (31, [(0, .inr (.inr (some 82))), (1, .inl p), (2, .inl ev), (3, .inl da)], [.inl 1], (I, L, X), 0, 0) (fun _ => rfl) ?_
      exact yi_G_retb rfl rfl (by decide) (Or.inl rfl)
    · refine yi_G_if2 true rfl (yi_ne_t h2) ?_
      refine yi_G_run 1 (31, [(0, .inr (.inr (some 82))), (1, .inl p), (2, .inl ev), (3, .inl da)], [.inl 0], (I, L, X), 0, 0) (fun _ => rfl) ?_
      exact yi_G_retb rfl rfl (by decide) (Or.inr rfl)
theorem c_firstDay (D : Nat) (hD : 3 ≤ D) {I L : Nat → Nat → Int} {X : ym_X} (hS : ym_S X) {p ev : Int} (hLR : ym_LR I) (h0 : 0 ≤ p) (h1 : p ≤ 3) : yi_E zi_Ms D 35 [.inr (.inr (some 82)), .inl p, .inl ev] (I, L, X) (fun r => ∃ z, r = (some (.inl z), (I, L, X), 0, 0) ∧ 1 ≤ z ∧ z ≤ 7) := by
  obtain ⟨d, rfl⟩ : ∃ d, D = d + 1 := ⟨D - 1, by omega⟩
  refine yi_E_of (M := zi_m35) rfl rfl ?_
  obtain ⟨l0, l1, l2, l3, l4, l5⟩ := id hLR
  have pt2 : ∀ (m : Nat) (k : Int), (1 ≤ k) → (k ≤ I 88 0 + 1) → (I 88 0 + 1 - k).toNat = m → yi_G zi_Ms d zi_m35 (2, [(3, .inl k), (0, .inr (.inr (some 82))), (1, .inl p), (2, .inl ev)], [], (I, L, X), 0, 0) (fun r => ∃ z, r = (some (.inl z), (I, L, X), 0, 0) ∧ 1 ≤ z ∧ z ≤ 7) := by
    intro m2
    induction m2 using Nat.strongRecOn with
    | _ m2 ih2 =>
    intro k k0 k1 hm2
    refine yi_G_run 2 (4, [(3, .inl k), (0, .inr (.inr (some 82))), (1, .inl p), (2, .inl ev)], [.inr (.inr (some 82)), .inl k], (I, L, X), 0, 0) (fun _ => rfl) ?_
    refine yi_G_callv rfl rfl (ym_rcv hS) rfl (c_days d (by omega) hS rfl) ?_
    rintro _ rfl
    show yi_G zi_Ms d zi_m35 (7, [(3, .inl k), (0, .inr (.inr (some 82))), (1, .inl p), (2, .inl ev)], [.inl (I 88 0), .inl k], (I, L, X), 0, 0) _
    by_cases h1 : (I 88 0) < k
    · refine yi_G_if2 true rfl (yi_gt_t h1) ?_
      refine yi_G_run 1 (27, [(3, .inl k), (0, .inr (.inr (some 82))), (1, .inl p), (2, .inl ev)], [.inl k], (I, L, X), 0, 0) (fun _ => rfl) ?_
      exact yi_G_reti rfl rfl (⟨_, rfl, by omega, by omega⟩)
    · refine yi_G_if2 false rfl (yi_gt_f h1) ?_
      refine yi_G_run 4 (14, [(3, .inl k), (0, .inr (.inr (some 82))), (1, .inl p), (2, .inl ev)], [.inl k, .inl ev, .inl p, .inr (.inr (some 82))], (I, L, X), 0, 0) (fun _ => rfl) ?_
      refine yi_G_callv rfl rfl (ym_rcv hS) rfl (c_hasOn d (by omega) hS hLR (by omega) (by omega) (by omega) (by omega)) ?_
      rintro _ (rfl | rfl)
      · show yi_G zi_Ms d zi_m35 (17, [(3, .inl k), (0, .inr (.inr (some 82))), (1, .inl p), (2, .inl ev)], [.inl 1], (I, L, X), 0, 0) _
        refine yi_G_if1 true rfl (by decide) ?_
        refine yi_G_run 1 (27, [(3, .inl k), (0, .inr (.inr (some 82))), (1, .inl p), (2, .inl ev)], [.inl k], (I, L, X), 0, 0) (fun _ => rfl) ?_
        exact yi_G_reti rfl rfl (⟨_, rfl, by omega, by omega⟩)
      · show yi_G zi_Ms d zi_m35 (17, [(3, .inl k), (0, .inr (.inr (some 82))), (1, .inl p), (2, .inl ev)], [.inl 0], (I, L, X), 0, 0) _
        refine yi_G_if1 false rfl (by decide) ?_
        refine yi_G_iinc [(3, .inl (k + 1)), (0, .inr (.inr (some 82))), (1, .inl p), (2, .inl ev)] rfl rfl rfl (by rw [show yi_w (k + 1) = k + 1 from (yi_wn (by omega) (by omega)).trans (by omega)]; rfl) ?_
        refine yi_G_run 1 (2, [(3, .inl (k + 1)), (0, .inr (.inr (some 82))), (1, .inl p), (2, .inl ev)], [], (I, L, X), 0, 0) (fun _ => rfl) ?_
        exact ih2 _ (by omega) (k + 1) (by omega) (by omega) rfl
  show yi_G zi_Ms d zi_m35 (0, [(0, .inr (.inr (some 82))), (1, .inl p), (2, .inl ev)], [], (I, L, X), 0, 0) _
  refine yi_G_run 2 (2, [(3, .inl 1), (0, .inr (.inr (some 82))), (1, .inl p), (2, .inl ev)], [], (I, L, X), 0, 0) (fun _ => rfl) ?_
  exact pt2 _  1 (by omega) (by omega) rfl
theorem c_holdsOf (D : Nat) (hD : 4 ≤ D) {I L : Nat → Nat → Int} {X : ym_X} (hS : ym_S X) {p ev wh n : Int} (hLR : ym_LR I) (h0 : 0 ≤ p) (h1 : p ≤ 3) (h2 : wh = 0 → 1 ≤ n ∧ n ≤ 6) (h3 : wh = 2 → 1 ≤ n ∧ n ≤ 6) : yi_E zi_Ms D 43 [.inr (.inr (some 82)), .inl p, .inl ev, .inl wh, .inl n] (I, L, X) (fun r => r = (some (.inl 1), (I, L, X), 0, 0) ∨ r = (some (.inl 0), (I, L, X), 0, 0)) := by
  obtain ⟨d, rfl⟩ : ∃ d, D = d + 1 := ⟨D - 1, by omega⟩
  refine yi_E_of (M := zi_m43) rfl rfl ?_
  obtain ⟨l0, l1, l2, l3, l4, l5⟩ := id hLR
  have pt139 : ∀ (m : Nat) (k : Int) (b : Int), (1 ≤ k) → (k ≤ 7) → (b = 0 ∨ b = 1) → (7 - k).toNat = m → yi_G zi_Ms d zi_m43 (139, [(7, .inl k), (6, .inl b), (0, .inr (.inr (some 82))), (1, .inl p), (2, .inl ev), (3, .inl wh), (4, .inl n)], [], (I, L, X), 0, 0) (fun r => r = (some (.inl 1), (I, L, X), 0, 0) ∨ r = (some (.inl 0), (I, L, X), 0, 0)) := by
    intro m139
    induction m139 using Nat.strongRecOn with
    | _ m139 ih139 =>
    intro k b k0 k1 b0 hm139
    refine yi_G_run 2 (142, [(7, .inl k), (6, .inl b), (0, .inr (.inr (some 82))), (1, .inl p), (2, .inl ev), (3, .inl wh), (4, .inl n)], [.inr (.inr (some 82)), .inl k], (I, L, X), 0, 0) (fun _ => rfl) ?_
    refine yi_G_callv rfl rfl (ym_rcv hS) rfl (c_days d (by omega) hS rfl) ?_
    rintro _ rfl
    show yi_G zi_Ms d zi_m43 (145, [(7, .inl k), (6, .inl b), (0, .inr (.inr (some 82))), (1, .inl p), (2, .inl ev), (3, .inl wh), (4, .inl n)], [.inl (I 88 0), .inl k], (I, L, X), 0, 0) _
    by_cases h1 : (I 88 0) < k
    · refine yi_G_if2 true rfl (yi_gt_t h1) ?_
      refine yi_G_run 1 (179, [(7, .inl k), (6, .inl b), (0, .inr (.inr (some 82))), (1, .inl p), (2, .inl ev), (3, .inl wh), (4, .inl n)], [.inl b], (I, L, X), 0, 0) (fun _ => rfl) ?_
      exact yi_G_retb rfl rfl (by omega) (yi_b2 (by omega))
    · refine yi_G_if2 false rfl (yi_gt_f h1) ?_
      refine yi_G_run 1 (150, [(7, .inl k), (6, .inl b), (0, .inr (.inr (some 82))), (1, .inl p), (2, .inl ev), (3, .inl wh), (4, .inl n)], [.inl b], (I, L, X), 0, 0) (fun _ => rfl) ?_
      by_cases h2 : b = 0
      · refine yi_G_if1 false rfl (yi_ne_f h2) ?_
        refine yi_G_run 4 (158, [(7, .inl k), (6, .inl b), (0, .inr (.inr (some 82))), (1, .inl p), (2, .inl ev), (3, .inl wh), (4, .inl n)], [.inl k, .inl ev, .inl p, .inr (.inr (some 82))], (I, L, X), 0, 0) (fun _ => rfl) ?_
        refine yi_G_callv rfl rfl (ym_rcv hS) rfl (c_hasOn d (by omega) hS hLR (by omega) (by omega) (by omega) (by omega)) ?_
        rintro _ (rfl | rfl)
        · show yi_G zi_Ms d zi_m43 (161, [(7, .inl k), (6, .inl b), (0, .inr (.inr (some 82))), (1, .inl p), (2, .inl ev), (3, .inl wh), (4, .inl n)], [.inl 1], (I, L, X), 0, 0) _
          refine yi_G_if1 false rfl (by decide) ?_
          refine yi_G_run 3 (171, [(6, .inl 1), (7, .inl k), (0, .inr (.inr (some 82))), (1, .inl p), (2, .inl ev), (3, .inl wh), (4, .inl n)], [], (I, L, X), 0, 0) (fun _ => rfl) ?_
          refine yi_G_iinc [(7, .inl (k + 1)), (6, .inl 1), (0, .inr (.inr (some 82))), (1, .inl p), (2, .inl ev), (3, .inl wh), (4, .inl n)] rfl rfl rfl (by rw [show yi_w (k + 1) = k + 1 from (yi_wn (by omega) (by omega)).trans (by omega)]; rfl) ?_
          refine yi_G_run 1 (139, [(7, .inl (k + 1)), (6, .inl 1), (0, .inr (.inr (some 82))), (1, .inl p), (2, .inl ev), (3, .inl wh), (4, .inl n)], [], (I, L, X), 0, 0) (fun _ => rfl) ?_
          exact ih139 _ (by omega) (k + 1) 1 (by omega) (by omega) (by omega) rfl
        · show yi_G zi_Ms d zi_m43 (161, [(7, .inl k), (6, .inl b), (0, .inr (.inr (some 82))), (1, .inl p), (2, .inl ev), (3, .inl wh), (4, .inl n)], [.inl 0], (I, L, X), 0, 0) _
          refine yi_G_if1 true rfl (by decide) ?_
          refine yi_G_run 2 (171, [(6, .inl 0), (7, .inl k), (0, .inr (.inr (some 82))), (1, .inl p), (2, .inl ev), (3, .inl wh), (4, .inl n)], [], (I, L, X), 0, 0) (fun _ => rfl) ?_
          refine yi_G_iinc [(7, .inl (k + 1)), (6, .inl 0), (0, .inr (.inr (some 82))), (1, .inl p), (2, .inl ev), (3, .inl wh), (4, .inl n)] rfl rfl rfl (by rw [show yi_w (k + 1) = k + 1 from (yi_wn (by omega) (by omega)).trans (by omega)]; rfl) ?_
          refine yi_G_run 1 (139, [(7, .inl (k + 1)), (6, .inl 0), (0, .inr (.inr (some 82))), (1, .inl p), (2, .inl ev), (3, .inl wh), (4, .inl n)], [], (I, L, X), 0, 0) (fun _ => rfl) ?_
          exact ih139 _ (by omega) (k + 1) 0 (by omega) (by omega) (by omega) rfl
      · refine yi_G_if1 true rfl (yi_ne_t h2) ?_
        refine yi_G_run 3 (171, [(6, .inl 1), (7, .inl k), (0, .inr (.inr (some 82))), (1, .inl p), (2, .inl ev), (3, .inl wh), (4, .inl n)], [], (I, L, X), 0, 0) (fun _ => rfl) ?_
        refine yi_G_iinc [(7, .inl (k + 1)), (6, .inl 1), (0, .inr (.inr (some 82))), (1, .inl p), (2, .inl ev), (3, .inl wh), (4, .inl n)] rfl rfl rfl (by rw [show yi_w (k + 1) = k + 1 from (yi_wn (by omega) (by omega)).trans (by omega)]; rfl) ?_
        refine yi_G_run 1 (139, [(7, .inl (k + 1)), (6, .inl 1), (0, .inr (.inr (some 82))), (1, .inl p), (2, .inl ev), (3, .inl wh), (4, .inl n)], [], (I, L, X), 0, 0) (fun _ => rfl) ?_
        exact ih139 _ (by omega) (k + 1) 1 (by omega) (by omega) (by omega) rfl
  have pt6 : ∀ (m : Nat) (k : Int) (t : Int), (1 ≤ k) → (k ≤ I 88 0 + 1) → (0 ≤ t) → (t ≤ k) → (I 88 0 + 1 - k).toNat = m → yi_G zi_Ms d zi_m43 (6, [(6, .inl k), (5, .inl t), (0, .inr (.inr (some 82))), (1, .inl p), (2, .inl ev), (3, .inl wh), (4, .inl n)], [], (I, L, X), 0, 0) (fun r => r = (some (.inl 1), (I, L, X), 0, 0) ∨ r = (some (.inl 0), (I, L, X), 0, 0)) := by
    intro m6
    induction m6 using Nat.strongRecOn with
    | _ m6 ih6 =>
    intro k t k0 k1 t0 t1 hm6
    refine yi_G_run 2 (9, [(6, .inl k), (5, .inl t), (0, .inr (.inr (some 82))), (1, .inl p), (2, .inl ev), (3, .inl wh), (4, .inl n)], [.inr (.inr (some 82)), .inl k], (I, L, X), 0, 0) (fun _ => rfl) ?_
    refine yi_G_callv rfl rfl (ym_rcv hS) rfl (c_days d (by omega) hS rfl) ?_
    rintro _ rfl
    show yi_G zi_Ms d zi_m43 (12, [(6, .inl k), (5, .inl t), (0, .inr (.inr (some 82))), (1, .inl p), (2, .inl ev), (3, .inl wh), (4, .inl n)], [.inl (I 88 0), .inl k], (I, L, X), 0, 0) _
    by_cases h3 : (I 88 0) < k
    · refine yi_G_if2 true rfl (yi_gt_t h3) ?_
      refine yi_G_run 1 (43, [(6, .inl k), (5, .inl t), (0, .inr (.inr (some 82))), (1, .inl p), (2, .inl ev), (3, .inl wh), (4, .inl n)], [.inl wh], (I, L, X), 0, 0) (fun _ => rfl) ?_
      by_cases h4 : wh = 0
      · refine yi_G_tsi 0 rfl (by omega) (by decide) rfl ?_
        refine yi_G_run 1 (81, [(6, .inl k), (5, .inl t), (0, .inr (.inr (some 82))), (1, .inl p), (2, .inl ev), (3, .inl wh), (4, .inl n)], [.inr (.inr (some 82))], (I, L, X), 0, 0) (fun _ => rfl) ?_
        refine yi_G_get (84, [(6, .inl k), (5, .inl t), (0, .inr (.inr (some 82))), (1, .inl p), (2, .inl ev), (3, .inl wh), (4, .inl n)], [.inl (I 82 28)], (I, L, X), 0, 0) rfl (ym_gi hS rfl rfl rfl) ?_
        by_cases h5 : (I 82 28) = 0
        · refine yi_G_if1 true rfl (yi_eq_t h5) ?_
          refine yi_G_run 4 (111, [(6, .inl k), (5, .inl t), (0, .inr (.inr (some 82))), (1, .inl p), (2, .inl ev), (3, .inl wh), (4, .inl n)], [.inl n, .inl ev, .inl p, .inr (.inr (some 82))], (I, L, X), 0, 0) (fun _ => rfl) ?_
          refine yi_G_callv rfl rfl (ym_rcv hS) rfl (c_hasOn d (by omega) hS hLR (by omega) (by omega) (by omega) (by omega)) ?_
          rintro _ (rfl | rfl)
          · show yi_G zi_Ms d zi_m43 (114, [(6, .inl k), (5, .inl t), (0, .inr (.inr (some 82))), (1, .inl p), (2, .inl ev), (3, .inl wh), (4, .inl n)], [.inl 1], (I, L, X), 0, 0) _
            exact yi_G_retb rfl rfl (by decide) (Or.inl rfl)
          · show yi_G zi_Ms d zi_m43 (114, [(6, .inl k), (5, .inl t), (0, .inr (.inr (some 82))), (1, .inl p), (2, .inl ev), (3, .inl wh), (4, .inl n)], [.inl 0], (I, L, X), 0, 0) _
            exact yi_G_retb rfl rfl (by decide) (Or.inr rfl)
        · refine yi_G_if1 false rfl (yi_eq_f h5) ?_
          refine yi_G_run 3 (90, [(6, .inl k), (5, .inl t), (0, .inr (.inr (some 82))), (1, .inl p), (2, .inl ev), (3, .inl wh), (4, .inl n)], [.inl ev, .inl p, .inr (.inr (some 82))], (I, L, X), 0, 0) (fun _ => rfl) ?_
          refine yi_G_callv rfl rfl (ym_rcv hS) rfl (c_firstDay d (by omega) hS hLR (by omega) (by omega)) ?_
          rintro _ ⟨z6, rfl, h7a, h7b⟩
          show yi_G zi_Ms d zi_m43 (93, [(6, .inl k), (5, .inl t), (0, .inr (.inr (some 82))), (1, .inl p), (2, .inl ev), (3, .inl wh), (4, .inl n)], [.inl z6], (I, L, X), 0, 0) _
          refine yi_G_run 1 (95, [(6, .inl k), (5, .inl t), (0, .inr (.inr (some 82))), (1, .inl p), (2, .inl ev), (3, .inl wh), (4, .inl n)], [.inl n, .inl z6], (I, L, X), 0, 0) (fun _ => rfl) ?_
          by_cases h8 : n < z6
          · refine yi_G_if2 true rfl (yi_gt_t h8) ?_
            refine yi_G_run 2 (114, [(6, .inl k), (5, .inl t), (0, .inr (.inr (some 82))), (1, .inl p), (2, .inl ev), (3, .inl wh), (4, .inl n)], [.inl 0], (I, L, X), 0, 0) (fun _ => rfl) ?_
            exact yi_G_retb rfl rfl (by decide) (Or.inr rfl)
          · refine yi_G_if2 false rfl (yi_gt_f h8) ?_
            refine yi_G_run 2 (114, [(6, .inl k), (5, .inl t), (0, .inr (.inr (some 82))), (1, .inl p), (2, .inl ev), (3, .inl wh), (4, .inl n)], [.inl 1], (I, L, X), 0, 0) (fun _ => rfl) ?_
            exact yi_G_retb rfl rfl (by decide) (Or.inl rfl)
      by_cases h9 : wh = 1
      · refine yi_G_tsi 1 rfl (by omega) (by decide) rfl ?_
        refine yi_G_run 3 (118, [(6, .inl k), (5, .inl t), (0, .inr (.inr (some 82))), (1, .inl p), (2, .inl ev), (3, .inl wh), (4, .inl n)], [.inl ev, .inl p, .inr (.inr (some 82))], (I, L, X), 0, 0) (fun _ => rfl) ?_
        refine yi_G_callv rfl rfl (ym_rcv hS) rfl (c_firstDay d (by omega) hS hLR (by omega) (by omega)) ?_
        rintro _ ⟨z10, rfl, h11a, h11b⟩
        show yi_G zi_Ms d zi_m43 (121, [(6, .inl k), (5, .inl t), (0, .inr (.inr (some 82))), (1, .inl p), (2, .inl ev), (3, .inl wh), (4, .inl n)], [.inl z10], (I, L, X), 0, 0) _
        refine yi_G_run 1 (123, [(6, .inl k), (5, .inl t), (0, .inr (.inr (some 82))), (1, .inl p), (2, .inl ev), (3, .inl wh), (4, .inl n)], [.inl n, .inl z10], (I, L, X), 0, 0) (fun _ => rfl) ?_
        by_cases h12 : n < z10
        · refine yi_G_if2 true rfl (yi_gt_t h12) ?_
          refine yi_G_run 1 (131, [(6, .inl k), (5, .inl t), (0, .inr (.inr (some 82))), (1, .inl p), (2, .inl ev), (3, .inl wh), (4, .inl n)], [.inl 0], (I, L, X), 0, 0) (fun _ => rfl) ?_
          exact yi_G_retb rfl rfl (by decide) (Or.inr rfl)
        · refine yi_G_if2 false rfl (yi_gt_f h12) ?_
          refine yi_G_run 2 (131, [(6, .inl k), (5, .inl t), (0, .inr (.inr (some 82))), (1, .inl p), (2, .inl ev), (3, .inl wh), (4, .inl n)], [.inl 1], (I, L, X), 0, 0) (fun _ => rfl) ?_
          exact yi_G_retb rfl rfl (by decide) (Or.inl rfl)
      by_cases h13 : wh = 2
      · refine yi_G_tsi 2 rfl (by omega) (by decide) rfl ?_
        refine yi_G_run 4 (139, [(7, .inl n), (6, .inl 0), (5, .inl t), (0, .inr (.inr (some 82))), (1, .inl p), (2, .inl ev), (3, .inl wh), (4, .inl n)], [], (I, L, X), 0, 0) (fun _ => rfl) ?_
        refine yi_G_al (al := [(7, .inl n), (6, .inl 0), (0, .inr (.inr (some 82))), (1, .inl p), (2, .inl ev), (3, .inl wh), (4, .inl n)]) (show ([7, 6, 0, 1, 2, 3, 4] : List Nat).Nodup by decide) (show ([7, 6, 5, 0, 1, 2, 3, 4] : List Nat).Nodup by decide) (yi_mc (List.mem_of_getElem? (i := 0) rfl) (yi_mc (List.mem_of_getElem? (i := 1) rfl) (yi_mc (List.mem_of_getElem? (i := 3) rfl) (yi_mc (List.mem_of_getElem? (i := 4) rfl) (yi_mc (List.mem_of_getElem? (i := 5) rfl) (yi_mc (List.mem_of_getElem? (i := 6) rfl) (yi_mc (List.mem_of_getElem? (i := 7) rfl) yi_mn))))))) ?_
        exact pt139 _  n 0 (by omega) (by omega) (by omega) rfl
      by_cases h14 : wh = 3
      · refine yi_G_tsi 3 rfl (by omega) (by decide) rfl ?_
        refine yi_G_run 1 (182, [(6, .inl k), (5, .inl t), (0, .inr (.inr (some 82))), (1, .inl p), (2, .inl ev), (3, .inl wh), (4, .inl n)], [.inl t], (I, L, X), 0, 0) (fun _ => rfl) ?_
        by_cases h15 : t ≤ 0
        · refine yi_G_if1 true rfl (yi_le_t h15) ?_
          refine yi_G_run 1 (190, [(6, .inl k), (5, .inl t), (0, .inr (.inr (some 82))), (1, .inl p), (2, .inl ev), (3, .inl wh), (4, .inl n)], [.inl 0], (I, L, X), 0, 0) (fun _ => rfl) ?_
          exact yi_G_retb rfl rfl (by decide) (Or.inr rfl)
        · refine yi_G_if1 false rfl (yi_le_f h15) ?_
          refine yi_G_run 2 (190, [(6, .inl k), (5, .inl t), (0, .inr (.inr (some 82))), (1, .inl p), (2, .inl ev), (3, .inl wh), (4, .inl n)], [.inl 1], (I, L, X), 0, 0) (fun _ => rfl) ?_
          exact yi_G_retb rfl rfl (by decide) (Or.inl rfl)
      by_cases h16 : wh = 4
      · refine yi_G_tsi 4 rfl (by omega) (by decide) rfl ?_
        refine yi_G_run 1 (193, [(6, .inl k), (5, .inl t), (0, .inr (.inr (some 82))), (1, .inl p), (2, .inl ev), (3, .inl wh), (4, .inl n)], [.inl t], (I, L, X), 0, 0) (fun _ => rfl) ?_
        by_cases h17 : t = 0
        · refine yi_G_if1 false rfl (yi_ne_f h17) ?_
          refine yi_G_run 2 (201, [(6, .inl k), (5, .inl t), (0, .inr (.inr (some 82))), (1, .inl p), (2, .inl ev), (3, .inl wh), (4, .inl n)], [.inl 1], (I, L, X), 0, 0) (fun _ => rfl) ?_
          exact yi_G_retb rfl rfl (by decide) (Or.inl rfl)
        · refine yi_G_if1 true rfl (yi_ne_t h17) ?_
          refine yi_G_run 1 (201, [(6, .inl k), (5, .inl t), (0, .inr (.inr (some 82))), (1, .inl p), (2, .inl ev), (3, .inl wh), (4, .inl n)], [.inl 0], (I, L, X), 0, 0) (fun _ => rfl) ?_
          exact yi_G_retb rfl rfl (by decide) (Or.inr rfl)
      by_cases h18 : wh = 5
      · refine yi_G_tsi 5 rfl (by omega) (by decide) rfl ?_
        refine yi_G_run 2 (206, [(6, .inl k), (5, .inl t), (0, .inr (.inr (some 82))), (1, .inl p), (2, .inl ev), (3, .inl wh), (4, .inl n)], [.inl n, .inl t], (I, L, X), 0, 0) (fun _ => rfl) ?_
        by_cases h19 : t = n
        · refine yi_G_if2 false rfl (yi_ne_f h19) ?_
          refine yi_G_run 2 (214, [(6, .inl k), (5, .inl t), (0, .inr (.inr (some 82))), (1, .inl p), (2, .inl ev), (3, .inl wh), (4, .inl n)], [.inl 1], (I, L, X), 0, 0) (fun _ => rfl) ?_
          exact yi_G_retb rfl rfl (by decide) (Or.inl rfl)
        · refine yi_G_if2 true rfl (yi_ne_t h19) ?_
          refine yi_G_run 1 (214, [(6, .inl k), (5, .inl t), (0, .inr (.inr (some 82))), (1, .inl p), (2, .inl ev), (3, .inl wh), (4, .inl n)], [.inl 0], (I, L, X), 0, 0) (fun _ => rfl) ?_
          exact yi_G_retb rfl rfl (by decide) (Or.inr rfl)
      refine yi_G_tso rfl (by omega) ?_
      refine yi_G_run 2 (219, [(6, .inl k), (5, .inl t), (0, .inr (.inr (some 82))), (1, .inl p), (2, .inl ev), (3, .inl wh), (4, .inl n)], [.inl n, .inl t], (I, L, X), 0, 0) (fun _ => rfl) ?_
      by_cases h20 : n < t
      · refine yi_G_if2 true rfl (yi_gt_t h20) ?_
        refine yi_G_run 1 (227, [(6, .inl k), (5, .inl t), (0, .inr (.inr (some 82))), (1, .inl p), (2, .inl ev), (3, .inl wh), (4, .inl n)], [.inl 0], (I, L, X), 0, 0) (fun _ => rfl) ?_
        exact yi_G_retb rfl rfl (by decide) (Or.inr rfl)
      · refine yi_G_if2 false rfl (yi_gt_f h20) ?_
        refine yi_G_run 2 (227, [(6, .inl k), (5, .inl t), (0, .inr (.inr (some 82))), (1, .inl p), (2, .inl ev), (3, .inl wh), (4, .inl n)], [.inl 1], (I, L, X), 0, 0) (fun _ => rfl) ?_
        exact yi_G_retb rfl rfl (by decide) (Or.inl rfl)
    · refine yi_G_if2 false rfl (yi_gt_f h3) ?_
      refine yi_G_run 5 (22, [(6, .inl k), (5, .inl t), (0, .inr (.inr (some 82))), (1, .inl p), (2, .inl ev), (3, .inl wh), (4, .inl n)], [.inl k, .inl ev, .inl p, .inr (.inr (some 82)), .inl t], (I, L, X), 0, 0) (fun _ => rfl) ?_
      refine yi_G_callv rfl rfl (ym_rcv hS) rfl (c_hasOn d (by omega) hS hLR (by omega) (by omega) (by omega) (by omega)) ?_
      rintro _ (rfl | rfl)
      · show yi_G zi_Ms d zi_m43 (25, [(6, .inl k), (5, .inl t), (0, .inr (.inr (some 82))), (1, .inl p), (2, .inl ev), (3, .inl wh), (4, .inl n)], [.inl 1, .inl t], (I, L, X), 0, 0) _
        refine yi_G_if1 false rfl (by decide) ?_
        refine yi_G_run 2 (33, [(6, .inl k), (5, .inl t), (0, .inr (.inr (some 82))), (1, .inl p), (2, .inl ev), (3, .inl wh), (4, .inl n)], [.inl 1, .inl t], (I, L, X), 0, 0) (fun _ => rfl) ?_
        refine yi_G_iadd rfl (t + 1) (yi_wn (by omega) (by omega)) ?_
        refine yi_G_run 1 (36, [(5, .inl (t + 1)), (6, .inl k), (0, .inr (.inr (some 82))), (1, .inl p), (2, .inl ev), (3, .inl wh), (4, .inl n)], [], (I, L, X), 0, 0) (fun _ => rfl) ?_
        refine yi_G_iinc [(6, .inl (k + 1)), (5, .inl (t + 1)), (0, .inr (.inr (some 82))), (1, .inl p), (2, .inl ev), (3, .inl wh), (4, .inl n)] rfl rfl rfl (by rw [show yi_w (k + 1) = k + 1 from (yi_wn (by omega) (by omega)).trans (by omega)]; rfl) ?_
        refine yi_G_run 1 (6, [(6, .inl (k + 1)), (5, .inl (t + 1)), (0, .inr (.inr (some 82))), (1, .inl p), (2, .inl ev), (3, .inl wh), (4, .inl n)], [], (I, L, X), 0, 0) (fun _ => rfl) ?_
        exact ih6 _ (by omega) (k + 1) (t + 1) (by omega) (by omega) (by omega) (by omega) rfl
      · show yi_G zi_Ms d zi_m43 (25, [(6, .inl k), (5, .inl t), (0, .inr (.inr (some 82))), (1, .inl p), (2, .inl ev), (3, .inl wh), (4, .inl n)], [.inl 0, .inl t], (I, L, X), 0, 0) _
        refine yi_G_if1 true rfl (by decide) ?_
        refine yi_G_run 1 (33, [(6, .inl k), (5, .inl t), (0, .inr (.inr (some 82))), (1, .inl p), (2, .inl ev), (3, .inl wh), (4, .inl n)], [.inl 0, .inl t], (I, L, X), 0, 0) (fun _ => rfl) ?_
        refine yi_G_iadd rfl (t + 0) (yi_wn (by omega) (by omega)) ?_
        refine yi_G_run 1 (36, [(5, .inl (t + 0)), (6, .inl k), (0, .inr (.inr (some 82))), (1, .inl p), (2, .inl ev), (3, .inl wh), (4, .inl n)], [], (I, L, X), 0, 0) (fun _ => rfl) ?_
        refine yi_G_iinc [(6, .inl (k + 1)), (5, .inl (t + 0)), (0, .inr (.inr (some 82))), (1, .inl p), (2, .inl ev), (3, .inl wh), (4, .inl n)] rfl rfl rfl (by rw [show yi_w (k + 1) = k + 1 from (yi_wn (by omega) (by omega)).trans (by omega)]; rfl) ?_
        refine yi_G_run 1 (6, [(6, .inl (k + 1)), (5, .inl (t + 0)), (0, .inr (.inr (some 82))), (1, .inl p), (2, .inl ev), (3, .inl wh), (4, .inl n)], [], (I, L, X), 0, 0) (fun _ => rfl) ?_
        exact ih6 _ (by omega) (k + 1) (t + 0) (by omega) (by omega) (by omega) (by omega) rfl
  show yi_G zi_Ms d zi_m43 (0, [(0, .inr (.inr (some 82))), (1, .inl p), (2, .inl ev), (3, .inl wh), (4, .inl n)], [], (I, L, X), 0, 0) _
  refine yi_G_run 4 (6, [(6, .inl 1), (5, .inl 0), (0, .inr (.inr (some 82))), (1, .inl p), (2, .inl ev), (3, .inl wh), (4, .inl n)], [], (I, L, X), 0, 0) (fun _ => rfl) ?_
  exact pt6 _  1 0 (by omega) (by omega) (by omega) (by omega) rfl
theorem c_holdsClause (D : Nat) (hD : 5 ≤ D) {I L : Nat → Nat → Int} {X : ym_X} (hS : ym_S X) {c : Int} (hLR : ym_LR I) (hc : ym_CV c) : yi_E zi_Ms D 42 [.inr (.inr (some 82)), .inl c] (I, L, X) (fun r => r = (some (.inl 1), (I, L, X), 0, 0) ∨ r = (some (.inl 0), (I, L, X), 0, 0)) := by
  obtain ⟨d, rfl⟩ : ∃ d, D = d + 1 := ⟨D - 1, by omega⟩
  refine yi_E_of (M := zi_m42) rfl rfl ?_
  obtain ⟨l0, l1, l2, l3, l4, l5⟩ := id hLR
  obtain ⟨v0, v1, v2, v3⟩ := id hc
  have pt86 : ∀ (m : Nat) (k : Int) (b : Int) (n : Int) (wh : Int) (ev : Int) (wo : Int), (1 ≤ k) → (k ≤ I 88 0 + 1) → (b = 0 ∨ b = 1) → (0 ≤ wo ∧ wo ≤ 3) → (0 ≤ n ∧ n ≤ 3) → (I 88 0 + 1 - k).toNat = m → yi_G zi_Ms d zi_m42 (86, [(7, .inl k), (6, .inl b), (0, .inr (.inr (some 82))), (1, .inl c), (2, .inl n), (3, .inl wh), (4, .inl ev), (5, .inl wo)], [], (I, L, X), 0, 0) (fun r => r = (some (.inl 1), (I, L, X), 0, 0) ∨ r = (some (.inl 0), (I, L, X), 0, 0)) := by
    intro m86
    induction m86 using Nat.strongRecOn with
    | _ m86 ih86 =>
    intro k b n wh ev wo k0 k1 b0 c1 c2 hm86
    refine yi_G_run 2 (89, [(7, .inl k), (6, .inl b), (0, .inr (.inr (some 82))), (1, .inl c), (2, .inl n), (3, .inl wh), (4, .inl ev), (5, .inl wo)], [.inr (.inr (some 82)), .inl k], (I, L, X), 0, 0) (fun _ => rfl) ?_
    refine yi_G_callv rfl rfl (ym_rcv hS) rfl (c_days d (by omega) hS rfl) ?_
    rintro _ rfl
    show yi_G zi_Ms d zi_m42 (92, [(7, .inl k), (6, .inl b), (0, .inr (.inr (some 82))), (1, .inl c), (2, .inl n), (3, .inl wh), (4, .inl ev), (5, .inl wo)], [.inl (I 88 0), .inl k], (I, L, X), 0, 0) _
    by_cases h1 : (I 88 0) < k
    · refine yi_G_if2 true rfl (yi_gt_t h1) ?_
      refine yi_G_run 1 (140, [(7, .inl k), (6, .inl b), (0, .inr (.inr (some 82))), (1, .inl c), (2, .inl n), (3, .inl wh), (4, .inl ev), (5, .inl wo)], [.inl b], (I, L, X), 0, 0) (fun _ => rfl) ?_
      exact yi_G_retb rfl rfl (by omega) (yi_b2 (by omega))
    · refine yi_G_if2 false rfl (yi_gt_f h1) ?_
      refine yi_G_run 1 (97, [(7, .inl k), (6, .inl b), (0, .inr (.inr (some 82))), (1, .inl c), (2, .inl n), (3, .inl wh), (4, .inl ev), (5, .inl wo)], [.inl b], (I, L, X), 0, 0) (fun _ => rfl) ?_
      by_cases h2 : b = 0
      · refine yi_G_if1 false rfl (yi_ne_f h2) ?_
        refine yi_G_run 4 (107, [(7, .inl k), (6, .inl b), (0, .inr (.inr (some 82))), (1, .inl c), (2, .inl n), (3, .inl wh), (4, .inl ev), (5, .inl wo)], [.inl k, .inl ev, .inl wo, .inr (.inr (some 82))], (I, L, X), 0, 0) (fun _ => rfl) ?_
        refine yi_G_callv rfl rfl (ym_rcv hS) rfl (c_hasOn d (by omega) hS hLR (by omega) (by omega) (by omega) (by omega)) ?_
        rintro _ (rfl | rfl)
        · show yi_G zi_Ms d zi_m42 (110, [(7, .inl k), (6, .inl b), (0, .inr (.inr (some 82))), (1, .inl c), (2, .inl n), (3, .inl wh), (4, .inl ev), (5, .inl wo)], [.inl 1], (I, L, X), 0, 0) _
          refine yi_G_if1 false rfl (by decide) ?_
          refine yi_G_run 4 (119, [(7, .inl k), (6, .inl b), (0, .inr (.inr (some 82))), (1, .inl c), (2, .inl n), (3, .inl wh), (4, .inl ev), (5, .inl wo)], [.inl k, .inl ev, .inl n, .inr (.inr (some 82))], (I, L, X), 0, 0) (fun _ => rfl) ?_
          refine yi_G_callv rfl rfl (ym_rcv hS) rfl (c_hasOn d (by omega) hS hLR (by omega) (by omega) (by omega) (by omega)) ?_
          rintro _ (rfl | rfl)
          · show yi_G zi_Ms d zi_m42 (122, [(7, .inl k), (6, .inl b), (0, .inr (.inr (some 82))), (1, .inl c), (2, .inl n), (3, .inl wh), (4, .inl ev), (5, .inl wo)], [.inl 1], (I, L, X), 0, 0) _
            refine yi_G_if1 false rfl (by decide) ?_
            refine yi_G_run 3 (132, [(6, .inl 1), (7, .inl k), (0, .inr (.inr (some 82))), (1, .inl c), (2, .inl n), (3, .inl wh), (4, .inl ev), (5, .inl wo)], [], (I, L, X), 0, 0) (fun _ => rfl) ?_
            refine yi_G_iinc [(7, .inl (k + 1)), (6, .inl 1), (0, .inr (.inr (some 82))), (1, .inl c), (2, .inl n), (3, .inl wh), (4, .inl ev), (5, .inl wo)] rfl rfl rfl (by rw [show yi_w (k + 1) = k + 1 from (yi_wn (by omega) (by omega)).trans (by omega)]; rfl) ?_
            refine yi_G_run 1 (86, [(7, .inl (k + 1)), (6, .inl 1), (0, .inr (.inr (some 82))), (1, .inl c), (2, .inl n), (3, .inl wh), (4, .inl ev), (5, .inl wo)], [], (I, L, X), 0, 0) (fun _ => rfl) ?_
            exact ih86 _ (by omega) (k + 1) 1 n wh ev wo (by omega) (by omega) (by omega) (by omega) (by omega) rfl
          · show yi_G zi_Ms d zi_m42 (122, [(7, .inl k), (6, .inl b), (0, .inr (.inr (some 82))), (1, .inl c), (2, .inl n), (3, .inl wh), (4, .inl ev), (5, .inl wo)], [.inl 0], (I, L, X), 0, 0) _
            refine yi_G_if1 true rfl (by decide) ?_
            refine yi_G_run 2 (132, [(6, .inl 0), (7, .inl k), (0, .inr (.inr (some 82))), (1, .inl c), (2, .inl n), (3, .inl wh), (4, .inl ev), (5, .inl wo)], [], (I, L, X), 0, 0) (fun _ => rfl) ?_
            refine yi_G_iinc [(7, .inl (k + 1)), (6, .inl 0), (0, .inr (.inr (some 82))), (1, .inl c), (2, .inl n), (3, .inl wh), (4, .inl ev), (5, .inl wo)] rfl rfl rfl (by rw [show yi_w (k + 1) = k + 1 from (yi_wn (by omega) (by omega)).trans (by omega)]; rfl) ?_
            refine yi_G_run 1 (86, [(7, .inl (k + 1)), (6, .inl 0), (0, .inr (.inr (some 82))), (1, .inl c), (2, .inl n), (3, .inl wh), (4, .inl ev), (5, .inl wo)], [], (I, L, X), 0, 0) (fun _ => rfl) ?_
            exact ih86 _ (by omega) (k + 1) 0 n wh ev wo (by omega) (by omega) (by omega) (by omega) (by omega) rfl
        · show yi_G zi_Ms d zi_m42 (110, [(7, .inl k), (6, .inl b), (0, .inr (.inr (some 82))), (1, .inl c), (2, .inl n), (3, .inl wh), (4, .inl ev), (5, .inl wo)], [.inl 0], (I, L, X), 0, 0) _
          refine yi_G_if1 true rfl (by decide) ?_
          refine yi_G_run 2 (132, [(6, .inl 0), (7, .inl k), (0, .inr (.inr (some 82))), (1, .inl c), (2, .inl n), (3, .inl wh), (4, .inl ev), (5, .inl wo)], [], (I, L, X), 0, 0) (fun _ => rfl) ?_
          refine yi_G_iinc [(7, .inl (k + 1)), (6, .inl 0), (0, .inr (.inr (some 82))), (1, .inl c), (2, .inl n), (3, .inl wh), (4, .inl ev), (5, .inl wo)] rfl rfl rfl (by rw [show yi_w (k + 1) = k + 1 from (yi_wn (by omega) (by omega)).trans (by omega)]; rfl) ?_
          refine yi_G_run 1 (86, [(7, .inl (k + 1)), (6, .inl 0), (0, .inr (.inr (some 82))), (1, .inl c), (2, .inl n), (3, .inl wh), (4, .inl ev), (5, .inl wo)], [], (I, L, X), 0, 0) (fun _ => rfl) ?_
          exact ih86 _ (by omega) (k + 1) 0 n wh ev wo (by omega) (by omega) (by omega) (by omega) (by omega) rfl
      · refine yi_G_if1 true rfl (yi_ne_t h2) ?_
        refine yi_G_run 3 (132, [(6, .inl 1), (7, .inl k), (0, .inr (.inr (some 82))), (1, .inl c), (2, .inl n), (3, .inl wh), (4, .inl ev), (5, .inl wo)], [], (I, L, X), 0, 0) (fun _ => rfl) ?_
        refine yi_G_iinc [(7, .inl (k + 1)), (6, .inl 1), (0, .inr (.inr (some 82))), (1, .inl c), (2, .inl n), (3, .inl wh), (4, .inl ev), (5, .inl wo)] rfl rfl rfl (by rw [show yi_w (k + 1) = k + 1 from (yi_wn (by omega) (by omega)).trans (by omega)]; rfl) ?_
        refine yi_G_run 1 (86, [(7, .inl (k + 1)), (6, .inl 1), (0, .inr (.inr (some 82))), (1, .inl c), (2, .inl n), (3, .inl wh), (4, .inl ev), (5, .inl wo)], [], (I, L, X), 0, 0) (fun _ => rfl) ?_
        exact ih86 _ (by omega) (k + 1) 1 n wh ev wo (by omega) (by omega) (by omega) (by omega) (by omega) rfl
  have pt150 : ∀ (m : Nat) (k : Int) (b : Int) (b2 : Int) (n : Int) (wh : Int) (ev : Int) (wo : Int), (0 ≤ k) → (k ≤ I 88 1) → (b = 0 ∨ b = 1) → (b2 = 0 ∨ b2 = 1) → (0 ≤ wh) → (0 ≤ wo ∧ wo ≤ 5) → (wh ≤ 2 → 1 ≤ n ∧ n ≤ 6) → (I 88 1 - k).toNat = m → yi_G zi_Ms d zi_m42 (150, [(8, .inl k), (7, .inl b), (6, .inl b2), (0, .inr (.inr (some 82))), (1, .inl c), (2, .inl n), (3, .inl wh), (4, .inl ev), (5, .inl wo)], [], (I, L, X), 0, 0) (fun r => r = (some (.inl 1), (I, L, X), 0, 0) ∨ r = (some (.inl 0), (I, L, X), 0, 0)) := by
    intro m150
    induction m150 using Nat.strongRecOn with
    | _ m150 ih150 =>
    intro k b b2 n wh ev wo k0 k1 b0 b1 w0 c1 c2 hm150
    refine yi_G_run 2 (153, [(8, .inl k), (7, .inl b), (6, .inl b2), (0, .inr (.inr (some 82))), (1, .inl c), (2, .inl n), (3, .inl wh), (4, .inl ev), (5, .inl wo)], [.inr (.inr (some 82)), .inl k], (I, L, X), 0, 0) (fun _ => rfl) ?_
    refine yi_G_callv rfl rfl (ym_rcv hS) rfl (c_people d (by omega) hS rfl) ?_
    rintro _ rfl
    show yi_G zi_Ms d zi_m42 (156, [(8, .inl k), (7, .inl b), (6, .inl b2), (0, .inr (.inr (some 82))), (1, .inl c), (2, .inl n), (3, .inl wh), (4, .inl ev), (5, .inl wo)], [.inl (I 88 1), .inl k], (I, L, X), 0, 0) _
    by_cases h3 : (I 88 1) ≤ k
    · refine yi_G_if2 true rfl (yi_ge_t h3) ?_
      refine yi_G_run 2 (235, [(8, .inl k), (7, .inl b), (6, .inl b2), (0, .inr (.inr (some 82))), (1, .inl c), (2, .inl n), (3, .inl wh), (4, .inl ev), (5, .inl wo)], [.inl 5, .inl wo], (I, L, X), 0, 0) (fun _ => rfl) ?_
      by_cases h4 : wo = 5
      · refine yi_G_if2 false rfl (yi_ne_f h4) ?_
        refine yi_G_run 2 (245, [(8, .inl k), (7, .inl b), (6, .inl b2), (0, .inr (.inr (some 82))), (1, .inl c), (2, .inl n), (3, .inl wh), (4, .inl ev), (5, .inl wo)], [.inl b], (I, L, X), 0, 0) (fun _ => rfl) ?_
        exact yi_G_retb rfl rfl (by omega) (yi_b2 (by omega))
      · refine yi_G_if2 true rfl (yi_ne_t h4) ?_
        refine yi_G_run 1 (245, [(8, .inl k), (7, .inl b), (6, .inl b2), (0, .inr (.inr (some 82))), (1, .inl c), (2, .inl n), (3, .inl wh), (4, .inl ev), (5, .inl wo)], [.inl b2], (I, L, X), 0, 0) (fun _ => rfl) ?_
        exact yi_G_retb rfl rfl (by omega) (yi_b2 (by omega))
    · refine yi_G_if2 false rfl (yi_ge_f h3) ?_
      refine yi_G_run 2 (162, [(8, .inl k), (7, .inl b), (6, .inl b2), (0, .inr (.inr (some 82))), (1, .inl c), (2, .inl n), (3, .inl wh), (4, .inl ev), (5, .inl wo)], [.inl 4, .inl wo], (I, L, X), 0, 0) (fun _ => rfl) ?_
      by_cases h5 : 4 ≤ wo
      · refine yi_G_if2 true rfl (yi_ge_t h5) ?_
        refine yi_G_run 5 (179, [(8, .inl k), (7, .inl b), (6, .inl b2), (0, .inr (.inr (some 82))), (1, .inl c), (2, .inl n), (3, .inl wh), (4, .inl ev), (5, .inl wo)], [.inl n, .inl wh, .inl ev, .inl k, .inr (.inr (some 82))], (I, L, X), 0, 0) (fun _ => rfl) ?_
        refine yi_G_callv rfl rfl (ym_rcv hS) rfl (c_holdsOf d (by omega) hS hLR (by omega) (by omega) (by omega) (by omega)) ?_
        rintro _ (rfl | rfl)
        · show yi_G zi_Ms d zi_m42 (182, [(8, .inl k), (7, .inl b), (6, .inl b2), (0, .inr (.inr (some 82))), (1, .inl c), (2, .inl n), (3, .inl wh), (4, .inl ev), (5, .inl wo)], [.inl 1], (I, L, X), 0, 0) _
          refine yi_G_if1 false rfl (by decide) ?_
          refine yi_G_run 4 (194, [(9, .inl 1), (8, .inl k), (7, .inl b), (6, .inl b2), (0, .inr (.inr (some 82))), (1, .inl c), (2, .inl n), (3, .inl wh), (4, .inl ev), (5, .inl wo)], [.inl b2], (I, L, X), 0, 0) (fun _ => rfl) ?_
          by_cases h6 : b2 = 0
          · refine yi_G_if1 false rfl (yi_ne_f h6) ?_
            refine yi_G_run 1 (199, [(9, .inl 1), (8, .inl k), (7, .inl b), (6, .inl b2), (0, .inr (.inr (some 82))), (1, .inl c), (2, .inl n), (3, .inl wh), (4, .inl ev), (5, .inl wo)], [.inl 1], (I, L, X), 0, 0) (fun _ => rfl) ?_
            refine yi_G_if1 false rfl (by decide) ?_
            refine yi_G_run 4 (211, [(6, .inl 1), (9, .inl 1), (8, .inl k), (7, .inl b), (0, .inr (.inr (some 82))), (1, .inl c), (2, .inl n), (3, .inl wh), (4, .inl ev), (5, .inl wo)], [.inl b], (I, L, X), 0, 0) (fun _ => rfl) ?_
            by_cases h7 : b = 0
            · refine yi_G_if1 true rfl (yi_eq_t h7) ?_
              refine yi_G_run 2 (226, [(7, .inl 0), (6, .inl 1), (9, .inl 1), (8, .inl k), (0, .inr (.inr (some 82))), (1, .inl c), (2, .inl n), (3, .inl wh), (4, .inl ev), (5, .inl wo)], [], (I, L, X), 0, 0) (fun _ => rfl) ?_
              refine yi_G_iinc [(8, .inl (k + 1)), (7, .inl 0), (6, .inl 1), (9, .inl 1), (0, .inr (.inr (some 82))), (1, .inl c), (2, .inl n), (3, .inl wh), (4, .inl ev), (5, .inl wo)] rfl rfl rfl (by rw [show yi_w (k + 1) = k + 1 from (yi_wn (by omega) (by omega)).trans (by omega)]; rfl) ?_
              refine yi_G_run 1 (150, [(8, .inl (k + 1)), (7, .inl 0), (6, .inl 1), (9, .inl 1), (0, .inr (.inr (some 82))), (1, .inl c), (2, .inl n), (3, .inl wh), (4, .inl ev), (5, .inl wo)], [], (I, L, X), 0, 0) (fun _ => rfl) ?_
              refine yi_G_al (al := [(8, .inl (k + 1)), (7, .inl 0), (6, .inl 1), (0, .inr (.inr (some 82))), (1, .inl c), (2, .inl n), (3, .inl wh), (4, .inl ev), (5, .inl wo)]) (show ([8, 7, 6, 0, 1, 2, 3, 4, 5] : List Nat).Nodup by decide) (show ([8, 7, 6, 9, 0, 1, 2, 3, 4, 5] : List Nat).Nodup by decide) (yi_mc (List.mem_of_getElem? (i := 0) rfl) (yi_mc (List.mem_of_getElem? (i := 1) rfl) (yi_mc (List.mem_of_getElem? (i := 2) rfl) (yi_mc (List.mem_of_getElem? (i := 4) rfl) (yi_mc (List.mem_of_getElem? (i := 5) rfl) (yi_mc (List.mem_of_getElem? (i := 6) rfl) (yi_mc (List.mem_of_getElem? (i := 7) rfl) (yi_mc (List.mem_of_getElem? (i := 8) rfl) (yi_mc (List.mem_of_getElem? (i := 9) rfl) yi_mn))))))))) ?_
              exact ih150 _ (by omega) (k + 1) 0 1 n wh ev wo (by omega) (by omega) (by omega) (by omega) (by omega) (by omega) (by omega) rfl
            · refine yi_G_if1 false rfl (yi_eq_f h7) ?_
              refine yi_G_run 1 (216, [(6, .inl 1), (9, .inl 1), (8, .inl k), (7, .inl b), (0, .inr (.inr (some 82))), (1, .inl c), (2, .inl n), (3, .inl wh), (4, .inl ev), (5, .inl wo)], [.inl 1], (I, L, X), 0, 0) (fun _ => rfl) ?_
              refine yi_G_if1 false rfl (by decide) ?_
              refine yi_G_run 3 (226, [(7, .inl 1), (6, .inl 1), (9, .inl 1), (8, .inl k), (0, .inr (.inr (some 82))), (1, .inl c), (2, .inl n), (3, .inl wh), (4, .inl ev), (5, .inl wo)], [], (I, L, X), 0, 0) (fun _ => rfl) ?_
              refine yi_G_iinc [(8, .inl (k + 1)), (7, .inl 1), (6, .inl 1), (9, .inl 1), (0, .inr (.inr (some 82))), (1, .inl c), (2, .inl n), (3, .inl wh), (4, .inl ev), (5, .inl wo)] rfl rfl rfl (by rw [show yi_w (k + 1) = k + 1 from (yi_wn (by omega) (by omega)).trans (by omega)]; rfl) ?_
              refine yi_G_run 1 (150, [(8, .inl (k + 1)), (7, .inl 1), (6, .inl 1), (9, .inl 1), (0, .inr (.inr (some 82))), (1, .inl c), (2, .inl n), (3, .inl wh), (4, .inl ev), (5, .inl wo)], [], (I, L, X), 0, 0) (fun _ => rfl) ?_
              refine yi_G_al (al := [(8, .inl (k + 1)), (7, .inl 1), (6, .inl 1), (0, .inr (.inr (some 82))), (1, .inl c), (2, .inl n), (3, .inl wh), (4, .inl ev), (5, .inl wo)]) (show ([8, 7, 6, 0, 1, 2, 3, 4, 5] : List Nat).Nodup by decide) (show ([8, 7, 6, 9, 0, 1, 2, 3, 4, 5] : List Nat).Nodup by decide) (yi_mc (List.mem_of_getElem? (i := 0) rfl) (yi_mc (List.mem_of_getElem? (i := 1) rfl) (yi_mc (List.mem_of_getElem? (i := 2) rfl) (yi_mc (List.mem_of_getElem? (i := 4) rfl) (yi_mc (List.mem_of_getElem? (i := 5) rfl) (yi_mc (List.mem_of_getElem? (i := 6) rfl) (yi_mc (List.mem_of_getElem? (i := 7) rfl) (yi_mc (List.mem_of_getElem? (i := 8) rfl) (yi_mc (List.mem_of_getElem? (i := 9) rfl) yi_mn))))))))) ?_
              exact ih150 _ (by omega) (k + 1) 1 1 n wh ev wo (by omega) (by omega) (by omega) (by omega) (by omega) (by omega) (by omega) rfl
          · refine yi_G_if1 true rfl (yi_ne_t h6) ?_
            refine yi_G_run 4 (211, [(6, .inl 1), (9, .inl 1), (8, .inl k), (7, .inl b), (0, .inr (.inr (some 82))), (1, .inl c), (2, .inl n), (3, .inl wh), (4, .inl ev), (5, .inl wo)], [.inl b], (I, L, X), 0, 0) (fun _ => rfl) ?_
            by_cases h8 : b = 0
            · refine yi_G_if1 true rfl (yi_eq_t h8) ?_
              refine yi_G_run 2 (226, [(7, .inl 0), (6, .inl 1), (9, .inl 1), (8, .inl k), (0, .inr (.inr (some 82))), (1, .inl c), (2, .inl n), (3, .inl wh), (4, .inl ev), (5, .inl wo)], [], (I, L, X), 0, 0) (fun _ => rfl) ?_
              refine yi_G_iinc [(8, .inl (k + 1)), (7, .inl 0), (6, .inl 1), (9, .inl 1), (0, .inr (.inr (some 82))), (1, .inl c), (2, .inl n), (3, .inl wh), (4, .inl ev), (5, .inl wo)] rfl rfl rfl (by rw [show yi_w (k + 1) = k + 1 from (yi_wn (by omega) (by omega)).trans (by omega)]; rfl) ?_
              refine yi_G_run 1 (150, [(8, .inl (k + 1)), (7, .inl 0), (6, .inl 1), (9, .inl 1), (0, .inr (.inr (some 82))), (1, .inl c), (2, .inl n), (3, .inl wh), (4, .inl ev), (5, .inl wo)], [], (I, L, X), 0, 0) (fun _ => rfl) ?_
              refine yi_G_al (al := [(8, .inl (k + 1)), (7, .inl 0), (6, .inl 1), (0, .inr (.inr (some 82))), (1, .inl c), (2, .inl n), (3, .inl wh), (4, .inl ev), (5, .inl wo)]) (show ([8, 7, 6, 0, 1, 2, 3, 4, 5] : List Nat).Nodup by decide) (show ([8, 7, 6, 9, 0, 1, 2, 3, 4, 5] : List Nat).Nodup by decide) (yi_mc (List.mem_of_getElem? (i := 0) rfl) (yi_mc (List.mem_of_getElem? (i := 1) rfl) (yi_mc (List.mem_of_getElem? (i := 2) rfl) (yi_mc (List.mem_of_getElem? (i := 4) rfl) (yi_mc (List.mem_of_getElem? (i := 5) rfl) (yi_mc (List.mem_of_getElem? (i := 6) rfl) (yi_mc (List.mem_of_getElem? (i := 7) rfl) (yi_mc (List.mem_of_getElem? (i := 8) rfl) (yi_mc (List.mem_of_getElem? (i := 9) rfl) yi_mn))))))))) ?_
              exact ih150 _ (by omega) (k + 1) 0 1 n wh ev wo (by omega) (by omega) (by omega) (by omega) (by omega) (by omega) (by omega) rfl
            · refine yi_G_if1 false rfl (yi_eq_f h8) ?_
              refine yi_G_run 1 (216, [(6, .inl 1), (9, .inl 1), (8, .inl k), (7, .inl b), (0, .inr (.inr (some 82))), (1, .inl c), (2, .inl n), (3, .inl wh), (4, .inl ev), (5, .inl wo)], [.inl 1], (I, L, X), 0, 0) (fun _ => rfl) ?_
              refine yi_G_if1 false rfl (by decide) ?_
              refine yi_G_run 3 (226, [(7, .inl 1), (6, .inl 1), (9, .inl 1), (8, .inl k), (0, .inr (.inr (some 82))), (1, .inl c), (2, .inl n), (3, .inl wh), (4, .inl ev), (5, .inl wo)], [], (I, L, X), 0, 0) (fun _ => rfl) ?_
              refine yi_G_iinc [(8, .inl (k + 1)), (7, .inl 1), (6, .inl 1), (9, .inl 1), (0, .inr (.inr (some 82))), (1, .inl c), (2, .inl n), (3, .inl wh), (4, .inl ev), (5, .inl wo)] rfl rfl rfl (by rw [show yi_w (k + 1) = k + 1 from (yi_wn (by omega) (by omega)).trans (by omega)]; rfl) ?_
              refine yi_G_run 1 (150, [(8, .inl (k + 1)), (7, .inl 1), (6, .inl 1), (9, .inl 1), (0, .inr (.inr (some 82))), (1, .inl c), (2, .inl n), (3, .inl wh), (4, .inl ev), (5, .inl wo)], [], (I, L, X), 0, 0) (fun _ => rfl) ?_
              refine yi_G_al (al := [(8, .inl (k + 1)), (7, .inl 1), (6, .inl 1), (0, .inr (.inr (some 82))), (1, .inl c), (2, .inl n), (3, .inl wh), (4, .inl ev), (5, .inl wo)]) (show ([8, 7, 6, 0, 1, 2, 3, 4, 5] : List Nat).Nodup by decide) (show ([8, 7, 6, 9, 0, 1, 2, 3, 4, 5] : List Nat).Nodup by decide) (yi_mc (List.mem_of_getElem? (i := 0) rfl) (yi_mc (List.mem_of_getElem? (i := 1) rfl) (yi_mc (List.mem_of_getElem? (i := 2) rfl) (yi_mc (List.mem_of_getElem? (i := 4) rfl) (yi_mc (List.mem_of_getElem? (i := 5) rfl) (yi_mc (List.mem_of_getElem? (i := 6) rfl) (yi_mc (List.mem_of_getElem? (i := 7) rfl) (yi_mc (List.mem_of_getElem? (i := 8) rfl) (yi_mc (List.mem_of_getElem? (i := 9) rfl) yi_mn))))))))) ?_
              exact ih150 _ (by omega) (k + 1) 1 1 n wh ev wo (by omega) (by omega) (by omega) (by omega) (by omega) (by omega) (by omega) rfl
        · show yi_G zi_Ms d zi_m42 (182, [(8, .inl k), (7, .inl b), (6, .inl b2), (0, .inr (.inr (some 82))), (1, .inl c), (2, .inl n), (3, .inl wh), (4, .inl ev), (5, .inl wo)], [.inl 0], (I, L, X), 0, 0) _
          refine yi_G_if1 true rfl (by decide) ?_
          refine yi_G_run 3 (194, [(9, .inl 0), (8, .inl k), (7, .inl b), (6, .inl b2), (0, .inr (.inr (some 82))), (1, .inl c), (2, .inl n), (3, .inl wh), (4, .inl ev), (5, .inl wo)], [.inl b2], (I, L, X), 0, 0) (fun _ => rfl) ?_
          by_cases h9 : b2 = 0
          · refine yi_G_if1 false rfl (yi_ne_f h9) ?_
            refine yi_G_run 1 (199, [(9, .inl 0), (8, .inl k), (7, .inl b), (6, .inl b2), (0, .inr (.inr (some 82))), (1, .inl c), (2, .inl n), (3, .inl wh), (4, .inl ev), (5, .inl wo)], [.inl 0], (I, L, X), 0, 0) (fun _ => rfl) ?_
            refine yi_G_if1 true rfl (by decide) ?_
            refine yi_G_run 3 (211, [(6, .inl 0), (9, .inl 0), (8, .inl k), (7, .inl b), (0, .inr (.inr (some 82))), (1, .inl c), (2, .inl n), (3, .inl wh), (4, .inl ev), (5, .inl wo)], [.inl b], (I, L, X), 0, 0) (fun _ => rfl) ?_
            by_cases h10 : b = 0
            · refine yi_G_if1 true rfl (yi_eq_t h10) ?_
              refine yi_G_run 2 (226, [(7, .inl 0), (6, .inl 0), (9, .inl 0), (8, .inl k), (0, .inr (.inr (some 82))), (1, .inl c), (2, .inl n), (3, .inl wh), (4, .inl ev), (5, .inl wo)], [], (I, L, X), 0, 0) (fun _ => rfl) ?_
              refine yi_G_iinc [(8, .inl (k + 1)), (7, .inl 0), (6, .inl 0), (9, .inl 0), (0, .inr (.inr (some 82))), (1, .inl c), (2, .inl n), (3, .inl wh), (4, .inl ev), (5, .inl wo)] rfl rfl rfl (by rw [show yi_w (k + 1) = k + 1 from (yi_wn (by omega) (by omega)).trans (by omega)]; rfl) ?_
              refine yi_G_run 1 (150, [(8, .inl (k + 1)), (7, .inl 0), (6, .inl 0), (9, .inl 0), (0, .inr (.inr (some 82))), (1, .inl c), (2, .inl n), (3, .inl wh), (4, .inl ev), (5, .inl wo)], [], (I, L, X), 0, 0) (fun _ => rfl) ?_
              refine yi_G_al (al := [(8, .inl (k + 1)), (7, .inl 0), (6, .inl 0), (0, .inr (.inr (some 82))), (1, .inl c), (2, .inl n), (3, .inl wh), (4, .inl ev), (5, .inl wo)]) (show ([8, 7, 6, 0, 1, 2, 3, 4, 5] : List Nat).Nodup by decide) (show ([8, 7, 6, 9, 0, 1, 2, 3, 4, 5] : List Nat).Nodup by decide) (yi_mc (List.mem_of_getElem? (i := 0) rfl) (yi_mc (List.mem_of_getElem? (i := 1) rfl) (yi_mc (List.mem_of_getElem? (i := 2) rfl) (yi_mc (List.mem_of_getElem? (i := 4) rfl) (yi_mc (List.mem_of_getElem? (i := 5) rfl) (yi_mc (List.mem_of_getElem? (i := 6) rfl) (yi_mc (List.mem_of_getElem? (i := 7) rfl) (yi_mc (List.mem_of_getElem? (i := 8) rfl) (yi_mc (List.mem_of_getElem? (i := 9) rfl) yi_mn))))))))) ?_
              exact ih150 _ (by omega) (k + 1) 0 0 n wh ev wo (by omega) (by omega) (by omega) (by omega) (by omega) (by omega) (by omega) rfl
            · refine yi_G_if1 false rfl (yi_eq_f h10) ?_
              refine yi_G_run 1 (216, [(6, .inl 0), (9, .inl 0), (8, .inl k), (7, .inl b), (0, .inr (.inr (some 82))), (1, .inl c), (2, .inl n), (3, .inl wh), (4, .inl ev), (5, .inl wo)], [.inl 0], (I, L, X), 0, 0) (fun _ => rfl) ?_
              refine yi_G_if1 true rfl (by decide) ?_
              refine yi_G_run 2 (226, [(7, .inl 0), (6, .inl 0), (9, .inl 0), (8, .inl k), (0, .inr (.inr (some 82))), (1, .inl c), (2, .inl n), (3, .inl wh), (4, .inl ev), (5, .inl wo)], [], (I, L, X), 0, 0) (fun _ => rfl) ?_
              refine yi_G_iinc [(8, .inl (k + 1)), (7, .inl 0), (6, .inl 0), (9, .inl 0), (0, .inr (.inr (some 82))), (1, .inl c), (2, .inl n), (3, .inl wh), (4, .inl ev), (5, .inl wo)] rfl rfl rfl (by rw [show yi_w (k + 1) = k + 1 from (yi_wn (by omega) (by omega)).trans (by omega)]; rfl) ?_
              refine yi_G_run 1 (150, [(8, .inl (k + 1)), (7, .inl 0), (6, .inl 0), (9, .inl 0), (0, .inr (.inr (some 82))), (1, .inl c), (2, .inl n), (3, .inl wh), (4, .inl ev), (5, .inl wo)], [], (I, L, X), 0, 0) (fun _ => rfl) ?_
              refine yi_G_al (al := [(8, .inl (k + 1)), (7, .inl 0), (6, .inl 0), (0, .inr (.inr (some 82))), (1, .inl c), (2, .inl n), (3, .inl wh), (4, .inl ev), (5, .inl wo)]) (show ([8, 7, 6, 0, 1, 2, 3, 4, 5] : List Nat).Nodup by decide) (show ([8, 7, 6, 9, 0, 1, 2, 3, 4, 5] : List Nat).Nodup by decide) (yi_mc (List.mem_of_getElem? (i := 0) rfl) (yi_mc (List.mem_of_getElem? (i := 1) rfl) (yi_mc (List.mem_of_getElem? (i := 2) rfl) (yi_mc (List.mem_of_getElem? (i := 4) rfl) (yi_mc (List.mem_of_getElem? (i := 5) rfl) (yi_mc (List.mem_of_getElem? (i := 6) rfl) (yi_mc (List.mem_of_getElem? (i := 7) rfl) (yi_mc (List.mem_of_getElem? (i := 8) rfl) (yi_mc (List.mem_of_getElem? (i := 9) rfl) yi_mn))))))))) ?_
              exact ih150 _ (by omega) (k + 1) 0 0 n wh ev wo (by omega) (by omega) (by omega) (by omega) (by omega) (by omega) (by omega) rfl
          · refine yi_G_if1 true rfl (yi_ne_t h9) ?_
            refine yi_G_run 4 (211, [(6, .inl 1), (9, .inl 0), (8, .inl k), (7, .inl b), (0, .inr (.inr (some 82))), (1, .inl c), (2, .inl n), (3, .inl wh), (4, .inl ev), (5, .inl wo)], [.inl b], (I, L, X), 0, 0) (fun _ => rfl) ?_
            by_cases h11 : b = 0
            · refine yi_G_if1 true rfl (yi_eq_t h11) ?_
              refine yi_G_run 2 (226, [(7, .inl 0), (6, .inl 1), (9, .inl 0), (8, .inl k), (0, .inr (.inr (some 82))), (1, .inl c), (2, .inl n), (3, .inl wh), (4, .inl ev), (5, .inl wo)], [], (I, L, X), 0, 0) (fun _ => rfl) ?_
              refine yi_G_iinc [(8, .inl (k + 1)), (7, .inl 0), (6, .inl 1), (9, .inl 0), (0, .inr (.inr (some 82))), (1, .inl c), (2, .inl n), (3, .inl wh), (4, .inl ev), (5, .inl wo)] rfl rfl rfl (by rw [show yi_w (k + 1) = k + 1 from (yi_wn (by omega) (by omega)).trans (by omega)]; rfl) ?_
              refine yi_G_run 1 (150, [(8, .inl (k + 1)), (7, .inl 0), (6, .inl 1), (9, .inl 0), (0, .inr (.inr (some 82))), (1, .inl c), (2, .inl n), (3, .inl wh), (4, .inl ev), (5, .inl wo)], [], (I, L, X), 0, 0) (fun _ => rfl) ?_
              refine yi_G_al (al := [(8, .inl (k + 1)), (7, .inl 0), (6, .inl 1), (0, .inr (.inr (some 82))), (1, .inl c), (2, .inl n), (3, .inl wh), (4, .inl ev), (5, .inl wo)]) (show ([8, 7, 6, 0, 1, 2, 3, 4, 5] : List Nat).Nodup by decide) (show ([8, 7, 6, 9, 0, 1, 2, 3, 4, 5] : List Nat).Nodup by decide) (yi_mc (List.mem_of_getElem? (i := 0) rfl) (yi_mc (List.mem_of_getElem? (i := 1) rfl) (yi_mc (List.mem_of_getElem? (i := 2) rfl) (yi_mc (List.mem_of_getElem? (i := 4) rfl) (yi_mc (List.mem_of_getElem? (i := 5) rfl) (yi_mc (List.mem_of_getElem? (i := 6) rfl) (yi_mc (List.mem_of_getElem? (i := 7) rfl) (yi_mc (List.mem_of_getElem? (i := 8) rfl) (yi_mc (List.mem_of_getElem? (i := 9) rfl) yi_mn))))))))) ?_
              exact ih150 _ (by omega) (k + 1) 0 1 n wh ev wo (by omega) (by omega) (by omega) (by omega) (by omega) (by omega) (by omega) rfl
            · refine yi_G_if1 false rfl (yi_eq_f h11) ?_
              refine yi_G_run 1 (216, [(6, .inl 1), (9, .inl 0), (8, .inl k), (7, .inl b), (0, .inr (.inr (some 82))), (1, .inl c), (2, .inl n), (3, .inl wh), (4, .inl ev), (5, .inl wo)], [.inl 0], (I, L, X), 0, 0) (fun _ => rfl) ?_
              refine yi_G_if1 true rfl (by decide) ?_
              refine yi_G_run 2 (226, [(7, .inl 0), (6, .inl 1), (9, .inl 0), (8, .inl k), (0, .inr (.inr (some 82))), (1, .inl c), (2, .inl n), (3, .inl wh), (4, .inl ev), (5, .inl wo)], [], (I, L, X), 0, 0) (fun _ => rfl) ?_
              refine yi_G_iinc [(8, .inl (k + 1)), (7, .inl 0), (6, .inl 1), (9, .inl 0), (0, .inr (.inr (some 82))), (1, .inl c), (2, .inl n), (3, .inl wh), (4, .inl ev), (5, .inl wo)] rfl rfl rfl (by rw [show yi_w (k + 1) = k + 1 from (yi_wn (by omega) (by omega)).trans (by omega)]; rfl) ?_
              refine yi_G_run 1 (150, [(8, .inl (k + 1)), (7, .inl 0), (6, .inl 1), (9, .inl 0), (0, .inr (.inr (some 82))), (1, .inl c), (2, .inl n), (3, .inl wh), (4, .inl ev), (5, .inl wo)], [], (I, L, X), 0, 0) (fun _ => rfl) ?_
              refine yi_G_al (al := [(8, .inl (k + 1)), (7, .inl 0), (6, .inl 1), (0, .inr (.inr (some 82))), (1, .inl c), (2, .inl n), (3, .inl wh), (4, .inl ev), (5, .inl wo)]) (show ([8, 7, 6, 0, 1, 2, 3, 4, 5] : List Nat).Nodup by decide) (show ([8, 7, 6, 9, 0, 1, 2, 3, 4, 5] : List Nat).Nodup by decide) (yi_mc (List.mem_of_getElem? (i := 0) rfl) (yi_mc (List.mem_of_getElem? (i := 1) rfl) (yi_mc (List.mem_of_getElem? (i := 2) rfl) (yi_mc (List.mem_of_getElem? (i := 4) rfl) (yi_mc (List.mem_of_getElem? (i := 5) rfl) (yi_mc (List.mem_of_getElem? (i := 6) rfl) (yi_mc (List.mem_of_getElem? (i := 7) rfl) (yi_mc (List.mem_of_getElem? (i := 8) rfl) (yi_mc (List.mem_of_getElem? (i := 9) rfl) yi_mn))))))))) ?_
              exact ih150 _ (by omega) (k + 1) 0 1 n wh ev wo (by omega) (by omega) (by omega) (by omega) (by omega) (by omega) (by omega) rfl
      · refine yi_G_if2 false rfl (yi_ge_f h5) ?_
        refine yi_G_run 2 (169, [(8, .inl k), (7, .inl b), (6, .inl b2), (0, .inr (.inr (some 82))), (1, .inl c), (2, .inl n), (3, .inl wh), (4, .inl ev), (5, .inl wo)], [.inl wo, .inl k], (I, L, X), 0, 0) (fun _ => rfl) ?_
        by_cases h12 : k = wo
        · refine yi_G_if2 false rfl (yi_ne_f h12) ?_
          refine yi_G_run 5 (179, [(8, .inl k), (7, .inl b), (6, .inl b2), (0, .inr (.inr (some 82))), (1, .inl c), (2, .inl n), (3, .inl wh), (4, .inl ev), (5, .inl wo)], [.inl n, .inl wh, .inl ev, .inl k, .inr (.inr (some 82))], (I, L, X), 0, 0) (fun _ => rfl) ?_
          refine yi_G_callv rfl rfl (ym_rcv hS) rfl (c_holdsOf d (by omega) hS hLR (by omega) (by omega) (by omega) (by omega)) ?_
          rintro _ (rfl | rfl)
          · show yi_G zi_Ms d zi_m42 (182, [(8, .inl k), (7, .inl b), (6, .inl b2), (0, .inr (.inr (some 82))), (1, .inl c), (2, .inl n), (3, .inl wh), (4, .inl ev), (5, .inl wo)], [.inl 1], (I, L, X), 0, 0) _
            refine yi_G_if1 false rfl (by decide) ?_
            refine yi_G_run 4 (194, [(9, .inl 1), (8, .inl k), (7, .inl b), (6, .inl b2), (0, .inr (.inr (some 82))), (1, .inl c), (2, .inl n), (3, .inl wh), (4, .inl ev), (5, .inl wo)], [.inl b2], (I, L, X), 0, 0) (fun _ => rfl) ?_
            by_cases h13 : b2 = 0
            · refine yi_G_if1 false rfl (yi_ne_f h13) ?_
              refine yi_G_run 1 (199, [(9, .inl 1), (8, .inl k), (7, .inl b), (6, .inl b2), (0, .inr (.inr (some 82))), (1, .inl c), (2, .inl n), (3, .inl wh), (4, .inl ev), (5, .inl wo)], [.inl 1], (I, L, X), 0, 0) (fun _ => rfl) ?_
              refine yi_G_if1 false rfl (by decide) ?_
              refine yi_G_run 4 (211, [(6, .inl 1), (9, .inl 1), (8, .inl k), (7, .inl b), (0, .inr (.inr (some 82))), (1, .inl c), (2, .inl n), (3, .inl wh), (4, .inl ev), (5, .inl wo)], [.inl b], (I, L, X), 0, 0) (fun _ => rfl) ?_
              by_cases h14 : b = 0
              · refine yi_G_if1 true rfl (yi_eq_t h14) ?_
                refine yi_G_run 2 (226, [(7, .inl 0), (6, .inl 1), (9, .inl 1), (8, .inl k), (0, .inr (.inr (some 82))), (1, .inl c), (2, .inl n), (3, .inl wh), (4, .inl ev), (5, .inl wo)], [], (I, L, X), 0, 0) (fun _ => rfl) ?_
                refine yi_G_iinc [(8, .inl (k + 1)), (7, .inl 0), (6, .inl 1), (9, .inl 1), (0, .inr (.inr (some 82))), (1, .inl c), (2, .inl n), (3, .inl wh), (4, .inl ev), (5, .inl wo)] rfl rfl rfl (by rw [show yi_w (k + 1) = k + 1 from (yi_wn (by omega) (by omega)).trans (by omega)]; rfl) ?_
                refine yi_G_run 1 (150, [(8, .inl (k + 1)), (7, .inl 0), (6, .inl 1), (9, .inl 1), (0, .inr (.inr (some 82))), (1, .inl c), (2, .inl n), (3, .inl wh), (4, .inl ev), (5, .inl wo)], [], (I, L, X), 0, 0) (fun _ => rfl) ?_
                refine yi_G_al (al := [(8, .inl (k + 1)), (7, .inl 0), (6, .inl 1), (0, .inr (.inr (some 82))), (1, .inl c), (2, .inl n), (3, .inl wh), (4, .inl ev), (5, .inl wo)]) (show ([8, 7, 6, 0, 1, 2, 3, 4, 5] : List Nat).Nodup by decide) (show ([8, 7, 6, 9, 0, 1, 2, 3, 4, 5] : List Nat).Nodup by decide) (yi_mc (List.mem_of_getElem? (i := 0) rfl) (yi_mc (List.mem_of_getElem? (i := 1) rfl) (yi_mc (List.mem_of_getElem? (i := 2) rfl) (yi_mc (List.mem_of_getElem? (i := 4) rfl) (yi_mc (List.mem_of_getElem? (i := 5) rfl) (yi_mc (List.mem_of_getElem? (i := 6) rfl) (yi_mc (List.mem_of_getElem? (i := 7) rfl) (yi_mc (List.mem_of_getElem? (i := 8) rfl) (yi_mc (List.mem_of_getElem? (i := 9) rfl) yi_mn))))))))) ?_
                exact ih150 _ (by omega) (k + 1) 0 1 n wh ev wo (by omega) (by omega) (by omega) (by omega) (by omega) (by omega) (by omega) rfl
              · refine yi_G_if1 false rfl (yi_eq_f h14) ?_
                refine yi_G_run 1 (216, [(6, .inl 1), (9, .inl 1), (8, .inl k), (7, .inl b), (0, .inr (.inr (some 82))), (1, .inl c), (2, .inl n), (3, .inl wh), (4, .inl ev), (5, .inl wo)], [.inl 1], (I, L, X), 0, 0) (fun _ => rfl) ?_
                refine yi_G_if1 false rfl (by decide) ?_
                refine yi_G_run 3 (226, [(7, .inl 1), (6, .inl 1), (9, .inl 1), (8, .inl k), (0, .inr (.inr (some 82))), (1, .inl c), (2, .inl n), (3, .inl wh), (4, .inl ev), (5, .inl wo)], [], (I, L, X), 0, 0) (fun _ => rfl) ?_
                refine yi_G_iinc [(8, .inl (k + 1)), (7, .inl 1), (6, .inl 1), (9, .inl 1), (0, .inr (.inr (some 82))), (1, .inl c), (2, .inl n), (3, .inl wh), (4, .inl ev), (5, .inl wo)] rfl rfl rfl (by rw [show yi_w (k + 1) = k + 1 from (yi_wn (by omega) (by omega)).trans (by omega)]; rfl) ?_
                refine yi_G_run 1 (150, [(8, .inl (k + 1)), (7, .inl 1), (6, .inl 1), (9, .inl 1), (0, .inr (.inr (some 82))), (1, .inl c), (2, .inl n), (3, .inl wh), (4, .inl ev), (5, .inl wo)], [], (I, L, X), 0, 0) (fun _ => rfl) ?_
                refine yi_G_al (al := [(8, .inl (k + 1)), (7, .inl 1), (6, .inl 1), (0, .inr (.inr (some 82))), (1, .inl c), (2, .inl n), (3, .inl wh), (4, .inl ev), (5, .inl wo)]) (show ([8, 7, 6, 0, 1, 2, 3, 4, 5] : List Nat).Nodup by decide) (show ([8, 7, 6, 9, 0, 1, 2, 3, 4, 5] : List Nat).Nodup by decide) (yi_mc (List.mem_of_getElem? (i := 0) rfl) (yi_mc (List.mem_of_getElem? (i := 1) rfl) (yi_mc (List.mem_of_getElem? (i := 2) rfl) (yi_mc (List.mem_of_getElem? (i := 4) rfl) (yi_mc (List.mem_of_getElem? (i := 5) rfl) (yi_mc (List.mem_of_getElem? (i := 6) rfl) (yi_mc (List.mem_of_getElem? (i := 7) rfl) (yi_mc (List.mem_of_getElem? (i := 8) rfl) (yi_mc (List.mem_of_getElem? (i := 9) rfl) yi_mn))))))))) ?_
                exact ih150 _ (by omega) (k + 1) 1 1 n wh ev wo (by omega) (by omega) (by omega) (by omega) (by omega) (by omega) (by omega) rfl
            · refine yi_G_if1 true rfl (yi_ne_t h13) ?_
              refine yi_G_run 4 (211, [(6, .inl 1), (9, .inl 1), (8, .inl k), (7, .inl b), (0, .inr (.inr (some 82))), (1, .inl c), (2, .inl n), (3, .inl wh), (4, .inl ev), (5, .inl wo)], [.inl b], (I, L, X), 0, 0) (fun _ => rfl) ?_
              by_cases h15 : b = 0
              · refine yi_G_if1 true rfl (yi_eq_t h15) ?_
                refine yi_G_run 2 (226, [(7, .inl 0), (6, .inl 1), (9, .inl 1), (8, .inl k), (0, .inr (.inr (some 82))), (1, .inl c), (2, .inl n), (3, .inl wh), (4, .inl ev), (5, .inl wo)], [], (I, L, X), 0, 0) (fun _ => rfl) ?_
                refine yi_G_iinc [(8, .inl (k + 1)), (7, .inl 0), (6, .inl 1), (9, .inl 1), (0, .inr (.inr (some 82))), (1, .inl c), (2, .inl n), (3, .inl wh), (4, .inl ev), (5, .inl wo)] rfl rfl rfl (by rw [show yi_w (k + 1) = k + 1 from (yi_wn (by omega) (by omega)).trans (by omega)]; rfl) ?_
                refine yi_G_run 1 (150, [(8, .inl (k + 1)), (7, .inl 0), (6, .inl 1), (9, .inl 1), (0, .inr (.inr (some 82))), (1, .inl c), (2, .inl n), (3, .inl wh), (4, .inl ev), (5, .inl wo)], [], (I, L, X), 0, 0) (fun _ => rfl) ?_
                refine yi_G_al (al := [(8, .inl (k + 1)), (7, .inl 0), (6, .inl 1), (0, .inr (.inr (some 82))), (1, .inl c), (2, .inl n), (3, .inl wh), (4, .inl ev), (5, .inl wo)]) (show ([8, 7, 6, 0, 1, 2, 3, 4, 5] : List Nat).Nodup by decide) (show ([8, 7, 6, 9, 0, 1, 2, 3, 4, 5] : List Nat).Nodup by decide) (yi_mc (List.mem_of_getElem? (i := 0) rfl) (yi_mc (List.mem_of_getElem? (i := 1) rfl) (yi_mc (List.mem_of_getElem? (i := 2) rfl) (yi_mc (List.mem_of_getElem? (i := 4) rfl) (yi_mc (List.mem_of_getElem? (i := 5) rfl) (yi_mc (List.mem_of_getElem? (i := 6) rfl) (yi_mc (List.mem_of_getElem? (i := 7) rfl) (yi_mc (List.mem_of_getElem? (i := 8) rfl) (yi_mc (List.mem_of_getElem? (i := 9) rfl) yi_mn))))))))) ?_
                exact ih150 _ (by omega) (k + 1) 0 1 n wh ev wo (by omega) (by omega) (by omega) (by omega) (by omega) (by omega) (by omega) rfl
              · refine yi_G_if1 false rfl (yi_eq_f h15) ?_
                refine yi_G_run 1 (216, [(6, .inl 1), (9, .inl 1), (8, .inl k), (7, .inl b), (0, .inr (.inr (some 82))), (1, .inl c), (2, .inl n), (3, .inl wh), (4, .inl ev), (5, .inl wo)], [.inl 1], (I, L, X), 0, 0) (fun _ => rfl) ?_
                refine yi_G_if1 false rfl (by decide) ?_
                refine yi_G_run 3 (226, [(7, .inl 1), (6, .inl 1), (9, .inl 1), (8, .inl k), (0, .inr (.inr (some 82))), (1, .inl c), (2, .inl n), (3, .inl wh), (4, .inl ev), (5, .inl wo)], [], (I, L, X), 0, 0) (fun _ => rfl) ?_
                refine yi_G_iinc [(8, .inl (k + 1)), (7, .inl 1), (6, .inl 1), (9, .inl 1), (0, .inr (.inr (some 82))), (1, .inl c), (2, .inl n), (3, .inl wh), (4, .inl ev), (5, .inl wo)] rfl rfl rfl (by rw [show yi_w (k + 1) = k + 1 from (yi_wn (by omega) (by omega)).trans (by omega)]; rfl) ?_
                refine yi_G_run 1 (150, [(8, .inl (k + 1)), (7, .inl 1), (6, .inl 1), (9, .inl 1), (0, .inr (.inr (some 82))), (1, .inl c), (2, .inl n), (3, .inl wh), (4, .inl ev), (5, .inl wo)], [], (I, L, X), 0, 0) (fun _ => rfl) ?_
                refine yi_G_al (al := [(8, .inl (k + 1)), (7, .inl 1), (6, .inl 1), (0, .inr (.inr (some 82))), (1, .inl c), (2, .inl n), (3, .inl wh), (4, .inl ev), (5, .inl wo)]) (show ([8, 7, 6, 0, 1, 2, 3, 4, 5] : List Nat).Nodup by decide) (show ([8, 7, 6, 9, 0, 1, 2, 3, 4, 5] : List Nat).Nodup by decide) (yi_mc (List.mem_of_getElem? (i := 0) rfl) (yi_mc (List.mem_of_getElem? (i := 1) rfl) (yi_mc (List.mem_of_getElem? (i := 2) rfl) (yi_mc (List.mem_of_getElem? (i := 4) rfl) (yi_mc (List.mem_of_getElem? (i := 5) rfl) (yi_mc (List.mem_of_getElem? (i := 6) rfl) (yi_mc (List.mem_of_getElem? (i := 7) rfl) (yi_mc (List.mem_of_getElem? (i := 8) rfl) (yi_mc (List.mem_of_getElem? (i := 9) rfl) yi_mn))))))))) ?_
                exact ih150 _ (by omega) (k + 1) 1 1 n wh ev wo (by omega) (by omega) (by omega) (by omega) (by omega) (by omega) (by omega) rfl
          · show yi_G zi_Ms d zi_m42 (182, [(8, .inl k), (7, .inl b), (6, .inl b2), (0, .inr (.inr (some 82))), (1, .inl c), (2, .inl n), (3, .inl wh), (4, .inl ev), (5, .inl wo)], [.inl 0], (I, L, X), 0, 0) _
            refine yi_G_if1 true rfl (by decide) ?_
            refine yi_G_run 3 (194, [(9, .inl 0), (8, .inl k), (7, .inl b), (6, .inl b2), (0, .inr (.inr (some 82))), (1, .inl c), (2, .inl n), (3, .inl wh), (4, .inl ev), (5, .inl wo)], [.inl b2], (I, L, X), 0, 0) (fun _ => rfl) ?_
            by_cases h16 : b2 = 0
            · refine yi_G_if1 false rfl (yi_ne_f h16) ?_
              refine yi_G_run 1 (199, [(9, .inl 0), (8, .inl k), (7, .inl b), (6, .inl b2), (0, .inr (.inr (some 82))), (1, .inl c), (2, .inl n), (3, .inl wh), (4, .inl ev), (5, .inl wo)], [.inl 0], (I, L, X), 0, 0) (fun _ => rfl) ?_
              refine yi_G_if1 true rfl (by decide) ?_
              refine yi_G_run 3 (211, [(6, .inl 0), (9, .inl 0), (8, .inl k), (7, .inl b), (0, .inr (.inr (some 82))), (1, .inl c), (2, .inl n), (3, .inl wh), (4, .inl ev), (5, .inl wo)], [.inl b], (I, L, X), 0, 0) (fun _ => rfl) ?_
              by_cases h17 : b = 0
              · refine yi_G_if1 true rfl (yi_eq_t h17) ?_
                refine yi_G_run 2 (226, [(7, .inl 0), (6, .inl 0), (9, .inl 0), (8, .inl k), (0, .inr (.inr (some 82))), (1, .inl c), (2, .inl n), (3, .inl wh), (4, .inl ev), (5, .inl wo)], [], (I, L, X), 0, 0) (fun _ => rfl) ?_
                refine yi_G_iinc [(8, .inl (k + 1)), (7, .inl 0), (6, .inl 0), (9, .inl 0), (0, .inr (.inr (some 82))), (1, .inl c), (2, .inl n), (3, .inl wh), (4, .inl ev), (5, .inl wo)] rfl rfl rfl (by rw [show yi_w (k + 1) = k + 1 from (yi_wn (by omega) (by omega)).trans (by omega)]; rfl) ?_
                refine yi_G_run 1 (150, [(8, .inl (k + 1)), (7, .inl 0), (6, .inl 0), (9, .inl 0), (0, .inr (.inr (some 82))), (1, .inl c), (2, .inl n), (3, .inl wh), (4, .inl ev), (5, .inl wo)], [], (I, L, X), 0, 0) (fun _ => rfl) ?_
                refine yi_G_al (al := [(8, .inl (k + 1)), (7, .inl 0), (6, .inl 0), (0, .inr (.inr (some 82))), (1, .inl c), (2, .inl n), (3, .inl wh), (4, .inl ev), (5, .inl wo)]) (show ([8, 7, 6, 0, 1, 2, 3, 4, 5] : List Nat).Nodup by decide) (show ([8, 7, 6, 9, 0, 1, 2, 3, 4, 5] : List Nat).Nodup by decide) (yi_mc (List.mem_of_getElem? (i := 0) rfl) (yi_mc (List.mem_of_getElem? (i := 1) rfl) (yi_mc (List.mem_of_getElem? (i := 2) rfl) (yi_mc (List.mem_of_getElem? (i := 4) rfl) (yi_mc (List.mem_of_getElem? (i := 5) rfl) (yi_mc (List.mem_of_getElem? (i := 6) rfl) (yi_mc (List.mem_of_getElem? (i := 7) rfl) (yi_mc (List.mem_of_getElem? (i := 8) rfl) (yi_mc (List.mem_of_getElem? (i := 9) rfl) yi_mn))))))))) ?_
                exact ih150 _ (by omega) (k + 1) 0 0 n wh ev wo (by omega) (by omega) (by omega) (by omega) (by omega) (by omega) (by omega) rfl
              · refine yi_G_if1 false rfl (yi_eq_f h17) ?_
                refine yi_G_run 1 (216, [(6, .inl 0), (9, .inl 0), (8, .inl k), (7, .inl b), (0, .inr (.inr (some 82))), (1, .inl c), (2, .inl n), (3, .inl wh), (4, .inl ev), (5, .inl wo)], [.inl 0], (I, L, X), 0, 0) (fun _ => rfl) ?_
                refine yi_G_if1 true rfl (by decide) ?_
                refine yi_G_run 2 (226, [(7, .inl 0), (6, .inl 0), (9, .inl 0), (8, .inl k), (0, .inr (.inr (some 82))), (1, .inl c), (2, .inl n), (3, .inl wh), (4, .inl ev), (5, .inl wo)], [], (I, L, X), 0, 0) (fun _ => rfl) ?_
                refine yi_G_iinc [(8, .inl (k + 1)), (7, .inl 0), (6, .inl 0), (9, .inl 0), (0, .inr (.inr (some 82))), (1, .inl c), (2, .inl n), (3, .inl wh), (4, .inl ev), (5, .inl wo)] rfl rfl rfl (by rw [show yi_w (k + 1) = k + 1 from (yi_wn (by omega) (by omega)).trans (by omega)]; rfl) ?_
                refine yi_G_run 1 (150, [(8, .inl (k + 1)), (7, .inl 0), (6, .inl 0), (9, .inl 0), (0, .inr (.inr (some 82))), (1, .inl c), (2, .inl n), (3, .inl wh), (4, .inl ev), (5, .inl wo)], [], (I, L, X), 0, 0) (fun _ => rfl) ?_
                refine yi_G_al (al := [(8, .inl (k + 1)), (7, .inl 0), (6, .inl 0), (0, .inr (.inr (some 82))), (1, .inl c), (2, .inl n), (3, .inl wh), (4, .inl ev), (5, .inl wo)]) (show ([8, 7, 6, 0, 1, 2, 3, 4, 5] : List Nat).Nodup by decide) (show ([8, 7, 6, 9, 0, 1, 2, 3, 4, 5] : List Nat).Nodup by decide) (yi_mc (List.mem_of_getElem? (i := 0) rfl) (yi_mc (List.mem_of_getElem? (i := 1) rfl) (yi_mc (List.mem_of_getElem? (i := 2) rfl) (yi_mc (List.mem_of_getElem? (i := 4) rfl) (yi_mc (List.mem_of_getElem? (i := 5) rfl) (yi_mc (List.mem_of_getElem? (i := 6) rfl) (yi_mc (List.mem_of_getElem? (i := 7) rfl) (yi_mc (List.mem_of_getElem? (i := 8) rfl) (yi_mc (List.mem_of_getElem? (i := 9) rfl) yi_mn))))))))) ?_
                exact ih150 _ (by omega) (k + 1) 0 0 n wh ev wo (by omega) (by omega) (by omega) (by omega) (by omega) (by omega) (by omega) rfl
            · refine yi_G_if1 true rfl (yi_ne_t h16) ?_
              refine yi_G_run 4 (211, [(6, .inl 1), (9, .inl 0), (8, .inl k), (7, .inl b), (0, .inr (.inr (some 82))), (1, .inl c), (2, .inl n), (3, .inl wh), (4, .inl ev), (5, .inl wo)], [.inl b], (I, L, X), 0, 0) (fun _ => rfl) ?_
              by_cases h18 : b = 0
              · refine yi_G_if1 true rfl (yi_eq_t h18) ?_
                refine yi_G_run 2 (226, [(7, .inl 0), (6, .inl 1), (9, .inl 0), (8, .inl k), (0, .inr (.inr (some 82))), (1, .inl c), (2, .inl n), (3, .inl wh), (4, .inl ev), (5, .inl wo)], [], (I, L, X), 0, 0) (fun _ => rfl) ?_
                refine yi_G_iinc [(8, .inl (k + 1)), (7, .inl 0), (6, .inl 1), (9, .inl 0), (0, .inr (.inr (some 82))), (1, .inl c), (2, .inl n), (3, .inl wh), (4, .inl ev), (5, .inl wo)] rfl rfl rfl (by rw [show yi_w (k + 1) = k + 1 from (yi_wn (by omega) (by omega)).trans (by omega)]; rfl) ?_
                refine yi_G_run 1 (150, [(8, .inl (k + 1)), (7, .inl 0), (6, .inl 1), (9, .inl 0), (0, .inr (.inr (some 82))), (1, .inl c), (2, .inl n), (3, .inl wh), (4, .inl ev), (5, .inl wo)], [], (I, L, X), 0, 0) (fun _ => rfl) ?_
                refine yi_G_al (al := [(8, .inl (k + 1)), (7, .inl 0), (6, .inl 1), (0, .inr (.inr (some 82))), (1, .inl c), (2, .inl n), (3, .inl wh), (4, .inl ev), (5, .inl wo)]) (show ([8, 7, 6, 0, 1, 2, 3, 4, 5] : List Nat).Nodup by decide) (show ([8, 7, 6, 9, 0, 1, 2, 3, 4, 5] : List Nat).Nodup by decide) (yi_mc (List.mem_of_getElem? (i := 0) rfl) (yi_mc (List.mem_of_getElem? (i := 1) rfl) (yi_mc (List.mem_of_getElem? (i := 2) rfl) (yi_mc (List.mem_of_getElem? (i := 4) rfl) (yi_mc (List.mem_of_getElem? (i := 5) rfl) (yi_mc (List.mem_of_getElem? (i := 6) rfl) (yi_mc (List.mem_of_getElem? (i := 7) rfl) (yi_mc (List.mem_of_getElem? (i := 8) rfl) (yi_mc (List.mem_of_getElem? (i := 9) rfl) yi_mn))))))))) ?_
                exact ih150 _ (by omega) (k + 1) 0 1 n wh ev wo (by omega) (by omega) (by omega) (by omega) (by omega) (by omega) (by omega) rfl
              · refine yi_G_if1 false rfl (yi_eq_f h18) ?_
                refine yi_G_run 1 (216, [(6, .inl 1), (9, .inl 0), (8, .inl k), (7, .inl b), (0, .inr (.inr (some 82))), (1, .inl c), (2, .inl n), (3, .inl wh), (4, .inl ev), (5, .inl wo)], [.inl 0], (I, L, X), 0, 0) (fun _ => rfl) ?_
                refine yi_G_if1 true rfl (by decide) ?_
                refine yi_G_run 2 (226, [(7, .inl 0), (6, .inl 1), (9, .inl 0), (8, .inl k), (0, .inr (.inr (some 82))), (1, .inl c), (2, .inl n), (3, .inl wh), (4, .inl ev), (5, .inl wo)], [], (I, L, X), 0, 0) (fun _ => rfl) ?_
                refine yi_G_iinc [(8, .inl (k + 1)), (7, .inl 0), (6, .inl 1), (9, .inl 0), (0, .inr (.inr (some 82))), (1, .inl c), (2, .inl n), (3, .inl wh), (4, .inl ev), (5, .inl wo)] rfl rfl rfl (by rw [show yi_w (k + 1) = k + 1 from (yi_wn (by omega) (by omega)).trans (by omega)]; rfl) ?_
                refine yi_G_run 1 (150, [(8, .inl (k + 1)), (7, .inl 0), (6, .inl 1), (9, .inl 0), (0, .inr (.inr (some 82))), (1, .inl c), (2, .inl n), (3, .inl wh), (4, .inl ev), (5, .inl wo)], [], (I, L, X), 0, 0) (fun _ => rfl) ?_
                refine yi_G_al (al := [(8, .inl (k + 1)), (7, .inl 0), (6, .inl 1), (0, .inr (.inr (some 82))), (1, .inl c), (2, .inl n), (3, .inl wh), (4, .inl ev), (5, .inl wo)]) (show ([8, 7, 6, 0, 1, 2, 3, 4, 5] : List Nat).Nodup by decide) (show ([8, 7, 6, 9, 0, 1, 2, 3, 4, 5] : List Nat).Nodup by decide) (yi_mc (List.mem_of_getElem? (i := 0) rfl) (yi_mc (List.mem_of_getElem? (i := 1) rfl) (yi_mc (List.mem_of_getElem? (i := 2) rfl) (yi_mc (List.mem_of_getElem? (i := 4) rfl) (yi_mc (List.mem_of_getElem? (i := 5) rfl) (yi_mc (List.mem_of_getElem? (i := 6) rfl) (yi_mc (List.mem_of_getElem? (i := 7) rfl) (yi_mc (List.mem_of_getElem? (i := 8) rfl) (yi_mc (List.mem_of_getElem? (i := 9) rfl) yi_mn))))))))) ?_
                exact ih150 _ (by omega) (k + 1) 0 1 n wh ev wo (by omega) (by omega) (by omega) (by omega) (by omega) (by omega) (by omega) rfl
        · refine yi_G_if2 true rfl (yi_ne_t h12) ?_
          refine yi_G_run 3 (194, [(9, .inl 0), (8, .inl k), (7, .inl b), (6, .inl b2), (0, .inr (.inr (some 82))), (1, .inl c), (2, .inl n), (3, .inl wh), (4, .inl ev), (5, .inl wo)], [.inl b2], (I, L, X), 0, 0) (fun _ => rfl) ?_
          by_cases h19 : b2 = 0
          · refine yi_G_if1 false rfl (yi_ne_f h19) ?_
            refine yi_G_run 1 (199, [(9, .inl 0), (8, .inl k), (7, .inl b), (6, .inl b2), (0, .inr (.inr (some 82))), (1, .inl c), (2, .inl n), (3, .inl wh), (4, .inl ev), (5, .inl wo)], [.inl 0], (I, L, X), 0, 0) (fun _ => rfl) ?_
            refine yi_G_if1 true rfl (by decide) ?_
            refine yi_G_run 3 (211, [(6, .inl 0), (9, .inl 0), (8, .inl k), (7, .inl b), (0, .inr (.inr (some 82))), (1, .inl c), (2, .inl n), (3, .inl wh), (4, .inl ev), (5, .inl wo)], [.inl b], (I, L, X), 0, 0) (fun _ => rfl) ?_
            by_cases h20 : b = 0
            · refine yi_G_if1 true rfl (yi_eq_t h20) ?_
              refine yi_G_run 2 (226, [(7, .inl 0), (6, .inl 0), (9, .inl 0), (8, .inl k), (0, .inr (.inr (some 82))), (1, .inl c), (2, .inl n), (3, .inl wh), (4, .inl ev), (5, .inl wo)], [], (I, L, X), 0, 0) (fun _ => rfl) ?_
              refine yi_G_iinc [(8, .inl (k + 1)), (7, .inl 0), (6, .inl 0), (9, .inl 0), (0, .inr (.inr (some 82))), (1, .inl c), (2, .inl n), (3, .inl wh), (4, .inl ev), (5, .inl wo)] rfl rfl rfl (by rw [show yi_w (k + 1) = k + 1 from (yi_wn (by omega) (by omega)).trans (by omega)]; rfl) ?_
              refine yi_G_run 1 (150, [(8, .inl (k + 1)), (7, .inl 0), (6, .inl 0), (9, .inl 0), (0, .inr (.inr (some 82))), (1, .inl c), (2, .inl n), (3, .inl wh), (4, .inl ev), (5, .inl wo)], [], (I, L, X), 0, 0) (fun _ => rfl) ?_
              refine yi_G_al (al := [(8, .inl (k + 1)), (7, .inl 0), (6, .inl 0), (0, .inr (.inr (some 82))), (1, .inl c), (2, .inl n), (3, .inl wh), (4, .inl ev), (5, .inl wo)]) (show ([8, 7, 6, 0, 1, 2, 3, 4, 5] : List Nat).Nodup by decide) (show ([8, 7, 6, 9, 0, 1, 2, 3, 4, 5] : List Nat).Nodup by decide) (yi_mc (List.mem_of_getElem? (i := 0) rfl) (yi_mc (List.mem_of_getElem? (i := 1) rfl) (yi_mc (List.mem_of_getElem? (i := 2) rfl) (yi_mc (List.mem_of_getElem? (i := 4) rfl) (yi_mc (List.mem_of_getElem? (i := 5) rfl) (yi_mc (List.mem_of_getElem? (i := 6) rfl) (yi_mc (List.mem_of_getElem? (i := 7) rfl) (yi_mc (List.mem_of_getElem? (i := 8) rfl) (yi_mc (List.mem_of_getElem? (i := 9) rfl) yi_mn))))))))) ?_
              exact ih150 _ (by omega) (k + 1) 0 0 n wh ev wo (by omega) (by omega) (by omega) (by omega) (by omega) (by omega) (by omega) rfl
            · refine yi_G_if1 false rfl (yi_eq_f h20) ?_
              refine yi_G_run 1 (216, [(6, .inl 0), (9, .inl 0), (8, .inl k), (7, .inl b), (0, .inr (.inr (some 82))), (1, .inl c), (2, .inl n), (3, .inl wh), (4, .inl ev), (5, .inl wo)], [.inl 0], (I, L, X), 0, 0) (fun _ => rfl) ?_
              refine yi_G_if1 true rfl (by decide) ?_
              refine yi_G_run 2 (226, [(7, .inl 0), (6, .inl 0), (9, .inl 0), (8, .inl k), (0, .inr (.inr (some 82))), (1, .inl c), (2, .inl n), (3, .inl wh), (4, .inl ev), (5, .inl wo)], [], (I, L, X), 0, 0) (fun _ => rfl) ?_
              refine yi_G_iinc [(8, .inl (k + 1)), (7, .inl 0), (6, .inl 0), (9, .inl 0), (0, .inr (.inr (some 82))), (1, .inl c), (2, .inl n), (3, .inl wh), (4, .inl ev), (5, .inl wo)] rfl rfl rfl (by rw [show yi_w (k + 1) = k + 1 from (yi_wn (by omega) (by omega)).trans (by omega)]; rfl) ?_
              refine yi_G_run 1 (150, [(8, .inl (k + 1)), (7, .inl 0), (6, .inl 0), (9, .inl 0), (0, .inr (.inr (some 82))), (1, .inl c), (2, .inl n), (3, .inl wh), (4, .inl ev), (5, .inl wo)], [], (I, L, X), 0, 0) (fun _ => rfl) ?_
              refine yi_G_al (al := [(8, .inl (k + 1)), (7, .inl 0), (6, .inl 0), (0, .inr (.inr (some 82))), (1, .inl c), (2, .inl n), (3, .inl wh), (4, .inl ev), (5, .inl wo)]) (show ([8, 7, 6, 0, 1, 2, 3, 4, 5] : List Nat).Nodup by decide) (show ([8, 7, 6, 9, 0, 1, 2, 3, 4, 5] : List Nat).Nodup by decide) (yi_mc (List.mem_of_getElem? (i := 0) rfl) (yi_mc (List.mem_of_getElem? (i := 1) rfl) (yi_mc (List.mem_of_getElem? (i := 2) rfl) (yi_mc (List.mem_of_getElem? (i := 4) rfl) (yi_mc (List.mem_of_getElem? (i := 5) rfl) (yi_mc (List.mem_of_getElem? (i := 6) rfl) (yi_mc (List.mem_of_getElem? (i := 7) rfl) (yi_mc (List.mem_of_getElem? (i := 8) rfl) (yi_mc (List.mem_of_getElem? (i := 9) rfl) yi_mn))))))))) ?_
              exact ih150 _ (by omega) (k + 1) 0 0 n wh ev wo (by omega) (by omega) (by omega) (by omega) (by omega) (by omega) (by omega) rfl
          · refine yi_G_if1 true rfl (yi_ne_t h19) ?_
            refine yi_G_run 4 (211, [(6, .inl 1), (9, .inl 0), (8, .inl k), (7, .inl b), (0, .inr (.inr (some 82))), (1, .inl c), (2, .inl n), (3, .inl wh), (4, .inl ev), (5, .inl wo)], [.inl b], (I, L, X), 0, 0) (fun _ => rfl) ?_
            by_cases h21 : b = 0
            · refine yi_G_if1 true rfl (yi_eq_t h21) ?_
              refine yi_G_run 2 (226, [(7, .inl 0), (6, .inl 1), (9, .inl 0), (8, .inl k), (0, .inr (.inr (some 82))), (1, .inl c), (2, .inl n), (3, .inl wh), (4, .inl ev), (5, .inl wo)], [], (I, L, X), 0, 0) (fun _ => rfl) ?_
              refine yi_G_iinc [(8, .inl (k + 1)), (7, .inl 0), (6, .inl 1), (9, .inl 0), (0, .inr (.inr (some 82))), (1, .inl c), (2, .inl n), (3, .inl wh), (4, .inl ev), (5, .inl wo)] rfl rfl rfl (by rw [show yi_w (k + 1) = k + 1 from (yi_wn (by omega) (by omega)).trans (by omega)]; rfl) ?_
              refine yi_G_run 1 (150, [(8, .inl (k + 1)), (7, .inl 0), (6, .inl 1), (9, .inl 0), (0, .inr (.inr (some 82))), (1, .inl c), (2, .inl n), (3, .inl wh), (4, .inl ev), (5, .inl wo)], [], (I, L, X), 0, 0) (fun _ => rfl) ?_
              refine yi_G_al (al := [(8, .inl (k + 1)), (7, .inl 0), (6, .inl 1), (0, .inr (.inr (some 82))), (1, .inl c), (2, .inl n), (3, .inl wh), (4, .inl ev), (5, .inl wo)]) (show ([8, 7, 6, 0, 1, 2, 3, 4, 5] : List Nat).Nodup by decide) (show ([8, 7, 6, 9, 0, 1, 2, 3, 4, 5] : List Nat).Nodup by decide) (yi_mc (List.mem_of_getElem? (i := 0) rfl) (yi_mc (List.mem_of_getElem? (i := 1) rfl) (yi_mc (List.mem_of_getElem? (i := 2) rfl) (yi_mc (List.mem_of_getElem? (i := 4) rfl) (yi_mc (List.mem_of_getElem? (i := 5) rfl) (yi_mc (List.mem_of_getElem? (i := 6) rfl) (yi_mc (List.mem_of_getElem? (i := 7) rfl) (yi_mc (List.mem_of_getElem? (i := 8) rfl) (yi_mc (List.mem_of_getElem? (i := 9) rfl) yi_mn))))))))) ?_
              exact ih150 _ (by omega) (k + 1) 0 1 n wh ev wo (by omega) (by omega) (by omega) (by omega) (by omega) (by omega) (by omega) rfl
            · refine yi_G_if1 false rfl (yi_eq_f h21) ?_
              refine yi_G_run 1 (216, [(6, .inl 1), (9, .inl 0), (8, .inl k), (7, .inl b), (0, .inr (.inr (some 82))), (1, .inl c), (2, .inl n), (3, .inl wh), (4, .inl ev), (5, .inl wo)], [.inl 0], (I, L, X), 0, 0) (fun _ => rfl) ?_
              refine yi_G_if1 true rfl (by decide) ?_
              refine yi_G_run 2 (226, [(7, .inl 0), (6, .inl 1), (9, .inl 0), (8, .inl k), (0, .inr (.inr (some 82))), (1, .inl c), (2, .inl n), (3, .inl wh), (4, .inl ev), (5, .inl wo)], [], (I, L, X), 0, 0) (fun _ => rfl) ?_
              refine yi_G_iinc [(8, .inl (k + 1)), (7, .inl 0), (6, .inl 1), (9, .inl 0), (0, .inr (.inr (some 82))), (1, .inl c), (2, .inl n), (3, .inl wh), (4, .inl ev), (5, .inl wo)] rfl rfl rfl (by rw [show yi_w (k + 1) = k + 1 from (yi_wn (by omega) (by omega)).trans (by omega)]; rfl) ?_
              refine yi_G_run 1 (150, [(8, .inl (k + 1)), (7, .inl 0), (6, .inl 1), (9, .inl 0), (0, .inr (.inr (some 82))), (1, .inl c), (2, .inl n), (3, .inl wh), (4, .inl ev), (5, .inl wo)], [], (I, L, X), 0, 0) (fun _ => rfl) ?_
              refine yi_G_al (al := [(8, .inl (k + 1)), (7, .inl 0), (6, .inl 1), (0, .inr (.inr (some 82))), (1, .inl c), (2, .inl n), (3, .inl wh), (4, .inl ev), (5, .inl wo)]) (show ([8, 7, 6, 0, 1, 2, 3, 4, 5] : List Nat).Nodup by decide) (show ([8, 7, 6, 9, 0, 1, 2, 3, 4, 5] : List Nat).Nodup by decide) (yi_mc (List.mem_of_getElem? (i := 0) rfl) (yi_mc (List.mem_of_getElem? (i := 1) rfl) (yi_mc (List.mem_of_getElem? (i := 2) rfl) (yi_mc (List.mem_of_getElem? (i := 4) rfl) (yi_mc (List.mem_of_getElem? (i := 5) rfl) (yi_mc (List.mem_of_getElem? (i := 6) rfl) (yi_mc (List.mem_of_getElem? (i := 7) rfl) (yi_mc (List.mem_of_getElem? (i := 8) rfl) (yi_mc (List.mem_of_getElem? (i := 9) rfl) yi_mn))))))))) ?_
              exact ih150 _ (by omega) (k + 1) 0 1 n wh ev wo (by omega) (by omega) (by omega) (by omega) (by omega) (by omega) (by omega) rfl
  show yi_G zi_Ms d zi_m42 (0, [(0, .inr (.inr (some 82))), (1, .inl c)], [], (I, L, X), 0, 0) _
  refine yi_G_run 2 (3, [(0, .inr (.inr (some 82))), (1, .inl c)], [.inl 8, .inl c], (I, L, X), 0, 0) (fun _ => rfl) ?_
  refine yi_G_irem rfl (by decide) (c % 8) (yi_md (by omega) rfl) ?_
  refine yi_G_run 3 (8, [(2, .inl (c % 8)), (0, .inr (.inr (some 82))), (1, .inl c)], [.inl 8, .inl c], (I, L, X), 0, 0) (fun _ => rfl) ?_
  refine yi_G_idiv rfl (by decide) (c / 8) (yi_dv (by omega) rfl (by omega) (by omega)) ?_
  refine yi_G_run 1 (11, [(2, .inl (c % 8)), (0, .inr (.inr (some 82))), (1, .inl c)], [.inl 16, .inl (c / 8)], (I, L, X), 0, 0) (fun _ => rfl) ?_
  refine yi_G_irem rfl (by decide) ((c / 8) % 16) (yi_md (by omega) rfl) ?_
  refine yi_G_run 3 (17, [(3, .inl ((c / 8) % 16)), (2, .inl (c % 8)), (0, .inr (.inr (some 82))), (1, .inl c)], [.inl 128, .inl c], (I, L, X), 0, 0) (fun _ => rfl) ?_
  refine yi_G_idiv rfl (by decide) (c / 128) (yi_dv (by omega) rfl (by omega) (by omega)) ?_
  refine yi_G_run 1 (19, [(3, .inl ((c / 8) % 16)), (2, .inl (c % 8)), (0, .inr (.inr (some 82))), (1, .inl c)], [.inl 4, .inl (c / 128)], (I, L, X), 0, 0) (fun _ => rfl) ?_
  refine yi_G_irem rfl (by decide) ((c / 128) % 4) (yi_md (by omega) rfl) ?_
  refine yi_G_run 3 (26, [(4, .inl ((c / 128) % 4)), (3, .inl ((c / 8) % 16)), (2, .inl (c % 8)), (0, .inr (.inr (some 82))), (1, .inl c)], [.inl 512, .inl c], (I, L, X), 0, 0) (fun _ => rfl) ?_
  refine yi_G_idiv rfl (by decide) (c / 512) (yi_dv (by omega) rfl (by omega) (by omega)) ?_
  refine yi_G_run 3 (32, [(5, .inl (c / 512)), (4, .inl ((c / 128) % 4)), (3, .inl ((c / 8) % 16)), (2, .inl (c % 8)), (0, .inr (.inr (some 82))), (1, .inl c)], [.inl 8, .inl ((c / 8) % 16)], (I, L, X), 0, 0) (fun _ => rfl) ?_
  by_cases h22 : ((c / 8) % 16) = 8
  · refine yi_G_if2 false rfl (yi_ne_f h22) ?_
    refine yi_G_run 3 (40, [(5, .inl (c / 512)), (4, .inl ((c / 128) % 4)), (3, .inl ((c / 8) % 16)), (2, .inl (c % 8)), (0, .inr (.inr (some 82))), (1, .inl c)], [.inl ((c / 128) % 4), .inl (c / 512), .inr (.inr (some 82))], (I, L, X), 0, 0) (fun _ => rfl) ?_
    refine yi_G_callv rfl rfl (ym_rcv hS) rfl (c_firstDay d (by omega) hS hLR (by omega) (by omega)) ?_
    rintro _ ⟨z23, rfl, h24a, h24b⟩
    show yi_G zi_Ms d zi_m42 (43, [(5, .inl (c / 512)), (4, .inl ((c / 128) % 4)), (3, .inl ((c / 8) % 16)), (2, .inl (c % 8)), (0, .inr (.inr (some 82))), (1, .inl c)], [.inl z23], (I, L, X), 0, 0) _
    refine yi_G_run 1 (44, [(5, .inl (c / 512)), (4, .inl ((c / 128) % 4)), (3, .inl ((c / 8) % 16)), (2, .inl (c % 8)), (0, .inr (.inr (some 82))), (1, .inl c)], [.inr (.inr (some 82)), .inl z23], (I, L, X), 0, 0) (fun _ => rfl) ?_
    refine yi_G_callv rfl rfl (ym_rcv hS) rfl (c_days d (by omega) hS rfl) ?_
    rintro _ rfl
    show yi_G zi_Ms d zi_m42 (47, [(5, .inl (c / 512)), (4, .inl ((c / 128) % 4)), (3, .inl ((c / 8) % 16)), (2, .inl (c % 8)), (0, .inr (.inr (some 82))), (1, .inl c)], [.inl (I 88 0), .inl z23], (I, L, X), 0, 0) _
    by_cases h25 : (I 88 0) < z23
    · refine yi_G_if2 true rfl (yi_gt_t h25) ?_
      refine yi_G_run 1 (73, [(5, .inl (c / 512)), (4, .inl ((c / 128) % 4)), (3, .inl ((c / 8) % 16)), (2, .inl (c % 8)), (0, .inr (.inr (some 82))), (1, .inl c)], [.inl 0], (I, L, X), 0, 0) (fun _ => rfl) ?_
      exact yi_G_retb rfl rfl (by decide) (Or.inr rfl)
    · refine yi_G_if2 false rfl (yi_gt_f h25) ?_
      refine yi_G_run 3 (55, [(5, .inl (c / 512)), (4, .inl ((c / 128) % 4)), (3, .inl ((c / 8) % 16)), (2, .inl (c % 8)), (0, .inr (.inr (some 82))), (1, .inl c)], [.inl ((c / 128) % 4), .inl (c / 512), .inr (.inr (some 82))], (I, L, X), 0, 0) (fun _ => rfl) ?_
      refine yi_G_callv rfl rfl (ym_rcv hS) rfl (c_firstDay d (by omega) hS hLR (by omega) (by omega)) ?_
      rintro _ ⟨z26, rfl, h27a, h27b⟩
      show yi_G zi_Ms d zi_m42 (58, [(5, .inl (c / 512)), (4, .inl ((c / 128) % 4)), (3, .inl ((c / 8) % 16)), (2, .inl (c % 8)), (0, .inr (.inr (some 82))), (1, .inl c)], [.inl z26], (I, L, X), 0, 0) _
      refine yi_G_run 3 (62, [(5, .inl (c / 512)), (4, .inl ((c / 128) % 4)), (3, .inl ((c / 8) % 16)), (2, .inl (c % 8)), (0, .inr (.inr (some 82))), (1, .inl c)], [.inl ((c / 128) % 4), .inl (c % 8), .inr (.inr (some 82)), .inl z26], (I, L, X), 0, 0) (fun _ => rfl) ?_
      refine yi_G_callv rfl rfl (ym_rcv hS) rfl (c_firstDay d (by omega) hS hLR (by omega) (by omega)) ?_
      rintro _ ⟨z28, rfl, h29a, h29b⟩
      show yi_G zi_Ms d zi_m42 (65, [(5, .inl (c / 512)), (4, .inl ((c / 128) % 4)), (3, .inl ((c / 8) % 16)), (2, .inl (c % 8)), (0, .inr (.inr (some 82))), (1, .inl c)], [.inl z28, .inl z26], (I, L, X), 0, 0) _
      by_cases h30 : z28 ≤ z26
      · refine yi_G_if2 true rfl (yi_ge_t h30) ?_
        refine yi_G_run 1 (73, [(5, .inl (c / 512)), (4, .inl ((c / 128) % 4)), (3, .inl ((c / 8) % 16)), (2, .inl (c % 8)), (0, .inr (.inr (some 82))), (1, .inl c)], [.inl 0], (I, L, X), 0, 0) (fun _ => rfl) ?_
        exact yi_G_retb rfl rfl (by decide) (Or.inr rfl)
      · refine yi_G_if2 false rfl (yi_ge_f h30) ?_
        refine yi_G_run 2 (73, [(5, .inl (c / 512)), (4, .inl ((c / 128) % 4)), (3, .inl ((c / 8) % 16)), (2, .inl (c % 8)), (0, .inr (.inr (some 82))), (1, .inl c)], [.inl 1], (I, L, X), 0, 0) (fun _ => rfl) ?_
        exact yi_G_retb rfl rfl (by decide) (Or.inl rfl)
  · refine yi_G_if2 true rfl (yi_ne_t h22) ?_
    refine yi_G_run 2 (77, [(5, .inl (c / 512)), (4, .inl ((c / 128) % 4)), (3, .inl ((c / 8) % 16)), (2, .inl (c % 8)), (0, .inr (.inr (some 82))), (1, .inl c)], [.inl 7, .inl ((c / 8) % 16)], (I, L, X), 0, 0) (fun _ => rfl) ?_
    by_cases h31 : ((c / 8) % 16) = 7
    · refine yi_G_if2 false rfl (yi_ne_f h31) ?_
      refine yi_G_run 4 (86, [(7, .inl 1), (6, .inl 0), (5, .inl (c / 512)), (4, .inl ((c / 128) % 4)), (3, .inl ((c / 8) % 16)), (2, .inl (c % 8)), (0, .inr (.inr (some 82))), (1, .inl c)], [], (I, L, X), 0, 0) (fun _ => rfl) ?_
      refine yi_G_al (al := [(7, .inl 1), (6, .inl 0), (0, .inr (.inr (some 82))), (1, .inl c), (2, .inl (c % 8)), (3, .inl ((c / 8) % 16)), (4, .inl ((c / 128) % 4)), (5, .inl (c / 512))]) (show ([7, 6, 0, 1, 2, 3, 4, 5] : List Nat).Nodup by decide) (show ([7, 6, 5, 4, 3, 2, 0, 1] : List Nat).Nodup by decide) (yi_mc (List.mem_of_getElem? (i := 0) rfl) (yi_mc (List.mem_of_getElem? (i := 1) rfl) (yi_mc (List.mem_of_getElem? (i := 6) rfl) (yi_mc (List.mem_of_getElem? (i := 7) rfl) (yi_mc (List.mem_of_getElem? (i := 5) rfl) (yi_mc (List.mem_of_getElem? (i := 4) rfl) (yi_mc (List.mem_of_getElem? (i := 3) rfl) (yi_mc (List.mem_of_getElem? (i := 2) rfl) yi_mn)))))))) ?_
      exact pt86 _  1 0 (c % 8) ((c / 8) % 16) ((c / 128) % 4) (c / 512) (by omega) (by omega) (by omega) (by omega) (by omega) rfl
    · refine yi_G_if2 true rfl (yi_ne_t h31) ?_
      refine yi_G_run 6 (150, [(8, .inl 0), (7, .inl 1), (6, .inl 0), (5, .inl (c / 512)), (4, .inl ((c / 128) % 4)), (3, .inl ((c / 8) % 16)), (2, .inl (c % 8)), (0, .inr (.inr (some 82))), (1, .inl c)], [], (I, L, X), 0, 0) (fun _ => rfl) ?_
      refine yi_G_al (al := [(8, .inl 0), (7, .inl 1), (6, .inl 0), (0, .inr (.inr (some 82))), (1, .inl c), (2, .inl (c % 8)), (3, .inl ((c / 8) % 16)), (4, .inl ((c / 128) % 4)), (5, .inl (c / 512))]) (show ([8, 7, 6, 0, 1, 2, 3, 4, 5] : List Nat).Nodup by decide) (show ([8, 7, 6, 5, 4, 3, 2, 0, 1] : List Nat).Nodup by decide) (yi_mc (List.mem_of_getElem? (i := 0) rfl) (yi_mc (List.mem_of_getElem? (i := 1) rfl) (yi_mc (List.mem_of_getElem? (i := 2) rfl) (yi_mc (List.mem_of_getElem? (i := 7) rfl) (yi_mc (List.mem_of_getElem? (i := 8) rfl) (yi_mc (List.mem_of_getElem? (i := 6) rfl) (yi_mc (List.mem_of_getElem? (i := 5) rfl) (yi_mc (List.mem_of_getElem? (i := 4) rfl) (yi_mc (List.mem_of_getElem? (i := 3) rfl) yi_mn))))))))) ?_
      exact pt150 _  0 1 0 (c % 8) ((c / 8) % 16) ((c / 128) % 4) (c / 512) (by omega) (by omega) (by omega) (by omega) (by omega) (by omega) (by omega) rfl
