/-! Blocks copied; what is left. -/
theorem c_copies (D : Nat) (hD : 2 ≤ D) {I L : Nat → Nat → Int} {X : ym_X} (hS : ym_S X) {fr to : Int} (h0 : 0 ≤ fr) (h1 : fr ≤ 20) (h2 : 0 ≤ to) (h3 : to ≤ 20) (h4 : 0 ≤ I 100 (110 * fr).toNat ∧ I 100 (110 * fr).toNat ≤ 12) (hl : 0 ≤ I 82 25 ∧ I 82 25 ≤ 512) : yi_E zi_Ms D 13 [.inr (.inr (some 82)), .inl fr, .inl to] (I, L, X) (fun r => ∃ L', r = (none, (ym_gw I 100 (110 * to) 110 (fun j => I 100 (110 * fr + j).toNat), L', X), 0, 0) ∧ ∀ p k, p ≠ 97 → L' p k = L p k) := by
  obtain ⟨d, rfl⟩ : ∃ d, D = d + 1 := ⟨D - 1, by omega⟩
  refine yi_E_of (M := zi_m13) rfl rfl ?_
  have pt2 : ∀ (m : Nat) (k : Int) (Ja : Nat → Nat → Int), (0 ≤ k) → (k ≤ 110) → (Ja = ym_gw I 100 (110 * to) k (fun j => I 100 (110 * fr + j).toNat)) → (∀ p k, p ≠ 100 → Ja p k = I p k) → (110 - k).toNat = m → yi_G zi_Ms d zi_m13 (2, [(3, .inl k), (0, .inr (.inr (some 82))), (1, .inl fr), (2, .inl to)], [], (Ja, L, X), 0, 0) (fun r => ∃ L', r = (none, (ym_gw I 100 (110 * to) 110 (fun j => I 100 (110 * fr + j).toNat), L', X), 0, 0) ∧ ∀ p k, p ≠ 97 → L' p k = L p k) := by
    intro m2
    induction m2 using Nat.strongRecOn with
    | _ m2 ih2 =>
    intro k Ja k0 k1 hJ fm hm2
    refine yi_G_run 2 (5, [(3, .inl k), (0, .inr (.inr (some 82))), (1, .inl fr), (2, .inl to)], [.inl 110, .inl k], (Ja, L, X), 0, 0) (fun _ => rfl) ?_
    by_cases h1 : 110 ≤ k
    · refine yi_G_if2 true rfl (yi_ge_t h1) ?_
      refine yi_G_run 2 (38, [(3, .inl 0), (0, .inr (.inr (some 82))), (1, .inl fr), (2, .inl to)], [], (Ja, L, X), 0, 0) (fun _ => rfl) ?_
      have hJ2 : Ja = ym_gw I 100 (110 * to) 110 (fun j => I 100 (110 * fr + j).toNat) := by rw [hJ, show k = 110 by omega]
      have hb0 : Ja 100 (110 * fr).toNat = I 100 (110 * fr).toNat := by
        rw [hJ2]
        by_cases e : fr = to
        · subst e; rw [ym_gw_i _ _ _ _ _ (by omega)]; congr 1; omega
        · rw [ym_gw_o _ _ _ _ _ (by omega)]
      have pt38 : ∀ (m : Nat) (k : Int) (Ka : Nat → Nat → Int), (∀ p k, p ≠ 97 → Ka p k = L p k) → (0 ≤ k) → (k ≤ Ja 100 (110 * fr).toNat) → (0 ≤ Ja 100 (110 * fr).toNat ∧ Ja 100 (110 * fr).toNat ≤ 12) → (Ja 100 (110 * fr).toNat - k).toNat = m → yi_G zi_Ms d zi_m13 (38, [(3, .inl k), (0, .inr (.inr (some 82))), (1, .inl fr), (2, .inl to)], [], (Ja, Ka, X), 0, 0) (fun r => ∃ L', r = (none, (ym_gw I 100 (110 * to) 110 (fun j => I 100 (110 * fr + j).toNat), L', X), 0, 0) ∧ ∀ p k, p ≠ 97 → L' p k = L p k) := by
        intro m38
        induction m38 using Nat.strongRecOn with
        | _ m38 ih38 =>
        intro k Ka fKa k2 k3 hb hm38
        refine yi_G_run 2 (40, [(3, .inl k), (0, .inr (.inr (some 82))), (1, .inl fr), (2, .inl to)], [.inr (.inr (some 82)), .inl k], (Ja, Ka, X), 0, 0) (fun _ => rfl) ?_
        refine yi_G_get (43, [(3, .inl k), (0, .inr (.inr (some 82))), (1, .inl fr), (2, .inl to)], [.inr (.inr (some 100)), .inl k], (Ja, Ka, X), 0, 0) rfl (ym_gr hS 17 rfl rfl rfl) ?_
        refine yi_G_run 2 (46, [(3, .inl k), (0, .inr (.inr (some 82))), (1, .inl fr), (2, .inl to)], [.inl fr, .inl 110, .inr (.inr (some 100)), .inl k], (Ja, Ka, X), 0, 0) (fun _ => rfl) ?_
        refine yi_G_imul rfl (110 * fr) (yi_wn (by omega) (by omega)) ?_
        refine yi_G_iald (48, [(3, .inl k), (0, .inr (.inr (some 82))), (1, .inl fr), (2, .inl to)], [.inl (Ja 100 ((110 * fr).toNat)), .inl k], (Ja, Ka, X), 0, 0) rfl (ym_li hS 17 rfl (by omega) (by omega) rfl) ?_
        by_cases h2 : (Ja 100 ((110 * fr).toNat)) ≤ k
        · refine yi_G_if2 true rfl (yi_ge_t h2) ?_
          exact yi_G_retv rfl rfl (⟨_, by rw [hJ2], (fun p k hp => by rw [fKa p k (by omega)])⟩)
        · refine yi_G_if2 false rfl (yi_ge_f h2) ?_
          refine yi_G_run 4 (57, [(3, .inl k), (0, .inr (.inr (some 82))), (1, .inl fr), (2, .inl to)], [.inl fr, .inl 12, .inl 60, .inr (.inr (some 82))], (Ja, Ka, X), 0, 0) (fun _ => rfl) ?_
          refine yi_G_imul rfl (12 * fr) (yi_wn (by omega) (by omega)) ?_
          refine yi_G_iadd rfl (60 + (12 * fr)) (yi_wn (by omega) (by omega)) ?_
          refine yi_G_run 1 (60, [(3, .inl k), (0, .inr (.inr (some 82))), (1, .inl fr), (2, .inl to)], [.inl k, .inl (60 + (12 * fr)), .inr (.inr (some 82))], (Ja, Ka, X), 0, 0) (fun _ => rfl) ?_
          refine yi_G_iadd rfl ((60 + (12 * fr)) + k) (yi_wn (by omega) (by omega)) ?_
          refine yi_G_run 3 (66, [(3, .inl k), (0, .inr (.inr (some 82))), (1, .inl fr), (2, .inl to)], [.inl to, .inl 12, .inl 60, .inl ((60 + (12 * fr)) + k), .inr (.inr (some 82))], (Ja, Ka, X), 0, 0) (fun _ => rfl) ?_
          refine yi_G_imul rfl (12 * to) (yi_wn (by omega) (by omega)) ?_
          refine yi_G_iadd rfl (60 + (12 * to)) (yi_wn (by omega) (by omega)) ?_
          refine yi_G_run 1 (69, [(3, .inl k), (0, .inr (.inr (some 82))), (1, .inl fr), (2, .inl to)], [.inl k, .inl (60 + (12 * to)), .inl ((60 + (12 * fr)) + k), .inr (.inr (some 82))], (Ja, Ka, X), 0, 0) (fun _ => rfl) ?_
          refine yi_G_iadd rfl ((60 + (12 * to)) + k) (yi_wn (by omega) (by omega)) ?_
          have r3 : Ja 82 25 = I 82 25 := by rw [fm 82 (25) (by omega)]
          refine yi_G_callv rfl rfl (ym_rcv hS) rfl (w_copiesRow (by omega) hS (by omega) (by omega) (by omega) (by omega) (by rw [r3]; omega) (by rw [r3]; omega)) ?_
          rintro _ ⟨L4, rfl, f5⟩
          show yi_G zi_Ms d zi_m13 (73, [(3, .inl k), (0, .inr (.inr (some 82))), (1, .inl fr), (2, .inl to)], [], (Ja, L4, X), 0, 0) _
          refine yi_G_iinc [(3, .inl (k + 1)), (0, .inr (.inr (some 82))), (1, .inl fr), (2, .inl to)] rfl rfl rfl (by rw [show yi_w (k + 1) = k + 1 from (yi_wn (by omega) (by omega)).trans (by omega)]; rfl) ?_
          refine yi_G_run 1 (38, [(3, .inl (k + 1)), (0, .inr (.inr (some 82))), (1, .inl fr), (2, .inl to)], [], (Ja, L4, X), 0, 0) (fun _ => rfl) ?_
          exact ih38 _ (by omega) (k + 1) L4 (fun p k hp => by rw [f5 p k (by omega), fKa p k (by omega)]) (by omega) (by omega) (by omega) rfl
      exact pt38 _ 0 L (fun _ _ _ => rfl) (by omega) (by omega) (by omega) rfl
    · refine yi_G_if2 false rfl (yi_ge_f h1) ?_
      refine yi_G_run 1 (9, [(3, .inl k), (0, .inr (.inr (some 82))), (1, .inl fr), (2, .inl to)], [.inr (.inr (some 82))], (Ja, L, X), 0, 0) (fun _ => rfl) ?_
      refine yi_G_get (12, [(3, .inl k), (0, .inr (.inr (some 82))), (1, .inl fr), (2, .inl to)], [.inr (.inr (some 100))], (Ja, L, X), 0, 0) rfl (ym_gr hS 17 rfl rfl rfl) ?_
      refine yi_G_run 2 (15, [(3, .inl k), (0, .inr (.inr (some 82))), (1, .inl fr), (2, .inl to)], [.inl to, .inl 110, .inr (.inr (some 100))], (Ja, L, X), 0, 0) (fun _ => rfl) ?_
      refine yi_G_imul rfl (110 * to) (yi_wn (by omega) (by omega)) ?_
      refine yi_G_run 1 (17, [(3, .inl k), (0, .inr (.inr (some 82))), (1, .inl fr), (2, .inl to)], [.inl k, .inl (110 * to), .inr (.inr (some 100))], (Ja, L, X), 0, 0) (fun _ => rfl) ?_
      refine yi_G_iadd rfl ((110 * to) + k) (yi_wn (by omega) (by omega)) ?_
      refine yi_G_run 1 (19, [(3, .inl k), (0, .inr (.inr (some 82))), (1, .inl fr), (2, .inl to)], [.inr (.inr (some 82)), .inl ((110 * to) + k), .inr (.inr (some 100))], (Ja, L, X), 0, 0) (fun _ => rfl) ?_
      refine yi_G_get (22, [(3, .inl k), (0, .inr (.inr (some 82))), (1, .inl fr), (2, .inl to)], [.inr (.inr (some 100)), .inl ((110 * to) + k), .inr (.inr (some 100))], (Ja, L, X), 0, 0) rfl (ym_gr hS 17 rfl rfl rfl) ?_
      refine yi_G_run 2 (25, [(3, .inl k), (0, .inr (.inr (some 82))), (1, .inl fr), (2, .inl to)], [.inl fr, .inl 110, .inr (.inr (some 100)), .inl ((110 * to) + k), .inr (.inr (some 100))], (Ja, L, X), 0, 0) (fun _ => rfl) ?_
      refine yi_G_imul rfl (110 * fr) (yi_wn (by omega) (by omega)) ?_
      refine yi_G_run 1 (27, [(3, .inl k), (0, .inr (.inr (some 82))), (1, .inl fr), (2, .inl to)], [.inl k, .inl (110 * fr), .inr (.inr (some 100)), .inl ((110 * to) + k), .inr (.inr (some 100))], (Ja, L, X), 0, 0) (fun _ => rfl) ?_
      refine yi_G_iadd rfl ((110 * fr) + k) (yi_wn (by omega) (by omega)) ?_
      refine yi_G_iald (29, [(3, .inl k), (0, .inr (.inr (some 82))), (1, .inl fr), (2, .inl to)], [.inl (Ja 100 (((110 * fr) + k).toNat)), .inl ((110 * to) + k), .inr (.inr (some 100))], (Ja, L, X), 0, 0) rfl (ym_li hS 17 rfl (by omega) (by omega) rfl) ?_
      refine yi_G_iast (30, [(3, .inl k), (0, .inr (.inr (some 82))), (1, .inl fr), (2, .inl to)], [], ((yi_u Ja 100 (((110 * to) + k).toNat) (Ja 100 (((110 * fr) + k).toNat))), L, X), 0, 0) rfl (ym_si hS 17 rfl (by omega) (by omega)) ?_
      generalize w7 : yi_u Ja 100 (((110 * to) + k).toNat) (Ja 100 (((110 * fr) + k).toNat)) = I6
      refine yi_G_iinc [(3, .inl (k + 1)), (0, .inr (.inr (some 82))), (1, .inl fr), (2, .inl to)] rfl rfl rfl (by rw [show yi_w (k + 1) = k + 1 from (yi_wn (by omega) (by omega)).trans (by omega)]; rfl) ?_
      refine yi_G_run 1 (2, [(3, .inl (k + 1)), (0, .inr (.inr (some 82))), (1, .inl fr), (2, .inl to)], [], (I6, L, X), 0, 0) (fun _ => rfl) ?_
      exact ih2 _ (by omega) (k + 1) I6 (by omega) (by omega) (by rw [← w7, hJ]; exact ym_gw_s (by omega) (by omega) (by rw [ym_gw_o _ _ _ _ _ (by omega)]; congr 1; omega)) (fun p k hp => by rw [← w7, yi_u_ne _ _ (fun z => by omega), fm p k (by omega)]) rfl
  show yi_G zi_Ms d zi_m13 (0, [(0, .inr (.inr (some 82))), (1, .inl fr), (2, .inl to)], [], (I, L, X), 0, 0) _
  refine yi_G_run 2 (2, [(3, .inl 0), (0, .inr (.inr (some 82))), (1, .inl fr), (2, .inl to)], [], (I, L, X), 0, 0) (fun _ => rfl) ?_
  exact pt2 _  0 I (by omega) (by omega) (by rw [ym_gw_0]) (fun _ _ _ => rfl) rfl
theorem c_lays (D : Nat) (hD : 2 ≤ D) {I L : Nat → Nat → Int} {X : ym_X} (hS : ym_S X) {row st cm : Int} (hLR : ym_LR I) (hS0 : ym_S0 I) (h0 : 0 ≤ row) (h1 : row ≤ 311) (hl : 0 ≤ I 82 25 ∧ I 82 25 ≤ 512) : yi_E zi_Ms D 74 [.inr (.inr (some 82)), .inl row, .inl st, .inl cm] (I, L, X) (fun r => ∃ L', r = (none, (I, L', X), 0, 0) ∧ ∀ p k, p ≠ 97 → L' p k = L p k) := by
  obtain ⟨d, rfl⟩ : ∃ d, D = d + 1 := ⟨D - 1, by omega⟩
  refine yi_E_of (M := zi_m74) rfl rfl ?_
  obtain ⟨l0, l1, l2, l3, l4, l5⟩ := id hLR
  obtain ⟨t0, t1, t2, t3, t4⟩ := id hS0
  have m1 := yi_mb (a := I 88 0) (b := I 88 1) (A := 6) (B := 4) (by omega) (by omega) (by omega) (by omega)
  show yi_G zi_Ms d zi_m74 (0, [(0, .inr (.inr (some 82))), (1, .inl row), (2, .inl st), (3, .inl cm)], [], (I, L, X), 0, 0) _
  refine yi_G_run 3 (4, [(0, .inr (.inr (some 82))), (1, .inl row), (2, .inl st), (3, .inl cm)], [.inl row, .inl 32, .inr (.inr (some 82))], (I, L, X), 0, 0) (fun _ => rfl) ?_
  refine yi_G_callv rfl rfl (ym_rcv hS) rfl (w_copiesRow (by omega) hS (by omega) (by omega) (by omega) (by omega) (by omega) (by omega)) ?_
  rintro _ ⟨L1, rfl, f2⟩
  show yi_G zi_Ms d zi_m74 (7, [(0, .inr (.inr (some 82))), (1, .inl row), (2, .inl st), (3, .inl cm)], [], (I, L1, X), 0, 0) _
  refine yi_G_run 2 (10, [(4, .inl 0), (0, .inr (.inr (some 82))), (1, .inl row), (2, .inl st), (3, .inl cm)], [], (I, L1, X), 0, 0) (fun _ => rfl) ?_
  have pt10 : ∀ (m : Nat) (k : Int) (Ka : Nat → Nat → Int), (∀ p k, p ≠ 97 → Ka p k = L1 p k) → (0 ≤ k) → (k ≤ I 88 0 * I 88 1) → (I 88 0 * I 88 1 - k).toNat = m → yi_G zi_Ms d zi_m74 (10, [(4, .inl k), (0, .inr (.inr (some 82))), (1, .inl row), (2, .inl st), (3, .inl cm)], [], (I, Ka, X), 0, 0) (fun r => ∃ L', r = (none, (I, L', X), 0, 0) ∧ ∀ p k, p ≠ 97 → L' p k = L p k) := by
    intro m10
    induction m10 using Nat.strongRecOn with
    | _ m10 ih10 =>
    intro k Ka fKa k0 k1 hm10
    refine yi_G_run 2 (13, [(4, .inl k), (0, .inr (.inr (some 82))), (1, .inl row), (2, .inl st), (3, .inl cm)], [.inr (.inr (some 82)), .inl k], (I, Ka, X), 0, 0) (fun _ => rfl) ?_
    refine yi_G_callv rfl rfl (ym_rcv hS) rfl (c_days d (by omega) hS rfl) ?_
    rintro _ rfl
    show yi_G zi_Ms d zi_m74 (16, [(4, .inl k), (0, .inr (.inr (some 82))), (1, .inl row), (2, .inl st), (3, .inl cm)], [.inl (I 88 0), .inl k], (I, Ka, X), 0, 0) _
    refine yi_G_run 1 (17, [(4, .inl k), (0, .inr (.inr (some 82))), (1, .inl row), (2, .inl st), (3, .inl cm)], [.inr (.inr (some 82)), .inl (I 88 0), .inl k], (I, Ka, X), 0, 0) (fun _ => rfl) ?_
    refine yi_G_callv rfl rfl (ym_rcv hS) rfl (c_people d (by omega) hS rfl) ?_
    rintro _ rfl
    show yi_G zi_Ms d zi_m74 (20, [(4, .inl k), (0, .inr (.inr (some 82))), (1, .inl row), (2, .inl st), (3, .inl cm)], [.inl (I 88 1), .inl (I 88 0), .inl k], (I, Ka, X), 0, 0) _
    refine yi_G_imul rfl ((I 88 0) * (I 88 1)) (yi_wn (by omega) (by omega)) ?_
    by_cases h3 : ((I 88 0) * (I 88 1)) ≤ k
    · refine yi_G_if2 true rfl (yi_ge_t h3) ?_
      refine yi_G_run 2 (73, [(4, .inl 0), (0, .inr (.inr (some 82))), (1, .inl row), (2, .inl st), (3, .inl cm)], [], (I, Ka, X), 0, 0) (fun _ => rfl) ?_
      have pt73 : ∀ (m : Nat) (k : Int) (Kb : Nat → Nat → Int), (∀ p k, p ≠ 97 → Kb p k = Ka p k) → (0 ≤ k) → (k ≤ I 100 0) → (I 100 0 - k).toNat = m → yi_G zi_Ms d zi_m74 (73, [(4, .inl k), (0, .inr (.inr (some 82))), (1, .inl row), (2, .inl st), (3, .inl cm)], [], (I, Kb, X), 0, 0) (fun r => ∃ L', r = (none, (I, L', X), 0, 0) ∧ ∀ p k, p ≠ 97 → L' p k = L p k) := by
        intro m73
        induction m73 using Nat.strongRecOn with
        | _ m73 ih73 =>
        intro k Kb fKb k2 k3 hm73
        refine yi_G_run 2 (76, [(4, .inl k), (0, .inr (.inr (some 82))), (1, .inl row), (2, .inl st), (3, .inl cm)], [.inr (.inr (some 82)), .inl k], (I, Kb, X), 0, 0) (fun _ => rfl) ?_
        refine yi_G_get (79, [(4, .inl k), (0, .inr (.inr (some 82))), (1, .inl row), (2, .inl st), (3, .inl cm)], [.inr (.inr (some 100)), .inl k], (I, Kb, X), 0, 0) rfl (ym_gr hS 17 rfl rfl rfl) ?_
        refine yi_G_run 1 (80, [(4, .inl k), (0, .inr (.inr (some 82))), (1, .inl row), (2, .inl st), (3, .inl cm)], [.inl 0, .inr (.inr (some 100)), .inl k], (I, Kb, X), 0, 0) (fun _ => rfl) ?_
        refine yi_G_iald (81, [(4, .inl k), (0, .inr (.inr (some 82))), (1, .inl row), (2, .inl st), (3, .inl cm)], [.inl (I 100 0), .inl k], (I, Kb, X), 0, 0) rfl (ym_li hS 17 rfl (by omega) (by omega) rfl) ?_
        by_cases h4 : (I 100 0) ≤ k
        · refine yi_G_if2 true rfl (yi_ge_t h4) ?_
          exact yi_G_retv rfl rfl (⟨_, rfl, (fun p k hp => by rw [fKb p k (by omega), fKa p k (by omega), f2 p k (by omega)])⟩)
        · refine yi_G_if2 false rfl (yi_ge_f h4) ?_
          refine yi_G_run 2 (87, [(4, .inl k), (0, .inr (.inr (some 82))), (1, .inl row), (2, .inl st), (3, .inl cm)], [.inl k, .inl st], (I, Kb, X), 0, 0) (fun _ => rfl) ?_
          refine yi_G_calls rfl rfl (c_isIn d (by omega) hS) ?_
          rintro _ (⟨c5, rfl⟩ | ⟨c5, rfl⟩)
          · show yi_G zi_Ms d zi_m74 (90, [(4, .inl k), (0, .inr (.inr (some 82))), (1, .inl row), (2, .inl st), (3, .inl cm)], [.inl 1], (I, Kb, X), 0, 0) _
            refine yi_G_if1 false rfl (by decide) ?_
            refine yi_G_run 4 (99, [(4, .inl k), (0, .inr (.inr (some 82))), (1, .inl row), (2, .inl st), (3, .inl cm)], [.inl k, .inl 60, .inl row, .inr (.inr (some 82))], (I, Kb, X), 0, 0) (fun _ => rfl) ?_
            refine yi_G_iadd rfl (60 + k) (yi_wn (by omega) (by omega)) ?_
            refine yi_G_callv rfl rfl (ym_rcv hS) rfl (w_meets (by omega) hS (by omega) (by omega) (by omega) (by omega) (by omega) (by omega)) ?_
            rintro _ ⟨L6, rfl, f7⟩
            show yi_G zi_Ms d zi_m74 (103, [(4, .inl k), (0, .inr (.inr (some 82))), (1, .inl row), (2, .inl st), (3, .inl cm)], [], (I, L6, X), 0, 0) _
            refine yi_G_iinc [(4, .inl (k + 1)), (0, .inr (.inr (some 82))), (1, .inl row), (2, .inl st), (3, .inl cm)] rfl rfl rfl (by rw [show yi_w (k + 1) = k + 1 from (yi_wn (by omega) (by omega)).trans (by omega)]; rfl) ?_
            refine yi_G_run 1 (73, [(4, .inl (k + 1)), (0, .inr (.inr (some 82))), (1, .inl row), (2, .inl st), (3, .inl cm)], [], (I, L6, X), 0, 0) (fun _ => rfl) ?_
            exact ih73 _ (by omega) (k + 1) L6 (fun p k hp => by rw [f7 p k (by omega), fKb p k (by omega)]) (by omega) (by omega) rfl
          · show yi_G zi_Ms d zi_m74 (90, [(4, .inl k), (0, .inr (.inr (some 82))), (1, .inl row), (2, .inl st), (3, .inl cm)], [.inl 0], (I, Kb, X), 0, 0) _
            refine yi_G_if1 true rfl (by decide) ?_
            refine yi_G_iinc [(4, .inl (k + 1)), (0, .inr (.inr (some 82))), (1, .inl row), (2, .inl st), (3, .inl cm)] rfl rfl rfl (by rw [show yi_w (k + 1) = k + 1 from (yi_wn (by omega) (by omega)).trans (by omega)]; rfl) ?_
            refine yi_G_run 1 (73, [(4, .inl (k + 1)), (0, .inr (.inr (some 82))), (1, .inl row), (2, .inl st), (3, .inl cm)], [], (I, Kb, X), 0, 0) (fun _ => rfl) ?_
            exact ih73 _ (by omega) (k + 1) Kb (fun p k hp => by rw [fKb p k (by omega)]) (by omega) (by omega) rfl
      exact pt73 _ 0 Ka (fun _ _ _ => rfl) (by omega) (by omega) rfl
    · refine yi_G_if2 false rfl (yi_ge_f h3) ?_
      refine yi_G_run 1 (25, [(4, .inl k), (0, .inr (.inr (some 82))), (1, .inl row), (2, .inl st), (3, .inl cm)], [.inl cm], (I, Ka, X), 0, 0) (fun _ => rfl) ?_
      by_cases h8 : cm = 0
      · refine yi_G_if1 true rfl (yi_eq_t h8) ?_
        refine yi_G_run 2 (73, [(4, .inl 0), (0, .inr (.inr (some 82))), (1, .inl row), (2, .inl st), (3, .inl cm)], [], (I, Ka, X), 0, 0) (fun _ => rfl) ?_
        have pt73 : ∀ (m : Nat) (k : Int) (Kb : Nat → Nat → Int), (∀ p k, p ≠ 97 → Kb p k = Ka p k) → (0 ≤ k) → (k ≤ I 100 0) → (I 100 0 - k).toNat = m → yi_G zi_Ms d zi_m74 (73, [(4, .inl k), (0, .inr (.inr (some 82))), (1, .inl row), (2, .inl st), (3, .inl cm)], [], (I, Kb, X), 0, 0) (fun r => ∃ L', r = (none, (I, L', X), 0, 0) ∧ ∀ p k, p ≠ 97 → L' p k = L p k) := by
          intro m73
          induction m73 using Nat.strongRecOn with
          | _ m73 ih73 =>
          intro k Kb fKb k2 k3 hm73
          refine yi_G_run 2 (76, [(4, .inl k), (0, .inr (.inr (some 82))), (1, .inl row), (2, .inl st), (3, .inl cm)], [.inr (.inr (some 82)), .inl k], (I, Kb, X), 0, 0) (fun _ => rfl) ?_
          refine yi_G_get (79, [(4, .inl k), (0, .inr (.inr (some 82))), (1, .inl row), (2, .inl st), (3, .inl cm)], [.inr (.inr (some 100)), .inl k], (I, Kb, X), 0, 0) rfl (ym_gr hS 17 rfl rfl rfl) ?_
          refine yi_G_run 1 (80, [(4, .inl k), (0, .inr (.inr (some 82))), (1, .inl row), (2, .inl st), (3, .inl cm)], [.inl 0, .inr (.inr (some 100)), .inl k], (I, Kb, X), 0, 0) (fun _ => rfl) ?_
          refine yi_G_iald (81, [(4, .inl k), (0, .inr (.inr (some 82))), (1, .inl row), (2, .inl st), (3, .inl cm)], [.inl (I 100 0), .inl k], (I, Kb, X), 0, 0) rfl (ym_li hS 17 rfl (by omega) (by omega) rfl) ?_
          by_cases h9 : (I 100 0) ≤ k
          · refine yi_G_if2 true rfl (yi_ge_t h9) ?_
            exact yi_G_retv rfl rfl (⟨_, rfl, (fun p k hp => by rw [fKb p k (by omega), fKa p k (by omega), f2 p k (by omega)])⟩)
          · refine yi_G_if2 false rfl (yi_ge_f h9) ?_
            refine yi_G_run 2 (87, [(4, .inl k), (0, .inr (.inr (some 82))), (1, .inl row), (2, .inl st), (3, .inl cm)], [.inl k, .inl st], (I, Kb, X), 0, 0) (fun _ => rfl) ?_
            refine yi_G_calls rfl rfl (c_isIn d (by omega) hS) ?_
            rintro _ (⟨c10, rfl⟩ | ⟨c10, rfl⟩)
            · show yi_G zi_Ms d zi_m74 (90, [(4, .inl k), (0, .inr (.inr (some 82))), (1, .inl row), (2, .inl st), (3, .inl cm)], [.inl 1], (I, Kb, X), 0, 0) _
              refine yi_G_if1 false rfl (by decide) ?_
              refine yi_G_run 4 (99, [(4, .inl k), (0, .inr (.inr (some 82))), (1, .inl row), (2, .inl st), (3, .inl cm)], [.inl k, .inl 60, .inl row, .inr (.inr (some 82))], (I, Kb, X), 0, 0) (fun _ => rfl) ?_
              refine yi_G_iadd rfl (60 + k) (yi_wn (by omega) (by omega)) ?_
              refine yi_G_callv rfl rfl (ym_rcv hS) rfl (w_meets (by omega) hS (by omega) (by omega) (by omega) (by omega) (by omega) (by omega)) ?_
              rintro _ ⟨L11, rfl, f12⟩
              show yi_G zi_Ms d zi_m74 (103, [(4, .inl k), (0, .inr (.inr (some 82))), (1, .inl row), (2, .inl st), (3, .inl cm)], [], (I, L11, X), 0, 0) _
              refine yi_G_iinc [(4, .inl (k + 1)), (0, .inr (.inr (some 82))), (1, .inl row), (2, .inl st), (3, .inl cm)] rfl rfl rfl (by rw [show yi_w (k + 1) = k + 1 from (yi_wn (by omega) (by omega)).trans (by omega)]; rfl) ?_
              refine yi_G_run 1 (73, [(4, .inl (k + 1)), (0, .inr (.inr (some 82))), (1, .inl row), (2, .inl st), (3, .inl cm)], [], (I, L11, X), 0, 0) (fun _ => rfl) ?_
              exact ih73 _ (by omega) (k + 1) L11 (fun p k hp => by rw [f12 p k (by omega), fKb p k (by omega)]) (by omega) (by omega) rfl
            · show yi_G zi_Ms d zi_m74 (90, [(4, .inl k), (0, .inr (.inr (some 82))), (1, .inl row), (2, .inl st), (3, .inl cm)], [.inl 0], (I, Kb, X), 0, 0) _
              refine yi_G_if1 true rfl (by decide) ?_
              refine yi_G_iinc [(4, .inl (k + 1)), (0, .inr (.inr (some 82))), (1, .inl row), (2, .inl st), (3, .inl cm)] rfl rfl rfl (by rw [show yi_w (k + 1) = k + 1 from (yi_wn (by omega) (by omega)).trans (by omega)]; rfl) ?_
              refine yi_G_run 1 (73, [(4, .inl (k + 1)), (0, .inr (.inr (some 82))), (1, .inl row), (2, .inl st), (3, .inl cm)], [], (I, Kb, X), 0, 0) (fun _ => rfl) ?_
              exact ih73 _ (by omega) (k + 1) Kb (fun p k hp => by rw [fKb p k (by omega)]) (by omega) (by omega) rfl
        exact pt73 _ 0 Ka (fun _ _ _ => rfl) (by omega) (by omega) rfl
      · refine yi_G_if1 false rfl (yi_eq_f h8) ?_
        refine yi_G_run 1 (29, [(4, .inl k), (0, .inr (.inr (some 82))), (1, .inl row), (2, .inl st), (3, .inl cm)], [.inr (.inr (some 82))], (I, Ka, X), 0, 0) (fun _ => rfl) ?_
        refine yi_G_get (32, [(4, .inl k), (0, .inr (.inr (some 82))), (1, .inl row), (2, .inl st), (3, .inl cm)], [.inr (.inr (some 100))], (I, Ka, X), 0, 0) rfl (ym_gr hS 17 rfl rfl rfl) ?_
        refine yi_G_run 2 (36, [(4, .inl k), (0, .inr (.inr (some 82))), (1, .inl row), (2, .inl st), (3, .inl cm)], [.inl k, .inl 44, .inr (.inr (some 100))], (I, Ka, X), 0, 0) (fun _ => rfl) ?_
        refine yi_G_iadd rfl (44 + k) (yi_wn (by omega) (by omega)) ?_
        refine yi_G_iald (38, [(4, .inl k), (0, .inr (.inr (some 82))), (1, .inl row), (2, .inl st), (3, .inl cm)], [.inl (I 100 ((44 + k).toNat))], (I, Ka, X), 0, 0) rfl (ym_li hS 17 rfl (by omega) (by omega) rfl) ?_
        by_cases h13 : (I 100 ((44 + k).toNat)) < 0
        · refine yi_G_if1 true rfl (yi_lt_t h13) ?_
          refine yi_G_iinc [(4, .inl (k + 1)), (0, .inr (.inr (some 82))), (1, .inl row), (2, .inl st), (3, .inl cm)] rfl rfl rfl (by rw [show yi_w (k + 1) = k + 1 from (yi_wn (by omega) (by omega)).trans (by omega)]; rfl) ?_
          refine yi_G_run 1 (10, [(4, .inl (k + 1)), (0, .inr (.inr (some 82))), (1, .inl row), (2, .inl st), (3, .inl cm)], [], (I, Ka, X), 0, 0) (fun _ => rfl) ?_
          exact ih10 _ (by omega) (k + 1) Ka (fun p k hp => by rw [fKa p k (by omega)]) (by omega) (by omega) rfl
        · refine yi_G_if1 false rfl (yi_lt_f h13) ?_
          refine yi_G_run 3 (44, [(4, .inl k), (0, .inr (.inr (some 82))), (1, .inl row), (2, .inl st), (3, .inl cm)], [.inr (.inr (some 82)), .inl row, .inr (.inr (some 82))], (I, Ka, X), 0, 0) (fun _ => rfl) ?_
          refine yi_G_callv rfl rfl (ym_rcv hS) rfl (c_events d (by omega) hS rfl) ?_
          rintro _ rfl
          show yi_G zi_Ms d zi_m74 (47, [(4, .inl k), (0, .inr (.inr (some 82))), (1, .inl row), (2, .inl st), (3, .inl cm)], [.inl (I 88 2), .inl row, .inr (.inr (some 82))], (I, Ka, X), 0, 0) _
          refine yi_G_run 1 (49, [(4, .inl k), (0, .inr (.inr (some 82))), (1, .inl row), (2, .inl st), (3, .inl cm)], [.inl k, .inl (I 88 2), .inl row, .inr (.inr (some 82))], (I, Ka, X), 0, 0) (fun _ => rfl) ?_
          have mk := yi_mb (a := I 88 2) (b := k) (A := 4) (B := 23) (by omega) (by omega) (by omega) (by omega)
          refine yi_G_imul rfl ((I 88 2) * k) (yi_wn (by omega) (by omega)) ?_
          refine yi_G_run 1 (51, [(4, .inl k), (0, .inr (.inr (some 82))), (1, .inl row), (2, .inl st), (3, .inl cm)], [.inr (.inr (some 82)), .inl ((I 88 2) * k), .inl row, .inr (.inr (some 82))], (I, Ka, X), 0, 0) (fun _ => rfl) ?_
          refine yi_G_get (54, [(4, .inl k), (0, .inr (.inr (some 82))), (1, .inl row), (2, .inl st), (3, .inl cm)], [.inr (.inr (some 100)), .inl ((I 88 2) * k), .inl row, .inr (.inr (some 82))], (I, Ka, X), 0, 0) rfl (ym_gr hS 17 rfl rfl rfl) ?_
          refine yi_G_run 2 (58, [(4, .inl k), (0, .inr (.inr (some 82))), (1, .inl row), (2, .inl st), (3, .inl cm)], [.inl k, .inl 44, .inr (.inr (some 100)), .inl ((I 88 2) * k), .inl row, .inr (.inr (some 82))], (I, Ka, X), 0, 0) (fun _ => rfl) ?_
          refine yi_G_iadd rfl (44 + k) (yi_wn (by omega) (by omega)) ?_
          refine yi_G_iald (60, [(4, .inl k), (0, .inr (.inr (some 82))), (1, .inl row), (2, .inl st), (3, .inl cm)], [.inl (I 100 ((44 + k).toNat)), .inl ((I 88 2) * k), .inl row, .inr (.inr (some 82))], (I, Ka, X), 0, 0) rfl (ym_li hS 17 rfl (by omega) (by omega) rfl) ?_
          have hc := t4 k (by omega) (by omega)
          refine yi_G_iadd rfl (((I 88 2) * k) + (I 100 ((44 + k).toNat))) (yi_wn (by omega) (by omega)) ?_
          refine yi_G_callv rfl rfl (ym_rcv hS) rfl (w_meets (by omega) hS (by omega) (by omega) (by omega) (by omega) (by omega) (by omega)) ?_
          rintro _ ⟨L14, rfl, f15⟩
          show yi_G zi_Ms d zi_m74 (64, [(4, .inl k), (0, .inr (.inr (some 82))), (1, .inl row), (2, .inl st), (3, .inl cm)], [], (I, L14, X), 0, 0) _
          refine yi_G_iinc [(4, .inl (k + 1)), (0, .inr (.inr (some 82))), (1, .inl row), (2, .inl st), (3, .inl cm)] rfl rfl rfl (by rw [show yi_w (k + 1) = k + 1 from (yi_wn (by omega) (by omega)).trans (by omega)]; rfl) ?_
          refine yi_G_run 1 (10, [(4, .inl (k + 1)), (0, .inr (.inr (some 82))), (1, .inl row), (2, .inl st), (3, .inl cm)], [], (I, L14, X), 0, 0) (fun _ => rfl) ?_
          exact ih10 _ (by omega) (k + 1) L14 (fun p k hp => by rw [f15 p k (by omega), fKa p k (by omega)]) (by omega) (by omega) rfl
  exact pt10 _ 0 L1 (fun _ _ _ => rfl) (by omega) (by omega) rfl
theorem c_findLeft (D : Nat) (hD : 3 ≤ D) {I L : Nat → Nat → Int} {X : ym_X} (hS : ym_S X) (hLR : ym_LR I) (hS0 : ym_S0 I) (hl : 0 ≤ I 82 25 ∧ I 82 25 ≤ 512) : yi_E zi_Ms D 28 [.inr (.inr (some 82))] (I, L, X) (fun r => ∃ z L', r = (some (.inl z), (I, L', X), 0, 0) ∧ ∀ p k, p ≠ 97 → L' p k = L p k) := by
  obtain ⟨d, rfl⟩ : ∃ d, D = d + 1 := ⟨D - 1, by omega⟩
  refine yi_E_of (M := zi_m28) rfl rfl ?_
  obtain ⟨l0, l1, l2, l3, l4, l5⟩ := id hLR
  obtain ⟨t0, t1, t2, t3, t4⟩ := id hS0
  show yi_G zi_Ms d zi_m28 (0, [(0, .inr (.inr (some 82)))], [], (I, L, X), 0, 0) _
  refine yi_G_run 3 (4, [(0, .inr (.inr (some 82)))], [.inr (.inr (some 82)), .inl 39, .inr (.inr (some 82))], (I, L, X), 0, 0) (fun _ => rfl) ?_
  refine yi_G_callv rfl rfl (ym_rcv hS) rfl (c_everySaying d (by omega) hS t0) ?_
  rintro _ rfl
  show yi_G zi_Ms d zi_m28 (7, [(0, .inr (.inr (some 82)))], [.inl (yi_shl 1 (I 100 0) - 1), .inl 39, .inr (.inr (some 82))], (I, L, X), 0, 0) _
  refine yi_G_run 1 (8, [(0, .inr (.inr (some 82)))], [.inl 1, .inl (yi_shl 1 (I 100 0) - 1), .inl 39, .inr (.inr (some 82))], (I, L, X), 0, 0) (fun _ => rfl) ?_
  refine yi_G_callv rfl rfl (ym_rcv hS) rfl (c_lays d (by omega) hS hLR hS0 (by omega) (by omega) ⟨(by omega), (by omega)⟩) ?_
  rintro _ ⟨L1, rfl, f2⟩
  show yi_G zi_Ms d zi_m28 (11, [(0, .inr (.inr (some 82)))], [], (I, L1, X), 0, 0) _
  refine yi_G_run 2 (14, [(0, .inr (.inr (some 82)))], [.inl 39, .inr (.inr (some 82))], (I, L1, X), 0, 0) (fun _ => rfl) ?_
  refine yi_G_callv rfl rfl (ym_rcv hS) rfl (w_many (by omega) hS (by omega) (by omega) (by omega) (by omega)) ?_
  rintro _ ⟨z3, rfl⟩
  show yi_G zi_Ms d zi_m28 (17, [(0, .inr (.inr (some 82)))], [.inl z3], (I, L1, X), 0, 0) _
  exact yi_G_reti rfl rfl (⟨_, _, rfl, (fun p k hp => by rw [f2 p k (by omega)])⟩)
