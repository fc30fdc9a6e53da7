/-! The worth of a programme; whether it names somebody. -/
theorem c_both (D : Nat) (hD : 1 ≤ D) {I L : Nat → Nat → Int} {X : ym_X} (hS : ym_S X) {c a b : Int} : yi_E zi_Ms D 6 [.inl c, .inl a, .inl b] (I, L, X) (fun r => ∃ z, r = (some (.inl z), (I, L, X), 0, 0)) := by
  obtain ⟨d, rfl⟩ : ∃ d, D = d + 1 := ⟨D - 1, by omega⟩
  refine yi_E_of (M := zi_m6) rfl rfl ?_
  show yi_G zi_Ms d zi_m6 (0, [(0, .inl c), (1, .inl a), (2, .inl b)], [], (I, L, X), 0, 0) _
  refine yi_G_run 1 (1, [(0, .inl c), (1, .inl a), (2, .inl b)], [.inl c], (I, L, X), 0, 0) (fun _ => rfl) ?_
  by_cases h1 : c = 4
  · refine yi_G_tsi 0 rfl (by omega) (by decide) rfl ?_
    refine yi_G_run 3 (43, [(0, .inl c), (1, .inl a), (2, .inl b)], [.inl (yi_w (a + b))], (I, L, X), 0, 0) (fun _ => rfl) ?_
    exact yi_G_reti rfl rfl (⟨_, rfl⟩)
  by_cases h2 : c = 5
  · refine yi_G_tsi 1 rfl (by omega) (by decide) rfl ?_
    refine yi_G_run 3 (47, [(0, .inl c), (1, .inl a), (2, .inl b)], [.inl (yi_w (a - b))], (I, L, X), 0, 0) (fun _ => rfl) ?_
    exact yi_G_reti rfl rfl (⟨_, rfl⟩)
  by_cases h3 : c = 6
  · refine yi_G_tsi 2 rfl (by omega) (by decide) rfl ?_
    refine yi_G_run 3 (51, [(0, .inl c), (1, .inl a), (2, .inl b)], [.inl (yi_w (a * b))], (I, L, X), 0, 0) (fun _ => rfl) ?_
    exact yi_G_reti rfl rfl (⟨_, rfl⟩)
  by_cases h4 : c = 7
  · refine yi_G_tsi 3 rfl (by omega) (by decide) rfl ?_
    refine yi_G_run 2 (54, [(0, .inl c), (1, .inl a), (2, .inl b)], [.inl b, .inl a], (I, L, X), 0, 0) (fun _ => rfl) ?_
    by_cases h5 : b ≤ a
    · refine yi_G_if2 true rfl (yi_ge_t h5) ?_
      refine yi_G_run 1 (62, [(0, .inl c), (1, .inl a), (2, .inl b)], [.inl 0], (I, L, X), 0, 0) (fun _ => rfl) ?_
      exact yi_G_reti rfl rfl (⟨_, rfl⟩)
    · refine yi_G_if2 false rfl (yi_ge_f h5) ?_
      refine yi_G_run 2 (62, [(0, .inl c), (1, .inl a), (2, .inl b)], [.inl 1], (I, L, X), 0, 0) (fun _ => rfl) ?_
      exact yi_G_reti rfl rfl (⟨_, rfl⟩)
  by_cases h6 : c = 8
  · refine yi_G_tsi 4 rfl (by omega) (by decide) rfl ?_
    refine yi_G_run 2 (65, [(0, .inl c), (1, .inl a), (2, .inl b)], [.inl b, .inl a], (I, L, X), 0, 0) (fun _ => rfl) ?_
    by_cases h7 : a = b
    · refine yi_G_if2 false rfl (yi_ne_f h7) ?_
      refine yi_G_run 2 (73, [(0, .inl c), (1, .inl a), (2, .inl b)], [.inl 1], (I, L, X), 0, 0) (fun _ => rfl) ?_
      exact yi_G_reti rfl rfl (⟨_, rfl⟩)
    · refine yi_G_if2 true rfl (yi_ne_t h7) ?_
      refine yi_G_run 1 (73, [(0, .inl c), (1, .inl a), (2, .inl b)], [.inl 0], (I, L, X), 0, 0) (fun _ => rfl) ?_
      exact yi_G_reti rfl rfl (⟨_, rfl⟩)
  by_cases h8 : c = 9
  · refine yi_G_tsi 5 rfl (by omega) (by decide) rfl ?_
    refine yi_G_run 1 (75, [(0, .inl c), (1, .inl a), (2, .inl b)], [.inl a], (I, L, X), 0, 0) (fun _ => rfl) ?_
    by_cases h9 : a = 0
    · refine yi_G_if1 true rfl (yi_eq_t h9) ?_
      refine yi_G_run 1 (87, [(0, .inl c), (1, .inl a), (2, .inl b)], [.inl 0], (I, L, X), 0, 0) (fun _ => rfl) ?_
      exact yi_G_reti rfl rfl (⟨_, rfl⟩)
    · refine yi_G_if1 false rfl (yi_eq_f h9) ?_
      refine yi_G_run 1 (79, [(0, .inl c), (1, .inl a), (2, .inl b)], [.inl b], (I, L, X), 0, 0) (fun _ => rfl) ?_
      by_cases h10 : b = 0
      · refine yi_G_if1 true rfl (yi_eq_t h10) ?_
        refine yi_G_run 1 (87, [(0, .inl c), (1, .inl a), (2, .inl b)], [.inl 0], (I, L, X), 0, 0) (fun _ => rfl) ?_
        exact yi_G_reti rfl rfl (⟨_, rfl⟩)
      · refine yi_G_if1 false rfl (yi_eq_f h10) ?_
        refine yi_G_run 2 (87, [(0, .inl c), (1, .inl a), (2, .inl b)], [.inl 1], (I, L, X), 0, 0) (fun _ => rfl) ?_
        exact yi_G_reti rfl rfl (⟨_, rfl⟩)
  refine yi_G_tso rfl (by omega) ?_
  refine yi_G_run 1 (89, [(0, .inl c), (1, .inl a), (2, .inl b)], [.inl a], (I, L, X), 0, 0) (fun _ => rfl) ?_
  by_cases h11 : a = 0
  · refine yi_G_if1 false rfl (yi_ne_f h11) ?_
    refine yi_G_run 1 (93, [(0, .inl c), (1, .inl a), (2, .inl b)], [.inl b], (I, L, X), 0, 0) (fun _ => rfl) ?_
    by_cases h12 : b = 0
    · refine yi_G_if1 true rfl (yi_eq_t h12) ?_
      refine yi_G_run 1 (101, [(0, .inl c), (1, .inl a), (2, .inl b)], [.inl 0], (I, L, X), 0, 0) (fun _ => rfl) ?_
      exact yi_G_reti rfl rfl (⟨_, rfl⟩)
    · refine yi_G_if1 false rfl (yi_eq_f h12) ?_
      refine yi_G_run 2 (101, [(0, .inl c), (1, .inl a), (2, .inl b)], [.inl 1], (I, L, X), 0, 0) (fun _ => rfl) ?_
      exact yi_G_reti rfl rfl (⟨_, rfl⟩)
  · refine yi_G_if1 true rfl (yi_ne_t h11) ?_
    refine yi_G_run 2 (101, [(0, .inl c), (1, .inl a), (2, .inl b)], [.inl 1], (I, L, X), 0, 0) (fun _ => rfl) ?_
    exact yi_G_reti rfl rfl (⟨_, rfl⟩)
theorem c_worthAt (D : Nat) (hD : 6 ≤ D) {I L : Nat → Nat → Int} {X : ym_X} (hS : ym_S X) {fr e : Int} (hLR : ym_LR I) (hP : ym_PG I fr e) : yi_E zi_Ms D 135 [.inr (.inr (some 82)), .inl fr] (I, L, X) (fun r => ∃ z I', r = (some (.inl z), (I', L, X), 0, 0) ∧ ∀ p k, p ≠ 96 → I' p k = I p k) := by
  obtain ⟨d, rfl⟩ : ∃ d, D = d + 1 := ⟨D - 1, by omega⟩
  refine yi_E_of (M := zi_m135) rfl rfl ?_
  obtain ⟨l0, l1, l2, l3, l4, l5⟩ := id hLR
  obtain ⟨q1, q2, q3, q4, q5, q6⟩ := id hP
  have pt4 : ∀ (m : Nat) (i : Int) (tp : Int) (I1 : Nat → Nat → Int), (fr ≤ i) → (i ≤ e) → (0 ≤ tp) → (tp ≤ i - fr) → (ym_sg I (e - i).toNat i tp 1) → (∀ p k, p ≠ 96 → I1 p k = I p k) → (e - i).toNat = m → yi_G zi_Ms d zi_m135 (4, [(3, .inl i), (2, .inl tp), (0, .inr (.inr (some 82))), (1, .inl fr)], [], (I1, L, X), 0, 0) (fun r => ∃ z I', r = (some (.inl z), (I', L, X), 0, 0) ∧ ∀ p k, p ≠ 96 → I' p k = I p k) := by
    intro m4
    induction m4 using Nat.strongRecOn with
    | _ m4 ih4 =>
    intro i tp I1 i0 i1 t0 t1 hseg fm hm4
    refine yi_G_run 1 (5, [(3, .inl i), (2, .inl tp), (0, .inr (.inr (some 82))), (1, .inl fr)], [.inr (.inr (some 82))], (I1, L, X), 0, 0) (fun _ => rfl) ?_
    refine yi_G_get (8, [(3, .inl i), (2, .inl tp), (0, .inr (.inr (some 82))), (1, .inl fr)], [.inr (.inr (some 89))], (I1, L, X), 0, 0) rfl (ym_gr hS 6 rfl rfl rfl) ?_
    refine yi_G_run 1 (9, [(3, .inl i), (2, .inl tp), (0, .inr (.inr (some 82))), (1, .inl fr)], [.inl i, .inr (.inr (some 89))], (I1, L, X), 0, 0) (fun _ => rfl) ?_
    have r1 : I1 89 (i.toNat) = I 89 (i.toNat) := by rw [fm 89 (i.toNat) (by omega)]
    refine yi_G_iald (10, [(3, .inl i), (2, .inl tp), (0, .inr (.inr (some 82))), (1, .inl fr)], [.inl (I 89 (i.toNat))], (I1, L, X), 0, 0) rfl (ym_li hS 6 rfl (by omega) (by omega) r1) ?_
    by_cases h2 : (I 89 (i.toNat)) = 0
    · refine yi_G_if1 true rfl (yi_eq_t h2) ?_
      refine yi_G_run 1 (178, [(3, .inl i), (2, .inl tp), (0, .inr (.inr (some 82))), (1, .inl fr)], [.inr (.inr (some 82))], (I1, L, X), 0, 0) (fun _ => rfl) ?_
      refine yi_G_get (181, [(3, .inl i), (2, .inl tp), (0, .inr (.inr (some 82))), (1, .inl fr)], [.inr (.inr (some 96))], (I1, L, X), 0, 0) rfl (ym_gr hS 13 rfl rfl rfl) ?_
      refine yi_G_run 1 (182, [(3, .inl i), (2, .inl tp), (0, .inr (.inr (some 82))), (1, .inl fr)], [.inl 0, .inr (.inr (some 96))], (I1, L, X), 0, 0) (fun _ => rfl) ?_
      refine yi_G_iald (183, [(3, .inl i), (2, .inl tp), (0, .inr (.inr (some 82))), (1, .inl fr)], [.inl (I1 96 0)], (I1, L, X), 0, 0) rfl (ym_li hS 13 rfl (by omega) (by omega) rfl) ?_
      exact yi_G_reti rfl rfl (⟨_, _, rfl, fm⟩)
    · refine yi_G_if1 false rfl (yi_eq_f h2) ?_
      refine yi_G_run 1 (14, [(3, .inl i), (2, .inl tp), (0, .inr (.inr (some 82))), (1, .inl fr)], [.inr (.inr (some 82))], (I1, L, X), 0, 0) (fun _ => rfl) ?_
      have hne : ¬ i = e := by intro z; subst z; contradiction
      obtain ⟨kk, hkk⟩ : ∃ kk, (e - i).toNat = kk + 1 := ⟨(e - i).toNat - 1, by omega⟩
      rw [hkk] at hseg
      obtain ⟨mm, ⟨s0, s1, s2, s3, s4, s5⟩, hrest⟩ := hseg
      refine yi_G_get (17, [(3, .inl i), (2, .inl tp), (0, .inr (.inr (some 82))), (1, .inl fr)], [.inr (.inr (some 89))], (I1, L, X), 0, 0) rfl (ym_gr hS 6 rfl rfl rfl) ?_
      refine yi_G_run 1 (18, [(3, .inl i), (2, .inl tp), (0, .inr (.inr (some 82))), (1, .inl fr)], [.inl i, .inr (.inr (some 89))], (I1, L, X), 0, 0) (fun _ => rfl) ?_
      have r3 : I1 89 (i.toNat) = I 89 (i.toNat) := by rw [fm 89 (i.toNat) (by omega)]
      refine yi_G_iald (19, [(3, .inl i), (2, .inl tp), (0, .inr (.inr (some 82))), (1, .inl fr)], [.inl (I 89 (i.toNat))], (I1, L, X), 0, 0) rfl (ym_li hS 6 rfl (by omega) (by omega) r3) ?_
      refine yi_G_run 3 (24, [(4, .inl (I 89 (i.toNat))), (3, .inl i), (2, .inl tp), (0, .inr (.inr (some 82))), (1, .inl fr)], [.inl 1, .inl (I 89 (i.toNat))], (I1, L, X), 0, 0) (fun _ => rfl) ?_
      by_cases h4 : (I 89 (i.toNat)) = 1
      · refine yi_G_if2 true rfl (yi_eq_t h4) ?_
        refine yi_G_run 1 (34, [(4, .inl (I 89 (i.toNat))), (3, .inl i), (2, .inl tp), (0, .inr (.inr (some 82))), (1, .inl fr)], [.inr (.inr (some 82))], (I1, L, X), 0, 0) (fun _ => rfl) ?_
        refine yi_G_get (37, [(4, .inl (I 89 (i.toNat))), (3, .inl i), (2, .inl tp), (0, .inr (.inr (some 82))), (1, .inl fr)], [.inr (.inr (some 96))], (I1, L, X), 0, 0) rfl (ym_gr hS 13 rfl rfl rfl) ?_
        refine yi_G_run 3 (41, [(4, .inl (I 89 (i.toNat))), (3, .inl i), (2, .inl tp), (0, .inr (.inr (some 82))), (1, .inl fr)], [.inl 1, .inl (I 89 (i.toNat)), .inl tp, .inr (.inr (some 96))], (I1, L, X), 0, 0) (fun _ => rfl) ?_
        by_cases h5 : (I 89 (i.toNat)) = 1
        · refine yi_G_if2 false rfl (yi_ne_f h5) ?_
          refine yi_G_run 1 (45, [(4, .inl (I 89 (i.toNat))), (3, .inl i), (2, .inl tp), (0, .inr (.inr (some 82))), (1, .inl fr)], [.inr (.inr (some 82)), .inl tp, .inr (.inr (some 96))], (I1, L, X), 0, 0) (fun _ => rfl) ?_
          refine yi_G_get (48, [(4, .inl (I 89 (i.toNat))), (3, .inl i), (2, .inl tp), (0, .inr (.inr (some 82))), (1, .inl fr)], [.inr (.inr (some 90)), .inl tp, .inr (.inr (some 96))], (I1, L, X), 0, 0) rfl (ym_gr hS 7 rfl rfl rfl) ?_
          refine yi_G_run 1 (49, [(4, .inl (I 89 (i.toNat))), (3, .inl i), (2, .inl tp), (0, .inr (.inr (some 82))), (1, .inl fr)], [.inl i, .inr (.inr (some 90)), .inl tp, .inr (.inr (some 96))], (I1, L, X), 0, 0) (fun _ => rfl) ?_
          have r6 : I1 90 (i.toNat) = I 90 (i.toNat) := by rw [fm 90 (i.toNat) (by omega)]
          refine yi_G_iald (50, [(4, .inl (I 89 (i.toNat))), (3, .inl i), (2, .inl tp), (0, .inr (.inr (some 82))), (1, .inl fr)], [.inl (I 90 (i.toNat)), .inl tp, .inr (.inr (some 96))], (I1, L, X), 0, 0) rfl (ym_li hS 7 rfl (by omega) (by omega) r6) ?_
          refine yi_G_run 1 (64, [(4, .inl (I 89 (i.toNat))), (3, .inl i), (2, .inl tp), (0, .inr (.inr (some 82))), (1, .inl fr)], [.inl (I 90 (i.toNat)), .inl tp, .inr (.inr (some 96))], (I1, L, X), 0, 0) (fun _ => rfl) ?_
          refine yi_G_iast (65, [(4, .inl (I 89 (i.toNat))), (3, .inl i), (2, .inl tp), (0, .inr (.inr (some 82))), (1, .inl fr)], [], ((yi_u I1 96 (tp.toNat) (I 90 (i.toNat))), L, X), 0, 0) rfl (ym_si hS 13 rfl (by omega) (by omega)) ?_
          generalize w8 : yi_u I1 96 (tp.toNat) (I 90 (i.toNat)) = I7
          refine yi_G_iinc [(2, .inl (tp + 1)), (4, .inl (I 89 (i.toNat))), (3, .inl i), (0, .inr (.inr (some 82))), (1, .inl fr)] rfl rfl rfl (by rw [show yi_w (tp + 1) = tp + 1 from (yi_wn (by omega) (by omega)).trans (by omega)]; rfl) ?_
          refine yi_G_run 1 (171, [(2, .inl (tp + 1)), (4, .inl (I 89 (i.toNat))), (3, .inl i), (0, .inr (.inr (some 82))), (1, .inl fr)], [], (I7, L, X), 0, 0) (fun _ => rfl) ?_
          refine yi_G_iinc [(3, .inl (i + 1)), (2, .inl (tp + 1)), (4, .inl (I 89 (i.toNat))), (0, .inr (.inr (some 82))), (1, .inl fr)] rfl rfl rfl (by rw [show yi_w (i + 1) = i + 1 from (yi_wn (by omega) (by omega)).trans (by omega)]; rfl) ?_
          refine yi_G_run 1 (4, [(3, .inl (i + 1)), (2, .inl (tp + 1)), (4, .inl (I 89 (i.toNat))), (0, .inr (.inr (some 82))), (1, .inl fr)], [], (I7, L, X), 0, 0) (fun _ => rfl) ?_
          refine yi_G_al (al := [(3, .inl (i + 1)), (2, .inl (tp + 1)), (0, .inr (.inr (some 82))), (1, .inl fr)]) (show ([3, 2, 0, 1] : List Nat).Nodup by decide) (show ([3, 2, 4, 0, 1] : List Nat).Nodup by decide) (yi_mc (List.mem_of_getElem? (i := 0) rfl) (yi_mc (List.mem_of_getElem? (i := 1) rfl) (yi_mc (List.mem_of_getElem? (i := 3) rfl) (yi_mc (List.mem_of_getElem? (i := 4) rfl) yi_mn)))) ?_
          exact ih4 _ (by omega) (i + 1) (tp + 1) I7 (by omega) (by omega) (by omega) (by omega) (by rw [show (e - (i + 1)).toNat = kk by omega, show tp + 1 = mm by omega]; exact hrest) (fun p k hp => by rw [← w8, yi_u_ne _ _ (fun z => by omega), fm p k (by omega)]) rfl
        · refine yi_G_if2 true rfl (yi_ne_t h5) ?_
          refine yi_G_run 1 (54, [(4, .inl (I 89 (i.toNat))), (3, .inl i), (2, .inl tp), (0, .inr (.inr (some 82))), (1, .inl fr)], [.inr (.inr (some 82)), .inl tp, .inr (.inr (some 96))], (I1, L, X), 0, 0) (fun _ => rfl) ?_
          refine yi_G_get (57, [(4, .inl (I 89 (i.toNat))), (3, .inl i), (2, .inl tp), (0, .inr (.inr (some 82))), (1, .inl fr)], [.inr (.inr (some 95)), .inl tp, .inr (.inr (some 96))], (I1, L, X), 0, 0) rfl (ym_gr hS 12 rfl rfl rfl) ?_
          refine yi_G_run 1 (58, [(4, .inl (I 89 (i.toNat))), (3, .inl i), (2, .inl tp), (0, .inr (.inr (some 82))), (1, .inl fr)], [.inr (.inr (some 82)), .inr (.inr (some 95)), .inl tp, .inr (.inr (some 96))], (I1, L, X), 0, 0) (fun _ => rfl) ?_
          refine yi_G_get (61, [(4, .inl (I 89 (i.toNat))), (3, .inl i), (2, .inl tp), (0, .inr (.inr (some 82))), (1, .inl fr)], [.inr (.inr (some 90)), .inr (.inr (some 95)), .inl tp, .inr (.inr (some 96))], (I1, L, X), 0, 0) rfl (ym_gr hS 7 rfl rfl rfl) ?_
          refine yi_G_run 1 (62, [(4, .inl (I 89 (i.toNat))), (3, .inl i), (2, .inl tp), (0, .inr (.inr (some 82))), (1, .inl fr)], [.inl i, .inr (.inr (some 90)), .inr (.inr (some 95)), .inl tp, .inr (.inr (some 96))], (I1, L, X), 0, 0) (fun _ => rfl) ?_
          have r9 : I1 90 (i.toNat) = I 90 (i.toNat) := by rw [fm 90 (i.toNat) (by omega)]
          refine yi_G_iald (63, [(4, .inl (I 89 (i.toNat))), (3, .inl i), (2, .inl tp), (0, .inr (.inr (some 82))), (1, .inl fr)], [.inl (I 90 (i.toNat)), .inr (.inr (some 95)), .inl tp, .inr (.inr (some 96))], (I1, L, X), 0, 0) rfl (ym_li hS 7 rfl (by omega) (by omega) r9) ?_
          have r10 : I1 95 ((I 90 (i.toNat)).toNat) = I 95 ((I 90 (i.toNat)).toNat) := by rw [fm 95 ((I 90 (i.toNat)).toNat) (by omega)]
          refine yi_G_iald (64, [(4, .inl (I 89 (i.toNat))), (3, .inl i), (2, .inl tp), (0, .inr (.inr (some 82))), (1, .inl fr)], [.inl (I 95 ((I 90 (i.toNat)).toNat)), .inl tp, .inr (.inr (some 96))], (I1, L, X), 0, 0) rfl (ym_li hS 12 rfl (by omega) (by omega) r10) ?_
          refine yi_G_iast (65, [(4, .inl (I 89 (i.toNat))), (3, .inl i), (2, .inl tp), (0, .inr (.inr (some 82))), (1, .inl fr)], [], ((yi_u I1 96 (tp.toNat) (I 95 ((I 90 (i.toNat)).toNat))), L, X), 0, 0) rfl (ym_si hS 13 rfl (by omega) (by omega)) ?_
          generalize w12 : yi_u I1 96 (tp.toNat) (I 95 ((I 90 (i.toNat)).toNat)) = I11
          refine yi_G_iinc [(2, .inl (tp + 1)), (4, .inl (I 89 (i.toNat))), (3, .inl i), (0, .inr (.inr (some 82))), (1, .inl fr)] rfl rfl rfl (by rw [show yi_w (tp + 1) = tp + 1 from (yi_wn (by omega) (by omega)).trans (by omega)]; rfl) ?_
          refine yi_G_run 1 (171, [(2, .inl (tp + 1)), (4, .inl (I 89 (i.toNat))), (3, .inl i), (0, .inr (.inr (some 82))), (1, .inl fr)], [], (I11, L, X), 0, 0) (fun _ => rfl) ?_
          refine yi_G_iinc [(3, .inl (i + 1)), (2, .inl (tp + 1)), (4, .inl (I 89 (i.toNat))), (0, .inr (.inr (some 82))), (1, .inl fr)] rfl rfl rfl (by rw [show yi_w (i + 1) = i + 1 from (yi_wn (by omega) (by omega)).trans (by omega)]; rfl) ?_
          refine yi_G_run 1 (4, [(3, .inl (i + 1)), (2, .inl (tp + 1)), (4, .inl (I 89 (i.toNat))), (0, .inr (.inr (some 82))), (1, .inl fr)], [], (I11, L, X), 0, 0) (fun _ => rfl) ?_
          refine yi_G_al (al := [(3, .inl (i + 1)), (2, .inl (tp + 1)), (0, .inr (.inr (some 82))), (1, .inl fr)]) (show ([3, 2, 0, 1] : List Nat).Nodup by decide) (show ([3, 2, 4, 0, 1] : List Nat).Nodup by decide) (yi_mc (List.mem_of_getElem? (i := 0) rfl) (yi_mc (List.mem_of_getElem? (i := 1) rfl) (yi_mc (List.mem_of_getElem? (i := 3) rfl) (yi_mc (List.mem_of_getElem? (i := 4) rfl) yi_mn)))) ?_
          exact ih4 _ (by omega) (i + 1) (tp + 1) I11 (by omega) (by omega) (by omega) (by omega) (by rw [show (e - (i + 1)).toNat = kk by omega, show tp + 1 = mm by omega]; exact hrest) (fun p k hp => by rw [← w12, yi_u_ne _ _ (fun z => by omega), fm p k (by omega)]) rfl
      · refine yi_G_if2 false rfl (yi_eq_f h4) ?_
        refine yi_G_run 2 (30, [(4, .inl (I 89 (i.toNat))), (3, .inl i), (2, .inl tp), (0, .inr (.inr (some 82))), (1, .inl fr)], [.inl 2, .inl (I 89 (i.toNat))], (I1, L, X), 0, 0) (fun _ => rfl) ?_
        by_cases h13 : (I 89 (i.toNat)) = 2
        · refine yi_G_if2 false rfl (yi_ne_f h13) ?_
          refine yi_G_run 1 (34, [(4, .inl (I 89 (i.toNat))), (3, .inl i), (2, .inl tp), (0, .inr (.inr (some 82))), (1, .inl fr)], [.inr (.inr (some 82))], (I1, L, X), 0, 0) (fun _ => rfl) ?_
          refine yi_G_get (37, [(4, .inl (I 89 (i.toNat))), (3, .inl i), (2, .inl tp), (0, .inr (.inr (some 82))), (1, .inl fr)], [.inr (.inr (some 96))], (I1, L, X), 0, 0) rfl (ym_gr hS 13 rfl rfl rfl) ?_
          refine yi_G_run 3 (41, [(4, .inl (I 89 (i.toNat))), (3, .inl i), (2, .inl tp), (0, .inr (.inr (some 82))), (1, .inl fr)], [.inl 1, .inl (I 89 (i.toNat)), .inl tp, .inr (.inr (some 96))], (I1, L, X), 0, 0) (fun _ => rfl) ?_
          by_cases h14 : (I 89 (i.toNat)) = 1
          · refine yi_G_if2 false rfl (yi_ne_f h14) ?_
            refine yi_G_run 1 (45, [(4, .inl (I 89 (i.toNat))), (3, .inl i), (2, .inl tp), (0, .inr (.inr (some 82))), (1, .inl fr)], [.inr (.inr (some 82)), .inl tp, .inr (.inr (some 96))], (I1, L, X), 0, 0) (fun _ => rfl) ?_
            refine yi_G_get (48, [(4, .inl (I 89 (i.toNat))), (3, .inl i), (2, .inl tp), (0, .inr (.inr (some 82))), (1, .inl fr)], [.inr (.inr (some 90)), .inl tp, .inr (.inr (some 96))], (I1, L, X), 0, 0) rfl (ym_gr hS 7 rfl rfl rfl) ?_
            refine yi_G_run 1 (49, [(4, .inl (I 89 (i.toNat))), (3, .inl i), (2, .inl tp), (0, .inr (.inr (some 82))), (1, .inl fr)], [.inl i, .inr (.inr (some 90)), .inl tp, .inr (.inr (some 96))], (I1, L, X), 0, 0) (fun _ => rfl) ?_
            have r15 : I1 90 (i.toNat) = I 90 (i.toNat) := by rw [fm 90 (i.toNat) (by omega)]
            refine yi_G_iald (50, [(4, .inl (I 89 (i.toNat))), (3, .inl i), (2, .inl tp), (0, .inr (.inr (some 82))), (1, .inl fr)], [.inl (I 90 (i.toNat)), .inl tp, .inr (.inr (some 96))], (I1, L, X), 0, 0) rfl (ym_li hS 7 rfl (by omega) (by omega) r15) ?_
            refine yi_G_run 1 (64, [(4, .inl (I 89 (i.toNat))), (3, .inl i), (2, .inl tp), (0, .inr (.inr (some 82))), (1, .inl fr)], [.inl (I 90 (i.toNat)), .inl tp, .inr (.inr (some 96))], (I1, L, X), 0, 0) (fun _ => rfl) ?_
            refine yi_G_iast (65, [(4, .inl (I 89 (i.toNat))), (3, .inl i), (2, .inl tp), (0, .inr (.inr (some 82))), (1, .inl fr)], [], ((yi_u I1 96 (tp.toNat) (I 90 (i.toNat))), L, X), 0, 0) rfl (ym_si hS 13 rfl (by omega) (by omega)) ?_
            generalize w17 : yi_u I1 96 (tp.toNat) (I 90 (i.toNat)) = I16
            refine yi_G_iinc [(2, .inl (tp + 1)), (4, .inl (I 89 (i.toNat))), (3, .inl i), (0, .inr (.inr (some 82))), (1, .inl fr)] rfl rfl rfl (by rw [show yi_w (tp + 1) = tp + 1 from (yi_wn (by omega) (by omega)).trans (by omega)]; rfl) ?_
            refine yi_G_run 1 (171, [(2, .inl (tp + 1)), (4, .inl (I 89 (i.toNat))), (3, .inl i), (0, .inr (.inr (some 82))), (1, .inl fr)], [], (I16, L, X), 0, 0) (fun _ => rfl) ?_
            refine yi_G_iinc [(3, .inl (i + 1)), (2, .inl (tp + 1)), (4, .inl (I 89 (i.toNat))), (0, .inr (.inr (some 82))), (1, .inl fr)] rfl rfl rfl (by rw [show yi_w (i + 1) = i + 1 from (yi_wn (by omega) (by omega)).trans (by omega)]; rfl) ?_
            refine yi_G_run 1 (4, [(3, .inl (i + 1)), (2, .inl (tp + 1)), (4, .inl (I 89 (i.toNat))), (0, .inr (.inr (some 82))), (1, .inl fr)], [], (I16, L, X), 0, 0) (fun _ => rfl) ?_
            refine yi_G_al (al := [(3, .inl (i + 1)), (2, .inl (tp + 1)), (0, .inr (.inr (some 82))), (1, .inl fr)]) (show ([3, 2, 0, 1] : List Nat).Nodup by decide) (show ([3, 2, 4, 0, 1] : List Nat).Nodup by decide) (yi_mc (List.mem_of_getElem? (i := 0) rfl) (yi_mc (List.mem_of_getElem? (i := 1) rfl) (yi_mc (List.mem_of_getElem? (i := 3) rfl) (yi_mc (List.mem_of_getElem? (i := 4) rfl) yi_mn)))) ?_
            exact ih4 _ (by omega) (i + 1) (tp + 1) I16 (by omega) (by omega) (by omega) (by omega) (by rw [show (e - (i + 1)).toNat = kk by omega, show tp + 1 = mm by omega]; exact hrest) (fun p k hp => by rw [← w17, yi_u_ne _ _ (fun z => by omega), fm p k (by omega)]) rfl
          · refine yi_G_if2 true rfl (yi_ne_t h14) ?_
            refine yi_G_run 1 (54, [(4, .inl (I 89 (i.toNat))), (3, .inl i), (2, .inl tp), (0, .inr (.inr (some 82))), (1, .inl fr)], [.inr (.inr (some 82)), .inl tp, .inr (.inr (some 96))], (I1, L, X), 0, 0) (fun _ => rfl) ?_
            refine yi_G_get (57, [(4, .inl (I 89 (i.toNat))), (3, .inl i), (2, .inl tp), (0, .inr (.inr (some 82))), (1, .inl fr)], [.inr (.inr (some 95)), .inl tp, .inr (.inr (some 96))], (I1, L, X), 0, 0) rfl (ym_gr hS 12 rfl rfl rfl) ?_
            refine yi_G_run 1 (58, [(4, .inl (I 89 (i.toNat))), (3, .inl i), (2, .inl tp), (0, .inr (.inr (some 82))), (1, .inl fr)], [.inr (.inr (some 82)), .inr (.inr (some 95)), .inl tp, .inr (.inr (some 96))], (I1, L, X), 0, 0) (fun _ => rfl) ?_
            refine yi_G_get (61, [(4, .inl (I 89 (i.toNat))), (3, .inl i), (2, .inl tp), (0, .inr (.inr (some 82))), (1, .inl fr)], [.inr (.inr (some 90)), .inr (.inr (some 95)), .inl tp, .inr (.inr (some 96))], (I1, L, X), 0, 0) rfl (ym_gr hS 7 rfl rfl rfl) ?_
            refine yi_G_run 1 (62, [(4, .inl (I 89 (i.toNat))), (3, .inl i), (2, .inl tp), (0, .inr (.inr (some 82))), (1, .inl fr)], [.inl i, .inr (.inr (some 90)), .inr (.inr (some 95)), .inl tp, .inr (.inr (some 96))], (I1, L, X), 0, 0) (fun _ => rfl) ?_
            have r18 : I1 90 (i.toNat) = I 90 (i.toNat) := by rw [fm 90 (i.toNat) (by omega)]
            refine yi_G_iald (63, [(4, .inl (I 89 (i.toNat))), (3, .inl i), (2, .inl tp), (0, .inr (.inr (some 82))), (1, .inl fr)], [.inl (I 90 (i.toNat)), .inr (.inr (some 95)), .inl tp, .inr (.inr (some 96))], (I1, L, X), 0, 0) rfl (ym_li hS 7 rfl (by omega) (by omega) r18) ?_
            have r19 : I1 95 ((I 90 (i.toNat)).toNat) = I 95 ((I 90 (i.toNat)).toNat) := by rw [fm 95 ((I 90 (i.toNat)).toNat) (by omega)]
            refine yi_G_iald (64, [(4, .inl (I 89 (i.toNat))), (3, .inl i), (2, .inl tp), (0, .inr (.inr (some 82))), (1, .inl fr)], [.inl (I 95 ((I 90 (i.toNat)).toNat)), .inl tp, .inr (.inr (some 96))], (I1, L, X), 0, 0) rfl (ym_li hS 12 rfl (by omega) (by omega) r19) ?_
            refine yi_G_iast (65, [(4, .inl (I 89 (i.toNat))), (3, .inl i), (2, .inl tp), (0, .inr (.inr (some 82))), (1, .inl fr)], [], ((yi_u I1 96 (tp.toNat) (I 95 ((I 90 (i.toNat)).toNat))), L, X), 0, 0) rfl (ym_si hS 13 rfl (by omega) (by omega)) ?_
            generalize w21 : yi_u I1 96 (tp.toNat) (I 95 ((I 90 (i.toNat)).toNat)) = I20
            refine yi_G_iinc [(2, .inl (tp + 1)), (4, .inl (I 89 (i.toNat))), (3, .inl i), (0, .inr (.inr (some 82))), (1, .inl fr)] rfl rfl rfl (by rw [show yi_w (tp + 1) = tp + 1 from (yi_wn (by omega) (by omega)).trans (by omega)]; rfl) ?_
            refine yi_G_run 1 (171, [(2, .inl (tp + 1)), (4, .inl (I 89 (i.toNat))), (3, .inl i), (0, .inr (.inr (some 82))), (1, .inl fr)], [], (I20, L, X), 0, 0) (fun _ => rfl) ?_
            refine yi_G_iinc [(3, .inl (i + 1)), (2, .inl (tp + 1)), (4, .inl (I 89 (i.toNat))), (0, .inr (.inr (some 82))), (1, .inl fr)] rfl rfl rfl (by rw [show yi_w (i + 1) = i + 1 from (yi_wn (by omega) (by omega)).trans (by omega)]; rfl) ?_
            refine yi_G_run 1 (4, [(3, .inl (i + 1)), (2, .inl (tp + 1)), (4, .inl (I 89 (i.toNat))), (0, .inr (.inr (some 82))), (1, .inl fr)], [], (I20, L, X), 0, 0) (fun _ => rfl) ?_
            refine yi_G_al (al := [(3, .inl (i + 1)), (2, .inl (tp + 1)), (0, .inr (.inr (some 82))), (1, .inl fr)]) (show ([3, 2, 0, 1] : List Nat).Nodup by decide) (show ([3, 2, 4, 0, 1] : List Nat).Nodup by decide) (yi_mc (List.mem_of_getElem? (i := 0) rfl) (yi_mc (List.mem_of_getElem? (i := 1) rfl) (yi_mc (List.mem_of_getElem? (i := 3) rfl) (yi_mc (List.mem_of_getElem? (i := 4) rfl) yi_mn)))) ?_
            exact ih4 _ (by omega) (i + 1) (tp + 1) I20 (by omega) (by omega) (by omega) (by omega) (by rw [show (e - (i + 1)).toNat = kk by omega, show tp + 1 = mm by omega]; exact hrest) (fun p k hp => by rw [← w21, yi_u_ne _ _ (fun z => by omega), fm p k (by omega)]) rfl
        · refine yi_G_if2 true rfl (yi_ne_t h13) ?_
          refine yi_G_run 2 (75, [(4, .inl (I 89 (i.toNat))), (3, .inl i), (2, .inl tp), (0, .inr (.inr (some 82))), (1, .inl fr)], [.inl 11, .inl (I 89 (i.toNat))], (I1, L, X), 0, 0) (fun _ => rfl) ?_
          by_cases h22 : (I 89 (i.toNat)) = 11
          · refine yi_G_if2 false rfl (yi_ne_f h22) ?_
            refine yi_G_run 1 (79, [(4, .inl (I 89 (i.toNat))), (3, .inl i), (2, .inl tp), (0, .inr (.inr (some 82))), (1, .inl fr)], [.inr (.inr (some 82))], (I1, L, X), 0, 0) (fun _ => rfl) ?_
            refine yi_G_get (82, [(4, .inl (I 89 (i.toNat))), (3, .inl i), (2, .inl tp), (0, .inr (.inr (some 82))), (1, .inl fr)], [.inr (.inr (some 96))], (I1, L, X), 0, 0) rfl (ym_gr hS 13 rfl rfl rfl) ?_
            refine yi_G_run 3 (85, [(4, .inl (I 89 (i.toNat))), (3, .inl i), (2, .inl tp), (0, .inr (.inr (some 82))), (1, .inl fr)], [.inr (.inr (some 82)), .inr (.inr (some 82)), .inl tp, .inr (.inr (some 96))], (I1, L, X), 0, 0) (fun _ => rfl) ?_
            refine yi_G_get (88, [(4, .inl (I 89 (i.toNat))), (3, .inl i), (2, .inl tp), (0, .inr (.inr (some 82))), (1, .inl fr)], [.inr (.inr (some 90)), .inr (.inr (some 82)), .inl tp, .inr (.inr (some 96))], (I1, L, X), 0, 0) rfl (ym_gr hS 7 rfl rfl rfl) ?_
            refine yi_G_run 1 (89, [(4, .inl (I 89 (i.toNat))), (3, .inl i), (2, .inl tp), (0, .inr (.inr (some 82))), (1, .inl fr)], [.inl i, .inr (.inr (some 90)), .inr (.inr (some 82)), .inl tp, .inr (.inr (some 96))], (I1, L, X), 0, 0) (fun _ => rfl) ?_
            have r23 : I1 90 (i.toNat) = I 90 (i.toNat) := by rw [fm 90 (i.toNat) (by omega)]
            refine yi_G_iald (90, [(4, .inl (I 89 (i.toNat))), (3, .inl i), (2, .inl tp), (0, .inr (.inr (some 82))), (1, .inl fr)], [.inl (I 90 (i.toNat)), .inr (.inr (some 82)), .inl tp, .inr (.inr (some 96))], (I1, L, X), 0, 0) rfl (ym_li hS 7 rfl (by omega) (by omega) r23) ?_
            refine yi_G_callv rfl rfl (ym_rcv hS) rfl (c_holdsClause d (by omega) hS (ym_LR_t (fun k => by rw [fm 88 k (by omega)]) hLR) (s2 (by omega))) ?_
            rintro _ (rfl | rfl)
            · show yi_G zi_Ms d zi_m135 (93, [(4, .inl (I 89 (i.toNat))), (3, .inl i), (2, .inl tp), (0, .inr (.inr (some 82))), (1, .inl fr)], [.inl 1, .inl tp, .inr (.inr (some 96))], (I1, L, X), 0, 0) _
              refine yi_G_if1 false rfl (by decide) ?_
              refine yi_G_run 2 (101, [(4, .inl (I 89 (i.toNat))), (3, .inl i), (2, .inl tp), (0, .inr (.inr (some 82))), (1, .inl fr)], [.inl 1, .inl tp, .inr (.inr (some 96))], (I1, L, X), 0, 0) (fun _ => rfl) ?_
              refine yi_G_iast (102, [(4, .inl (I 89 (i.toNat))), (3, .inl i), (2, .inl tp), (0, .inr (.inr (some 82))), (1, .inl fr)], [], ((yi_u I1 96 (tp.toNat) 1), L, X), 0, 0) rfl (ym_si hS 13 rfl (by omega) (by omega)) ?_
              generalize w25 : yi_u I1 96 (tp.toNat) 1 = I24
              refine yi_G_iinc [(2, .inl (tp + 1)), (4, .inl (I 89 (i.toNat))), (3, .inl i), (0, .inr (.inr (some 82))), (1, .inl fr)] rfl rfl rfl (by rw [show yi_w (tp + 1) = tp + 1 from (yi_wn (by omega) (by omega)).trans (by omega)]; rfl) ?_
              refine yi_G_run 1 (171, [(2, .inl (tp + 1)), (4, .inl (I 89 (i.toNat))), (3, .inl i), (0, .inr (.inr (some 82))), (1, .inl fr)], [], (I24, L, X), 0, 0) (fun _ => rfl) ?_
              refine yi_G_iinc [(3, .inl (i + 1)), (2, .inl (tp + 1)), (4, .inl (I 89 (i.toNat))), (0, .inr (.inr (some 82))), (1, .inl fr)] rfl rfl rfl (by rw [show yi_w (i + 1) = i + 1 from (yi_wn (by omega) (by omega)).trans (by omega)]; rfl) ?_
              refine yi_G_run 1 (4, [(3, .inl (i + 1)), (2, .inl (tp + 1)), (4, .inl (I 89 (i.toNat))), (0, .inr (.inr (some 82))), (1, .inl fr)], [], (I24, L, X), 0, 0) (fun _ => rfl) ?_
              refine yi_G_al (al := [(3, .inl (i + 1)), (2, .inl (tp + 1)), (0, .inr (.inr (some 82))), (1, .inl fr)]) (show ([3, 2, 0, 1] : List Nat).Nodup by decide) (show ([3, 2, 4, 0, 1] : List Nat).Nodup by decide) (yi_mc (List.mem_of_getElem? (i := 0) rfl) (yi_mc (List.mem_of_getElem? (i := 1) rfl) (yi_mc (List.mem_of_getElem? (i := 3) rfl) (yi_mc (List.mem_of_getElem? (i := 4) rfl) yi_mn)))) ?_
              exact ih4 _ (by omega) (i + 1) (tp + 1) I24 (by omega) (by omega) (by omega) (by omega) (by rw [show (e - (i + 1)).toNat = kk by omega, show tp + 1 = mm by omega]; exact hrest) (fun p k hp => by rw [← w25, yi_u_ne _ _ (fun z => by omega), fm p k (by omega)]) rfl
            · show yi_G zi_Ms d zi_m135 (93, [(4, .inl (I 89 (i.toNat))), (3, .inl i), (2, .inl tp), (0, .inr (.inr (some 82))), (1, .inl fr)], [.inl 0, .inl tp, .inr (.inr (some 96))], (I1, L, X), 0, 0) _
              refine yi_G_if1 true rfl (by decide) ?_
              refine yi_G_run 1 (101, [(4, .inl (I 89 (i.toNat))), (3, .inl i), (2, .inl tp), (0, .inr (.inr (some 82))), (1, .inl fr)], [.inl 0, .inl tp, .inr (.inr (some 96))], (I1, L, X), 0, 0) (fun _ => rfl) ?_
              refine yi_G_iast (102, [(4, .inl (I 89 (i.toNat))), (3, .inl i), (2, .inl tp), (0, .inr (.inr (some 82))), (1, .inl fr)], [], ((yi_u I1 96 (tp.toNat) 0), L, X), 0, 0) rfl (ym_si hS 13 rfl (by omega) (by omega)) ?_
              generalize w27 : yi_u I1 96 (tp.toNat) 0 = I26
              refine yi_G_iinc [(2, .inl (tp + 1)), (4, .inl (I 89 (i.toNat))), (3, .inl i), (0, .inr (.inr (some 82))), (1, .inl fr)] rfl rfl rfl (by rw [show yi_w (tp + 1) = tp + 1 from (yi_wn (by omega) (by omega)).trans (by omega)]; rfl) ?_
              refine yi_G_run 1 (171, [(2, .inl (tp + 1)), (4, .inl (I 89 (i.toNat))), (3, .inl i), (0, .inr (.inr (some 82))), (1, .inl fr)], [], (I26, L, X), 0, 0) (fun _ => rfl) ?_
              refine yi_G_iinc [(3, .inl (i + 1)), (2, .inl (tp + 1)), (4, .inl (I 89 (i.toNat))), (0, .inr (.inr (some 82))), (1, .inl fr)] rfl rfl rfl (by rw [show yi_w (i + 1) = i + 1 from (yi_wn (by omega) (by omega)).trans (by omega)]; rfl) ?_
              refine yi_G_run 1 (4, [(3, .inl (i + 1)), (2, .inl (tp + 1)), (4, .inl (I 89 (i.toNat))), (0, .inr (.inr (some 82))), (1, .inl fr)], [], (I26, L, X), 0, 0) (fun _ => rfl) ?_
              refine yi_G_al (al := [(3, .inl (i + 1)), (2, .inl (tp + 1)), (0, .inr (.inr (some 82))), (1, .inl fr)]) (show ([3, 2, 0, 1] : List Nat).Nodup by decide) (show ([3, 2, 4, 0, 1] : List Nat).Nodup by decide) (yi_mc (List.mem_of_getElem? (i := 0) rfl) (yi_mc (List.mem_of_getElem? (i := 1) rfl) (yi_mc (List.mem_of_getElem? (i := 3) rfl) (yi_mc (List.mem_of_getElem? (i := 4) rfl) yi_mn)))) ?_
              exact ih4 _ (by omega) (i + 1) (tp + 1) I26 (by omega) (by omega) (by omega) (by omega) (by rw [show (e - (i + 1)).toNat = kk by omega, show tp + 1 = mm by omega]; exact hrest) (fun p k hp => by rw [← w27, yi_u_ne _ _ (fun z => by omega), fm p k (by omega)]) rfl
          · refine yi_G_if2 true rfl (yi_ne_t h22) ?_
            refine yi_G_run 2 (111, [(4, .inl (I 89 (i.toNat))), (3, .inl i), (2, .inl tp), (0, .inr (.inr (some 82))), (1, .inl fr)], [.inl 3, .inl (I 89 (i.toNat))], (I1, L, X), 0, 0) (fun _ => rfl) ?_
            by_cases h28 : (I 89 (i.toNat)) = 3
            · refine yi_G_if2 false rfl (yi_ne_f h28) ?_
              refine yi_G_run 1 (115, [(4, .inl (I 89 (i.toNat))), (3, .inl i), (2, .inl tp), (0, .inr (.inr (some 82))), (1, .inl fr)], [.inr (.inr (some 82))], (I1, L, X), 0, 0) (fun _ => rfl) ?_
              refine yi_G_get (118, [(4, .inl (I 89 (i.toNat))), (3, .inl i), (2, .inl tp), (0, .inr (.inr (some 82))), (1, .inl fr)], [.inr (.inr (some 96))], (I1, L, X), 0, 0) rfl (ym_gr hS 13 rfl rfl rfl) ?_
              refine yi_G_run 2 (120, [(4, .inl (I 89 (i.toNat))), (3, .inl i), (2, .inl tp), (0, .inr (.inr (some 82))), (1, .inl fr)], [.inl 1, .inl tp, .inr (.inr (some 96))], (I1, L, X), 0, 0) (fun _ => rfl) ?_
              refine yi_G_isub rfl (tp - 1) (yi_wn (by omega) (by omega)) ?_
              refine yi_G_run 1 (122, [(4, .inl (I 89 (i.toNat))), (3, .inl i), (2, .inl tp), (0, .inr (.inr (some 82))), (1, .inl fr)], [.inr (.inr (some 82)), .inl (tp - 1), .inr (.inr (some 96))], (I1, L, X), 0, 0) (fun _ => rfl) ?_
              refine yi_G_get (125, [(4, .inl (I 89 (i.toNat))), (3, .inl i), (2, .inl tp), (0, .inr (.inr (some 82))), (1, .inl fr)], [.inr (.inr (some 96)), .inl (tp - 1), .inr (.inr (some 96))], (I1, L, X), 0, 0) rfl (ym_gr hS 13 rfl rfl rfl) ?_
              refine yi_G_run 2 (127, [(4, .inl (I 89 (i.toNat))), (3, .inl i), (2, .inl tp), (0, .inr (.inr (some 82))), (1, .inl fr)], [.inl 1, .inl tp, .inr (.inr (some 96)), .inl (tp - 1), .inr (.inr (some 96))], (I1, L, X), 0, 0) (fun _ => rfl) ?_
              refine yi_G_isub rfl (tp - 1) (yi_wn (by omega) (by omega)) ?_
              refine yi_G_iald (129, [(4, .inl (I 89 (i.toNat))), (3, .inl i), (2, .inl tp), (0, .inr (.inr (some 82))), (1, .inl fr)], [.inl (I1 96 ((tp - 1).toNat)), .inl (tp - 1), .inr (.inr (some 96))], (I1, L, X), 0, 0) rfl (ym_li hS 13 rfl (by omega) (by omega) rfl) ?_
              by_cases h29 : (I1 96 ((tp - 1).toNat)) = 0
              · refine yi_G_if1 false rfl (yi_ne_f h29) ?_
                refine yi_G_run 2 (137, [(4, .inl (I 89 (i.toNat))), (3, .inl i), (2, .inl tp), (0, .inr (.inr (some 82))), (1, .inl fr)], [.inl 1, .inl (tp - 1), .inr (.inr (some 96))], (I1, L, X), 0, 0) (fun _ => rfl) ?_
                refine yi_G_iast (138, [(4, .inl (I 89 (i.toNat))), (3, .inl i), (2, .inl tp), (0, .inr (.inr (some 82))), (1, .inl fr)], [], ((yi_u I1 96 ((tp - 1).toNat) 1), L, X), 0, 0) rfl (ym_si hS 13 rfl (by omega) (by omega)) ?_
                generalize w31 : yi_u I1 96 ((tp - 1).toNat) 1 = I30
                refine yi_G_run 1 (171, [(4, .inl (I 89 (i.toNat))), (3, .inl i), (2, .inl tp), (0, .inr (.inr (some 82))), (1, .inl fr)], [], (I30, L, X), 0, 0) (fun _ => rfl) ?_
                refine yi_G_iinc [(3, .inl (i + 1)), (4, .inl (I 89 (i.toNat))), (2, .inl tp), (0, .inr (.inr (some 82))), (1, .inl fr)] rfl rfl rfl (by rw [show yi_w (i + 1) = i + 1 from (yi_wn (by omega) (by omega)).trans (by omega)]; rfl) ?_
                refine yi_G_run 1 (4, [(3, .inl (i + 1)), (4, .inl (I 89 (i.toNat))), (2, .inl tp), (0, .inr (.inr (some 82))), (1, .inl fr)], [], (I30, L, X), 0, 0) (fun _ => rfl) ?_
                refine yi_G_al (al := [(3, .inl (i + 1)), (2, .inl tp), (0, .inr (.inr (some 82))), (1, .inl fr)]) (show ([3, 2, 0, 1] : List Nat).Nodup by decide) (show ([3, 4, 2, 0, 1] : List Nat).Nodup by decide) (yi_mc (List.mem_of_getElem? (i := 0) rfl) (yi_mc (List.mem_of_getElem? (i := 2) rfl) (yi_mc (List.mem_of_getElem? (i := 3) rfl) (yi_mc (List.mem_of_getElem? (i := 4) rfl) yi_mn)))) ?_
                exact ih4 _ (by omega) (i + 1) tp I30 (by omega) (by omega) (by omega) (by omega) (by rw [show (e - (i + 1)).toNat = kk by omega, show tp = mm by omega]; exact hrest) (fun p k hp => by rw [← w31, yi_u_ne _ _ (fun z => by omega), fm p k (by omega)]) rfl
              · refine yi_G_if1 true rfl (yi_ne_t h29) ?_
                refine yi_G_run 1 (137, [(4, .inl (I 89 (i.toNat))), (3, .inl i), (2, .inl tp), (0, .inr (.inr (some 82))), (1, .inl fr)], [.inl 0, .inl (tp - 1), .inr (.inr (some 96))], (I1, L, X), 0, 0) (fun _ => rfl) ?_
                refine yi_G_iast (138, [(4, .inl (I 89 (i.toNat))), (3, .inl i), (2, .inl tp), (0, .inr (.inr (some 82))), (1, .inl fr)], [], ((yi_u I1 96 ((tp - 1).toNat) 0), L, X), 0, 0) rfl (ym_si hS 13 rfl (by omega) (by omega)) ?_
                generalize w33 : yi_u I1 96 ((tp - 1).toNat) 0 = I32
                refine yi_G_run 1 (171, [(4, .inl (I 89 (i.toNat))), (3, .inl i), (2, .inl tp), (0, .inr (.inr (some 82))), (1, .inl fr)], [], (I32, L, X), 0, 0) (fun _ => rfl) ?_
                refine yi_G_iinc [(3, .inl (i + 1)), (4, .inl (I 89 (i.toNat))), (2, .inl tp), (0, .inr (.inr (some 82))), (1, .inl fr)] rfl rfl rfl (by rw [show yi_w (i + 1) = i + 1 from (yi_wn (by omega) (by omega)).trans (by omega)]; rfl) ?_
                refine yi_G_run 1 (4, [(3, .inl (i + 1)), (4, .inl (I 89 (i.toNat))), (2, .inl tp), (0, .inr (.inr (some 82))), (1, .inl fr)], [], (I32, L, X), 0, 0) (fun _ => rfl) ?_
                refine yi_G_al (al := [(3, .inl (i + 1)), (2, .inl tp), (0, .inr (.inr (some 82))), (1, .inl fr)]) (show ([3, 2, 0, 1] : List Nat).Nodup by decide) (show ([3, 4, 2, 0, 1] : List Nat).Nodup by decide) (yi_mc (List.mem_of_getElem? (i := 0) rfl) (yi_mc (List.mem_of_getElem? (i := 2) rfl) (yi_mc (List.mem_of_getElem? (i := 3) rfl) (yi_mc (List.mem_of_getElem? (i := 4) rfl) yi_mn)))) ?_
                exact ih4 _ (by omega) (i + 1) tp I32 (by omega) (by omega) (by omega) (by omega) (by rw [show (e - (i + 1)).toNat = kk by omega, show tp = mm by omega]; exact hrest) (fun p k hp => by rw [← w33, yi_u_ne _ _ (fun z => by omega), fm p k (by omega)]) rfl
            · refine yi_G_if2 true rfl (yi_ne_t h28) ?_
              refine yi_G_iinc [(2, .inl (tp - 1)), (4, .inl (I 89 (i.toNat))), (3, .inl i), (0, .inr (.inr (some 82))), (1, .inl fr)] rfl rfl rfl (by rw [show yi_w (tp + (-1)) = tp - 1 from (yi_wn (by omega) (by omega)).trans (by omega)]; rfl) ?_
              refine yi_G_run 1 (145, [(2, .inl (tp - 1)), (4, .inl (I 89 (i.toNat))), (3, .inl i), (0, .inr (.inr (some 82))), (1, .inl fr)], [.inr (.inr (some 82))], (I1, L, X), 0, 0) (fun _ => rfl) ?_
              refine yi_G_get (148, [(2, .inl (tp - 1)), (4, .inl (I 89 (i.toNat))), (3, .inl i), (0, .inr (.inr (some 82))), (1, .inl fr)], [.inr (.inr (some 96))], (I1, L, X), 0, 0) rfl (ym_gr hS 13 rfl rfl rfl) ?_
              refine yi_G_run 2 (150, [(2, .inl (tp - 1)), (4, .inl (I 89 (i.toNat))), (3, .inl i), (0, .inr (.inr (some 82))), (1, .inl fr)], [.inl 1, .inl (tp - 1), .inr (.inr (some 96))], (I1, L, X), 0, 0) (fun _ => rfl) ?_
              refine yi_G_isub rfl ((tp - 1) - 1) (yi_wn (by omega) (by omega)) ?_
              refine yi_G_run 2 (154, [(2, .inl (tp - 1)), (4, .inl (I 89 (i.toNat))), (3, .inl i), (0, .inr (.inr (some 82))), (1, .inl fr)], [.inr (.inr (some 82)), .inl (I 89 (i.toNat)), .inl ((tp - 1) - 1), .inr (.inr (some 96))], (I1, L, X), 0, 0) (fun _ => rfl) ?_
              refine yi_G_get (157, [(2, .inl (tp - 1)), (4, .inl (I 89 (i.toNat))), (3, .inl i), (0, .inr (.inr (some 82))), (1, .inl fr)], [.inr (.inr (some 96)), .inl (I 89 (i.toNat)), .inl ((tp - 1) - 1), .inr (.inr (some 96))], (I1, L, X), 0, 0) rfl (ym_gr hS 13 rfl rfl rfl) ?_
              refine yi_G_run 2 (159, [(2, .inl (tp - 1)), (4, .inl (I 89 (i.toNat))), (3, .inl i), (0, .inr (.inr (some 82))), (1, .inl fr)], [.inl 1, .inl (tp - 1), .inr (.inr (some 96)), .inl (I 89 (i.toNat)), .inl ((tp - 1) - 1), .inr (.inr (some 96))], (I1, L, X), 0, 0) (fun _ => rfl) ?_
              refine yi_G_isub rfl ((tp - 1) - 1) (yi_wn (by omega) (by omega)) ?_
              refine yi_G_iald (161, [(2, .inl (tp - 1)), (4, .inl (I 89 (i.toNat))), (3, .inl i), (0, .inr (.inr (some 82))), (1, .inl fr)], [.inl (I1 96 (((tp - 1) - 1).toNat)), .inl (I 89 (i.toNat)), .inl ((tp - 1) - 1), .inr (.inr (some 96))], (I1, L, X), 0, 0) rfl (ym_li hS 13 rfl (by omega) (by omega) rfl) ?_
              refine yi_G_run 1 (162, [(2, .inl (tp - 1)), (4, .inl (I 89 (i.toNat))), (3, .inl i), (0, .inr (.inr (some 82))), (1, .inl fr)], [.inr (.inr (some 82)), .inl (I1 96 (((tp - 1) - 1).toNat)), .inl (I 89 (i.toNat)), .inl ((tp - 1) - 1), .inr (.inr (some 96))], (I1, L, X), 0, 0) (fun _ => rfl) ?_
              refine yi_G_get (165, [(2, .inl (tp - 1)), (4, .inl (I 89 (i.toNat))), (3, .inl i), (0, .inr (.inr (some 82))), (1, .inl fr)], [.inr (.inr (some 96)), .inl (I1 96 (((tp - 1) - 1).toNat)), .inl (I 89 (i.toNat)), .inl ((tp - 1) - 1), .inr (.inr (some 96))], (I1, L, X), 0, 0) rfl (ym_gr hS 13 rfl rfl rfl) ?_
              refine yi_G_run 1 (166, [(2, .inl (tp - 1)), (4, .inl (I 89 (i.toNat))), (3, .inl i), (0, .inr (.inr (some 82))), (1, .inl fr)], [.inl (tp - 1), .inr (.inr (some 96)), .inl (I1 96 (((tp - 1) - 1).toNat)), .inl (I 89 (i.toNat)), .inl ((tp - 1) - 1), .inr (.inr (some 96))], (I1, L, X), 0, 0) (fun _ => rfl) ?_
              refine yi_G_iald (167, [(2, .inl (tp - 1)), (4, .inl (I 89 (i.toNat))), (3, .inl i), (0, .inr (.inr (some 82))), (1, .inl fr)], [.inl (I1 96 ((tp - 1).toNat)), .inl (I1 96 (((tp - 1) - 1).toNat)), .inl (I 89 (i.toNat)), .inl ((tp - 1) - 1), .inr (.inr (some 96))], (I1, L, X), 0, 0) rfl (ym_li hS 13 rfl (by omega) (by omega) rfl) ?_
              refine yi_G_calls rfl rfl (c_both d (by omega) hS) ?_
              rintro _ ⟨z34, rfl⟩
              show yi_G zi_Ms d zi_m135 (170, [(2, .inl (tp - 1)), (4, .inl (I 89 (i.toNat))), (3, .inl i), (0, .inr (.inr (some 82))), (1, .inl fr)], [.inl z34, .inl ((tp - 1) - 1), .inr (.inr (some 96))], (I1, L, X), 0, 0) _
              refine yi_G_iast (171, [(2, .inl (tp - 1)), (4, .inl (I 89 (i.toNat))), (3, .inl i), (0, .inr (.inr (some 82))), (1, .inl fr)], [], ((yi_u I1 96 (((tp - 1) - 1).toNat) z34), L, X), 0, 0) rfl (ym_si hS 13 rfl (by omega) (by omega)) ?_
              generalize w36 : yi_u I1 96 (((tp - 1) - 1).toNat) z34 = I35
              refine yi_G_iinc [(3, .inl (i + 1)), (2, .inl (tp - 1)), (4, .inl (I 89 (i.toNat))), (0, .inr (.inr (some 82))), (1, .inl fr)] rfl rfl rfl (by rw [show yi_w (i + 1) = i + 1 from (yi_wn (by omega) (by omega)).trans (by omega)]; rfl) ?_
              refine yi_G_run 1 (4, [(3, .inl (i + 1)), (2, .inl (tp - 1)), (4, .inl (I 89 (i.toNat))), (0, .inr (.inr (some 82))), (1, .inl fr)], [], (I35, L, X), 0, 0) (fun _ => rfl) ?_
              refine yi_G_al (al := [(3, .inl (i + 1)), (2, .inl (tp - 1)), (0, .inr (.inr (some 82))), (1, .inl fr)]) (show ([3, 2, 0, 1] : List Nat).Nodup by decide) (show ([3, 2, 4, 0, 1] : List Nat).Nodup by decide) (yi_mc (List.mem_of_getElem? (i := 0) rfl) (yi_mc (List.mem_of_getElem? (i := 1) rfl) (yi_mc (List.mem_of_getElem? (i := 3) rfl) (yi_mc (List.mem_of_getElem? (i := 4) rfl) yi_mn)))) ?_
              exact ih4 _ (by omega) (i + 1) (tp - 1) I35 (by omega) (by omega) (by omega) (by omega) (by rw [show (e - (i + 1)).toNat = kk by omega, show tp - 1 = mm by omega]; exact hrest) (fun p k hp => by rw [← w36, yi_u_ne _ _ (fun z => by omega), fm p k (by omega)]) rfl
  show yi_G zi_Ms d zi_m135 (0, [(0, .inr (.inr (some 82))), (1, .inl fr)], [], (I, L, X), 0, 0) _
  refine yi_G_run 4 (4, [(3, .inl fr), (2, .inl 0), (0, .inr (.inr (some 82))), (1, .inl fr)], [], (I, L, X), 0, 0) (fun _ => rfl) ?_
  exact pt4 _  fr 0 I (by omega) (by omega) (by omega) (by omega) q1 (fun _ _ _ => rfl) rfl
theorem c_isNaming (D : Nat) (hD : 1 ≤ D) {I L : Nat → Nat → Int} {X : ym_X} (hS : ym_S X) {fr e : Int} (hLR : ym_LR I) (hP : ym_PG I fr e) : yi_E zi_Ms D 56 [.inr (.inr (some 82)), .inl fr] (I, L, X) (fun r => r = (some (.inl 1), (I, L, X), 0, 0) ∨ r = (some (.inl 0), (I, L, X), 0, 0)) := by
  obtain ⟨d, rfl⟩ : ∃ d, D = d + 1 := ⟨D - 1, by omega⟩
  refine yi_E_of (M := zi_m56) rfl rfl ?_
  obtain ⟨l0, l1, l2, l3, l4, l5⟩ := id hLR
  obtain ⟨q1, q2, q3, q4, q5, q6⟩ := id hP
  have pt4 : ∀ (m : Nat) (i : Int) (b : Int), (fr ≤ i) → (i ≤ e) → (b = 0 ∨ b = 1) → (∃ h, ym_sg I (e - i).toNat i h 1) → (e - i).toNat = m → yi_G zi_Ms d zi_m56 (4, [(3, .inl i), (2, .inl b), (0, .inr (.inr (some 82))), (1, .inl fr)], [], (I, L, X), 0, 0) (fun r => r = (some (.inl 1), (I, L, X), 0, 0) ∨ r = (some (.inl 0), (I, L, X), 0, 0)) := by
    intro m4
    induction m4 using Nat.strongRecOn with
    | _ m4 ih4 =>
    intro i b i0 i1 b0 hseg hm4
    refine yi_G_run 1 (5, [(3, .inl i), (2, .inl b), (0, .inr (.inr (some 82))), (1, .inl fr)], [.inr (.inr (some 82))], (I, L, X), 0, 0) (fun _ => rfl) ?_
    refine yi_G_get (8, [(3, .inl i), (2, .inl b), (0, .inr (.inr (some 82))), (1, .inl fr)], [.inr (.inr (some 89))], (I, L, X), 0, 0) rfl (ym_gr hS 6 rfl rfl rfl) ?_
    refine yi_G_run 1 (9, [(3, .inl i), (2, .inl b), (0, .inr (.inr (some 82))), (1, .inl fr)], [.inl i, .inr (.inr (some 89))], (I, L, X), 0, 0) (fun _ => rfl) ?_
    refine yi_G_iald (10, [(3, .inl i), (2, .inl b), (0, .inr (.inr (some 82))), (1, .inl fr)], [.inl (I 89 (i.toNat))], (I, L, X), 0, 0) rfl (ym_li hS 6 rfl (by omega) (by omega) rfl) ?_
    by_cases h1 : (I 89 (i.toNat)) = 0
    · refine yi_G_if1 true rfl (yi_eq_t h1) ?_
      refine yi_G_run 1 (72, [(3, .inl i), (2, .inl b), (0, .inr (.inr (some 82))), (1, .inl fr)], [.inl b], (I, L, X), 0, 0) (fun _ => rfl) ?_
      exact yi_G_retb rfl rfl (by omega) (yi_b2 (by omega))
    · refine yi_G_if1 false rfl (yi_eq_f h1) ?_
      refine yi_G_run 1 (14, [(3, .inl i), (2, .inl b), (0, .inr (.inr (some 82))), (1, .inl fr)], [.inl b], (I, L, X), 0, 0) (fun _ => rfl) ?_
      obtain ⟨hh, hseg⟩ := hseg
      have hne : ¬ i = e := by intro z; subst z; contradiction
      obtain ⟨kk, hkk⟩ : ∃ kk, (e - i).toNat = kk + 1 := ⟨(e - i).toNat - 1, by omega⟩
      rw [hkk] at hseg
      obtain ⟨mm, ⟨s0, s1, s2, s3, s4, s5⟩, hrest⟩ := hseg
      by_cases h2 : b = 0
      · refine yi_G_if1 false rfl (yi_ne_f h2) ?_
        refine yi_G_run 1 (18, [(3, .inl i), (2, .inl b), (0, .inr (.inr (some 82))), (1, .inl fr)], [.inr (.inr (some 82))], (I, L, X), 0, 0) (fun _ => rfl) ?_
        refine yi_G_get (21, [(3, .inl i), (2, .inl b), (0, .inr (.inr (some 82))), (1, .inl fr)], [.inr (.inr (some 89))], (I, L, X), 0, 0) rfl (ym_gr hS 6 rfl rfl rfl) ?_
        refine yi_G_run 1 (22, [(3, .inl i), (2, .inl b), (0, .inr (.inr (some 82))), (1, .inl fr)], [.inl i, .inr (.inr (some 89))], (I, L, X), 0, 0) (fun _ => rfl) ?_
        refine yi_G_iald (23, [(3, .inl i), (2, .inl b), (0, .inr (.inr (some 82))), (1, .inl fr)], [.inl (I 89 (i.toNat))], (I, L, X), 0, 0) rfl (ym_li hS 6 rfl (by omega) (by omega) rfl) ?_
        refine yi_G_run 1 (25, [(3, .inl i), (2, .inl b), (0, .inr (.inr (some 82))), (1, .inl fr)], [.inl 11, .inl (I 89 (i.toNat))], (I, L, X), 0, 0) (fun _ => rfl) ?_
        by_cases h3 : (I 89 (i.toNat)) = 11
        · refine yi_G_if2 false rfl (yi_ne_f h3) ?_
          refine yi_G_run 1 (29, [(3, .inl i), (2, .inl b), (0, .inr (.inr (some 82))), (1, .inl fr)], [.inr (.inr (some 82))], (I, L, X), 0, 0) (fun _ => rfl) ?_
          refine yi_G_get (32, [(3, .inl i), (2, .inl b), (0, .inr (.inr (some 82))), (1, .inl fr)], [.inr (.inr (some 90))], (I, L, X), 0, 0) rfl (ym_gr hS 7 rfl rfl rfl) ?_
          refine yi_G_run 1 (33, [(3, .inl i), (2, .inl b), (0, .inr (.inr (some 82))), (1, .inl fr)], [.inl i, .inr (.inr (some 90))], (I, L, X), 0, 0) (fun _ => rfl) ?_
          refine yi_G_iald (34, [(3, .inl i), (2, .inl b), (0, .inr (.inr (some 82))), (1, .inl fr)], [.inl (I 90 (i.toNat))], (I, L, X), 0, 0) rfl (ym_li hS 7 rfl (by omega) (by omega) rfl) ?_
          refine yi_G_run 1 (37, [(3, .inl i), (2, .inl b), (0, .inr (.inr (some 82))), (1, .inl fr)], [.inl 512, .inl (I 90 (i.toNat))], (I, L, X), 0, 0) (fun _ => rfl) ?_
          have cv := s2 (by omega)
          obtain ⟨v0, v1, v2, v3⟩ := cv
          refine yi_G_idiv rfl (by decide) ((I 90 (i.toNat)) / 512) (yi_dv (by omega) rfl (by omega) (by omega)) ?_
          refine yi_G_run 1 (39, [(3, .inl i), (2, .inl b), (0, .inr (.inr (some 82))), (1, .inl fr)], [.inl 4, .inl ((I 90 (i.toNat)) / 512)], (I, L, X), 0, 0) (fun _ => rfl) ?_
          by_cases h4 : ((I 90 (i.toNat)) / 512) < 4
          · refine yi_G_if2 true rfl (yi_lt_t h4) ?_
            refine yi_G_run 3 (65, [(2, .inl 1), (3, .inl i), (0, .inr (.inr (some 82))), (1, .inl fr)], [], (I, L, X), 0, 0) (fun _ => rfl) ?_
            refine yi_G_iinc [(3, .inl (i + 1)), (2, .inl 1), (0, .inr (.inr (some 82))), (1, .inl fr)] rfl rfl rfl (by rw [show yi_w (i + 1) = i + 1 from (yi_wn (by omega) (by omega)).trans (by omega)]; rfl) ?_
            refine yi_G_run 1 (4, [(3, .inl (i + 1)), (2, .inl 1), (0, .inr (.inr (some 82))), (1, .inl fr)], [], (I, L, X), 0, 0) (fun _ => rfl) ?_
            exact ih4 _ (by omega) (i + 1) 1 (by omega) (by omega) (by omega) ⟨mm, by rw [show (e - (i + 1)).toNat = kk by omega]; exact hrest⟩ rfl
          · refine yi_G_if2 false rfl (yi_lt_f h4) ?_
            refine yi_G_run 1 (43, [(3, .inl i), (2, .inl b), (0, .inr (.inr (some 82))), (1, .inl fr)], [.inr (.inr (some 82))], (I, L, X), 0, 0) (fun _ => rfl) ?_
            refine yi_G_get (46, [(3, .inl i), (2, .inl b), (0, .inr (.inr (some 82))), (1, .inl fr)], [.inr (.inr (some 90))], (I, L, X), 0, 0) rfl (ym_gr hS 7 rfl rfl rfl) ?_
            refine yi_G_run 1 (47, [(3, .inl i), (2, .inl b), (0, .inr (.inr (some 82))), (1, .inl fr)], [.inl i, .inr (.inr (some 90))], (I, L, X), 0, 0) (fun _ => rfl) ?_
            refine yi_G_iald (48, [(3, .inl i), (2, .inl b), (0, .inr (.inr (some 82))), (1, .inl fr)], [.inl (I 90 (i.toNat))], (I, L, X), 0, 0) rfl (ym_li hS 7 rfl (by omega) (by omega) rfl) ?_
            refine yi_G_run 1 (50, [(3, .inl i), (2, .inl b), (0, .inr (.inr (some 82))), (1, .inl fr)], [.inl 8, .inl (I 90 (i.toNat))], (I, L, X), 0, 0) (fun _ => rfl) ?_
            refine yi_G_idiv rfl (by decide) ((I 90 (i.toNat)) / 8) (yi_dv (by omega) rfl (by omega) (by omega)) ?_
            refine yi_G_run 1 (53, [(3, .inl i), (2, .inl b), (0, .inr (.inr (some 82))), (1, .inl fr)], [.inl 16, .inl ((I 90 (i.toNat)) / 8)], (I, L, X), 0, 0) (fun _ => rfl) ?_
            refine yi_G_irem rfl (by decide) (((I 90 (i.toNat)) / 8) % 16) (yi_md (by omega) rfl) ?_
            refine yi_G_run 1 (56, [(3, .inl i), (2, .inl b), (0, .inr (.inr (some 82))), (1, .inl fr)], [.inl 7, .inl (((I 90 (i.toNat)) / 8) % 16)], (I, L, X), 0, 0) (fun _ => rfl) ?_
            by_cases h5 : (((I 90 (i.toNat)) / 8) % 16) < 7
            · refine yi_G_if2 true rfl (yi_lt_t h5) ?_
              refine yi_G_run 2 (65, [(2, .inl 0), (3, .inl i), (0, .inr (.inr (some 82))), (1, .inl fr)], [], (I, L, X), 0, 0) (fun _ => rfl) ?_
              refine yi_G_iinc [(3, .inl (i + 1)), (2, .inl 0), (0, .inr (.inr (some 82))), (1, .inl fr)] rfl rfl rfl (by rw [show yi_w (i + 1) = i + 1 from (yi_wn (by omega) (by omega)).trans (by omega)]; rfl) ?_
              refine yi_G_run 1 (4, [(3, .inl (i + 1)), (2, .inl 0), (0, .inr (.inr (some 82))), (1, .inl fr)], [], (I, L, X), 0, 0) (fun _ => rfl) ?_
              exact ih4 _ (by omega) (i + 1) 0 (by omega) (by omega) (by omega) ⟨mm, by rw [show (e - (i + 1)).toNat = kk by omega]; exact hrest⟩ rfl
            · refine yi_G_if2 false rfl (yi_lt_f h5) ?_
              refine yi_G_run 3 (65, [(2, .inl 1), (3, .inl i), (0, .inr (.inr (some 82))), (1, .inl fr)], [], (I, L, X), 0, 0) (fun _ => rfl) ?_
              refine yi_G_iinc [(3, .inl (i + 1)), (2, .inl 1), (0, .inr (.inr (some 82))), (1, .inl fr)] rfl rfl rfl (by rw [show yi_w (i + 1) = i + 1 from (yi_wn (by omega) (by omega)).trans (by omega)]; rfl) ?_
              refine yi_G_run 1 (4, [(3, .inl (i + 1)), (2, .inl 1), (0, .inr (.inr (some 82))), (1, .inl fr)], [], (I, L, X), 0, 0) (fun _ => rfl) ?_
              exact ih4 _ (by omega) (i + 1) 1 (by omega) (by omega) (by omega) ⟨mm, by rw [show (e - (i + 1)).toNat = kk by omega]; exact hrest⟩ rfl
        · refine yi_G_if2 true rfl (yi_ne_t h3) ?_
          refine yi_G_run 2 (65, [(2, .inl 0), (3, .inl i), (0, .inr (.inr (some 82))), (1, .inl fr)], [], (I, L, X), 0, 0) (fun _ => rfl) ?_
          refine yi_G_iinc [(3, .inl (i + 1)), (2, .inl 0), (0, .inr (.inr (some 82))), (1, .inl fr)] rfl rfl rfl (by rw [show yi_w (i + 1) = i + 1 from (yi_wn (by omega) (by omega)).trans (by omega)]; rfl) ?_
          refine yi_G_run 1 (4, [(3, .inl (i + 1)), (2, .inl 0), (0, .inr (.inr (some 82))), (1, .inl fr)], [], (I, L, X), 0, 0) (fun _ => rfl) ?_
          exact ih4 _ (by omega) (i + 1) 0 (by omega) (by omega) (by omega) ⟨mm, by rw [show (e - (i + 1)).toNat = kk by omega]; exact hrest⟩ rfl
      · refine yi_G_if1 true rfl (yi_ne_t h2) ?_
        refine yi_G_run 3 (65, [(2, .inl 1), (3, .inl i), (0, .inr (.inr (some 82))), (1, .inl fr)], [], (I, L, X), 0, 0) (fun _ => rfl) ?_
        refine yi_G_iinc [(3, .inl (i + 1)), (2, .inl 1), (0, .inr (.inr (some 82))), (1, .inl fr)] rfl rfl rfl (by rw [show yi_w (i + 1) = i + 1 from (yi_wn (by omega) (by omega)).trans (by omega)]; rfl) ?_
        refine yi_G_run 1 (4, [(3, .inl (i + 1)), (2, .inl 1), (0, .inr (.inr (some 82))), (1, .inl fr)], [], (I, L, X), 0, 0) (fun _ => rfl) ?_
        exact ih4 _ (by omega) (i + 1) 1 (by omega) (by omega) (by omega) ⟨mm, by rw [show (e - (i + 1)).toNat = kk by omega]; exact hrest⟩ rfl
  show yi_G zi_Ms d zi_m56 (0, [(0, .inr (.inr (some 82))), (1, .inl fr)], [], (I, L, X), 0, 0) _
  refine yi_G_run 4 (4, [(3, .inl fr), (2, .inl 0), (0, .inr (.inr (some 82))), (1, .inl fr)], [], (I, L, X), 0, 0) (fun _ => rfl) ?_
  exact pt4 _  fr 0 (by omega) (by omega) (by omega) ⟨_, q1⟩ rfl
