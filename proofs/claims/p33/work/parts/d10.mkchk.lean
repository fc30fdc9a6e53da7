/-! The check: what land and mark make of isMarked. -/
def mq_Q (I I' : Nat → Nat → Int) (m bk z : Int) : Prop := (((0 ≤ m ∧ m < 4) ∧ (bk = 0 ∨ ¬ I 101 m.toNat = 0)) ∧ z = 1 ∨ ¬ ((0 ≤ m ∧ m < 4) ∧ (bk = 0 ∨ ¬ I 101 m.toNat = 0)) ∧ z = 0) ∧ ∀ k : Nat, k < 4 → (I' 101 k = 0 ↔ I 101 k = 0 ∧ ¬ (z = 1 ∧ (k : Int) = m))
theorem mq_0 {I I' : Nat → Nat → Int} {m bk : Int} (h : ¬ ((0 ≤ m ∧ m < 4) ∧ (bk = 0 ∨ ¬ I 101 m.toNat = 0))) (hs : ∀ k, I' 101 k = I 101 k) : mq_Q I I' m bk 0 := ⟨Or.inr ⟨h, rfl⟩, fun k _ => by rw [hs k]; exact ⟨fun e => ⟨e, fun z => absurd z.1 (by decide)⟩, fun e => e.1⟩⟩
theorem mq_1 {I I' : Nat → Nat → Int} {m bk : Int} (hm : 0 ≤ m ∧ m < 4) (hb : bk = 0 ∨ ¬ I 101 m.toNat = 0) (hs : ∀ k, ¬ k = m.toNat → I' 101 k = I 101 k) (h1 : I' 101 m.toNat = 1) : mq_Q I I' m bk 1 := by
  refine ⟨Or.inl ⟨⟨hm, hb⟩, rfl⟩, fun k _ => ?_⟩
  by_cases c : k = m.toNat
  · subst c
    rw [h1]
    exact ⟨fun e => absurd e (by decide), fun e => absurd ⟨rfl, by omega⟩ e.2⟩
  · rw [hs k c]
    exact ⟨fun e => ⟨e, fun z => c (by omega)⟩, fun e => e.1⟩
theorem c_markM (D : Nat) (hD : 4 ≤ D) {I L : Nat → Nat → Int} {X : ym_X} (hS : ym_S X) {m bk : Int} (b0 : bk = 0 ∨ bk = 1) (hLR : ym_LR I) (hST : ym_ST I) (hl : 0 ≤ I 82 25 ∧ I 82 25 ≤ 512) : yi_E zi_Ms D 82 [.inr (.inr (some 82)), .inl m, .inl bk] (I, L, X) (fun r => ∃ z I' L', (r = (some (.inl z), (I', L', X), 0, 0)) ∧ (∀ p k, p ≠ 100 ∧ p ≠ 101 ∧ p ≠ 102 ∧ ¬ (p = 82 ∧ k = 0) ∧ ¬ (p = 82 ∧ k = 30) → I' p k = I p k) ∧ (∀ p k, p ≠ 97 → L' p k = L p k) ∧ ym_ST I' ∧ mq_Q I I' m bk z) := by
  obtain ⟨d, rfl⟩ : ∃ d, D = d + 1 := ⟨D - 1, by omega⟩
  refine yi_E_of (M := zi_m82) rfl rfl ?_
  obtain ⟨l0, l1, l2, l3, l4, l5⟩ := id hLR
  have hS0 := hST.1
  obtain ⟨t0, t1, t2, t3, t4⟩ := id hS0
  show yi_G zi_Ms d zi_m82 (0, [(0, .inr (.inr (some 82))), (1, .inl m), (2, .inl bk)], [], (I, L, X), 0, 0) _
  refine yi_G_run 2 (2, [(0, .inr (.inr (some 82))), (1, .inl m), (2, .inl bk)], [.inl 0, .inr (.inr (some 82))], (I, L, X), 0, 0) (fun _ => rfl) ?_
  refine yi_G_put (5, [(0, .inr (.inr (some 82))), (1, .inl m), (2, .inl bk)], [], ((yi_u I 82 0 0), L, X), 0, 0) rfl (ym_pi hS rfl rfl) ?_
  generalize w2 : yi_u I 82 0 0 = I1
  refine yi_G_run 3 (8, [(0, .inr (.inr (some 82))), (1, .inl m), (2, .inl bk)], [.inl 3, .inl 0, .inl m], (I1, L, X), 0, 0) (fun _ => rfl) ?_
  refine yi_G_calls rfl rfl (c_within d (by omega) hS) ?_
  rintro _ (⟨c3, rfl⟩ | ⟨c3, rfl⟩)
  · show yi_G zi_Ms d zi_m82 (11, [(0, .inr (.inr (some 82))), (1, .inl m), (2, .inl bk)], [.inl 1], (I1, L, X), 0, 0) _
    refine yi_G_if1 false rfl (by decide) ?_
    refine yi_G_run 1 (15, [(0, .inr (.inr (some 82))), (1, .inl m), (2, .inl bk)], [.inl bk], (I1, L, X), 0, 0) (fun _ => rfl) ?_
    by_cases h4 : bk = 0
    · refine yi_G_if1 true rfl (yi_eq_t h4) ?_
      refine yi_G_run 1 (30, [(0, .inr (.inr (some 82))), (1, .inl m), (2, .inl bk)], [.inl bk], (I1, L, X), 0, 0) (fun _ => rfl) ?_
      by_cases h5 : bk = 0
      · refine yi_G_if1 true rfl (yi_eq_t h5) ?_
        refine yi_G_run 3 (42, [(3, .inl 0), (0, .inr (.inr (some 82))), (1, .inl m), (2, .inl bk)], [.inl bk], (I1, L, X), 0, 0) (fun _ => rfl) ?_
        by_cases h6 : bk = 0
        · refine yi_G_if1 true rfl (yi_eq_t h6) ?_
          refine yi_G_run 2 (51, [(3, .inl 0), (0, .inr (.inr (some 82))), (1, .inl m), (2, .inl bk)], [.inl m, .inl 1], (I1, L, X), 0, 0) (fun _ => rfl) ?_
          refine yi_G_iadd rfl (1 + m) (yi_wn (by omega) (by omega)) ?_
          refine yi_G_run 4 (58, [(4, .inl (1 + m)), (3, .inl 0), (0, .inr (.inr (some 82))), (1, .inl m), (2, .inl bk)], [.inl (1 + m), .inl 0, .inr (.inr (some 82))], (I1, L, X), 0, 0) (fun _ => rfl) ?_
          have stm : ym_ST I1 := (ym_ST_t (fun k => by rw [← w2, yi_u_ne _ _ (by omega)]) (by rw [← w2, yi_u_ne _ _ (by omega)]) (fun k => by rw [← w2, yi_u_ne _ _ (by omega)]) (fun k => by rw [← w2, yi_u_ne _ _ (by omega)]) hST)
          have r7 : I1 101 (m.toNat) = I 101 (m.toNat) := by rw [← w2, yi_u_ne _ _ (by omega)]
          have sbfr : ym_SB I1 0 := ((ym_S0_iff _).mp stm.1)
          have r11 : I1 82 25 = I 82 25 := by rw [← w2, yi_u_ne _ _ (by omega)]
          refine yi_G_callv rfl rfl (ym_rcv hS) rfl (c_copies (fr := 0) (to := 1 + m) d (by omega) hS (by omega) (by omega) (by omega) (by omega) (ym_SB_0 sbfr) ⟨(by rw [r11]; omega), (by rw [r11]; omega)⟩) ?_
          rintro _ ⟨L8, rfl, f9⟩
          show yi_G zi_Ms d zi_m82 (61, [(4, .inl (1 + m)), (3, .inl 0), (0, .inr (.inr (some 82))), (1, .inl m), (2, .inl bk)], [], ((ym_cp I1 0 (1 + m)), L8, X), 0, 0) _
          refine yi_G_run 3 (65, [(4, .inl (1 + m)), (3, .inl 0), (0, .inr (.inr (some 82))), (1, .inl m), (2, .inl bk)], [.inl 0, .inl 33, .inr (.inr (some 82))], ((ym_cp I1 0 (1 + m)), L8, X), 0, 0) (fun _ => rfl) ?_
          refine yi_G_iadd rfl (33) (by decide) ?_
          refine yi_G_run 2 (70, [(4, .inl (1 + m)), (3, .inl 0), (0, .inr (.inr (some 82))), (1, .inl m), (2, .inl bk)], [.inl (1 + m), .inl 33, .inl 33, .inr (.inr (some 82))], ((ym_cp I1 0 (1 + m)), L8, X), 0, 0) (fun _ => rfl) ?_
          refine yi_G_iadd rfl (33 + (1 + m)) (yi_wn (by omega) (by omega)) ?_
          generalize wI12 : ym_cp I1 0 (1 + m) = I12
          have fI12 : ∀ p k, p ≠ 100 → I12 p k = I1 p k := fun p k hp => by rw [← wI12]; exact ym_cp_p hp
          have stI12 : ym_ST I12 := by rw [← wI12]; exact ym_ST_cp stm sbfr (by omega) (by omega)
          have sbI12 : ym_SB I12 (1 + m) := by rw [← wI12]; exact ym_cp_to (by omega) (by omega) sbfr
          have r13 : I12 82 25 = I 82 25 := by rw [fI12 82 (25) (by omega), ← w2, yi_u_ne _ _ (by omega)]
          refine yi_G_callv rfl rfl (ym_rcv hS) rfl (w_copiesRow (by omega) hS (by omega) (by omega) (by omega) (by omega) (by rw [r13]; omega) (by rw [r13]; omega)) ?_
          rintro _ ⟨L14, rfl, f15⟩
          show yi_G zi_Ms d zi_m82 (74, [(4, .inl (1 + m)), (3, .inl 0), (0, .inr (.inr (some 82))), (1, .inl m), (2, .inl bk)], [], (I12, L14, X), 0, 0) _
          refine yi_G_run 1 (75, [(4, .inl (1 + m)), (3, .inl 0), (0, .inr (.inr (some 82))), (1, .inl m), (2, .inl bk)], [.inr (.inr (some 82))], (I12, L14, X), 0, 0) (fun _ => rfl) ?_
          refine yi_G_get (78, [(4, .inl (1 + m)), (3, .inl 0), (0, .inr (.inr (some 82))), (1, .inl m), (2, .inl bk)], [.inr (.inr (some 102))], (I12, L14, X), 0, 0) rfl (ym_gr hS 19 rfl rfl rfl) ?_
          refine yi_G_run 2 (81, [(4, .inl (1 + m)), (3, .inl 0), (0, .inr (.inr (some 82))), (1, .inl m), (2, .inl bk)], [.inr (.inr (some 82)), .inl (1 + m), .inr (.inr (some 102))], (I12, L14, X), 0, 0) (fun _ => rfl) ?_
          refine yi_G_get (84, [(4, .inl (1 + m)), (3, .inl 0), (0, .inr (.inr (some 82))), (1, .inl m), (2, .inl bk)], [.inr (.inr (some 102)), .inl (1 + m), .inr (.inr (some 102))], (I12, L14, X), 0, 0) rfl (ym_gr hS 19 rfl rfl rfl) ?_
          refine yi_G_run 1 (85, [(4, .inl (1 + m)), (3, .inl 0), (0, .inr (.inr (some 82))), (1, .inl m), (2, .inl bk)], [.inl 0, .inr (.inr (some 102)), .inl (1 + m), .inr (.inr (some 102))], (I12, L14, X), 0, 0) (fun _ => rfl) ?_
          have r16 : I12 102 0 = I 102 0 := by rw [fI12 102 (0) (by omega), ← w2, yi_u_ne _ _ (by omega)]
          refine yi_G_bald (86, [(4, .inl (1 + m)), (3, .inl 0), (0, .inr (.inr (some 82))), (1, .inl m), (2, .inl bk)], [.inl (I 102 0), .inl (1 + m), .inr (.inr (some 102))], (I12, L14, X), 0, 0) rfl (ym_lb hS 19 rfl (by omega) (by omega) r16) ?_
          have hb9 : I 102 0 = 0 ∨ I 102 0 = 1 := (hST.2.2 0 (by omega) (by omega)).2.1
          refine yi_G_bast (87, [(4, .inl (1 + m)), (3, .inl 0), (0, .inr (.inr (some 82))), (1, .inl m), (2, .inl bk)], [], ((yi_u I12 102 ((1 + m).toNat) (I 102 0)), L14, X), 0, 0) rfl (ym_sb hS 19 rfl (by omega) (by omega) (by omega)) ?_
          generalize w18 : yi_u I12 102 ((1 + m).toNat) (I 102 0) = I17
          refine yi_G_run 1 (88, [(4, .inl (1 + m)), (3, .inl 0), (0, .inr (.inr (some 82))), (1, .inl m), (2, .inl bk)], [.inr (.inr (some 82))], (I17, L14, X), 0, 0) (fun _ => rfl) ?_
          refine yi_G_get (91, [(4, .inl (1 + m)), (3, .inl 0), (0, .inr (.inr (some 82))), (1, .inl m), (2, .inl bk)], [.inr (.inr (some 101))], (I17, L14, X), 0, 0) rfl (ym_gr hS 18 rfl rfl rfl) ?_
          refine yi_G_run 2 (93, [(4, .inl (1 + m)), (3, .inl 0), (0, .inr (.inr (some 82))), (1, .inl m), (2, .inl bk)], [.inl 1, .inl m, .inr (.inr (some 101))], (I17, L14, X), 0, 0) (fun _ => rfl) ?_
          refine yi_G_bast (94, [(4, .inl (1 + m)), (3, .inl 0), (0, .inr (.inr (some 82))), (1, .inl m), (2, .inl bk)], [], ((yi_u I17 101 (m.toNat) 1), L14, X), 0, 0) rfl (ym_sb hS 18 rfl (by omega) (by omega) (by omega)) ?_
          generalize w20 : yi_u I17 101 (m.toNat) 1 = I19
          refine yi_G_run 2 (96, [(4, .inl (1 + m)), (3, .inl 0), (0, .inr (.inr (some 82))), (1, .inl m), (2, .inl bk)], [.inl bk, .inr (.inr (some 82))], (I19, L14, X), 0, 0) (fun _ => rfl) ?_
          by_cases h21 : bk = 0
          · refine yi_G_if1 true rfl (yi_eq_t h21) ?_
            refine yi_G_run 1 (104, [(4, .inl (1 + m)), (3, .inl 0), (0, .inr (.inr (some 82))), (1, .inl m), (2, .inl bk)], [.inr (.inr (some 82)), .inr (.inr (some 82))], (I19, L14, X), 0, 0) (fun _ => rfl) ?_
            have r22 : I19 82 30 = I 82 30 := by rw [← w20, yi_u_ne _ _ (by omega), ← w18, yi_u_ne _ _ (by omega), fI12 82 (30) (by omega), ← w2, yi_u_ne _ _ (by omega)]
            refine yi_G_get (107, [(4, .inl (1 + m)), (3, .inl 0), (0, .inr (.inr (some 82))), (1, .inl m), (2, .inl bk)], [.inl (I 82 30), .inr (.inr (some 82))], (I19, L14, X), 0, 0) rfl (ym_gi hS rfl rfl r22) ?_
            have r23 : I19 82 30 = I 82 30 := by rw [← w20, yi_u_ne _ _ (by omega), ← w18, yi_u_ne _ _ (by omega), fI12 82 (30) (by omega), ← w2, yi_u_ne _ _ (by omega)]
            have ub9 := hST.2.1.1
            refine yi_G_put (110, [(4, .inl (1 + m)), (3, .inl 0), (0, .inr (.inr (some 82))), (1, .inl m), (2, .inl bk)], [], ((yi_u I19 82 30 (I 82 30)), L14, X), 0, 0) rfl (ym_pi hS rfl rfl) ?_
            generalize w25 : yi_u I19 82 30 (I 82 30) = I24
            refine yi_G_run 1 (111, [(4, .inl (1 + m)), (3, .inl 0), (0, .inr (.inr (some 82))), (1, .inl m), (2, .inl bk)], [.inl 1], (I24, L14, X), 0, 0) (fun _ => rfl) ?_
            exact yi_G_retb rfl rfl (by decide) (⟨_, _, _, rfl, (fun p k hp => by rw [← w25, yi_u_ne _ _ (fun z => by omega), ← w20, yi_u_ne _ _ (fun z => by omega), ← w18, yi_u_ne _ _ (fun z => by omega), fI12 p k (by omega), ← w2, yi_u_ne _ _ (fun z => by omega)]), (fun p k hp => by rw [f15 p k (by omega), f9 p k (by omega)]), (by rw [← w25]; exact ym_ST_30 (by rw [← w20]; exact ym_ST_101 (by rw [← w18]; exact ym_ST_102 stI12 (by omega)) (by omega) (ym_SB_t (by omega) (fun k => by rw [← w18, yi_u_ne _ _ (by omega)]) sbI12)) (by omega) (by omega)), mq_1 (by omega) (by first | exact Or.inl (by assumption) | exact Or.inr (by assumption)) (fun k hk => by rw [← w25, yi_u_ne _ _ (fun z => by omega), ← w20, yi_u_ne _ _ (fun z => by omega), ← w18, yi_u_ne _ _ (fun z => by omega), fI12 101 k (by omega), ← w2, yi_u_ne _ _ (fun z => by omega)]) (by rw [← w25, yi_u_ne _ _ (fun z => by omega), ← w20, yi_u_eq])⟩)
          · refine yi_G_if1 false rfl (yi_eq_f h21) ?_
            refine yi_G_run 2 (107, [(4, .inl (1 + m)), (3, .inl 0), (0, .inr (.inr (some 82))), (1, .inl m), (2, .inl bk)], [.inl 0, .inr (.inr (some 82))], (I19, L14, X), 0, 0) (fun _ => rfl) ?_
            have r26 : I19 82 30 = I 82 30 := by rw [← w20, yi_u_ne _ _ (by omega), ← w18, yi_u_ne _ _ (by omega), fI12 82 (30) (by omega), ← w2, yi_u_ne _ _ (by omega)]
            have ub9 := hST.2.1.1
            refine yi_G_put (110, [(4, .inl (1 + m)), (3, .inl 0), (0, .inr (.inr (some 82))), (1, .inl m), (2, .inl bk)], [], ((yi_u I19 82 30 0), L14, X), 0, 0) rfl (ym_pi hS rfl rfl) ?_
            generalize w28 : yi_u I19 82 30 0 = I27
            refine yi_G_run 1 (111, [(4, .inl (1 + m)), (3, .inl 0), (0, .inr (.inr (some 82))), (1, .inl m), (2, .inl bk)], [.inl 1], (I27, L14, X), 0, 0) (fun _ => rfl) ?_
            exact yi_G_retb rfl rfl (by decide) (⟨_, _, _, rfl, (fun p k hp => by rw [← w28, yi_u_ne _ _ (fun z => by omega), ← w20, yi_u_ne _ _ (fun z => by omega), ← w18, yi_u_ne _ _ (fun z => by omega), fI12 p k (by omega), ← w2, yi_u_ne _ _ (fun z => by omega)]), (fun p k hp => by rw [f15 p k (by omega), f9 p k (by omega)]), (by rw [← w28]; exact ym_ST_30 (by rw [← w20]; exact ym_ST_101 (by rw [← w18]; exact ym_ST_102 stI12 (by omega)) (by omega) (ym_SB_t (by omega) (fun k => by rw [← w18, yi_u_ne _ _ (by omega)]) sbI12)) (by omega) (by omega)), mq_1 (by omega) (by first | exact Or.inl (by assumption) | exact Or.inr (by assumption)) (fun k hk => by rw [← w28, yi_u_ne _ _ (fun z => by omega), ← w20, yi_u_ne _ _ (fun z => by omega), ← w18, yi_u_ne _ _ (fun z => by omega), fI12 101 k (by omega), ← w2, yi_u_ne _ _ (fun z => by omega)]) (by rw [← w28, yi_u_ne _ _ (fun z => by omega), ← w20, yi_u_eq])⟩)
        · refine yi_G_if1 false rfl (yi_eq_f h6) ?_
          refine yi_G_run 6 (58, [(4, .inl 0), (3, .inl 0), (0, .inr (.inr (some 82))), (1, .inl m), (2, .inl bk)], [.inl 0, .inl 0, .inr (.inr (some 82))], (I1, L, X), 0, 0) (fun _ => rfl) ?_
          have stm : ym_ST I1 := (ym_ST_t (fun k => by rw [← w2, yi_u_ne _ _ (by omega)]) (by rw [← w2, yi_u_ne _ _ (by omega)]) (fun k => by rw [← w2, yi_u_ne _ _ (by omega)]) (fun k => by rw [← w2, yi_u_ne _ _ (by omega)]) hST)
          have r29 : I1 101 (m.toNat) = I 101 (m.toNat) := by rw [← w2, yi_u_ne _ _ (by omega)]
          have sbfr : ym_SB I1 0 := ((ym_S0_iff _).mp stm.1)
          have r33 : I1 82 25 = I 82 25 := by rw [← w2, yi_u_ne _ _ (by omega)]
          refine yi_G_callv rfl rfl (ym_rcv hS) rfl (c_copies (fr := 0) (to := 0) d (by omega) hS (by omega) (by omega) (by omega) (by omega) (ym_SB_0 sbfr) ⟨(by rw [r33]; omega), (by rw [r33]; omega)⟩) ?_
          rintro _ ⟨L30, rfl, f31⟩
          show yi_G zi_Ms d zi_m82 (61, [(4, .inl 0), (3, .inl 0), (0, .inr (.inr (some 82))), (1, .inl m), (2, .inl bk)], [], ((ym_cp I1 0 0), L30, X), 0, 0) _
          refine yi_G_run 3 (65, [(4, .inl 0), (3, .inl 0), (0, .inr (.inr (some 82))), (1, .inl m), (2, .inl bk)], [.inl 0, .inl 33, .inr (.inr (some 82))], ((ym_cp I1 0 0), L30, X), 0, 0) (fun _ => rfl) ?_
          refine yi_G_iadd rfl (33) (by decide) ?_
          refine yi_G_run 2 (70, [(4, .inl 0), (3, .inl 0), (0, .inr (.inr (some 82))), (1, .inl m), (2, .inl bk)], [.inl 0, .inl 33, .inl 33, .inr (.inr (some 82))], ((ym_cp I1 0 0), L30, X), 0, 0) (fun _ => rfl) ?_
          refine yi_G_iadd rfl (33) (by decide) ?_
          generalize wI34 : ym_cp I1 0 0 = I34
          have fI34 : ∀ p k, p ≠ 100 → I34 p k = I1 p k := fun p k hp => by rw [← wI34]; exact ym_cp_p hp
          have stI34 : ym_ST I34 := by rw [← wI34]; exact ym_ST_cp stm sbfr (by omega) (by omega)
          have sbI34 : ym_SB I34 (1 + m) := by rw [← wI34]; exact False.elim (by omega)
          have r35 : I34 82 25 = I 82 25 := by rw [fI34 82 (25) (by omega), ← w2, yi_u_ne _ _ (by omega)]
          refine yi_G_callv rfl rfl (ym_rcv hS) rfl (w_copiesRow (by omega) hS (by omega) (by omega) (by omega) (by omega) (by rw [r35]; omega) (by rw [r35]; omega)) ?_
          rintro _ ⟨L36, rfl, f37⟩
          show yi_G zi_Ms d zi_m82 (74, [(4, .inl 0), (3, .inl 0), (0, .inr (.inr (some 82))), (1, .inl m), (2, .inl bk)], [], (I34, L36, X), 0, 0) _
          refine yi_G_run 1 (75, [(4, .inl 0), (3, .inl 0), (0, .inr (.inr (some 82))), (1, .inl m), (2, .inl bk)], [.inr (.inr (some 82))], (I34, L36, X), 0, 0) (fun _ => rfl) ?_
          refine yi_G_get (78, [(4, .inl 0), (3, .inl 0), (0, .inr (.inr (some 82))), (1, .inl m), (2, .inl bk)], [.inr (.inr (some 102))], (I34, L36, X), 0, 0) rfl (ym_gr hS 19 rfl rfl rfl) ?_
          refine yi_G_run 2 (81, [(4, .inl 0), (3, .inl 0), (0, .inr (.inr (some 82))), (1, .inl m), (2, .inl bk)], [.inr (.inr (some 82)), .inl 0, .inr (.inr (some 102))], (I34, L36, X), 0, 0) (fun _ => rfl) ?_
          refine yi_G_get (84, [(4, .inl 0), (3, .inl 0), (0, .inr (.inr (some 82))), (1, .inl m), (2, .inl bk)], [.inr (.inr (some 102)), .inl 0, .inr (.inr (some 102))], (I34, L36, X), 0, 0) rfl (ym_gr hS 19 rfl rfl rfl) ?_
          refine yi_G_run 1 (85, [(4, .inl 0), (3, .inl 0), (0, .inr (.inr (some 82))), (1, .inl m), (2, .inl bk)], [.inl 0, .inr (.inr (some 102)), .inl 0, .inr (.inr (some 102))], (I34, L36, X), 0, 0) (fun _ => rfl) ?_
          have r38 : I34 102 0 = I 102 0 := by rw [fI34 102 (0) (by omega), ← w2, yi_u_ne _ _ (by omega)]
          refine yi_G_bald (86, [(4, .inl 0), (3, .inl 0), (0, .inr (.inr (some 82))), (1, .inl m), (2, .inl bk)], [.inl (I 102 0), .inl 0, .inr (.inr (some 102))], (I34, L36, X), 0, 0) rfl (ym_lb hS 19 rfl (by omega) (by omega) r38) ?_
          have hb9 : I 102 0 = 0 ∨ I 102 0 = 1 := (hST.2.2 0 (by omega) (by omega)).2.1
          refine yi_G_bast (87, [(4, .inl 0), (3, .inl 0), (0, .inr (.inr (some 82))), (1, .inl m), (2, .inl bk)], [], ((yi_u I34 102 0 (I 102 0)), L36, X), 0, 0) rfl (ym_sb hS 19 rfl (by omega) (by omega) (by omega)) ?_
          generalize w40 : yi_u I34 102 0 (I 102 0) = I39
          refine yi_G_run 1 (88, [(4, .inl 0), (3, .inl 0), (0, .inr (.inr (some 82))), (1, .inl m), (2, .inl bk)], [.inr (.inr (some 82))], (I39, L36, X), 0, 0) (fun _ => rfl) ?_
          refine yi_G_get (91, [(4, .inl 0), (3, .inl 0), (0, .inr (.inr (some 82))), (1, .inl m), (2, .inl bk)], [.inr (.inr (some 101))], (I39, L36, X), 0, 0) rfl (ym_gr hS 18 rfl rfl rfl) ?_
          refine yi_G_run 2 (93, [(4, .inl 0), (3, .inl 0), (0, .inr (.inr (some 82))), (1, .inl m), (2, .inl bk)], [.inl 1, .inl m, .inr (.inr (some 101))], (I39, L36, X), 0, 0) (fun _ => rfl) ?_
          refine yi_G_bast (94, [(4, .inl 0), (3, .inl 0), (0, .inr (.inr (some 82))), (1, .inl m), (2, .inl bk)], [], ((yi_u I39 101 (m.toNat) 1), L36, X), 0, 0) rfl (ym_sb hS 18 rfl (by omega) (by omega) (by omega)) ?_
          generalize w42 : yi_u I39 101 (m.toNat) 1 = I41
          refine yi_G_run 2 (96, [(4, .inl 0), (3, .inl 0), (0, .inr (.inr (some 82))), (1, .inl m), (2, .inl bk)], [.inl bk, .inr (.inr (some 82))], (I41, L36, X), 0, 0) (fun _ => rfl) ?_
          by_cases h43 : bk = 0
          · refine yi_G_if1 true rfl (yi_eq_t h43) ?_
            refine yi_G_run 1 (104, [(4, .inl 0), (3, .inl 0), (0, .inr (.inr (some 82))), (1, .inl m), (2, .inl bk)], [.inr (.inr (some 82)), .inr (.inr (some 82))], (I41, L36, X), 0, 0) (fun _ => rfl) ?_
            have r44 : I41 82 30 = I 82 30 := by rw [← w42, yi_u_ne _ _ (by omega), ← w40, yi_u_ne _ _ (by omega), fI34 82 (30) (by omega), ← w2, yi_u_ne _ _ (by omega)]
            refine yi_G_get (107, [(4, .inl 0), (3, .inl 0), (0, .inr (.inr (some 82))), (1, .inl m), (2, .inl bk)], [.inl (I 82 30), .inr (.inr (some 82))], (I41, L36, X), 0, 0) rfl (ym_gi hS rfl rfl r44) ?_
            have r45 : I41 82 30 = I 82 30 := by rw [← w42, yi_u_ne _ _ (by omega), ← w40, yi_u_ne _ _ (by omega), fI34 82 (30) (by omega), ← w2, yi_u_ne _ _ (by omega)]
            have ub9 := hST.2.1.1
            refine yi_G_put (110, [(4, .inl 0), (3, .inl 0), (0, .inr (.inr (some 82))), (1, .inl m), (2, .inl bk)], [], ((yi_u I41 82 30 (I 82 30)), L36, X), 0, 0) rfl (ym_pi hS rfl rfl) ?_
            generalize w47 : yi_u I41 82 30 (I 82 30) = I46
            refine yi_G_run 1 (111, [(4, .inl 0), (3, .inl 0), (0, .inr (.inr (some 82))), (1, .inl m), (2, .inl bk)], [.inl 1], (I46, L36, X), 0, 0) (fun _ => rfl) ?_
            exact yi_G_retb rfl rfl (by decide) (⟨_, _, _, rfl, (fun p k hp => by rw [← w47, yi_u_ne _ _ (fun z => by omega), ← w42, yi_u_ne _ _ (fun z => by omega), ← w40, yi_u_ne _ _ (fun z => by omega), fI34 p k (by omega), ← w2, yi_u_ne _ _ (fun z => by omega)]), (fun p k hp => by rw [f37 p k (by omega), f31 p k (by omega)]), (by rw [← w47]; exact ym_ST_30 (by rw [← w42]; exact ym_ST_101 (by rw [← w40]; exact ym_ST_102 stI34 (by omega)) (by omega) (ym_SB_t (by omega) (fun k => by rw [← w40, yi_u_ne _ _ (by omega)]) sbI34)) (by omega) (by omega)), mq_1 (by omega) (by first | exact Or.inl (by assumption) | exact Or.inr (by assumption)) (fun k hk => by rw [← w47, yi_u_ne _ _ (fun z => by omega), ← w42, yi_u_ne _ _ (fun z => by omega), ← w40, yi_u_ne _ _ (fun z => by omega), fI34 101 k (by omega), ← w2, yi_u_ne _ _ (fun z => by omega)]) (by rw [← w47, yi_u_ne _ _ (fun z => by omega), ← w42, yi_u_eq])⟩)
          · refine yi_G_if1 false rfl (yi_eq_f h43) ?_
            refine yi_G_run 2 (107, [(4, .inl 0), (3, .inl 0), (0, .inr (.inr (some 82))), (1, .inl m), (2, .inl bk)], [.inl 0, .inr (.inr (some 82))], (I41, L36, X), 0, 0) (fun _ => rfl) ?_
            have r48 : I41 82 30 = I 82 30 := by rw [← w42, yi_u_ne _ _ (by omega), ← w40, yi_u_ne _ _ (by omega), fI34 82 (30) (by omega), ← w2, yi_u_ne _ _ (by omega)]
            have ub9 := hST.2.1.1
            refine yi_G_put (110, [(4, .inl 0), (3, .inl 0), (0, .inr (.inr (some 82))), (1, .inl m), (2, .inl bk)], [], ((yi_u I41 82 30 0), L36, X), 0, 0) rfl (ym_pi hS rfl rfl) ?_
            generalize w50 : yi_u I41 82 30 0 = I49
            refine yi_G_run 1 (111, [(4, .inl 0), (3, .inl 0), (0, .inr (.inr (some 82))), (1, .inl m), (2, .inl bk)], [.inl 1], (I49, L36, X), 0, 0) (fun _ => rfl) ?_
            exact yi_G_retb rfl rfl (by decide) (⟨_, _, _, rfl, (fun p k hp => by rw [← w50, yi_u_ne _ _ (fun z => by omega), ← w42, yi_u_ne _ _ (fun z => by omega), ← w40, yi_u_ne _ _ (fun z => by omega), fI34 p k (by omega), ← w2, yi_u_ne _ _ (fun z => by omega)]), (fun p k hp => by rw [f37 p k (by omega), f31 p k (by omega)]), (by rw [← w50]; exact ym_ST_30 (by rw [← w42]; exact ym_ST_101 (by rw [← w40]; exact ym_ST_102 stI34 (by omega)) (by omega) (ym_SB_t (by omega) (fun k => by rw [← w40, yi_u_ne _ _ (by omega)]) sbI34)) (by omega) (by omega)), mq_1 (by omega) (by first | exact Or.inl (by assumption) | exact Or.inr (by assumption)) (fun k hk => by rw [← w50, yi_u_ne _ _ (fun z => by omega), ← w42, yi_u_ne _ _ (fun z => by omega), ← w40, yi_u_ne _ _ (fun z => by omega), fI34 101 k (by omega), ← w2, yi_u_ne _ _ (fun z => by omega)]) (by rw [← w50, yi_u_ne _ _ (fun z => by omega), ← w42, yi_u_eq])⟩)
      · refine yi_G_if1 false rfl (yi_eq_f h5) ?_
        refine yi_G_run 2 (35, [(0, .inr (.inr (some 82))), (1, .inl m), (2, .inl bk)], [.inl m, .inl 1], (I1, L, X), 0, 0) (fun _ => rfl) ?_
        refine yi_G_iadd rfl (1 + m) (yi_wn (by omega) (by omega)) ?_
        refine yi_G_run 3 (42, [(3, .inl (1 + m)), (0, .inr (.inr (some 82))), (1, .inl m), (2, .inl bk)], [.inl bk], (I1, L, X), 0, 0) (fun _ => rfl) ?_
        by_cases h51 : bk = 0
        · refine yi_G_if1 true rfl (yi_eq_t h51) ?_
          refine yi_G_run 2 (51, [(3, .inl (1 + m)), (0, .inr (.inr (some 82))), (1, .inl m), (2, .inl bk)], [.inl m, .inl 1], (I1, L, X), 0, 0) (fun _ => rfl) ?_
          refine yi_G_iadd rfl (1 + m) (yi_wn (by omega) (by omega)) ?_
          refine yi_G_run 4 (58, [(4, .inl (1 + m)), (3, .inl (1 + m)), (0, .inr (.inr (some 82))), (1, .inl m), (2, .inl bk)], [.inl (1 + m), .inl (1 + m), .inr (.inr (some 82))], (I1, L, X), 0, 0) (fun _ => rfl) ?_
          have stm : ym_ST I1 := (ym_ST_t (fun k => by rw [← w2, yi_u_ne _ _ (by omega)]) (by rw [← w2, yi_u_ne _ _ (by omega)]) (fun k => by rw [← w2, yi_u_ne _ _ (by omega)]) (fun k => by rw [← w2, yi_u_ne _ _ (by omega)]) hST)
          have r52 : I1 101 (m.toNat) = I 101 (m.toNat) := by rw [← w2, yi_u_ne _ _ (by omega)]
          have sbfr : ym_SB I1 (1 + m) := ((stm.2.2 m (by omega) (by omega)).2.2 (by omega) (by omega))
          have r56 : I1 82 25 = I 82 25 := by rw [← w2, yi_u_ne _ _ (by omega)]
          refine yi_G_callv rfl rfl (ym_rcv hS) rfl (c_copies (fr := 1 + m) (to := 1 + m) d (by omega) hS (by omega) (by omega) (by omega) (by omega) (ym_SB_0 sbfr) ⟨(by rw [r56]; omega), (by rw [r56]; omega)⟩) ?_
          rintro _ ⟨L53, rfl, f54⟩
          show yi_G zi_Ms d zi_m82 (61, [(4, .inl (1 + m)), (3, .inl (1 + m)), (0, .inr (.inr (some 82))), (1, .inl m), (2, .inl bk)], [], ((ym_cp I1 (1 + m) (1 + m)), L53, X), 0, 0) _
          refine yi_G_run 3 (65, [(4, .inl (1 + m)), (3, .inl (1 + m)), (0, .inr (.inr (some 82))), (1, .inl m), (2, .inl bk)], [.inl (1 + m), .inl 33, .inr (.inr (some 82))], ((ym_cp I1 (1 + m) (1 + m)), L53, X), 0, 0) (fun _ => rfl) ?_
          refine yi_G_iadd rfl (33 + (1 + m)) (yi_wn (by omega) (by omega)) ?_
          refine yi_G_run 2 (70, [(4, .inl (1 + m)), (3, .inl (1 + m)), (0, .inr (.inr (some 82))), (1, .inl m), (2, .inl bk)], [.inl (1 + m), .inl 33, .inl (33 + (1 + m)), .inr (.inr (some 82))], ((ym_cp I1 (1 + m) (1 + m)), L53, X), 0, 0) (fun _ => rfl) ?_
          refine yi_G_iadd rfl (33 + (1 + m)) (yi_wn (by omega) (by omega)) ?_
          generalize wI57 : ym_cp I1 (1 + m) (1 + m) = I57
          have fI57 : ∀ p k, p ≠ 100 → I57 p k = I1 p k := fun p k hp => by rw [← wI57]; exact ym_cp_p hp
          have stI57 : ym_ST I57 := by rw [← wI57]; exact ym_ST_cp stm sbfr (by omega) (by omega)
          have sbI57 : ym_SB I57 (1 + m) := by rw [← wI57]; exact False.elim (by omega)
          have r58 : I57 82 25 = I 82 25 := by rw [fI57 82 (25) (by omega), ← w2, yi_u_ne _ _ (by omega)]
          refine yi_G_callv rfl rfl (ym_rcv hS) rfl (w_copiesRow (by omega) hS (by omega) (by omega) (by omega) (by omega) (by rw [r58]; omega) (by rw [r58]; omega)) ?_
          rintro _ ⟨L59, rfl, f60⟩
          show yi_G zi_Ms d zi_m82 (74, [(4, .inl (1 + m)), (3, .inl (1 + m)), (0, .inr (.inr (some 82))), (1, .inl m), (2, .inl bk)], [], (I57, L59, X), 0, 0) _
          refine yi_G_run 1 (75, [(4, .inl (1 + m)), (3, .inl (1 + m)), (0, .inr (.inr (some 82))), (1, .inl m), (2, .inl bk)], [.inr (.inr (some 82))], (I57, L59, X), 0, 0) (fun _ => rfl) ?_
          refine yi_G_get (78, [(4, .inl (1 + m)), (3, .inl (1 + m)), (0, .inr (.inr (some 82))), (1, .inl m), (2, .inl bk)], [.inr (.inr (some 102))], (I57, L59, X), 0, 0) rfl (ym_gr hS 19 rfl rfl rfl) ?_
          refine yi_G_run 2 (81, [(4, .inl (1 + m)), (3, .inl (1 + m)), (0, .inr (.inr (some 82))), (1, .inl m), (2, .inl bk)], [.inr (.inr (some 82)), .inl (1 + m), .inr (.inr (some 102))], (I57, L59, X), 0, 0) (fun _ => rfl) ?_
          refine yi_G_get (84, [(4, .inl (1 + m)), (3, .inl (1 + m)), (0, .inr (.inr (some 82))), (1, .inl m), (2, .inl bk)], [.inr (.inr (some 102)), .inl (1 + m), .inr (.inr (some 102))], (I57, L59, X), 0, 0) rfl (ym_gr hS 19 rfl rfl rfl) ?_
          refine yi_G_run 1 (85, [(4, .inl (1 + m)), (3, .inl (1 + m)), (0, .inr (.inr (some 82))), (1, .inl m), (2, .inl bk)], [.inl (1 + m), .inr (.inr (some 102)), .inl (1 + m), .inr (.inr (some 102))], (I57, L59, X), 0, 0) (fun _ => rfl) ?_
          have r61 : I57 102 ((1 + m).toNat) = I 102 ((1 + m).toNat) := by rw [fI57 102 ((1 + m).toNat) (by omega), ← w2, yi_u_ne _ _ (by omega)]
          refine yi_G_bald (86, [(4, .inl (1 + m)), (3, .inl (1 + m)), (0, .inr (.inr (some 82))), (1, .inl m), (2, .inl bk)], [.inl (I 102 ((1 + m).toNat)), .inl (1 + m), .inr (.inr (some 102))], (I57, L59, X), 0, 0) rfl (ym_lb hS 19 rfl (by omega) (by omega) r61) ?_
          have hb9 := (hST.2.2 (1 + m) (by omega) (by omega)).2.1
          refine yi_G_bast (87, [(4, .inl (1 + m)), (3, .inl (1 + m)), (0, .inr (.inr (some 82))), (1, .inl m), (2, .inl bk)], [], ((yi_u I57 102 ((1 + m).toNat) (I 102 ((1 + m).toNat))), L59, X), 0, 0) rfl (ym_sb hS 19 rfl (by omega) (by omega) (by omega)) ?_
          generalize w63 : yi_u I57 102 ((1 + m).toNat) (I 102 ((1 + m).toNat)) = I62
          refine yi_G_run 1 (88, [(4, .inl (1 + m)), (3, .inl (1 + m)), (0, .inr (.inr (some 82))), (1, .inl m), (2, .inl bk)], [.inr (.inr (some 82))], (I62, L59, X), 0, 0) (fun _ => rfl) ?_
          refine yi_G_get (91, [(4, .inl (1 + m)), (3, .inl (1 + m)), (0, .inr (.inr (some 82))), (1, .inl m), (2, .inl bk)], [.inr (.inr (some 101))], (I62, L59, X), 0, 0) rfl (ym_gr hS 18 rfl rfl rfl) ?_
          refine yi_G_run 2 (93, [(4, .inl (1 + m)), (3, .inl (1 + m)), (0, .inr (.inr (some 82))), (1, .inl m), (2, .inl bk)], [.inl 1, .inl m, .inr (.inr (some 101))], (I62, L59, X), 0, 0) (fun _ => rfl) ?_
          refine yi_G_bast (94, [(4, .inl (1 + m)), (3, .inl (1 + m)), (0, .inr (.inr (some 82))), (1, .inl m), (2, .inl bk)], [], ((yi_u I62 101 (m.toNat) 1), L59, X), 0, 0) rfl (ym_sb hS 18 rfl (by omega) (by omega) (by omega)) ?_
          generalize w65 : yi_u I62 101 (m.toNat) 1 = I64
          refine yi_G_run 2 (96, [(4, .inl (1 + m)), (3, .inl (1 + m)), (0, .inr (.inr (some 82))), (1, .inl m), (2, .inl bk)], [.inl bk, .inr (.inr (some 82))], (I64, L59, X), 0, 0) (fun _ => rfl) ?_
          by_cases h66 : bk = 0
          · refine yi_G_if1 true rfl (yi_eq_t h66) ?_
            refine yi_G_run 1 (104, [(4, .inl (1 + m)), (3, .inl (1 + m)), (0, .inr (.inr (some 82))), (1, .inl m), (2, .inl bk)], [.inr (.inr (some 82)), .inr (.inr (some 82))], (I64, L59, X), 0, 0) (fun _ => rfl) ?_
            have r67 : I64 82 30 = I 82 30 := by rw [← w65, yi_u_ne _ _ (by omega), ← w63, yi_u_ne _ _ (by omega), fI57 82 (30) (by omega), ← w2, yi_u_ne _ _ (by omega)]
            refine yi_G_get (107, [(4, .inl (1 + m)), (3, .inl (1 + m)), (0, .inr (.inr (some 82))), (1, .inl m), (2, .inl bk)], [.inl (I 82 30), .inr (.inr (some 82))], (I64, L59, X), 0, 0) rfl (ym_gi hS rfl rfl r67) ?_
            have r68 : I64 82 30 = I 82 30 := by rw [← w65, yi_u_ne _ _ (by omega), ← w63, yi_u_ne _ _ (by omega), fI57 82 (30) (by omega), ← w2, yi_u_ne _ _ (by omega)]
            have ub9 := hST.2.1.1
            refine yi_G_put (110, [(4, .inl (1 + m)), (3, .inl (1 + m)), (0, .inr (.inr (some 82))), (1, .inl m), (2, .inl bk)], [], ((yi_u I64 82 30 (I 82 30)), L59, X), 0, 0) rfl (ym_pi hS rfl rfl) ?_
            generalize w70 : yi_u I64 82 30 (I 82 30) = I69
            refine yi_G_run 1 (111, [(4, .inl (1 + m)), (3, .inl (1 + m)), (0, .inr (.inr (some 82))), (1, .inl m), (2, .inl bk)], [.inl 1], (I69, L59, X), 0, 0) (fun _ => rfl) ?_
            exact yi_G_retb rfl rfl (by decide) (⟨_, _, _, rfl, (fun p k hp => by rw [← w70, yi_u_ne _ _ (fun z => by omega), ← w65, yi_u_ne _ _ (fun z => by omega), ← w63, yi_u_ne _ _ (fun z => by omega), fI57 p k (by omega), ← w2, yi_u_ne _ _ (fun z => by omega)]), (fun p k hp => by rw [f60 p k (by omega), f54 p k (by omega)]), (by rw [← w70]; exact ym_ST_30 (by rw [← w65]; exact ym_ST_101 (by rw [← w63]; exact ym_ST_102 stI57 (by omega)) (by omega) (ym_SB_t (by omega) (fun k => by rw [← w63, yi_u_ne _ _ (by omega)]) sbI57)) (by omega) (by omega)), mq_1 (by omega) (by first | exact Or.inl (by assumption) | exact Or.inr (by assumption)) (fun k hk => by rw [← w70, yi_u_ne _ _ (fun z => by omega), ← w65, yi_u_ne _ _ (fun z => by omega), ← w63, yi_u_ne _ _ (fun z => by omega), fI57 101 k (by omega), ← w2, yi_u_ne _ _ (fun z => by omega)]) (by rw [← w70, yi_u_ne _ _ (fun z => by omega), ← w65, yi_u_eq])⟩)
          · refine yi_G_if1 false rfl (yi_eq_f h66) ?_
            refine yi_G_run 2 (107, [(4, .inl (1 + m)), (3, .inl (1 + m)), (0, .inr (.inr (some 82))), (1, .inl m), (2, .inl bk)], [.inl 0, .inr (.inr (some 82))], (I64, L59, X), 0, 0) (fun _ => rfl) ?_
            have r71 : I64 82 30 = I 82 30 := by rw [← w65, yi_u_ne _ _ (by omega), ← w63, yi_u_ne _ _ (by omega), fI57 82 (30) (by omega), ← w2, yi_u_ne _ _ (by omega)]
            have ub9 := hST.2.1.1
            refine yi_G_put (110, [(4, .inl (1 + m)), (3, .inl (1 + m)), (0, .inr (.inr (some 82))), (1, .inl m), (2, .inl bk)], [], ((yi_u I64 82 30 0), L59, X), 0, 0) rfl (ym_pi hS rfl rfl) ?_
            generalize w73 : yi_u I64 82 30 0 = I72
            refine yi_G_run 1 (111, [(4, .inl (1 + m)), (3, .inl (1 + m)), (0, .inr (.inr (some 82))), (1, .inl m), (2, .inl bk)], [.inl 1], (I72, L59, X), 0, 0) (fun _ => rfl) ?_
            exact yi_G_retb rfl rfl (by decide) (⟨_, _, _, rfl, (fun p k hp => by rw [← w73, yi_u_ne _ _ (fun z => by omega), ← w65, yi_u_ne _ _ (fun z => by omega), ← w63, yi_u_ne _ _ (fun z => by omega), fI57 p k (by omega), ← w2, yi_u_ne _ _ (fun z => by omega)]), (fun p k hp => by rw [f60 p k (by omega), f54 p k (by omega)]), (by rw [← w73]; exact ym_ST_30 (by rw [← w65]; exact ym_ST_101 (by rw [← w63]; exact ym_ST_102 stI57 (by omega)) (by omega) (ym_SB_t (by omega) (fun k => by rw [← w63, yi_u_ne _ _ (by omega)]) sbI57)) (by omega) (by omega)), mq_1 (by omega) (by first | exact Or.inl (by assumption) | exact Or.inr (by assumption)) (fun k hk => by rw [← w73, yi_u_ne _ _ (fun z => by omega), ← w65, yi_u_ne _ _ (fun z => by omega), ← w63, yi_u_ne _ _ (fun z => by omega), fI57 101 k (by omega), ← w2, yi_u_ne _ _ (fun z => by omega)]) (by rw [← w73, yi_u_ne _ _ (fun z => by omega), ← w65, yi_u_eq])⟩)
        · refine yi_G_if1 false rfl (yi_eq_f h51) ?_
          refine yi_G_run 6 (58, [(4, .inl 0), (3, .inl (1 + m)), (0, .inr (.inr (some 82))), (1, .inl m), (2, .inl bk)], [.inl 0, .inl (1 + m), .inr (.inr (some 82))], (I1, L, X), 0, 0) (fun _ => rfl) ?_
          have stm : ym_ST I1 := (ym_ST_t (fun k => by rw [← w2, yi_u_ne _ _ (by omega)]) (by rw [← w2, yi_u_ne _ _ (by omega)]) (fun k => by rw [← w2, yi_u_ne _ _ (by omega)]) (fun k => by rw [← w2, yi_u_ne _ _ (by omega)]) hST)
          have r74 : I1 101 (m.toNat) = I 101 (m.toNat) := by rw [← w2, yi_u_ne _ _ (by omega)]
          have sbfr : ym_SB I1 (1 + m) := ((stm.2.2 m (by omega) (by omega)).2.2 (by omega) (by omega))
          have r78 : I1 82 25 = I 82 25 := by rw [← w2, yi_u_ne _ _ (by omega)]
          refine yi_G_callv rfl rfl (ym_rcv hS) rfl (c_copies (fr := 1 + m) (to := 0) d (by omega) hS (by omega) (by omega) (by omega) (by omega) (ym_SB_0 sbfr) ⟨(by rw [r78]; omega), (by rw [r78]; omega)⟩) ?_
          rintro _ ⟨L75, rfl, f76⟩
          show yi_G zi_Ms d zi_m82 (61, [(4, .inl 0), (3, .inl (1 + m)), (0, .inr (.inr (some 82))), (1, .inl m), (2, .inl bk)], [], ((ym_cp I1 (1 + m) 0), L75, X), 0, 0) _
          refine yi_G_run 3 (65, [(4, .inl 0), (3, .inl (1 + m)), (0, .inr (.inr (some 82))), (1, .inl m), (2, .inl bk)], [.inl (1 + m), .inl 33, .inr (.inr (some 82))], ((ym_cp I1 (1 + m) 0), L75, X), 0, 0) (fun _ => rfl) ?_
          refine yi_G_iadd rfl (33 + (1 + m)) (yi_wn (by omega) (by omega)) ?_
          refine yi_G_run 2 (70, [(4, .inl 0), (3, .inl (1 + m)), (0, .inr (.inr (some 82))), (1, .inl m), (2, .inl bk)], [.inl 0, .inl 33, .inl (33 + (1 + m)), .inr (.inr (some 82))], ((ym_cp I1 (1 + m) 0), L75, X), 0, 0) (fun _ => rfl) ?_
          refine yi_G_iadd rfl (33) (by decide) ?_
          generalize wI79 : ym_cp I1 (1 + m) 0 = I79
          have fI79 : ∀ p k, p ≠ 100 → I79 p k = I1 p k := fun p k hp => by rw [← wI79]; exact ym_cp_p hp
          have stI79 : ym_ST I79 := by rw [← wI79]; exact ym_ST_cp stm sbfr (by omega) (by omega)
          have sbI79 : ym_SB I79 (1 + m) := by rw [← wI79]; exact ym_cp_ne (by omega) (by omega) (by omega) sbfr
          have r80 : I79 82 25 = I 82 25 := by rw [fI79 82 (25) (by omega), ← w2, yi_u_ne _ _ (by omega)]
          refine yi_G_callv rfl rfl (ym_rcv hS) rfl (w_copiesRow (by omega) hS (by omega) (by omega) (by omega) (by omega) (by rw [r80]; omega) (by rw [r80]; omega)) ?_
          rintro _ ⟨L81, rfl, f82⟩
          show yi_G zi_Ms d zi_m82 (74, [(4, .inl 0), (3, .inl (1 + m)), (0, .inr (.inr (some 82))), (1, .inl m), (2, .inl bk)], [], (I79, L81, X), 0, 0) _
          refine yi_G_run 1 (75, [(4, .inl 0), (3, .inl (1 + m)), (0, .inr (.inr (some 82))), (1, .inl m), (2, .inl bk)], [.inr (.inr (some 82))], (I79, L81, X), 0, 0) (fun _ => rfl) ?_
          refine yi_G_get (78, [(4, .inl 0), (3, .inl (1 + m)), (0, .inr (.inr (some 82))), (1, .inl m), (2, .inl bk)], [.inr (.inr (some 102))], (I79, L81, X), 0, 0) rfl (ym_gr hS 19 rfl rfl rfl) ?_
          refine yi_G_run 2 (81, [(4, .inl 0), (3, .inl (1 + m)), (0, .inr (.inr (some 82))), (1, .inl m), (2, .inl bk)], [.inr (.inr (some 82)), .inl 0, .inr (.inr (some 102))], (I79, L81, X), 0, 0) (fun _ => rfl) ?_
          refine yi_G_get (84, [(4, .inl 0), (3, .inl (1 + m)), (0, .inr (.inr (some 82))), (1, .inl m), (2, .inl bk)], [.inr (.inr (some 102)), .inl 0, .inr (.inr (some 102))], (I79, L81, X), 0, 0) rfl (ym_gr hS 19 rfl rfl rfl) ?_
          refine yi_G_run 1 (85, [(4, .inl 0), (3, .inl (1 + m)), (0, .inr (.inr (some 82))), (1, .inl m), (2, .inl bk)], [.inl (1 + m), .inr (.inr (some 102)), .inl 0, .inr (.inr (some 102))], (I79, L81, X), 0, 0) (fun _ => rfl) ?_
          have r83 : I79 102 ((1 + m).toNat) = I 102 ((1 + m).toNat) := by rw [fI79 102 ((1 + m).toNat) (by omega), ← w2, yi_u_ne _ _ (by omega)]
          refine yi_G_bald (86, [(4, .inl 0), (3, .inl (1 + m)), (0, .inr (.inr (some 82))), (1, .inl m), (2, .inl bk)], [.inl (I 102 ((1 + m).toNat)), .inl 0, .inr (.inr (some 102))], (I79, L81, X), 0, 0) rfl (ym_lb hS 19 rfl (by omega) (by omega) r83) ?_
          have hb9 := (hST.2.2 (1 + m) (by omega) (by omega)).2.1
          refine yi_G_bast (87, [(4, .inl 0), (3, .inl (1 + m)), (0, .inr (.inr (some 82))), (1, .inl m), (2, .inl bk)], [], ((yi_u I79 102 0 (I 102 ((1 + m).toNat))), L81, X), 0, 0) rfl (ym_sb hS 19 rfl (by omega) (by omega) (by omega)) ?_
          generalize w85 : yi_u I79 102 0 (I 102 ((1 + m).toNat)) = I84
          refine yi_G_run 1 (88, [(4, .inl 0), (3, .inl (1 + m)), (0, .inr (.inr (some 82))), (1, .inl m), (2, .inl bk)], [.inr (.inr (some 82))], (I84, L81, X), 0, 0) (fun _ => rfl) ?_
          refine yi_G_get (91, [(4, .inl 0), (3, .inl (1 + m)), (0, .inr (.inr (some 82))), (1, .inl m), (2, .inl bk)], [.inr (.inr (some 101))], (I84, L81, X), 0, 0) rfl (ym_gr hS 18 rfl rfl rfl) ?_
          refine yi_G_run 2 (93, [(4, .inl 0), (3, .inl (1 + m)), (0, .inr (.inr (some 82))), (1, .inl m), (2, .inl bk)], [.inl 1, .inl m, .inr (.inr (some 101))], (I84, L81, X), 0, 0) (fun _ => rfl) ?_
          refine yi_G_bast (94, [(4, .inl 0), (3, .inl (1 + m)), (0, .inr (.inr (some 82))), (1, .inl m), (2, .inl bk)], [], ((yi_u I84 101 (m.toNat) 1), L81, X), 0, 0) rfl (ym_sb hS 18 rfl (by omega) (by omega) (by omega)) ?_
          generalize w87 : yi_u I84 101 (m.toNat) 1 = I86
          refine yi_G_run 2 (96, [(4, .inl 0), (3, .inl (1 + m)), (0, .inr (.inr (some 82))), (1, .inl m), (2, .inl bk)], [.inl bk, .inr (.inr (some 82))], (I86, L81, X), 0, 0) (fun _ => rfl) ?_
          by_cases h88 : bk = 0
          · refine yi_G_if1 true rfl (yi_eq_t h88) ?_
            refine yi_G_run 1 (104, [(4, .inl 0), (3, .inl (1 + m)), (0, .inr (.inr (some 82))), (1, .inl m), (2, .inl bk)], [.inr (.inr (some 82)), .inr (.inr (some 82))], (I86, L81, X), 0, 0) (fun _ => rfl) ?_
            have r89 : I86 82 30 = I 82 30 := by rw [← w87, yi_u_ne _ _ (by omega), ← w85, yi_u_ne _ _ (by omega), fI79 82 (30) (by omega), ← w2, yi_u_ne _ _ (by omega)]
            refine yi_G_get (107, [(4, .inl 0), (3, .inl (1 + m)), (0, .inr (.inr (some 82))), (1, .inl m), (2, .inl bk)], [.inl (I 82 30), .inr (.inr (some 82))], (I86, L81, X), 0, 0) rfl (ym_gi hS rfl rfl r89) ?_
            have r90 : I86 82 30 = I 82 30 := by rw [← w87, yi_u_ne _ _ (by omega), ← w85, yi_u_ne _ _ (by omega), fI79 82 (30) (by omega), ← w2, yi_u_ne _ _ (by omega)]
            have ub9 := hST.2.1.1
            refine yi_G_put (110, [(4, .inl 0), (3, .inl (1 + m)), (0, .inr (.inr (some 82))), (1, .inl m), (2, .inl bk)], [], ((yi_u I86 82 30 (I 82 30)), L81, X), 0, 0) rfl (ym_pi hS rfl rfl) ?_
            generalize w92 : yi_u I86 82 30 (I 82 30) = I91
            refine yi_G_run 1 (111, [(4, .inl 0), (3, .inl (1 + m)), (0, .inr (.inr (some 82))), (1, .inl m), (2, .inl bk)], [.inl 1], (I91, L81, X), 0, 0) (fun _ => rfl) ?_
            exact yi_G_retb rfl rfl (by decide) (⟨_, _, _, rfl, (fun p k hp => by rw [← w92, yi_u_ne _ _ (fun z => by omega), ← w87, yi_u_ne _ _ (fun z => by omega), ← w85, yi_u_ne _ _ (fun z => by omega), fI79 p k (by omega), ← w2, yi_u_ne _ _ (fun z => by omega)]), (fun p k hp => by rw [f82 p k (by omega), f76 p k (by omega)]), (by rw [← w92]; exact ym_ST_30 (by rw [← w87]; exact ym_ST_101 (by rw [← w85]; exact ym_ST_102 stI79 (by omega)) (by omega) (ym_SB_t (by omega) (fun k => by rw [← w85, yi_u_ne _ _ (by omega)]) sbI79)) (by omega) (by omega)), mq_1 (by omega) (by first | exact Or.inl (by assumption) | exact Or.inr (by assumption)) (fun k hk => by rw [← w92, yi_u_ne _ _ (fun z => by omega), ← w87, yi_u_ne _ _ (fun z => by omega), ← w85, yi_u_ne _ _ (fun z => by omega), fI79 101 k (by omega), ← w2, yi_u_ne _ _ (fun z => by omega)]) (by rw [← w92, yi_u_ne _ _ (fun z => by omega), ← w87, yi_u_eq])⟩)
          · refine yi_G_if1 false rfl (yi_eq_f h88) ?_
            refine yi_G_run 2 (107, [(4, .inl 0), (3, .inl (1 + m)), (0, .inr (.inr (some 82))), (1, .inl m), (2, .inl bk)], [.inl 0, .inr (.inr (some 82))], (I86, L81, X), 0, 0) (fun _ => rfl) ?_
            have r93 : I86 82 30 = I 82 30 := by rw [← w87, yi_u_ne _ _ (by omega), ← w85, yi_u_ne _ _ (by omega), fI79 82 (30) (by omega), ← w2, yi_u_ne _ _ (by omega)]
            have ub9 := hST.2.1.1
            refine yi_G_put (110, [(4, .inl 0), (3, .inl (1 + m)), (0, .inr (.inr (some 82))), (1, .inl m), (2, .inl bk)], [], ((yi_u I86 82 30 0), L81, X), 0, 0) rfl (ym_pi hS rfl rfl) ?_
            generalize w95 : yi_u I86 82 30 0 = I94
            refine yi_G_run 1 (111, [(4, .inl 0), (3, .inl (1 + m)), (0, .inr (.inr (some 82))), (1, .inl m), (2, .inl bk)], [.inl 1], (I94, L81, X), 0, 0) (fun _ => rfl) ?_
            exact yi_G_retb rfl rfl (by decide) (⟨_, _, _, rfl, (fun p k hp => by rw [← w95, yi_u_ne _ _ (fun z => by omega), ← w87, yi_u_ne _ _ (fun z => by omega), ← w85, yi_u_ne _ _ (fun z => by omega), fI79 p k (by omega), ← w2, yi_u_ne _ _ (fun z => by omega)]), (fun p k hp => by rw [f82 p k (by omega), f76 p k (by omega)]), (by rw [← w95]; exact ym_ST_30 (by rw [← w87]; exact ym_ST_101 (by rw [← w85]; exact ym_ST_102 stI79 (by omega)) (by omega) (ym_SB_t (by omega) (fun k => by rw [← w85, yi_u_ne _ _ (by omega)]) sbI79)) (by omega) (by omega)), mq_1 (by omega) (by first | exact Or.inl (by assumption) | exact Or.inr (by assumption)) (fun k hk => by rw [← w95, yi_u_ne _ _ (fun z => by omega), ← w87, yi_u_ne _ _ (fun z => by omega), ← w85, yi_u_ne _ _ (fun z => by omega), fI79 101 k (by omega), ← w2, yi_u_ne _ _ (fun z => by omega)]) (by rw [← w95, yi_u_ne _ _ (fun z => by omega), ← w87, yi_u_eq])⟩)
    · refine yi_G_if1 false rfl (yi_eq_f h4) ?_
      refine yi_G_run 1 (19, [(0, .inr (.inr (some 82))), (1, .inl m), (2, .inl bk)], [.inr (.inr (some 82))], (I1, L, X), 0, 0) (fun _ => rfl) ?_
      refine yi_G_get (22, [(0, .inr (.inr (some 82))), (1, .inl m), (2, .inl bk)], [.inr (.inr (some 101))], (I1, L, X), 0, 0) rfl (ym_gr hS 18 rfl rfl rfl) ?_
      refine yi_G_run 1 (23, [(0, .inr (.inr (some 82))), (1, .inl m), (2, .inl bk)], [.inl m, .inr (.inr (some 101))], (I1, L, X), 0, 0) (fun _ => rfl) ?_
      have hmk := (hST.2.2 m (by omega) (by omega)).1
      have r96 : I1 101 (m.toNat) = I 101 (m.toNat) := by rw [← w2, yi_u_ne _ _ (by omega)]
      refine yi_G_bald (24, [(0, .inr (.inr (some 82))), (1, .inl m), (2, .inl bk)], [.inl (I 101 (m.toNat))], (I1, L, X), 0, 0) rfl (ym_lb hS 18 rfl (by omega) (by omega) r96) ?_
      by_cases h97 : (I 101 (m.toNat)) = 0
      · refine yi_G_if1 false rfl (yi_ne_f h97) ?_
        refine yi_G_run 1 (28, [(0, .inr (.inr (some 82))), (1, .inl m), (2, .inl bk)], [.inl 0], (I1, L, X), 0, 0) (fun _ => rfl) ?_
        exact yi_G_retb rfl rfl (by decide) (⟨_, _, _, rfl, (fun p k hp => by rw [← w2, yi_u_ne _ _ (fun z => by omega)]), (fun _ _ _ => rfl), (ym_ST_t (fun k => by rw [← w2, yi_u_ne _ _ (by omega)]) (by rw [← w2, yi_u_ne _ _ (by omega)]) (fun k => by rw [← w2, yi_u_ne _ _ (by omega)]) (fun k => by rw [← w2, yi_u_ne _ _ (by omega)]) hST), mq_0 (fun h => by omega) (fun k => by rw [← w2, yi_u_ne _ _ (fun z => by omega)])⟩)
      · refine yi_G_if1 true rfl (yi_ne_t h97) ?_
        refine yi_G_run 1 (30, [(0, .inr (.inr (some 82))), (1, .inl m), (2, .inl bk)], [.inl bk], (I1, L, X), 0, 0) (fun _ => rfl) ?_
        by_cases h98 : bk = 0
        · refine yi_G_if1 true rfl (yi_eq_t h98) ?_
          refine yi_G_run 3 (42, [(3, .inl 0), (0, .inr (.inr (some 82))), (1, .inl m), (2, .inl bk)], [.inl bk], (I1, L, X), 0, 0) (fun _ => rfl) ?_
          by_cases h99 : bk = 0
          · refine yi_G_if1 true rfl (yi_eq_t h99) ?_
            refine yi_G_run 2 (51, [(3, .inl 0), (0, .inr (.inr (some 82))), (1, .inl m), (2, .inl bk)], [.inl m, .inl 1], (I1, L, X), 0, 0) (fun _ => rfl) ?_
            refine yi_G_iadd rfl (1 + m) (yi_wn (by omega) (by omega)) ?_
            refine yi_G_run 4 (58, [(4, .inl (1 + m)), (3, .inl 0), (0, .inr (.inr (some 82))), (1, .inl m), (2, .inl bk)], [.inl (1 + m), .inl 0, .inr (.inr (some 82))], (I1, L, X), 0, 0) (fun _ => rfl) ?_
            have stm : ym_ST I1 := (ym_ST_t (fun k => by rw [← w2, yi_u_ne _ _ (by omega)]) (by rw [← w2, yi_u_ne _ _ (by omega)]) (fun k => by rw [← w2, yi_u_ne _ _ (by omega)]) (fun k => by rw [← w2, yi_u_ne _ _ (by omega)]) hST)
            have r100 : I1 101 (m.toNat) = I 101 (m.toNat) := by rw [← w2, yi_u_ne _ _ (by omega)]
            have sbfr : ym_SB I1 0 := ((ym_S0_iff _).mp stm.1)
            have r104 : I1 82 25 = I 82 25 := by rw [← w2, yi_u_ne _ _ (by omega)]
            refine yi_G_callv rfl rfl (ym_rcv hS) rfl (c_copies (fr := 0) (to := 1 + m) d (by omega) hS (by omega) (by omega) (by omega) (by omega) (ym_SB_0 sbfr) ⟨(by rw [r104]; omega), (by rw [r104]; omega)⟩) ?_
            rintro _ ⟨L101, rfl, f102⟩
            show yi_G zi_Ms d zi_m82 (61, [(4, .inl (1 + m)), (3, .inl 0), (0, .inr (.inr (some 82))), (1, .inl m), (2, .inl bk)], [], ((ym_cp I1 0 (1 + m)), L101, X), 0, 0) _
            refine yi_G_run 3 (65, [(4, .inl (1 + m)), (3, .inl 0), (0, .inr (.inr (some 82))), (1, .inl m), (2, .inl bk)], [.inl 0, .inl 33, .inr (.inr (some 82))], ((ym_cp I1 0 (1 + m)), L101, X), 0, 0) (fun _ => rfl) ?_
            refine yi_G_iadd rfl (33) (by decide) ?_
            refine yi_G_run 2 (70, [(4, .inl (1 + m)), (3, .inl 0), (0, .inr (.inr (some 82))), (1, .inl m), (2, .inl bk)], [.inl (1 + m), .inl 33, .inl 33, .inr (.inr (some 82))], ((ym_cp I1 0 (1 + m)), L101, X), 0, 0) (fun _ => rfl) ?_
            refine yi_G_iadd rfl (33 + (1 + m)) (yi_wn (by omega) (by omega)) ?_
            generalize wI105 : ym_cp I1 0 (1 + m) = I105
            have fI105 : ∀ p k, p ≠ 100 → I105 p k = I1 p k := fun p k hp => by rw [← wI105]; exact ym_cp_p hp
            have stI105 : ym_ST I105 := by rw [← wI105]; exact ym_ST_cp stm sbfr (by omega) (by omega)
            have sbI105 : ym_SB I105 (1 + m) := by rw [← wI105]; exact ym_cp_to (by omega) (by omega) sbfr
            have r106 : I105 82 25 = I 82 25 := by rw [fI105 82 (25) (by omega), ← w2, yi_u_ne _ _ (by omega)]
            refine yi_G_callv rfl rfl (ym_rcv hS) rfl (w_copiesRow (by omega) hS (by omega) (by omega) (by omega) (by omega) (by rw [r106]; omega) (by rw [r106]; omega)) ?_
            rintro _ ⟨L107, rfl, f108⟩
            show yi_G zi_Ms d zi_m82 (74, [(4, .inl (1 + m)), (3, .inl 0), (0, .inr (.inr (some 82))), (1, .inl m), (2, .inl bk)], [], (I105, L107, X), 0, 0) _
            refine yi_G_run 1 (75, [(4, .inl (1 + m)), (3, .inl 0), (0, .inr (.inr (some 82))), (1, .inl m), (2, .inl bk)], [.inr (.inr (some 82))], (I105, L107, X), 0, 0) (fun _ => rfl) ?_
            refine yi_G_get (78, [(4, .inl (1 + m)), (3, .inl 0), (0, .inr (.inr (some 82))), (1, .inl m), (2, .inl bk)], [.inr (.inr (some 102))], (I105, L107, X), 0, 0) rfl (ym_gr hS 19 rfl rfl rfl) ?_
            refine yi_G_run 2 (81, [(4, .inl (1 + m)), (3, .inl 0), (0, .inr (.inr (some 82))), (1, .inl m), (2, .inl bk)], [.inr (.inr (some 82)), .inl (1 + m), .inr (.inr (some 102))], (I105, L107, X), 0, 0) (fun _ => rfl) ?_
            refine yi_G_get (84, [(4, .inl (1 + m)), (3, .inl 0), (0, .inr (.inr (some 82))), (1, .inl m), (2, .inl bk)], [.inr (.inr (some 102)), .inl (1 + m), .inr (.inr (some 102))], (I105, L107, X), 0, 0) rfl (ym_gr hS 19 rfl rfl rfl) ?_
            refine yi_G_run 1 (85, [(4, .inl (1 + m)), (3, .inl 0), (0, .inr (.inr (some 82))), (1, .inl m), (2, .inl bk)], [.inl 0, .inr (.inr (some 102)), .inl (1 + m), .inr (.inr (some 102))], (I105, L107, X), 0, 0) (fun _ => rfl) ?_
            have r109 : I105 102 0 = I 102 0 := by rw [fI105 102 (0) (by omega), ← w2, yi_u_ne _ _ (by omega)]
            refine yi_G_bald (86, [(4, .inl (1 + m)), (3, .inl 0), (0, .inr (.inr (some 82))), (1, .inl m), (2, .inl bk)], [.inl (I 102 0), .inl (1 + m), .inr (.inr (some 102))], (I105, L107, X), 0, 0) rfl (ym_lb hS 19 rfl (by omega) (by omega) r109) ?_
            have hb9 : I 102 0 = 0 ∨ I 102 0 = 1 := (hST.2.2 0 (by omega) (by omega)).2.1
            refine yi_G_bast (87, [(4, .inl (1 + m)), (3, .inl 0), (0, .inr (.inr (some 82))), (1, .inl m), (2, .inl bk)], [], ((yi_u I105 102 ((1 + m).toNat) (I 102 0)), L107, X), 0, 0) rfl (ym_sb hS 19 rfl (by omega) (by omega) (by omega)) ?_
            generalize w111 : yi_u I105 102 ((1 + m).toNat) (I 102 0) = I110
            refine yi_G_run 1 (88, [(4, .inl (1 + m)), (3, .inl 0), (0, .inr (.inr (some 82))), (1, .inl m), (2, .inl bk)], [.inr (.inr (some 82))], (I110, L107, X), 0, 0) (fun _ => rfl) ?_
            refine yi_G_get (91, [(4, .inl (1 + m)), (3, .inl 0), (0, .inr (.inr (some 82))), (1, .inl m), (2, .inl bk)], [.inr (.inr (some 101))], (I110, L107, X), 0, 0) rfl (ym_gr hS 18 rfl rfl rfl) ?_
            refine yi_G_run 2 (93, [(4, .inl (1 + m)), (3, .inl 0), (0, .inr (.inr (some 82))), (1, .inl m), (2, .inl bk)], [.inl 1, .inl m, .inr (.inr (some 101))], (I110, L107, X), 0, 0) (fun _ => rfl) ?_
            refine yi_G_bast (94, [(4, .inl (1 + m)), (3, .inl 0), (0, .inr (.inr (some 82))), (1, .inl m), (2, .inl bk)], [], ((yi_u I110 101 (m.toNat) 1), L107, X), 0, 0) rfl (ym_sb hS 18 rfl (by omega) (by omega) (by omega)) ?_
            generalize w113 : yi_u I110 101 (m.toNat) 1 = I112
            refine yi_G_run 2 (96, [(4, .inl (1 + m)), (3, .inl 0), (0, .inr (.inr (some 82))), (1, .inl m), (2, .inl bk)], [.inl bk, .inr (.inr (some 82))], (I112, L107, X), 0, 0) (fun _ => rfl) ?_
            by_cases h114 : bk = 0
            · refine yi_G_if1 true rfl (yi_eq_t h114) ?_
              refine yi_G_run 1 (104, [(4, .inl (1 + m)), (3, .inl 0), (0, .inr (.inr (some 82))), (1, .inl m), (2, .inl bk)], [.inr (.inr (some 82)), .inr (.inr (some 82))], (I112, L107, X), 0, 0) (fun _ => rfl) ?_
              have r115 : I112 82 30 = I 82 30 := by rw [← w113, yi_u_ne _ _ (by omega), ← w111, yi_u_ne _ _ (by omega), fI105 82 (30) (by omega), ← w2, yi_u_ne _ _ (by omega)]
              refine yi_G_get (107, [(4, .inl (1 + m)), (3, .inl 0), (0, .inr (.inr (some 82))), (1, .inl m), (2, .inl bk)], [.inl (I 82 30), .inr (.inr (some 82))], (I112, L107, X), 0, 0) rfl (ym_gi hS rfl rfl r115) ?_
              have r116 : I112 82 30 = I 82 30 := by rw [← w113, yi_u_ne _ _ (by omega), ← w111, yi_u_ne _ _ (by omega), fI105 82 (30) (by omega), ← w2, yi_u_ne _ _ (by omega)]
              have ub9 := hST.2.1.1
              refine yi_G_put (110, [(4, .inl (1 + m)), (3, .inl 0), (0, .inr (.inr (some 82))), (1, .inl m), (2, .inl bk)], [], ((yi_u I112 82 30 (I 82 30)), L107, X), 0, 0) rfl (ym_pi hS rfl rfl) ?_
              generalize w118 : yi_u I112 82 30 (I 82 30) = I117
              refine yi_G_run 1 (111, [(4, .inl (1 + m)), (3, .inl 0), (0, .inr (.inr (some 82))), (1, .inl m), (2, .inl bk)], [.inl 1], (I117, L107, X), 0, 0) (fun _ => rfl) ?_
              exact yi_G_retb rfl rfl (by decide) (⟨_, _, _, rfl, (fun p k hp => by rw [← w118, yi_u_ne _ _ (fun z => by omega), ← w113, yi_u_ne _ _ (fun z => by omega), ← w111, yi_u_ne _ _ (fun z => by omega), fI105 p k (by omega), ← w2, yi_u_ne _ _ (fun z => by omega)]), (fun p k hp => by rw [f108 p k (by omega), f102 p k (by omega)]), (by rw [← w118]; exact ym_ST_30 (by rw [← w113]; exact ym_ST_101 (by rw [← w111]; exact ym_ST_102 stI105 (by omega)) (by omega) (ym_SB_t (by omega) (fun k => by rw [← w111, yi_u_ne _ _ (by omega)]) sbI105)) (by omega) (by omega)), mq_1 (by omega) (by first | exact Or.inl (by assumption) | exact Or.inr (by assumption)) (fun k hk => by rw [← w118, yi_u_ne _ _ (fun z => by omega), ← w113, yi_u_ne _ _ (fun z => by omega), ← w111, yi_u_ne _ _ (fun z => by omega), fI105 101 k (by omega), ← w2, yi_u_ne _ _ (fun z => by omega)]) (by rw [← w118, yi_u_ne _ _ (fun z => by omega), ← w113, yi_u_eq])⟩)
            · refine yi_G_if1 false rfl (yi_eq_f h114) ?_
              refine yi_G_run 2 (107, [(4, .inl (1 + m)), (3, .inl 0), (0, .inr (.inr (some 82))), (1, .inl m), (2, .inl bk)], [.inl 0, .inr (.inr (some 82))], (I112, L107, X), 0, 0) (fun _ => rfl) ?_
              have r119 : I112 82 30 = I 82 30 := by rw [← w113, yi_u_ne _ _ (by omega), ← w111, yi_u_ne _ _ (by omega), fI105 82 (30) (by omega), ← w2, yi_u_ne _ _ (by omega)]
              have ub9 := hST.2.1.1
              refine yi_G_put (110, [(4, .inl (1 + m)), (3, .inl 0), (0, .inr (.inr (some 82))), (1, .inl m), (2, .inl bk)], [], ((yi_u I112 82 30 0), L107, X), 0, 0) rfl (ym_pi hS rfl rfl) ?_
              generalize w121 : yi_u I112 82 30 0 = I120
              refine yi_G_run 1 (111, [(4, .inl (1 + m)), (3, .inl 0), (0, .inr (.inr (some 82))), (1, .inl m), (2, .inl bk)], [.inl 1], (I120, L107, X), 0, 0) (fun _ => rfl) ?_
              exact yi_G_retb rfl rfl (by decide) (⟨_, _, _, rfl, (fun p k hp => by rw [← w121, yi_u_ne _ _ (fun z => by omega), ← w113, yi_u_ne _ _ (fun z => by omega), ← w111, yi_u_ne _ _ (fun z => by omega), fI105 p k (by omega), ← w2, yi_u_ne _ _ (fun z => by omega)]), (fun p k hp => by rw [f108 p k (by omega), f102 p k (by omega)]), (by rw [← w121]; exact ym_ST_30 (by rw [← w113]; exact ym_ST_101 (by rw [← w111]; exact ym_ST_102 stI105 (by omega)) (by omega) (ym_SB_t (by omega) (fun k => by rw [← w111, yi_u_ne _ _ (by omega)]) sbI105)) (by omega) (by omega)), mq_1 (by omega) (by first | exact Or.inl (by assumption) | exact Or.inr (by assumption)) (fun k hk => by rw [← w121, yi_u_ne _ _ (fun z => by omega), ← w113, yi_u_ne _ _ (fun z => by omega), ← w111, yi_u_ne _ _ (fun z => by omega), fI105 101 k (by omega), ← w2, yi_u_ne _ _ (fun z => by omega)]) (by rw [← w121, yi_u_ne _ _ (fun z => by omega), ← w113, yi_u_eq])⟩)
          · refine yi_G_if1 false rfl (yi_eq_f h99) ?_
            refine yi_G_run 6 (58, [(4, .inl 0), (3, .inl 0), (0, .inr (.inr (some 82))), (1, .inl m), (2, .inl bk)], [.inl 0, .inl 0, .inr (.inr (some 82))], (I1, L, X), 0, 0) (fun _ => rfl) ?_
            have stm : ym_ST I1 := (ym_ST_t (fun k => by rw [← w2, yi_u_ne _ _ (by omega)]) (by rw [← w2, yi_u_ne _ _ (by omega)]) (fun k => by rw [← w2, yi_u_ne _ _ (by omega)]) (fun k => by rw [← w2, yi_u_ne _ _ (by omega)]) hST)
            have r122 : I1 101 (m.toNat) = I 101 (m.toNat) := by rw [← w2, yi_u_ne _ _ (by omega)]
            have sbfr : ym_SB I1 0 := ((ym_S0_iff _).mp stm.1)
            have r126 : I1 82 25 = I 82 25 := by rw [← w2, yi_u_ne _ _ (by omega)]
            refine yi_G_callv rfl rfl (ym_rcv hS) rfl (c_copies (fr := 0) (to := 0) d (by omega) hS (by omega) (by omega) (by omega) (by omega) (ym_SB_0 sbfr) ⟨(by rw [r126]; omega), (by rw [r126]; omega)⟩) ?_
            rintro _ ⟨L123, rfl, f124⟩
            show yi_G zi_Ms d zi_m82 (61, [(4, .inl 0), (3, .inl 0), (0, .inr (.inr (some 82))), (1, .inl m), (2, .inl bk)], [], ((ym_cp I1 0 0), L123, X), 0, 0) _
            refine yi_G_run 3 (65, [(4, .inl 0), (3, .inl 0), (0, .inr (.inr (some 82))), (1, .inl m), (2, .inl bk)], [.inl 0, .inl 33, .inr (.inr (some 82))], ((ym_cp I1 0 0), L123, X), 0, 0) (fun _ => rfl) ?_
            refine yi_G_iadd rfl (33) (by decide) ?_
            refine yi_G_run 2 (70, [(4, .inl 0), (3, .inl 0), (0, .inr (.inr (some 82))), (1, .inl m), (2, .inl bk)], [.inl 0, .inl 33, .inl 33, .inr (.inr (some 82))], ((ym_cp I1 0 0), L123, X), 0, 0) (fun _ => rfl) ?_
            refine yi_G_iadd rfl (33) (by decide) ?_
            generalize wI127 : ym_cp I1 0 0 = I127
            have fI127 : ∀ p k, p ≠ 100 → I127 p k = I1 p k := fun p k hp => by rw [← wI127]; exact ym_cp_p hp
            have stI127 : ym_ST I127 := by rw [← wI127]; exact ym_ST_cp stm sbfr (by omega) (by omega)
            have sbI127 : ym_SB I127 (1 + m) := by rw [← wI127]; exact False.elim (by omega)
            have r128 : I127 82 25 = I 82 25 := by rw [fI127 82 (25) (by omega), ← w2, yi_u_ne _ _ (by omega)]
            refine yi_G_callv rfl rfl (ym_rcv hS) rfl (w_copiesRow (by omega) hS (by omega) (by omega) (by omega) (by omega) (by rw [r128]; omega) (by rw [r128]; omega)) ?_
            rintro _ ⟨L129, rfl, f130⟩
            show yi_G zi_Ms d zi_m82 (74, [(4, .inl 0), (3, .inl 0), (0, .inr (.inr (some 82))), (1, .inl m), (2, .inl bk)], [], (I127, L129, X), 0, 0) _
            refine yi_G_run 1 (75, [(4, .inl 0), (3, .inl 0), (0, .inr (.inr (some 82))), (1, .inl m), (2, .inl bk)], [.inr (.inr (some 82))], (I127, L129, X), 0, 0) (fun _ => rfl) ?_
            refine yi_G_get (78, [(4, .inl 0), (3, .inl 0), (0, .inr (.inr (some 82))), (1, .inl m), (2, .inl bk)], [.inr (.inr (some 102))], (I127, L129, X), 0, 0) rfl (ym_gr hS 19 rfl rfl rfl) ?_
            refine yi_G_run 2 (81, [(4, .inl 0), (3, .inl 0), (0, .inr (.inr (some 82))), (1, .inl m), (2, .inl bk)], [.inr (.inr (some 82)), .inl 0, .inr (.inr (some 102))], (I127, L129, X), 0, 0) (fun _ => rfl) ?_
            refine yi_G_get (84, [(4, .inl 0), (3, .inl 0), (0, .inr (.inr (some 82))), (1, .inl m), (2, .inl bk)], [.inr (.inr (some 102)), .inl 0, .inr (.inr (some 102))], (I127, L129, X), 0, 0) rfl (ym_gr hS 19 rfl rfl rfl) ?_
            refine yi_G_run 1 (85, [(4, .inl 0), (3, .inl 0), (0, .inr (.inr (some 82))), (1, .inl m), (2, .inl bk)], [.inl 0, .inr (.inr (some 102)), .inl 0, .inr (.inr (some 102))], (I127, L129, X), 0, 0) (fun _ => rfl) ?_
            have r131 : I127 102 0 = I 102 0 := by rw [fI127 102 (0) (by omega), ← w2, yi_u_ne _ _ (by omega)]
            refine yi_G_bald (86, [(4, .inl 0), (3, .inl 0), (0, .inr (.inr (some 82))), (1, .inl m), (2, .inl bk)], [.inl (I 102 0), .inl 0, .inr (.inr (some 102))], (I127, L129, X), 0, 0) rfl (ym_lb hS 19 rfl (by omega) (by omega) r131) ?_
            have hb9 : I 102 0 = 0 ∨ I 102 0 = 1 := (hST.2.2 0 (by omega) (by omega)).2.1
            refine yi_G_bast (87, [(4, .inl 0), (3, .inl 0), (0, .inr (.inr (some 82))), (1, .inl m), (2, .inl bk)], [], ((yi_u I127 102 0 (I 102 0)), L129, X), 0, 0) rfl (ym_sb hS 19 rfl (by omega) (by omega) (by omega)) ?_
            generalize w133 : yi_u I127 102 0 (I 102 0) = I132
            refine yi_G_run 1 (88, [(4, .inl 0), (3, .inl 0), (0, .inr (.inr (some 82))), (1, .inl m), (2, .inl bk)], [.inr (.inr (some 82))], (I132, L129, X), 0, 0) (fun _ => rfl) ?_
            refine yi_G_get (91, [(4, .inl 0), (3, .inl 0), (0, .inr (.inr (some 82))), (1, .inl m), (2, .inl bk)], [.inr (.inr (some 101))], (I132, L129, X), 0, 0) rfl (ym_gr hS 18 rfl rfl rfl) ?_
            refine yi_G_run 2 (93, [(4, .inl 0), (3, .inl 0), (0, .inr (.inr (some 82))), (1, .inl m), (2, .inl bk)], [.inl 1, .inl m, .inr (.inr (some 101))], (I132, L129, X), 0, 0) (fun _ => rfl) ?_
            refine yi_G_bast (94, [(4, .inl 0), (3, .inl 0), (0, .inr (.inr (some 82))), (1, .inl m), (2, .inl bk)], [], ((yi_u I132 101 (m.toNat) 1), L129, X), 0, 0) rfl (ym_sb hS 18 rfl (by omega) (by omega) (by omega)) ?_
            generalize w135 : yi_u I132 101 (m.toNat) 1 = I134
            refine yi_G_run 2 (96, [(4, .inl 0), (3, .inl 0), (0, .inr (.inr (some 82))), (1, .inl m), (2, .inl bk)], [.inl bk, .inr (.inr (some 82))], (I134, L129, X), 0, 0) (fun _ => rfl) ?_
            by_cases h136 : bk = 0
            · refine yi_G_if1 true rfl (yi_eq_t h136) ?_
              refine yi_G_run 1 (104, [(4, .inl 0), (3, .inl 0), (0, .inr (.inr (some 82))), (1, .inl m), (2, .inl bk)], [.inr (.inr (some 82)), .inr (.inr (some 82))], (I134, L129, X), 0, 0) (fun _ => rfl) ?_
              have r137 : I134 82 30 = I 82 30 := by rw [← w135, yi_u_ne _ _ (by omega), ← w133, yi_u_ne _ _ (by omega), fI127 82 (30) (by omega), ← w2, yi_u_ne _ _ (by omega)]
              refine yi_G_get (107, [(4, .inl 0), (3, .inl 0), (0, .inr (.inr (some 82))), (1, .inl m), (2, .inl bk)], [.inl (I 82 30), .inr (.inr (some 82))], (I134, L129, X), 0, 0) rfl (ym_gi hS rfl rfl r137) ?_
              have r138 : I134 82 30 = I 82 30 := by rw [← w135, yi_u_ne _ _ (by omega), ← w133, yi_u_ne _ _ (by omega), fI127 82 (30) (by omega), ← w2, yi_u_ne _ _ (by omega)]
              have ub9 := hST.2.1.1
              refine yi_G_put (110, [(4, .inl 0), (3, .inl 0), (0, .inr (.inr (some 82))), (1, .inl m), (2, .inl bk)], [], ((yi_u I134 82 30 (I 82 30)), L129, X), 0, 0) rfl (ym_pi hS rfl rfl) ?_
              generalize w140 : yi_u I134 82 30 (I 82 30) = I139
              refine yi_G_run 1 (111, [(4, .inl 0), (3, .inl 0), (0, .inr (.inr (some 82))), (1, .inl m), (2, .inl bk)], [.inl 1], (I139, L129, X), 0, 0) (fun _ => rfl) ?_
              exact yi_G_retb rfl rfl (by decide) (⟨_, _, _, rfl, (fun p k hp => by rw [← w140, yi_u_ne _ _ (fun z => by omega), ← w135, yi_u_ne _ _ (fun z => by omega), ← w133, yi_u_ne _ _ (fun z => by omega), fI127 p k (by omega), ← w2, yi_u_ne _ _ (fun z => by omega)]), (fun p k hp => by rw [f130 p k (by omega), f124 p k (by omega)]), (by rw [← w140]; exact ym_ST_30 (by rw [← w135]; exact ym_ST_101 (by rw [← w133]; exact ym_ST_102 stI127 (by omega)) (by omega) (ym_SB_t (by omega) (fun k => by rw [← w133, yi_u_ne _ _ (by omega)]) sbI127)) (by omega) (by omega)), mq_1 (by omega) (by first | exact Or.inl (by assumption) | exact Or.inr (by assumption)) (fun k hk => by rw [← w140, yi_u_ne _ _ (fun z => by omega), ← w135, yi_u_ne _ _ (fun z => by omega), ← w133, yi_u_ne _ _ (fun z => by omega), fI127 101 k (by omega), ← w2, yi_u_ne _ _ (fun z => by omega)]) (by rw [← w140, yi_u_ne _ _ (fun z => by omega), ← w135, yi_u_eq])⟩)
            · refine yi_G_if1 false rfl (yi_eq_f h136) ?_
              refine yi_G_run 2 (107, [(4, .inl 0), (3, .inl 0), (0, .inr (.inr (some 82))), (1, .inl m), (2, .inl bk)], [.inl 0, .inr (.inr (some 82))], (I134, L129, X), 0, 0) (fun _ => rfl) ?_
              have r141 : I134 82 30 = I 82 30 := by rw [← w135, yi_u_ne _ _ (by omega), ← w133, yi_u_ne _ _ (by omega), fI127 82 (30) (by omega), ← w2, yi_u_ne _ _ (by omega)]
              have ub9 := hST.2.1.1
              refine yi_G_put (110, [(4, .inl 0), (3, .inl 0), (0, .inr (.inr (some 82))), (1, .inl m), (2, .inl bk)], [], ((yi_u I134 82 30 0), L129, X), 0, 0) rfl (ym_pi hS rfl rfl) ?_
              generalize w143 : yi_u I134 82 30 0 = I142
              refine yi_G_run 1 (111, [(4, .inl 0), (3, .inl 0), (0, .inr (.inr (some 82))), (1, .inl m), (2, .inl bk)], [.inl 1], (I142, L129, X), 0, 0) (fun _ => rfl) ?_
              exact yi_G_retb rfl rfl (by decide) (⟨_, _, _, rfl, (fun p k hp => by rw [← w143, yi_u_ne _ _ (fun z => by omega), ← w135, yi_u_ne _ _ (fun z => by omega), ← w133, yi_u_ne _ _ (fun z => by omega), fI127 p k (by omega), ← w2, yi_u_ne _ _ (fun z => by omega)]), (fun p k hp => by rw [f130 p k (by omega), f124 p k (by omega)]), (by rw [← w143]; exact ym_ST_30 (by rw [← w135]; exact ym_ST_101 (by rw [← w133]; exact ym_ST_102 stI127 (by omega)) (by omega) (ym_SB_t (by omega) (fun k => by rw [← w133, yi_u_ne _ _ (by omega)]) sbI127)) (by omega) (by omega)), mq_1 (by omega) (by first | exact Or.inl (by assumption) | exact Or.inr (by assumption)) (fun k hk => by rw [← w143, yi_u_ne _ _ (fun z => by omega), ← w135, yi_u_ne _ _ (fun z => by omega), ← w133, yi_u_ne _ _ (fun z => by omega), fI127 101 k (by omega), ← w2, yi_u_ne _ _ (fun z => by omega)]) (by rw [← w143, yi_u_ne _ _ (fun z => by omega), ← w135, yi_u_eq])⟩)
        · refine yi_G_if1 false rfl (yi_eq_f h98) ?_
          refine yi_G_run 2 (35, [(0, .inr (.inr (some 82))), (1, .inl m), (2, .inl bk)], [.inl m, .inl 1], (I1, L, X), 0, 0) (fun _ => rfl) ?_
          refine yi_G_iadd rfl (1 + m) (yi_wn (by omega) (by omega)) ?_
          refine yi_G_run 3 (42, [(3, .inl (1 + m)), (0, .inr (.inr (some 82))), (1, .inl m), (2, .inl bk)], [.inl bk], (I1, L, X), 0, 0) (fun _ => rfl) ?_
          by_cases h144 : bk = 0
          · refine yi_G_if1 true rfl (yi_eq_t h144) ?_
            refine yi_G_run 2 (51, [(3, .inl (1 + m)), (0, .inr (.inr (some 82))), (1, .inl m), (2, .inl bk)], [.inl m, .inl 1], (I1, L, X), 0, 0) (fun _ => rfl) ?_
            refine yi_G_iadd rfl (1 + m) (yi_wn (by omega) (by omega)) ?_
            refine yi_G_run 4 (58, [(4, .inl (1 + m)), (3, .inl (1 + m)), (0, .inr (.inr (some 82))), (1, .inl m), (2, .inl bk)], [.inl (1 + m), .inl (1 + m), .inr (.inr (some 82))], (I1, L, X), 0, 0) (fun _ => rfl) ?_
            have stm : ym_ST I1 := (ym_ST_t (fun k => by rw [← w2, yi_u_ne _ _ (by omega)]) (by rw [← w2, yi_u_ne _ _ (by omega)]) (fun k => by rw [← w2, yi_u_ne _ _ (by omega)]) (fun k => by rw [← w2, yi_u_ne _ _ (by omega)]) hST)
            have r145 : I1 101 (m.toNat) = I 101 (m.toNat) := by rw [← w2, yi_u_ne _ _ (by omega)]
            have sbfr : ym_SB I1 (1 + m) := ((stm.2.2 m (by omega) (by omega)).2.2 (by omega) (by omega))
            have r149 : I1 82 25 = I 82 25 := by rw [← w2, yi_u_ne _ _ (by omega)]
            refine yi_G_callv rfl rfl (ym_rcv hS) rfl (c_copies (fr := 1 + m) (to := 1 + m) d (by omega) hS (by omega) (by omega) (by omega) (by omega) (ym_SB_0 sbfr) ⟨(by rw [r149]; omega), (by rw [r149]; omega)⟩) ?_
            rintro _ ⟨L146, rfl, f147⟩
            show yi_G zi_Ms d zi_m82 (61, [(4, .inl (1 + m)), (3, .inl (1 + m)), (0, .inr (.inr (some 82))), (1, .inl m), (2, .inl bk)], [], ((ym_cp I1 (1 + m) (1 + m)), L146, X), 0, 0) _
            refine yi_G_run 3 (65, [(4, .inl (1 + m)), (3, .inl (1 + m)), (0, .inr (.inr (some 82))), (1, .inl m), (2, .inl bk)], [.inl (1 + m), .inl 33, .inr (.inr (some 82))], ((ym_cp I1 (1 + m) (1 + m)), L146, X), 0, 0) (fun _ => rfl) ?_
            refine yi_G_iadd rfl (33 + (1 + m)) (yi_wn (by omega) (by omega)) ?_
            refine yi_G_run 2 (70, [(4, .inl (1 + m)), (3, .inl (1 + m)), (0, .inr (.inr (some 82))), (1, .inl m), (2, .inl bk)], [.inl (1 + m), .inl 33, .inl (33 + (1 + m)), .inr (.inr (some 82))], ((ym_cp I1 (1 + m) (1 + m)), L146, X), 0, 0) (fun _ => rfl) ?_
            refine yi_G_iadd rfl (33 + (1 + m)) (yi_wn (by omega) (by omega)) ?_
            generalize wI150 : ym_cp I1 (1 + m) (1 + m) = I150
            have fI150 : ∀ p k, p ≠ 100 → I150 p k = I1 p k := fun p k hp => by rw [← wI150]; exact ym_cp_p hp
            have stI150 : ym_ST I150 := by rw [← wI150]; exact ym_ST_cp stm sbfr (by omega) (by omega)
            have sbI150 : ym_SB I150 (1 + m) := by rw [← wI150]; exact False.elim (by omega)
            have r151 : I150 82 25 = I 82 25 := by rw [fI150 82 (25) (by omega), ← w2, yi_u_ne _ _ (by omega)]
            refine yi_G_callv rfl rfl (ym_rcv hS) rfl (w_copiesRow (by omega) hS (by omega) (by omega) (by omega) (by omega) (by rw [r151]; omega) (by rw [r151]; omega)) ?_
            rintro _ ⟨L152, rfl, f153⟩
            show yi_G zi_Ms d zi_m82 (74, [(4, .inl (1 + m)), (3, .inl (1 + m)), (0, .inr (.inr (some 82))), (1, .inl m), (2, .inl bk)], [], (I150, L152, X), 0, 0) _
            refine yi_G_run 1 (75, [(4, .inl (1 + m)), (3, .inl (1 + m)), (0, .inr (.inr (some 82))), (1, .inl m), (2, .inl bk)], [.inr (.inr (some 82))], (I150, L152, X), 0, 0) (fun _ => rfl) ?_
            refine yi_G_get (78, [(4, .inl (1 + m)), (3, .inl (1 + m)), (0, .inr (.inr (some 82))), (1, .inl m), (2, .inl bk)], [.inr (.inr (some 102))], (I150, L152, X), 0, 0) rfl (ym_gr hS 19 rfl rfl rfl) ?_
            refine yi_G_run 2 (81, [(4, .inl (1 + m)), (3, .inl (1 + m)), (0, .inr (.inr (some 82))), (1, .inl m), (2, .inl bk)], [.inr (.inr (some 82)), .inl (1 + m), .inr (.inr (some 102))], (I150, L152, X), 0, 0) (fun _ => rfl) ?_
            refine yi_G_get (84, [(4, .inl (1 + m)), (3, .inl (1 + m)), (0, .inr (.inr (some 82))), (1, .inl m), (2, .inl bk)], [.inr (.inr (some 102)), .inl (1 + m), .inr (.inr (some 102))], (I150, L152, X), 0, 0) rfl (ym_gr hS 19 rfl rfl rfl) ?_
            refine yi_G_run 1 (85, [(4, .inl (1 + m)), (3, .inl (1 + m)), (0, .inr (.inr (some 82))), (1, .inl m), (2, .inl bk)], [.inl (1 + m), .inr (.inr (some 102)), .inl (1 + m), .inr (.inr (some 102))], (I150, L152, X), 0, 0) (fun _ => rfl) ?_
            have r154 : I150 102 ((1 + m).toNat) = I 102 ((1 + m).toNat) := by rw [fI150 102 ((1 + m).toNat) (by omega), ← w2, yi_u_ne _ _ (by omega)]
            refine yi_G_bald (86, [(4, .inl (1 + m)), (3, .inl (1 + m)), (0, .inr (.inr (some 82))), (1, .inl m), (2, .inl bk)], [.inl (I 102 ((1 + m).toNat)), .inl (1 + m), .inr (.inr (some 102))], (I150, L152, X), 0, 0) rfl (ym_lb hS 19 rfl (by omega) (by omega) r154) ?_
            have hb9 := (hST.2.2 (1 + m) (by omega) (by omega)).2.1
            refine yi_G_bast (87, [(4, .inl (1 + m)), (3, .inl (1 + m)), (0, .inr (.inr (some 82))), (1, .inl m), (2, .inl bk)], [], ((yi_u I150 102 ((1 + m).toNat) (I 102 ((1 + m).toNat))), L152, X), 0, 0) rfl (ym_sb hS 19 rfl (by omega) (by omega) (by omega)) ?_
            generalize w156 : yi_u I150 102 ((1 + m).toNat) (I 102 ((1 + m).toNat)) = I155
            refine yi_G_run 1 (88, [(4, .inl (1 + m)), (3, .inl (1 + m)), (0, .inr (.inr (some 82))), (1, .inl m), (2, .inl bk)], [.inr (.inr (some 82))], (I155, L152, X), 0, 0) (fun _ => rfl) ?_
            refine yi_G_get (91, [(4, .inl (1 + m)), (3, .inl (1 + m)), (0, .inr (.inr (some 82))), (1, .inl m), (2, .inl bk)], [.inr (.inr (some 101))], (I155, L152, X), 0, 0) rfl (ym_gr hS 18 rfl rfl rfl) ?_
            refine yi_G_run 2 (93, [(4, .inl (1 + m)), (3, .inl (1 + m)), (0, .inr (.inr (some 82))), (1, .inl m), (2, .inl bk)], [.inl 1, .inl m, .inr (.inr (some 101))], (I155, L152, X), 0, 0) (fun _ => rfl) ?_
            refine yi_G_bast (94, [(4, .inl (1 + m)), (3, .inl (1 + m)), (0, .inr (.inr (some 82))), (1, .inl m), (2, .inl bk)], [], ((yi_u I155 101 (m.toNat) 1), L152, X), 0, 0) rfl (ym_sb hS 18 rfl (by omega) (by omega) (by omega)) ?_
            generalize w158 : yi_u I155 101 (m.toNat) 1 = I157
            refine yi_G_run 2 (96, [(4, .inl (1 + m)), (3, .inl (1 + m)), (0, .inr (.inr (some 82))), (1, .inl m), (2, .inl bk)], [.inl bk, .inr (.inr (some 82))], (I157, L152, X), 0, 0) (fun _ => rfl) ?_
            by_cases h159 : bk = 0
            · refine yi_G_if1 true rfl (yi_eq_t h159) ?_
              refine yi_G_run 1 (104, [(4, .inl (1 + m)), (3, .inl (1 + m)), (0, .inr (.inr (some 82))), (1, .inl m), (2, .inl bk)], [.inr (.inr (some 82)), .inr (.inr (some 82))], (I157, L152, X), 0, 0) (fun _ => rfl) ?_
              have r160 : I157 82 30 = I 82 30 := by rw [← w158, yi_u_ne _ _ (by omega), ← w156, yi_u_ne _ _ (by omega), fI150 82 (30) (by omega), ← w2, yi_u_ne _ _ (by omega)]
              refine yi_G_get (107, [(4, .inl (1 + m)), (3, .inl (1 + m)), (0, .inr (.inr (some 82))), (1, .inl m), (2, .inl bk)], [.inl (I 82 30), .inr (.inr (some 82))], (I157, L152, X), 0, 0) rfl (ym_gi hS rfl rfl r160) ?_
              have r161 : I157 82 30 = I 82 30 := by rw [← w158, yi_u_ne _ _ (by omega), ← w156, yi_u_ne _ _ (by omega), fI150 82 (30) (by omega), ← w2, yi_u_ne _ _ (by omega)]
              have ub9 := hST.2.1.1
              refine yi_G_put (110, [(4, .inl (1 + m)), (3, .inl (1 + m)), (0, .inr (.inr (some 82))), (1, .inl m), (2, .inl bk)], [], ((yi_u I157 82 30 (I 82 30)), L152, X), 0, 0) rfl (ym_pi hS rfl rfl) ?_
              generalize w163 : yi_u I157 82 30 (I 82 30) = I162
              refine yi_G_run 1 (111, [(4, .inl (1 + m)), (3, .inl (1 + m)), (0, .inr (.inr (some 82))), (1, .inl m), (2, .inl bk)], [.inl 1], (I162, L152, X), 0, 0) (fun _ => rfl) ?_
              exact yi_G_retb rfl rfl (by decide) (⟨_, _, _, rfl, (fun p k hp => by rw [← w163, yi_u_ne _ _ (fun z => by omega), ← w158, yi_u_ne _ _ (fun z => by omega), ← w156, yi_u_ne _ _ (fun z => by omega), fI150 p k (by omega), ← w2, yi_u_ne _ _ (fun z => by omega)]), (fun p k hp => by rw [f153 p k (by omega), f147 p k (by omega)]), (by rw [← w163]; exact ym_ST_30 (by rw [← w158]; exact ym_ST_101 (by rw [← w156]; exact ym_ST_102 stI150 (by omega)) (by omega) (ym_SB_t (by omega) (fun k => by rw [← w156, yi_u_ne _ _ (by omega)]) sbI150)) (by omega) (by omega)), mq_1 (by omega) (by first | exact Or.inl (by assumption) | exact Or.inr (by assumption)) (fun k hk => by rw [← w163, yi_u_ne _ _ (fun z => by omega), ← w158, yi_u_ne _ _ (fun z => by omega), ← w156, yi_u_ne _ _ (fun z => by omega), fI150 101 k (by omega), ← w2, yi_u_ne _ _ (fun z => by omega)]) (by rw [← w163, yi_u_ne _ _ (fun z => by omega), ← w158, yi_u_eq])⟩)
            · refine yi_G_if1 false rfl (yi_eq_f h159) ?_
              refine yi_G_run 2 (107, [(4, .inl (1 + m)), (3, .inl (1 + m)), (0, .inr (.inr (some 82))), (1, .inl m), (2, .inl bk)], [.inl 0, .inr (.inr (some 82))], (I157, L152, X), 0, 0) (fun _ => rfl) ?_
              have r164 : I157 82 30 = I 82 30 := by rw [← w158, yi_u_ne _ _ (by omega), ← w156, yi_u_ne _ _ (by omega), fI150 82 (30) (by omega), ← w2, yi_u_ne _ _ (by omega)]
              have ub9 := hST.2.1.1
              refine yi_G_put (110, [(4, .inl (1 + m)), (3, .inl (1 + m)), (0, .inr (.inr (some 82))), (1, .inl m), (2, .inl bk)], [], ((yi_u I157 82 30 0), L152, X), 0, 0) rfl (ym_pi hS rfl rfl) ?_
              generalize w166 : yi_u I157 82 30 0 = I165
              refine yi_G_run 1 (111, [(4, .inl (1 + m)), (3, .inl (1 + m)), (0, .inr (.inr (some 82))), (1, .inl m), (2, .inl bk)], [.inl 1], (I165, L152, X), 0, 0) (fun _ => rfl) ?_
              exact yi_G_retb rfl rfl (by decide) (⟨_, _, _, rfl, (fun p k hp => by rw [← w166, yi_u_ne _ _ (fun z => by omega), ← w158, yi_u_ne _ _ (fun z => by omega), ← w156, yi_u_ne _ _ (fun z => by omega), fI150 p k (by omega), ← w2, yi_u_ne _ _ (fun z => by omega)]), (fun p k hp => by rw [f153 p k (by omega), f147 p k (by omega)]), (by rw [← w166]; exact ym_ST_30 (by rw [← w158]; exact ym_ST_101 (by rw [← w156]; exact ym_ST_102 stI150 (by omega)) (by omega) (ym_SB_t (by omega) (fun k => by rw [← w156, yi_u_ne _ _ (by omega)]) sbI150)) (by omega) (by omega)), mq_1 (by omega) (by first | exact Or.inl (by assumption) | exact Or.inr (by assumption)) (fun k hk => by rw [← w166, yi_u_ne _ _ (fun z => by omega), ← w158, yi_u_ne _ _ (fun z => by omega), ← w156, yi_u_ne _ _ (fun z => by omega), fI150 101 k (by omega), ← w2, yi_u_ne _ _ (fun z => by omega)]) (by rw [← w166, yi_u_ne _ _ (fun z => by omega), ← w158, yi_u_eq])⟩)
          · refine yi_G_if1 false rfl (yi_eq_f h144) ?_
            refine yi_G_run 6 (58, [(4, .inl 0), (3, .inl (1 + m)), (0, .inr (.inr (some 82))), (1, .inl m), (2, .inl bk)], [.inl 0, .inl (1 + m), .inr (.inr (some 82))], (I1, L, X), 0, 0) (fun _ => rfl) ?_
            have stm : ym_ST I1 := (ym_ST_t (fun k => by rw [← w2, yi_u_ne _ _ (by omega)]) (by rw [← w2, yi_u_ne _ _ (by omega)]) (fun k => by rw [← w2, yi_u_ne _ _ (by omega)]) (fun k => by rw [← w2, yi_u_ne _ _ (by omega)]) hST)
            have r167 : I1 101 (m.toNat) = I 101 (m.toNat) := by rw [← w2, yi_u_ne _ _ (by omega)]
            have sbfr : ym_SB I1 (1 + m) := ((stm.2.2 m (by omega) (by omega)).2.2 (by omega) (by omega))
            have r171 : I1 82 25 = I 82 25 := by rw [← w2, yi_u_ne _ _ (by omega)]
            refine yi_G_callv rfl rfl (ym_rcv hS) rfl (c_copies (fr := 1 + m) (to := 0) d (by omega) hS (by omega) (by omega) (by omega) (by omega) (ym_SB_0 sbfr) ⟨(by rw [r171]; omega), (by rw [r171]; omega)⟩) ?_
            rintro _ ⟨L168, rfl, f169⟩
            show yi_G zi_Ms d zi_m82 (61, [(4, .inl 0), (3, .inl (1 + m)), (0, .inr (.inr (some 82))), (1, .inl m), (2, .inl bk)], [], ((ym_cp I1 (1 + m) 0), L168, X), 0, 0) _
            refine yi_G_run 3 (65, [(4, .inl 0), (3, .inl (1 + m)), (0, .inr (.inr (some 82))), (1, .inl m), (2, .inl bk)], [.inl (1 + m), .inl 33, .inr (.inr (some 82))], ((ym_cp I1 (1 + m) 0), L168, X), 0, 0) (fun _ => rfl) ?_
            refine yi_G_iadd rfl (33 + (1 + m)) (yi_wn (by omega) (by omega)) ?_
            refine yi_G_run 2 (70, [(4, .inl 0), (3, .inl (1 + m)), (0, .inr (.inr (some 82))), (1, .inl m), (2, .inl bk)], [.inl 0, .inl 33, .inl (33 + (1 + m)), .inr (.inr (some 82))], ((ym_cp I1 (1 + m) 0), L168, X), 0, 0) (fun _ => rfl) ?_
            refine yi_G_iadd rfl (33) (by decide) ?_
            generalize wI172 : ym_cp I1 (1 + m) 0 = I172
            have fI172 : ∀ p k, p ≠ 100 → I172 p k = I1 p k := fun p k hp => by rw [← wI172]; exact ym_cp_p hp
            have stI172 : ym_ST I172 := by rw [← wI172]; exact ym_ST_cp stm sbfr (by omega) (by omega)
            have sbI172 : ym_SB I172 (1 + m) := by rw [← wI172]; exact ym_cp_ne (by omega) (by omega) (by omega) sbfr
            have r173 : I172 82 25 = I 82 25 := by rw [fI172 82 (25) (by omega), ← w2, yi_u_ne _ _ (by omega)]
            refine yi_G_callv rfl rfl (ym_rcv hS) rfl (w_copiesRow (by omega) hS (by omega) (by omega) (by omega) (by omega) (by rw [r173]; omega) (by rw [r173]; omega)) ?_
            rintro _ ⟨L174, rfl, f175⟩
            show yi_G zi_Ms d zi_m82 (74, [(4, .inl 0), (3, .inl (1 + m)), (0, .inr (.inr (some 82))), (1, .inl m), (2, .inl bk)], [], (I172, L174, X), 0, 0) _
            refine yi_G_run 1 (75, [(4, .inl 0), (3, .inl (1 + m)), (0, .inr (.inr (some 82))), (1, .inl m), (2, .inl bk)], [.inr (.inr (some 82))], (I172, L174, X), 0, 0) (fun _ => rfl) ?_
            refine yi_G_get (78, [(4, .inl 0), (3, .inl (1 + m)), (0, .inr (.inr (some 82))), (1, .inl m), (2, .inl bk)], [.inr (.inr (some 102))], (I172, L174, X), 0, 0) rfl (ym_gr hS 19 rfl rfl rfl) ?_
            refine yi_G_run 2 (81, [(4, .inl 0), (3, .inl (1 + m)), (0, .inr (.inr (some 82))), (1, .inl m), (2, .inl bk)], [.inr (.inr (some 82)), .inl 0, .inr (.inr (some 102))], (I172, L174, X), 0, 0) (fun _ => rfl) ?_
            refine yi_G_get (84, [(4, .inl 0), (3, .inl (1 + m)), (0, .inr (.inr (some 82))), (1, .inl m), (2, .inl bk)], [.inr (.inr (some 102)), .inl 0, .inr (.inr (some 102))], (I172, L174, X), 0, 0) rfl (ym_gr hS 19 rfl rfl rfl) ?_
            refine yi_G_run 1 (85, [(4, .inl 0), (3, .inl (1 + m)), (0, .inr (.inr (some 82))), (1, .inl m), (2, .inl bk)], [.inl (1 + m), .inr (.inr (some 102)), .inl 0, .inr (.inr (some 102))], (I172, L174, X), 0, 0) (fun _ => rfl) ?_
            have r176 : I172 102 ((1 + m).toNat) = I 102 ((1 + m).toNat) := by rw [fI172 102 ((1 + m).toNat) (by omega), ← w2, yi_u_ne _ _ (by omega)]
            refine yi_G_bald (86, [(4, .inl 0), (3, .inl (1 + m)), (0, .inr (.inr (some 82))), (1, .inl m), (2, .inl bk)], [.inl (I 102 ((1 + m).toNat)), .inl 0, .inr (.inr (some 102))], (I172, L174, X), 0, 0) rfl (ym_lb hS 19 rfl (by omega) (by omega) r176) ?_
            have hb9 := (hST.2.2 (1 + m) (by omega) (by omega)).2.1
            refine yi_G_bast (87, [(4, .inl 0), (3, .inl (1 + m)), (0, .inr (.inr (some 82))), (1, .inl m), (2, .inl bk)], [], ((yi_u I172 102 0 (I 102 ((1 + m).toNat))), L174, X), 0, 0) rfl (ym_sb hS 19 rfl (by omega) (by omega) (by omega)) ?_
            generalize w178 : yi_u I172 102 0 (I 102 ((1 + m).toNat)) = I177
            refine yi_G_run 1 (88, [(4, .inl 0), (3, .inl (1 + m)), (0, .inr (.inr (some 82))), (1, .inl m), (2, .inl bk)], [.inr (.inr (some 82))], (I177, L174, X), 0, 0) (fun _ => rfl) ?_
            refine yi_G_get (91, [(4, .inl 0), (3, .inl (1 + m)), (0, .inr (.inr (some 82))), (1, .inl m), (2, .inl bk)], [.inr (.inr (some 101))], (I177, L174, X), 0, 0) rfl (ym_gr hS 18 rfl rfl rfl) ?_
            refine yi_G_run 2 (93, [(4, .inl 0), (3, .inl (1 + m)), (0, .inr (.inr (some 82))), (1, .inl m), (2, .inl bk)], [.inl 1, .inl m, .inr (.inr (some 101))], (I177, L174, X), 0, 0) (fun _ => rfl) ?_
            refine yi_G_bast (94, [(4, .inl 0), (3, .inl (1 + m)), (0, .inr (.inr (some 82))), (1, .inl m), (2, .inl bk)], [], ((yi_u I177 101 (m.toNat) 1), L174, X), 0, 0) rfl (ym_sb hS 18 rfl (by omega) (by omega) (by omega)) ?_
            generalize w180 : yi_u I177 101 (m.toNat) 1 = I179
            refine yi_G_run 2 (96, [(4, .inl 0), (3, .inl (1 + m)), (0, .inr (.inr (some 82))), (1, .inl m), (2, .inl bk)], [.inl bk, .inr (.inr (some 82))], (I179, L174, X), 0, 0) (fun _ => rfl) ?_
            by_cases h181 : bk = 0
            · refine yi_G_if1 true rfl (yi_eq_t h181) ?_
              refine yi_G_run 1 (104, [(4, .inl 0), (3, .inl (1 + m)), (0, .inr (.inr (some 82))), (1, .inl m), (2, .inl bk)], [.inr (.inr (some 82)), .inr (.inr (some 82))], (I179, L174, X), 0, 0) (fun _ => rfl) ?_
              have r182 : I179 82 30 = I 82 30 := by rw [← w180, yi_u_ne _ _ (by omega), ← w178, yi_u_ne _ _ (by omega), fI172 82 (30) (by omega), ← w2, yi_u_ne _ _ (by omega)]
              refine yi_G_get (107, [(4, .inl 0), (3, .inl (1 + m)), (0, .inr (.inr (some 82))), (1, .inl m), (2, .inl bk)], [.inl (I 82 30), .inr (.inr (some 82))], (I179, L174, X), 0, 0) rfl (ym_gi hS rfl rfl r182) ?_
              have r183 : I179 82 30 = I 82 30 := by rw [← w180, yi_u_ne _ _ (by omega), ← w178, yi_u_ne _ _ (by omega), fI172 82 (30) (by omega), ← w2, yi_u_ne _ _ (by omega)]
              have ub9 := hST.2.1.1
              refine yi_G_put (110, [(4, .inl 0), (3, .inl (1 + m)), (0, .inr (.inr (some 82))), (1, .inl m), (2, .inl bk)], [], ((yi_u I179 82 30 (I 82 30)), L174, X), 0, 0) rfl (ym_pi hS rfl rfl) ?_
              generalize w185 : yi_u I179 82 30 (I 82 30) = I184
              refine yi_G_run 1 (111, [(4, .inl 0), (3, .inl (1 + m)), (0, .inr (.inr (some 82))), (1, .inl m), (2, .inl bk)], [.inl 1], (I184, L174, X), 0, 0) (fun _ => rfl) ?_
              exact yi_G_retb rfl rfl (by decide) (⟨_, _, _, rfl, (fun p k hp => by rw [← w185, yi_u_ne _ _ (fun z => by omega), ← w180, yi_u_ne _ _ (fun z => by omega), ← w178, yi_u_ne _ _ (fun z => by omega), fI172 p k (by omega), ← w2, yi_u_ne _ _ (fun z => by omega)]), (fun p k hp => by rw [f175 p k (by omega), f169 p k (by omega)]), (by rw [← w185]; exact ym_ST_30 (by rw [← w180]; exact ym_ST_101 (by rw [← w178]; exact ym_ST_102 stI172 (by omega)) (by omega) (ym_SB_t (by omega) (fun k => by rw [← w178, yi_u_ne _ _ (by omega)]) sbI172)) (by omega) (by omega)), mq_1 (by omega) (by first | exact Or.inl (by assumption) | exact Or.inr (by assumption)) (fun k hk => by rw [← w185, yi_u_ne _ _ (fun z => by omega), ← w180, yi_u_ne _ _ (fun z => by omega), ← w178, yi_u_ne _ _ (fun z => by omega), fI172 101 k (by omega), ← w2, yi_u_ne _ _ (fun z => by omega)]) (by rw [← w185, yi_u_ne _ _ (fun z => by omega), ← w180, yi_u_eq])⟩)
            · refine yi_G_if1 false rfl (yi_eq_f h181) ?_
              refine yi_G_run 2 (107, [(4, .inl 0), (3, .inl (1 + m)), (0, .inr (.inr (some 82))), (1, .inl m), (2, .inl bk)], [.inl 0, .inr (.inr (some 82))], (I179, L174, X), 0, 0) (fun _ => rfl) ?_
              have r186 : I179 82 30 = I 82 30 := by rw [← w180, yi_u_ne _ _ (by omega), ← w178, yi_u_ne _ _ (by omega), fI172 82 (30) (by omega), ← w2, yi_u_ne _ _ (by omega)]
              have ub9 := hST.2.1.1
              refine yi_G_put (110, [(4, .inl 0), (3, .inl (1 + m)), (0, .inr (.inr (some 82))), (1, .inl m), (2, .inl bk)], [], ((yi_u I179 82 30 0), L174, X), 0, 0) rfl (ym_pi hS rfl rfl) ?_
              generalize w188 : yi_u I179 82 30 0 = I187
              refine yi_G_run 1 (111, [(4, .inl 0), (3, .inl (1 + m)), (0, .inr (.inr (some 82))), (1, .inl m), (2, .inl bk)], [.inl 1], (I187, L174, X), 0, 0) (fun _ => rfl) ?_
              exact yi_G_retb rfl rfl (by decide) (⟨_, _, _, rfl, (fun p k hp => by rw [← w188, yi_u_ne _ _ (fun z => by omega), ← w180, yi_u_ne _ _ (fun z => by omega), ← w178, yi_u_ne _ _ (fun z => by omega), fI172 p k (by omega), ← w2, yi_u_ne _ _ (fun z => by omega)]), (fun p k hp => by rw [f175 p k (by omega), f169 p k (by omega)]), (by rw [← w188]; exact ym_ST_30 (by rw [← w180]; exact ym_ST_101 (by rw [← w178]; exact ym_ST_102 stI172 (by omega)) (by omega) (ym_SB_t (by omega) (fun k => by rw [← w178, yi_u_ne _ _ (by omega)]) sbI172)) (by omega) (by omega)), mq_1 (by omega) (by first | exact Or.inl (by assumption) | exact Or.inr (by assumption)) (fun k hk => by rw [← w188, yi_u_ne _ _ (fun z => by omega), ← w180, yi_u_ne _ _ (fun z => by omega), ← w178, yi_u_ne _ _ (fun z => by omega), fI172 101 k (by omega), ← w2, yi_u_ne _ _ (fun z => by omega)]) (by rw [← w188, yi_u_ne _ _ (fun z => by omega), ← w180, yi_u_eq])⟩)
  · show yi_G zi_Ms d zi_m82 (11, [(0, .inr (.inr (some 82))), (1, .inl m), (2, .inl bk)], [.inl 0], (I1, L, X), 0, 0) _
    refine yi_G_if1 true rfl (by decide) ?_
    refine yi_G_run 1 (28, [(0, .inr (.inr (some 82))), (1, .inl m), (2, .inl bk)], [.inl 0], (I1, L, X), 0, 0) (fun _ => rfl) ?_
    exact yi_G_retb rfl rfl (by decide) (⟨_, _, _, rfl, (fun p k hp => by rw [← w2, yi_u_ne _ _ (fun z => by omega)]), (fun _ _ _ => rfl), (ym_ST_t (fun k => by rw [← w2, yi_u_ne _ _ (by omega)]) (by rw [← w2, yi_u_ne _ _ (by omega)]) (fun k => by rw [← w2, yi_u_ne _ _ (by omega)]) (fun k => by rw [← w2, yi_u_ne _ _ (by omega)]) hST), mq_0 (fun h => by omega) (fun k => by rw [← w2, yi_u_ne _ _ (fun z => by omega)])⟩)
theorem c_landM (D : Nat) (hD : 40 ≤ D) {I L : Nat → Nat → Int} {X : ym_X} (hS : ym_S X) (hIV : ym_IV I) : yi_E zi_Ms D 72 [.inr (.inr (some 82))] (I, L, X) (fun r => ∃ z I' L', r = (some (.inl z), (I', L', X), 0, 0) ∧ I' 82 2 = 0 ∧ ym_IV I' ∧ (∀ p k, (p < 82 ∨ 108 < p ∨ p = 83 ∨ p = 87) → I' p k = I p k) ∧ (∀ p k, (p < 82 ∨ 108 < p ∨ p = 83 ∨ p = 87) → L' p k = L p k) ∧ ((z = 0 ∧ ∀ k : Nat, k < 4 → I' 101 k = 0) ∨ (¬ z = 0 ∧ ∀ k : Nat, I' 101 k = I 101 k))) := by
  obtain ⟨d, rfl⟩ : ∃ d, D = d + 1 := ⟨D - 1, by omega⟩
  refine yi_E_of (M := zi_m72) rfl rfl ?_
  obtain ⟨hLR, hPK, hPW, hST, hF, hl, n0, n1, t9, hFo⟩ := id hIV
  obtain ⟨l0, l1, l2, l3, l4, l5⟩ := id hLR
  have fo0 : ∀ da : Int, 1 ≤ ym_fo da 0 0 := fun da => by unfold ym_fo; rw [if_neg (by omega)]; decide
  show yi_G zi_Ms d zi_m72 (0, [(0, .inr (.inr (some 82)))], [], (I, L, X), 0, 0) _
  refine yi_G_run 2 (2, [(0, .inr (.inr (some 82)))], [.inl 0, .inr (.inr (some 82))], (I, L, X), 0, 0) (fun _ => rfl) ?_
  refine yi_G_put (5, [(0, .inr (.inr (some 82)))], [], ((yi_u I 82 0 0), L, X), 0, 0) rfl (ym_pi hS rfl rfl) ?_
  generalize w2 : yi_u I 82 0 0 = I1
  refine yi_G_run 1 (6, [(0, .inr (.inr (some 82)))], [.inr (.inr (some 82))], (I1, L, X), 0, 0) (fun _ => rfl) ?_
  have r3 : I1 82 2 = I 82 2 := by rw [← w2, yi_u_ne _ _ (by omega)]
  refine yi_G_callv rfl rfl (ym_rcv hS) rfl (c_cutAll d (by omega) hS ⟨by omega, by omega⟩) ?_
  rintro _ ⟨I4, L6, te, rfl, f5, f7, hTI4, c2I4, c7I4, c8I4⟩
  obtain ⟨te0, te1, te2⟩ := id hTI4
  show yi_G zi_Ms d zi_m72 (9, [(0, .inr (.inr (some 82)))], [], (I4, L6, X), 0, 0) _
  refine yi_G_run 2 (11, [(0, .inr (.inr (some 82)))], [.inl 0, .inr (.inr (some 82))], (I4, L6, X), 0, 0) (fun _ => rfl) ?_
  refine yi_G_put (14, [(0, .inr (.inr (some 82)))], [], ((yi_u I4 82 13 0), L6, X), 0, 0) rfl (ym_pi hS rfl rfl) ?_
  generalize w9 : yi_u I4 82 13 0 = I8
  refine yi_G_run 2 (16, [(0, .inr (.inr (some 82)))], [.inl 0, .inr (.inr (some 82))], (I8, L6, X), 0, 0) (fun _ => rfl) ?_
  refine yi_G_put (19, [(0, .inr (.inr (some 82)))], [], ((yi_u I8 82 19 0), L6, X), 0, 0) rfl (ym_pi hS rfl rfl) ?_
  generalize w11 : yi_u I8 82 19 0 = I10
  refine yi_G_run 2 (22, [(0, .inr (.inr (some 82)))], [.inl 50, .inr (.inr (some 82))], (I10, L6, X), 0, 0) (fun _ => rfl) ?_
  refine yi_G_put (25, [(0, .inr (.inr (some 82)))], [], ((yi_u I10 82 20 50), L6, X), 0, 0) rfl (ym_pi hS rfl rfl) ?_
  generalize w13 : yi_u I10 82 20 50 = I12
  refine yi_G_run 2 (28, [(0, .inr (.inr (some 82)))], [.inl 50, .inr (.inr (some 82))], (I12, L6, X), 0, 0) (fun _ => rfl) ?_
  refine yi_G_callv rfl rfl (ym_rcv hS) rfl (c_stands d (by omega) hS) ?_
  rintro _ ⟨I14, rfl, f15, slo, shi⟩
  have sh50 := shi 50 (by omega) (by omega)
  have sh51 := shi 51 (by omega) (by omega)
  have sh52 := shi 52 (by omega) (by omega)
  have sh53 := shi 53 (by omega) (by omega)
  have sh54 := shi 54 (by omega) (by omega)
  have sh55 := shi 55 (by omega) (by omega)
  have sh56 := shi 56 (by omega) (by omega)
  rw [if_neg (by omega)] at sh50 sh51 sh52 sh53 sh54 sh55
  rw [if_pos rfl] at sh56
  show yi_G zi_Ms d zi_m72 (31, [(0, .inr (.inr (some 82)))], [], (I14, L6, X), 0, 0) _
  refine yi_G_run 2 (33, [(0, .inr (.inr (some 82)))], [.inl 0, .inr (.inr (some 82))], (I14, L6, X), 0, 0) (fun _ => rfl) ?_
  have r16 : I14 82 7 = 0 := by rw [f15 82 (7) (by omega), ← w13, yi_u_ne _ _ (by omega), ← w11, yi_u_ne _ _ (by omega), ← w9, yi_u_ne _ _ (by omega), c7I4]
  have r17 : I14 82 8 = 0 := by rw [f15 82 (8) (by omega), ← w13, yi_u_ne _ _ (by omega), ← w11, yi_u_ne _ _ (by omega), ← w9, yi_u_ne _ _ (by omega), c8I4]
  refine yi_G_callv rfl rfl (ym_rcv hS) rfl (c_takeWord d (by omega) hS ⟨by omega, by omega⟩ (ym_TK_t (fun k => by rw [f15 84 k (by omega), ← w13, yi_u_ne _ _ (fun z => absurd z.1 (by decide)), ← w11, yi_u_ne _ _ (fun z => absurd z.1 (by decide)), ← w9, yi_u_ne _ _ (fun z => absurd z.1 (by decide))]) (fun k => by rw [f15 85 k (by omega), ← w13, yi_u_ne _ _ (fun z => absurd z.1 (by decide)), ← w11, yi_u_ne _ _ (fun z => absurd z.1 (by decide)), ← w9, yi_u_ne _ _ (fun z => absurd z.1 (by decide))]) hTI4) ⟨by omega, by omega⟩ (by omega)) ?_
  rintro _ ⟨I18, rfl, f19, h20a, h20b, h20c⟩
  show yi_G zi_Ms d zi_m72 (36, [(0, .inr (.inr (some 82)))], [], (I18, L6, X), 0, 0) _
  refine yi_G_run 1 (37, [(0, .inr (.inr (some 82)))], [.inr (.inr (some 82))], (I18, L6, X), 0, 0) (fun _ => rfl) ?_
  refine yi_G_get (40, [(0, .inr (.inr (some 82)))], [.inr (.inr (some 88))], (I18, L6, X), 0, 0) rfl (ym_gr hS 5 rfl rfl rfl) ?_
  refine yi_G_run 4 (46, [(0, .inr (.inr (some 82)))], [.inl 6, .inl 1, .inr (.inr (some 82)), .inl 50, .inr (.inr (some 88))], (I18, L6, X), 0, 0) (fun _ => rfl) ?_
  refine yi_G_callv rfl rfl (ym_rcv hS) rfl (c_takeNumber d (by omega) hS (by omega) (by omega) (ym_TK_t (fun k => by rw [f19 84 k (by omega), f15 84 k (by omega), ← w13, yi_u_ne _ _ (fun z => absurd z.1 (by decide)), ← w11, yi_u_ne _ _ (fun z => absurd z.1 (by decide)), ← w9, yi_u_ne _ _ (fun z => absurd z.1 (by decide))]) (fun k => by rw [f19 85 k (by omega), f15 85 k (by omega), ← w13, yi_u_ne _ _ (fun z => absurd z.1 (by decide)), ← w11, yi_u_ne _ _ (fun z => absurd z.1 (by decide)), ← w9, yi_u_ne _ _ (fun z => absurd z.1 (by decide))]) hTI4) ⟨by omega, by omega⟩ (by omega)) ?_
  rintro _ ⟨z23, I21, rfl, f22, h24a, h24b, h24c⟩
  show yi_G zi_Ms d zi_m72 (49, [(0, .inr (.inr (some 82)))], [.inl z23, .inl 50, .inr (.inr (some 88))], (I21, L6, X), 0, 0) _
  refine yi_G_iast (50, [(0, .inr (.inr (some 82)))], [], ((yi_u I21 88 50 z23), L6, X), 0, 0) rfl (ym_si hS 5 rfl (by omega) (by omega)) ?_
  generalize w26 : yi_u I21 88 50 z23 = I25
  refine yi_G_run 2 (53, [(0, .inr (.inr (some 82)))], [.inl 59, .inr (.inr (some 82))], (I25, L6, X), 0, 0) (fun _ => rfl) ?_
  have r27 : I25 82 7 = I21 82 7 := by rw [← w26, yi_u_ne _ _ (by omega)]
  have r28 : I25 82 8 = I21 82 8 := by rw [← w26, yi_u_ne _ _ (by omega)]
  refine yi_G_callv rfl rfl (ym_rcv hS) rfl (c_takeSign d (by omega) hS (ym_TK_t (fun k => by rw [← w26, yi_u_ne _ _ (fun z => absurd z.1 (by decide)), f22 84 k (by omega), f19 84 k (by omega), f15 84 k (by omega), ← w13, yi_u_ne _ _ (fun z => absurd z.1 (by decide)), ← w11, yi_u_ne _ _ (fun z => absurd z.1 (by decide)), ← w9, yi_u_ne _ _ (fun z => absurd z.1 (by decide))]) (fun k => by rw [← w26, yi_u_ne _ _ (fun z => absurd z.1 (by decide)), f22 85 k (by omega), f19 85 k (by omega), f15 85 k (by omega), ← w13, yi_u_ne _ _ (fun z => absurd z.1 (by decide)), ← w11, yi_u_ne _ _ (fun z => absurd z.1 (by decide)), ← w9, yi_u_ne _ _ (fun z => absurd z.1 (by decide))]) hTI4) ⟨by omega, by omega⟩ (by omega)) ?_
  rintro _ ⟨I29, rfl, f30, h31a, h31b, h31c⟩
  show yi_G zi_Ms d zi_m72 (56, [(0, .inr (.inr (some 82)))], [], (I29, L6, X), 0, 0) _
  have pt56 : ∀ (m : Nat) (Ja : Nat → Nat → Int) (Ka : Nat → Nat → Int), (∀ p k, ¬ (p = 82 ∧ k = 7) ∧ ¬ (p = 82 ∧ k = 8) ∧ ¬ (p = 82 ∧ k = 13) ∧ ¬ (p = 82 ∧ k = 19) ∧ p ≠ 94 ∧ p ≠ 88 ∧ p ≠ 89 ∧ p ≠ 90 → Ja p k = I29 p k) → (∀ p k, p ≠ 92 → Ka p k = L6 p k) → (0 ≤ Ja 82 7 ∧ Ja 82 7 ≤ te) → (0 ≤ Ja 82 8) → (0 ≤ Ja 82 19 ∧ Ja 82 19 ≤ 13) → (0 ≤ Ja 82 13 ∧ Ja 82 13 ≤ Ja 82 7 + 2) → (Ja 82 8 = 0 → Ja 82 13 ≤ Ja 82 7) → (ym_LW I Ja 0) → (∀ k : Nat, k < 50 → Ja 88 k = I 88 k) → (Ja 82 8 = 0 → ym_LD Ja ∧ ym_LP Ja) → (2 * (te - Ja 82 7) + 1 - min (Ja 82 8) 1).toNat = m → yi_G zi_Ms d zi_m72 (56, [(0, .inr (.inr (some 82)))], [], (Ja, Ka, X), 0, 0) (fun r => ∃ z I' L', r = (some (.inl z), (I', L', X), 0, 0) ∧ I' 82 2 = 0 ∧ ym_IV I' ∧ (∀ p k, (p < 82 ∨ 108 < p ∨ p = 83 ∨ p = 87) → I' p k = I p k) ∧ (∀ p k, (p < 82 ∨ 108 < p ∨ p = 83 ∨ p = 87) → L' p k = L p k) ∧ ((z = 0 ∧ ∀ k : Nat, k < 4 → I' 101 k = 0) ∨ (¬ z = 0 ∧ ∀ k : Nat, I' 101 k = I 101 k))) := by
    intro m56
    induction m56 using Nat.strongRecOn with
    | _ m56 ih56 =>
    intro Ja Ka fJa fKa pa pf pn pk pz plw plo pld hm56
    refine yi_G_run 1 (57, [(0, .inr (.inr (some 82)))], [.inr (.inr (some 82))], (Ja, Ka, X), 0, 0) (fun _ => rfl) ?_
    refine yi_G_get (60, [(0, .inr (.inr (some 82)))], [.inl (Ja 82 8)], (Ja, Ka, X), 0, 0) rfl (ym_gi hS rfl rfl rfl) ?_
    by_cases h32 : (Ja 82 8) = 0
    · refine yi_G_if1 false rfl (yi_ne_f h32) ?_
      refine yi_G_run 1 (64, [(0, .inr (.inr (some 82)))], [.inr (.inr (some 82))], (Ja, Ka, X), 0, 0) (fun _ => rfl) ?_
      refine yi_G_get (67, [(0, .inr (.inr (some 82)))], [.inr (.inr (some 84))], (Ja, Ka, X), 0, 0) rfl (ym_gr hS 1 rfl rfl rfl) ?_
      refine yi_G_run 1 (68, [(0, .inr (.inr (some 82)))], [.inr (.inr (some 82)), .inr (.inr (some 84))], (Ja, Ka, X), 0, 0) (fun _ => rfl) ?_
      refine yi_G_get (71, [(0, .inr (.inr (some 82)))], [.inl (Ja 82 7), .inr (.inr (some 84))], (Ja, Ka, X), 0, 0) rfl (ym_gi hS rfl rfl rfl) ?_
      have r33 : Ja 84 ((Ja 82 7).toNat) = I4 84 ((Ja 82 7).toNat) := by rw [fJa 84 ((Ja 82 7).toNat) (by omega), f30 84 ((Ja 82 7).toNat) (by omega), ← w26, yi_u_ne _ _ (by omega), f22 84 ((Ja 82 7).toNat) (by omega), f19 84 ((Ja 82 7).toNat) (by omega), f15 84 ((Ja 82 7).toNat) (by omega), ← w13, yi_u_ne _ _ (by omega), ← w11, yi_u_ne _ _ (by omega), ← w9, yi_u_ne _ _ (by omega)]
      refine yi_G_iald (72, [(0, .inr (.inr (some 82)))], [.inl (I4 84 ((Ja 82 7).toNat))], (Ja, Ka, X), 0, 0) rfl (ym_li hS 1 rfl (by omega) (by omega) r33) ?_
      by_cases h34 : (I4 84 ((Ja 82 7).toNat)) = 0
      · refine yi_G_if1 true rfl (yi_eq_t h34) ?_
        refine yi_G_run 1 (89, [(0, .inr (.inr (some 82)))], [.inr (.inr (some 82))], (Ja, Ka, X), 0, 0) (fun _ => rfl) ?_
        refine yi_G_get (92, [(0, .inr (.inr (some 82)))], [.inl (Ja 82 8)], (Ja, Ka, X), 0, 0) rfl (ym_gi hS rfl rfl rfl) ?_
        by_cases h35 : (Ja 82 8) ≤ 0
        · refine yi_G_if1 true rfl (yi_le_t h35) ?_
          refine yi_G_run 2 (102, [(1, .inl 0), (0, .inr (.inr (some 82)))], [], (Ja, Ka, X), 0, 0) (fun _ => rfl) ?_
          have pt102 : ∀ (m : Nat) (k : Int) (Jb : Nat → Nat → Int), (∀ p k, p ≠ 88 → Jb p k = Ja p k) → (0 ≤ k ∧ k ≤ 50) → (∀ j : Nat, (j : Int) < k → Jb 88 j = Ja 88 (50 + j)) → (∀ j : Nat, 50 ≤ j → Jb 88 j = Ja 88 j) → (50 - k).toNat = m → yi_G zi_Ms d zi_m72 (102, [(1, .inl k), (0, .inr (.inr (some 82)))], [], (Jb, Ka, X), 0, 0) (fun r => ∃ z I' L', r = (some (.inl z), (I', L', X), 0, 0) ∧ I' 82 2 = 0 ∧ ym_IV I' ∧ (∀ p k, (p < 82 ∨ 108 < p ∨ p = 83 ∨ p = 87) → I' p k = I p k) ∧ (∀ p k, (p < 82 ∨ 108 < p ∨ p = 83 ∨ p = 87) → L' p k = L p k) ∧ ((z = 0 ∧ ∀ k : Nat, k < 4 → I' 101 k = 0) ∨ (¬ z = 0 ∧ ∀ k : Nat, I' 101 k = I 101 k))) := by
            intro m102
            induction m102 using Nat.strongRecOn with
            | _ m102 ih102 =>
            intro k Jb fJb k0 hb1 hb2 hm102
            refine yi_G_run 2 (105, [(1, .inl k), (0, .inr (.inr (some 82)))], [.inl 50, .inl k], (Jb, Ka, X), 0, 0) (fun _ => rfl) ?_
            by_cases h36 : 50 ≤ k
            · refine yi_G_if2 true rfl (yi_ge_t h36) ?_
              refine yi_G_run 2 (131, [(1, .inl 0), (0, .inr (.inr (some 82)))], [], (Jb, Ka, X), 0, 0) (fun _ => rfl) ?_
              have pt131 : ∀ (m : Nat) (q : Int) (Jc : Nat → Nat → Int), (∀ p k, p ≠ 89 ∧ p ≠ 90 → Jc p k = Jb p k) → (0 ≤ q ∧ q ≤ Ja 82 13) → (∀ j : Nat, (j : Int) < q → Jc 89 j = Jb 89 (1100 + j) ∧ Jc 90 j = Jb 90 (1100 + j)) → (∀ j : Nat, 1100 ≤ j → Jc 89 j = Jb 89 j ∧ Jc 90 j = Jb 90 j) → (Ja 82 13 - q).toNat = m → yi_G zi_Ms d zi_m72 (131, [(1, .inl q), (0, .inr (.inr (some 82)))], [], (Jc, Ka, X), 0, 0) (fun r => ∃ z I' L', r = (some (.inl z), (I', L', X), 0, 0) ∧ I' 82 2 = 0 ∧ ym_IV I' ∧ (∀ p k, (p < 82 ∨ 108 < p ∨ p = 83 ∨ p = 87) → I' p k = I p k) ∧ (∀ p k, (p < 82 ∨ 108 < p ∨ p = 83 ∨ p = 87) → L' p k = L p k) ∧ ((z = 0 ∧ ∀ k : Nat, k < 4 → I' 101 k = 0) ∨ (¬ z = 0 ∧ ∀ k : Nat, I' 101 k = I 101 k))) := by
                intro m131
                induction m131 using Nat.strongRecOn with
                | _ m131 ih131 =>
                intro q Jc fJc q0 hc1 hc2 hm131
                refine yi_G_run 2 (133, [(1, .inl q), (0, .inr (.inr (some 82)))], [.inr (.inr (some 82)), .inl q], (Jc, Ka, X), 0, 0) (fun _ => rfl) ?_
                have r37 : Jc 82 13 = Ja 82 13 := by rw [fJc 82 (13) (by omega), fJb 82 (13) (by omega)]
                refine yi_G_get (136, [(1, .inl q), (0, .inr (.inr (some 82)))], [.inl (Ja 82 13), .inl q], (Jc, Ka, X), 0, 0) rfl (ym_gi hS rfl rfl r37) ?_
                by_cases h38 : (Ja 82 13) ≤ q
                · refine yi_G_if2 true rfl (yi_ge_t h38) ?_
                  refine yi_G_run 2 (179, [(1, .inl 0), (0, .inr (.inr (some 82)))], [], (Jc, Ka, X), 0, 0) (fun _ => rfl) ?_
                  have pt179 : ∀ (m : Nat) (u : Int) (Jd : Nat → Nat → Int) (Kd : Nat → Nat → Int), (∀ p k, p ≠ 93 → Jd p k = Jc p k) → (∀ p k, p ≠ 91 → Kd p k = Ka p k) → (0 ≤ u ∧ u ≤ Ja 82 19) → (Ja 82 19 - u).toNat = m → yi_G zi_Ms d zi_m72 (179, [(1, .inl u), (0, .inr (.inr (some 82)))], [], (Jd, Kd, X), 0, 0) (fun r => ∃ z I' L', r = (some (.inl z), (I', L', X), 0, 0) ∧ I' 82 2 = 0 ∧ ym_IV I' ∧ (∀ p k, (p < 82 ∨ 108 < p ∨ p = 83 ∨ p = 87) → I' p k = I p k) ∧ (∀ p k, (p < 82 ∨ 108 < p ∨ p = 83 ∨ p = 87) → L' p k = L p k) ∧ ((z = 0 ∧ ∀ k : Nat, k < 4 → I' 101 k = 0) ∨ (¬ z = 0 ∧ ∀ k : Nat, I' 101 k = I 101 k))) := by
                    intro m179
                    induction m179 using Nat.strongRecOn with
                    | _ m179 ih179 =>
                    intro u Jd Kd fJd fKd u0 hm179
                    refine yi_G_run 2 (181, [(1, .inl u), (0, .inr (.inr (some 82)))], [.inr (.inr (some 82)), .inl u], (Jd, Kd, X), 0, 0) (fun _ => rfl) ?_
                    have r39 : Jd 82 19 = Ja 82 19 := by rw [fJd 82 (19) (by omega), fJc 82 (19) (by omega), fJb 82 (19) (by omega)]
                    refine yi_G_get (184, [(1, .inl u), (0, .inr (.inr (some 82)))], [.inl (Ja 82 19), .inl u], (Jd, Kd, X), 0, 0) rfl (ym_gi hS rfl rfl r39) ?_
                    by_cases h40 : (Ja 82 19) ≤ u
                    · refine yi_G_if2 true rfl (yi_ge_t h40) ?_
                      refine yi_G_run 2 (219, [(1, .inl u), (0, .inr (.inr (some 82)))], [.inr (.inr (some 82)), .inr (.inr (some 82))], (Jd, Kd, X), 0, 0) (fun _ => rfl) ?_
                      have r41 : Jd 82 19 = Ja 82 19 := by rw [fJd 82 (19) (by omega), fJc 82 (19) (by omega), fJb 82 (19) (by omega)]
                      refine yi_G_get (222, [(1, .inl u), (0, .inr (.inr (some 82)))], [.inl (Ja 82 19), .inr (.inr (some 82))], (Jd, Kd, X), 0, 0) rfl (ym_gi hS rfl rfl r41) ?_
                      refine yi_G_put (225, [(1, .inl u), (0, .inr (.inr (some 82)))], [], ((yi_u Jd 82 18 (Ja 82 19)), Kd, X), 0, 0) rfl (ym_pi hS rfl rfl) ?_
                      generalize w43 : yi_u Jd 82 18 (Ja 82 19) = I42
                      refine yi_G_run 1 (226, [(1, .inl u), (0, .inr (.inr (some 82)))], [.inr (.inr (some 82))], (I42, Kd, X), 0, 0) (fun _ => rfl) ?_
                      have r44 : I42 82 13 = Ja 82 13 := by rw [← w43, yi_u_ne _ _ (by omega), fJd 82 (13) (by omega), fJc 82 (13) (by omega), fJb 82 (13) (by omega)]
                      have r45 : I42 82 19 = Ja 82 19 := by rw [← w43, yi_u_ne _ _ (by omega), fJd 82 (19) (by omega), fJc 82 (19) (by omega), fJb 82 (19) (by omega)]
                      have ll := pld (by omega)
                      have e50 : ∀ k : Nat, k < 50 → I42 88 k = Ja 88 (50 + k) := fun k hk => by rw [← w43, yi_u_ne _ _ (by omega), fJd 88 k (by omega), fJc 88 k (by omega)]; exact hb1 k (by omega)
                      have e89 : ∀ k : Nat, (k : Int) < Ja 82 13 → I42 89 k = Ja 89 (1100 + k) ∧ I42 90 k = Ja 90 (1100 + k) := fun k hk => ⟨by rw [← w43, yi_u_ne _ _ (by omega), fJd 89 k (by omega)]; rw [(hc1 k (by omega)).1]; exact fJb 89 _ (by omega), by rw [← w43, yi_u_ne _ _ (by omega), fJd 90 k (by omega)]; rw [(hc1 k (by omega)).2]; exact fJb 90 _ (by omega)⟩
                      obtain ⟨lrb, fob⟩ := ym_LR_of ll.1 e50
                      have pkb : ym_PK I42 := ym_PK_of ll.1 ll.2 rfl (by omega) e50 e89
                      have fbb := ym_fo_b (da := I42 88 0) (pe := I42 88 1) (ev := I42 88 2) (by have := lrb.2.2.1; omega)
                      refine yi_G_callv rfl rfl (ym_rcv hS) rfl (c_begins d (by omega) hS lrb (ym_PK_PL pkb) fob) ?_
                      rintro _ ⟨I46, L48, rfl, f47, f49, v24, v25, v20, pwb, s0b, v30, mkb⟩
                      show yi_G zi_Ms d zi_m72 (229, [(1, .inl u), (0, .inr (.inr (some 82)))], [], (I46, L48, X), 0, 0) _
                      refine yi_G_run 1 (230, [(1, .inl u), (0, .inr (.inr (some 82)))], [.inl 0], (I46, L48, X), 0, 0) (fun _ => rfl) ?_
                      have r50 : I46 82 2 = 0 := by rw [f47 82 (2) (by omega), ← w43, yi_u_ne _ _ (by omega), fJd 82 (2) (by omega), fJc 82 (2) (by omega), fJb 82 (2) (by omega), fJa 82 (2) (by omega), f30 82 (2) (by omega), ← w26, yi_u_ne _ _ (by omega), f22 82 (2) (by omega), f19 82 (2) (by omega), f15 82 (2) (by omega), ← w13, yi_u_ne _ _ (by omega), ← w11, yi_u_ne _ _ (by omega), ← w9, yi_u_ne _ _ (by omega), c2I4]
                      have r51 : I46 82 18 = Ja 82 19 := by rw [f47 82 (18) (by omega), ← w43, yi_u_eq]
                      have r52 : I46 82 19 = Ja 82 19 := by rw [f47 82 (19) (by omega), ← w43, yi_u_ne _ _ (by omega), fJd 82 (19) (by omega), fJc 82 (19) (by omega), fJb 82 (19) (by omega)]
                      exact yi_G_reti rfl rfl (⟨_, _, _, rfl, by omega, ⟨ym_LR_t (fun k => f47 88 k (by omega)) lrb, ym_PK_t ⟨lrb.2.2.2.2.1.2, lrb.2.2.2.2.2.2⟩ (fun k _ => f47 88 k (by omega)) (fun k _ => ⟨f47 89 k (by omega), f47 90 k (by omega)⟩) pkb, pwb, ym_ST_0 s0b v30 mkb, by omega, by omega, by omega, by omega, by omega, by rw [f47 88 0 (by omega), f47 88 1 (by omega), f47 88 2 (by omega)]; exact fob⟩, (fun p k hp => by rw [f47 p k (by omega), ← w43, yi_u_ne _ _ (fun z => by omega), fJd p k (by omega), fJc p k (by omega), fJb p k (by omega), fJa p k (by omega), f30 p k (by omega), ← w26, yi_u_ne _ _ (fun z => by omega), f22 p k (by omega), f19 p k (by omega), f15 p k (by omega), ← w13, yi_u_ne _ _ (fun z => by omega), ← w11, yi_u_ne _ _ (fun z => by omega), ← w9, yi_u_ne _ _ (fun z => by omega), f5 p k (by omega), ← w2, yi_u_ne _ _ (fun z => by omega)]), (fun p k hp => by rw [f49 p k (by omega), fKd p k (by omega), fKa p k (by omega), f7 p k (by omega)]), Or.inl ⟨rfl, fun k hk => (mkb (k : Int) (by omega) (by omega)).1⟩⟩)
                    · refine yi_G_if2 false rfl (yi_ge_f h40) ?_
                      refine yi_G_run 1 (188, [(1, .inl u), (0, .inr (.inr (some 82)))], [.inr (.inr (some 82))], (Jd, Kd, X), 0, 0) (fun _ => rfl) ?_
                      refine yi_G_get (191, [(1, .inl u), (0, .inr (.inr (some 82)))], [.inr (.inr (some 91))], (Jd, Kd, X), 0, 0) rfl (ym_gr hS 8 rfl rfl rfl) ?_
                      refine yi_G_run 2 (193, [(1, .inl u), (0, .inr (.inr (some 82)))], [.inr (.inr (some 82)), .inl u, .inr (.inr (some 91))], (Jd, Kd, X), 0, 0) (fun _ => rfl) ?_
                      refine yi_G_get (196, [(1, .inl u), (0, .inr (.inr (some 82)))], [.inr (.inr (some 92)), .inl u, .inr (.inr (some 91))], (Jd, Kd, X), 0, 0) rfl (ym_gr hS 9 rfl rfl rfl) ?_
                      refine yi_G_run 1 (197, [(1, .inl u), (0, .inr (.inr (some 82)))], [.inl u, .inr (.inr (some 92)), .inl u, .inr (.inr (some 91))], (Jd, Kd, X), 0, 0) (fun _ => rfl) ?_
                      have r53 : Kd 92 (u.toNat) = Ka 92 (u.toNat) := by rw [fKd 92 (u.toNat) (by omega)]
                      refine yi_G_lald (198, [(1, .inl u), (0, .inr (.inr (some 82)))], [.inr (.inl (Ka 92 (u.toNat))), .inl u, .inr (.inr (some 91))], (Jd, Kd, X), 0, 0) rfl (ym_ll hS 9 rfl (by omega) (by omega) r53) ?_
                      refine yi_G_last (199, [(1, .inl u), (0, .inr (.inr (some 82)))], [], (Jd, (yi_u Kd 91 (u.toNat) (Ka 92 (u.toNat))), X), 0, 0) rfl (ym_sl hS 8 rfl (by omega) (by omega)) ?_
                      generalize w55 : yi_u Kd 91 (u.toNat) (Ka 92 (u.toNat)) = L54
                      refine yi_G_run 1 (200, [(1, .inl u), (0, .inr (.inr (some 82)))], [.inr (.inr (some 82))], (Jd, L54, X), 0, 0) (fun _ => rfl) ?_
                      refine yi_G_get (203, [(1, .inl u), (0, .inr (.inr (some 82)))], [.inr (.inr (some 93))], (Jd, L54, X), 0, 0) rfl (ym_gr hS 10 rfl rfl rfl) ?_
                      refine yi_G_run 2 (205, [(1, .inl u), (0, .inr (.inr (some 82)))], [.inr (.inr (some 82)), .inl u, .inr (.inr (some 93))], (Jd, L54, X), 0, 0) (fun _ => rfl) ?_
                      refine yi_G_get (208, [(1, .inl u), (0, .inr (.inr (some 82)))], [.inr (.inr (some 94)), .inl u, .inr (.inr (some 93))], (Jd, L54, X), 0, 0) rfl (ym_gr hS 11 rfl rfl rfl) ?_
                      refine yi_G_run 1 (209, [(1, .inl u), (0, .inr (.inr (some 82)))], [.inl u, .inr (.inr (some 94)), .inl u, .inr (.inr (some 93))], (Jd, L54, X), 0, 0) (fun _ => rfl) ?_
                      have r56 : Jd 94 (u.toNat) = Ja 94 (u.toNat) := by rw [fJd 94 (u.toNat) (by omega), fJc 94 (u.toNat) (by omega), fJb 94 (u.toNat) (by omega)]
                      refine yi_G_iald (210, [(1, .inl u), (0, .inr (.inr (some 82)))], [.inl (Ja 94 (u.toNat)), .inl u, .inr (.inr (some 93))], (Jd, L54, X), 0, 0) rfl (ym_li hS 11 rfl (by omega) (by omega) r56) ?_
                      refine yi_G_iast (211, [(1, .inl u), (0, .inr (.inr (some 82)))], [], ((yi_u Jd 93 (u.toNat) (Ja 94 (u.toNat))), L54, X), 0, 0) rfl (ym_si hS 10 rfl (by omega) (by omega)) ?_
                      generalize w58 : yi_u Jd 93 (u.toNat) (Ja 94 (u.toNat)) = I57
                      refine yi_G_iinc [(1, .inl (u + 1)), (0, .inr (.inr (some 82)))] rfl rfl rfl (by rw [show yi_w (u + 1) = u + 1 from (yi_wn (by omega) (by omega)).trans (by omega)]; rfl) ?_
                      refine yi_G_run 1 (179, [(1, .inl (u + 1)), (0, .inr (.inr (some 82)))], [], (I57, L54, X), 0, 0) (fun _ => rfl) ?_
                      exact ih179 _ (by omega) (u + 1) I57 L54 (fun p k hp => by rw [← w58, yi_u_ne _ _ (fun z => by omega), fJd p k (by omega)]) (fun p k hp => by rw [← w55, yi_u_ne _ _ (fun z => by omega), fKd p k (by omega)]) (by omega) rfl
                  exact pt179 _ 0 Jc Ka (fun _ _ _ => rfl) (fun _ _ _ => rfl) (by omega) rfl
                · refine yi_G_if2 false rfl (yi_ge_f h38) ?_
                  refine yi_G_run 1 (140, [(1, .inl q), (0, .inr (.inr (some 82)))], [.inr (.inr (some 82))], (Jc, Ka, X), 0, 0) (fun _ => rfl) ?_
                  refine yi_G_get (143, [(1, .inl q), (0, .inr (.inr (some 82)))], [.inr (.inr (some 89))], (Jc, Ka, X), 0, 0) rfl (ym_gr hS 6 rfl rfl rfl) ?_
                  refine yi_G_run 2 (145, [(1, .inl q), (0, .inr (.inr (some 82)))], [.inr (.inr (some 82)), .inl q, .inr (.inr (some 89))], (Jc, Ka, X), 0, 0) (fun _ => rfl) ?_
                  refine yi_G_get (148, [(1, .inl q), (0, .inr (.inr (some 82)))], [.inr (.inr (some 89)), .inl q, .inr (.inr (some 89))], (Jc, Ka, X), 0, 0) rfl (ym_gr hS 6 rfl rfl rfl) ?_
                  refine yi_G_run 2 (152, [(1, .inl q), (0, .inr (.inr (some 82)))], [.inl q, .inl 1100, .inr (.inr (some 89)), .inl q, .inr (.inr (some 89))], (Jc, Ka, X), 0, 0) (fun _ => rfl) ?_
                  refine yi_G_iadd rfl (1100 + q) (yi_wn (by omega) (by omega)) ?_
                  refine yi_G_iald (154, [(1, .inl q), (0, .inr (.inr (some 82)))], [.inl (Jc 89 ((1100 + q).toNat)), .inl q, .inr (.inr (some 89))], (Jc, Ka, X), 0, 0) rfl (ym_li hS 6 rfl (by omega) (by omega) rfl) ?_
                  refine yi_G_iast (155, [(1, .inl q), (0, .inr (.inr (some 82)))], [], ((yi_u Jc 89 (q.toNat) (Jc 89 ((1100 + q).toNat))), Ka, X), 0, 0) rfl (ym_si hS 6 rfl (by omega) (by omega)) ?_
                  generalize w60 : yi_u Jc 89 (q.toNat) (Jc 89 ((1100 + q).toNat)) = I59
                  refine yi_G_run 1 (156, [(1, .inl q), (0, .inr (.inr (some 82)))], [.inr (.inr (some 82))], (I59, Ka, X), 0, 0) (fun _ => rfl) ?_
                  refine yi_G_get (159, [(1, .inl q), (0, .inr (.inr (some 82)))], [.inr (.inr (some 90))], (I59, Ka, X), 0, 0) rfl (ym_gr hS 7 rfl rfl rfl) ?_
                  refine yi_G_run 2 (161, [(1, .inl q), (0, .inr (.inr (some 82)))], [.inr (.inr (some 82)), .inl q, .inr (.inr (some 90))], (I59, Ka, X), 0, 0) (fun _ => rfl) ?_
                  refine yi_G_get (164, [(1, .inl q), (0, .inr (.inr (some 82)))], [.inr (.inr (some 90)), .inl q, .inr (.inr (some 90))], (I59, Ka, X), 0, 0) rfl (ym_gr hS 7 rfl rfl rfl) ?_
                  refine yi_G_run 2 (168, [(1, .inl q), (0, .inr (.inr (some 82)))], [.inl q, .inl 1100, .inr (.inr (some 90)), .inl q, .inr (.inr (some 90))], (I59, Ka, X), 0, 0) (fun _ => rfl) ?_
                  refine yi_G_iadd rfl (1100 + q) (yi_wn (by omega) (by omega)) ?_
                  have r61 : I59 90 ((1100 + q).toNat) = Jc 90 ((1100 + q).toNat) := by rw [← w60, yi_u_ne _ _ (by omega)]
                  refine yi_G_iald (170, [(1, .inl q), (0, .inr (.inr (some 82)))], [.inl (Jc 90 ((1100 + q).toNat)), .inl q, .inr (.inr (some 90))], (I59, Ka, X), 0, 0) rfl (ym_li hS 7 rfl (by omega) (by omega) r61) ?_
                  refine yi_G_iast (171, [(1, .inl q), (0, .inr (.inr (some 82)))], [], ((yi_u I59 90 (q.toNat) (Jc 90 ((1100 + q).toNat))), Ka, X), 0, 0) rfl (ym_si hS 7 rfl (by omega) (by omega)) ?_
                  generalize w63 : yi_u I59 90 (q.toNat) (Jc 90 ((1100 + q).toNat)) = I62
                  refine yi_G_iinc [(1, .inl (q + 1)), (0, .inr (.inr (some 82)))] rfl rfl rfl (by rw [show yi_w (q + 1) = q + 1 from (yi_wn (by omega) (by omega)).trans (by omega)]; rfl) ?_
                  refine yi_G_run 1 (131, [(1, .inl (q + 1)), (0, .inr (.inr (some 82)))], [], (I62, Ka, X), 0, 0) (fun _ => rfl) ?_
                  exact ih131 _ (by omega) (q + 1) I62 (fun p k hp => by rw [← w63, yi_u_ne _ _ (fun z => by omega), ← w60, yi_u_ne _ _ (fun z => by omega), fJc p k (by omega)]) (by omega) (fun j hj => by rw [← w63, ← w60]; exact (by by_cases e : j = q.toNat; (subst e; rw [yi_u_ne _ _ (by omega), yi_u_eq, yi_u_eq]; constructor; (first | rfl | (rw [(hc2 _ (by omega)).1]; congr 1; omega)); (first | rfl | (rw [(hc2 _ (by omega)).2]; congr 1; omega))); (rw [yi_u_ne _ _ (by omega), yi_u_ne _ _ (by omega), yi_u_ne _ _ (by omega), yi_u_ne _ _ (by omega)]; exact hc1 j (by omega)))) (fun j hj => ⟨by rw [← w63, yi_u_ne _ _ (by omega), ← w60, yi_u_ne _ _ (by omega)]; exact (hc2 j hj).1, by rw [← w63, yi_u_ne _ _ (by omega), ← w60, yi_u_ne _ _ (by omega)]; exact (hc2 j hj).2⟩) rfl
              exact pt131 _ 0 Jb (fun _ _ _ => rfl) (by omega) (fun j hj => absurd hj (by omega)) (fun j hj => ⟨rfl, rfl⟩) rfl
            · refine yi_G_if2 false rfl (yi_ge_f h36) ?_
              refine yi_G_run 1 (109, [(1, .inl k), (0, .inr (.inr (some 82)))], [.inr (.inr (some 82))], (Jb, Ka, X), 0, 0) (fun _ => rfl) ?_
              refine yi_G_get (112, [(1, .inl k), (0, .inr (.inr (some 82)))], [.inr (.inr (some 88))], (Jb, Ka, X), 0, 0) rfl (ym_gr hS 5 rfl rfl rfl) ?_
              refine yi_G_run 2 (114, [(1, .inl k), (0, .inr (.inr (some 82)))], [.inr (.inr (some 82)), .inl k, .inr (.inr (some 88))], (Jb, Ka, X), 0, 0) (fun _ => rfl) ?_
              refine yi_G_get (117, [(1, .inl k), (0, .inr (.inr (some 82)))], [.inr (.inr (some 88)), .inl k, .inr (.inr (some 88))], (Jb, Ka, X), 0, 0) rfl (ym_gr hS 5 rfl rfl rfl) ?_
              refine yi_G_run 2 (120, [(1, .inl k), (0, .inr (.inr (some 82)))], [.inl k, .inl 50, .inr (.inr (some 88)), .inl k, .inr (.inr (some 88))], (Jb, Ka, X), 0, 0) (fun _ => rfl) ?_
              refine yi_G_iadd rfl (50 + k) (yi_wn (by omega) (by omega)) ?_
              refine yi_G_iald (122, [(1, .inl k), (0, .inr (.inr (some 82)))], [.inl (Jb 88 ((50 + k).toNat)), .inl k, .inr (.inr (some 88))], (Jb, Ka, X), 0, 0) rfl (ym_li hS 5 rfl (by omega) (by omega) rfl) ?_
              refine yi_G_iast (123, [(1, .inl k), (0, .inr (.inr (some 82)))], [], ((yi_u Jb 88 (k.toNat) (Jb 88 ((50 + k).toNat))), Ka, X), 0, 0) rfl (ym_si hS 5 rfl (by omega) (by omega)) ?_
              generalize w65 : yi_u Jb 88 (k.toNat) (Jb 88 ((50 + k).toNat)) = I64
              refine yi_G_iinc [(1, .inl (k + 1)), (0, .inr (.inr (some 82)))] rfl rfl rfl (by rw [show yi_w (k + 1) = k + 1 from (yi_wn (by omega) (by omega)).trans (by omega)]; rfl) ?_
              refine yi_G_run 1 (102, [(1, .inl (k + 1)), (0, .inr (.inr (some 82)))], [], (I64, Ka, X), 0, 0) (fun _ => rfl) ?_
              exact ih102 _ (by omega) (k + 1) I64 (fun p k hp => by rw [← w65, yi_u_ne _ _ (fun z => by omega), fJb p k (by omega)]) (by omega) (fun j hj => by rw [← w65]; exact (by by_cases e : j = k.toNat; (subst e; rw [yi_u_eq]; first | rfl | (rw [hb2 _ (by omega)]; congr 1; omega)); (rw [yi_u_ne _ _ (by omega)]; exact hb1 j (by omega)))) (fun j hj => by rw [← w65, yi_u_ne _ _ (by omega)]; exact hb2 j hj) rfl
          exact pt102 _ 0 Ja (fun _ _ _ => rfl) (by omega) (fun j hj => absurd hj (by omega)) (fun j hj => rfl) rfl
        · refine yi_G_if1 false rfl (yi_le_f h35) ?_
          refine yi_G_run 1 (96, [(0, .inr (.inr (some 82)))], [.inr (.inr (some 82))], (Ja, Ka, X), 0, 0) (fun _ => rfl) ?_
          refine yi_G_get (99, [(0, .inr (.inr (some 82)))], [.inl (Ja 82 8)], (Ja, Ka, X), 0, 0) rfl (ym_gi hS rfl rfl rfl) ?_
          have r66 : Ja 82 2 = 0 := by rw [fJa 82 (2) (by omega), f30 82 (2) (by omega), ← w26, yi_u_ne _ _ (by omega), f22 82 (2) (by omega), f19 82 (2) (by omega), f15 82 (2) (by omega), ← w13, yi_u_ne _ _ (by omega), ← w11, yi_u_ne _ _ (by omega), ← w9, yi_u_ne _ _ (by omega), c2I4]
          have r67 : Ja 82 24 = I 82 24 := by rw [fJa 82 (24) (by omega), f30 82 (24) (by omega), ← w26, yi_u_ne _ _ (by omega), f22 82 (24) (by omega), f19 82 (24) (by omega), f15 82 (24) (by omega), ← w13, yi_u_ne _ _ (by omega), ← w11, yi_u_ne _ _ (by omega), ← w9, yi_u_ne _ _ (by omega), f5 82 (24) (by omega), ← w2, yi_u_ne _ _ (by omega)]
          have r68 : Ja 82 25 = I 82 25 := by rw [fJa 82 (25) (by omega), f30 82 (25) (by omega), ← w26, yi_u_ne _ _ (by omega), f22 82 (25) (by omega), f19 82 (25) (by omega), f15 82 (25) (by omega), ← w13, yi_u_ne _ _ (by omega), ← w11, yi_u_ne _ _ (by omega), ← w9, yi_u_ne _ _ (by omega), f5 82 (25) (by omega), ← w2, yi_u_ne _ _ (by omega)]
          have r69 : Ja 82 18 = I 82 18 := by rw [fJa 82 (18) (by omega), f30 82 (18) (by omega), ← w26, yi_u_ne _ _ (by omega), f22 82 (18) (by omega), f19 82 (18) (by omega), f15 82 (18) (by omega), ← w13, yi_u_ne _ _ (by omega), ← w11, yi_u_ne _ _ (by omega), ← w9, yi_u_ne _ _ (by omega), f5 82 (18) (by omega), ← w2, yi_u_ne _ _ (by omega)]
          have FI : ∀ p k, (p < 82 ∨ 108 < p ∨ p = 83 ∨ p = 87 ∨ p = 101) → Ja p k = I p k := (fun p k hp => by rw [fJa p k (by omega), f30 p k (by omega), ← w26, yi_u_ne _ _ (fun z => by omega), f22 p k (by omega), f19 p k (by omega), f15 p k (by omega), ← w13, yi_u_ne _ _ (fun z => by omega), ← w11, yi_u_ne _ _ (fun z => by omega), ← w9, yi_u_ne _ _ (fun z => by omega), f5 p k (by omega), ← w2, yi_u_ne _ _ (fun z => by omega)])
          exact yi_G_reti rfl rfl (⟨_, _, _, rfl, by omega, ym_IV_t hIV plo plw (fun k => by rw [fJa 98 k (by omega), f30 98 k (by omega), ← w26, yi_u_ne _ _ (by omega), f22 98 k (by omega), f19 98 k (by omega), f15 98 k (by omega), ← w13, yi_u_ne _ _ (by omega), ← w11, yi_u_ne _ _ (by omega), ← w9, yi_u_ne _ _ (by omega), f5 98 k (by omega), ← w2, yi_u_ne _ _ (by omega)]) ((ym_ST_t (fun k => fJa 100 k (by omega)) (fJa 82 30 (by omega)) (fun k => fJa 101 k (by omega)) (fun k => fJa 102 k (by omega)) (ym_ST_t (fun k => f30 100 k (by omega)) (f30 82 30 (by omega)) (fun k => f30 101 k (by omega)) (fun k => f30 102 k (by omega)) (ym_ST_t (fun k => by rw [← w26, yi_u_ne _ _ (by omega)]) (by rw [← w26, yi_u_ne _ _ (by omega)]) (fun k => by rw [← w26, yi_u_ne _ _ (by omega)]) (fun k => by rw [← w26, yi_u_ne _ _ (by omega)]) (ym_ST_t (fun k => f22 100 k (by omega)) (f22 82 30 (by omega)) (fun k => f22 101 k (by omega)) (fun k => f22 102 k (by omega)) (ym_ST_t (fun k => f19 100 k (by omega)) (f19 82 30 (by omega)) (fun k => f19 101 k (by omega)) (fun k => f19 102 k (by omega)) (ym_ST_t (fun k => f15 100 k (by omega)) (f15 82 30 (by omega)) (fun k => f15 101 k (by omega)) (fun k => f15 102 k (by omega)) (ym_ST_t (fun k => by rw [← w13, yi_u_ne _ _ (by omega)]) (by rw [← w13, yi_u_ne _ _ (by omega)]) (fun k => by rw [← w13, yi_u_ne _ _ (by omega)]) (fun k => by rw [← w13, yi_u_ne _ _ (by omega)]) (ym_ST_t (fun k => by rw [← w11, yi_u_ne _ _ (by omega)]) (by rw [← w11, yi_u_ne _ _ (by omega)]) (fun k => by rw [← w11, yi_u_ne _ _ (by omega)]) (fun k => by rw [← w11, yi_u_ne _ _ (by omega)]) (ym_ST_t (fun k => by rw [← w9, yi_u_ne _ _ (by omega)]) (by rw [← w9, yi_u_ne _ _ (by omega)]) (fun k => by rw [← w9, yi_u_ne _ _ (by omega)]) (fun k => by rw [← w9, yi_u_ne _ _ (by omega)]) (ym_ST_t (fun k => f5 100 k (by omega)) (f5 82 30 (by omega)) (fun k => f5 101 k (by omega)) (fun k => f5 102 k (by omega)) (ym_ST_t (fun k => by rw [← w2, yi_u_ne _ _ (by omega)]) (by rw [← w2, yi_u_ne _ _ (by omega)]) (fun k => by rw [← w2, yi_u_ne _ _ (by omega)]) (fun k => by rw [← w2, yi_u_ne _ _ (by omega)]) hST)))))))))))) r67 r68 r69 pn (by omega), (fun p k hp => FI p k (by omega)), (fun p k hp => by rw [fKa p k (by omega), f7 p k (by omega)]), Or.inr ⟨by omega, fun k => FI 101 k (by omega)⟩⟩)
      · refine yi_G_if1 false rfl (yi_eq_f h34) ?_
        refine yi_G_run 1 (76, [(0, .inr (.inr (some 82)))], [.inr (.inr (some 82))], (Ja, Ka, X), 0, 0) (fun _ => rfl) ?_
        have r70 : Ja 82 18 = I 82 18 := by rw [fJa 82 (18) (by omega), f30 82 (18) (by omega), ← w26, yi_u_ne _ _ (by omega), f22 82 (18) (by omega), f19 82 (18) (by omega), f15 82 (18) (by omega), ← w13, yi_u_ne _ _ (by omega), ← w11, yi_u_ne _ _ (by omega), ← w9, yi_u_ne _ _ (by omega), f5 82 (18) (by omega), ← w2, yi_u_ne _ _ (by omega)]
        have r71 : Ja 82 20 = 50 := by rw [fJa 82 (20) (by omega), f30 82 (20) (by omega), ← w26, yi_u_ne _ _ (by omega), f22 82 (20) (by omega), f19 82 (20) (by omega), f15 82 (20) (by omega), ← w13, yi_u_eq]
        refine yi_G_callv rfl rfl (ym_rcv hS) rfl (c_readLine d (by omega) hS (ym_TK_t (fun k => by rw [fJa 84 k (by omega), f30 84 k (by omega), ← w26, yi_u_ne _ _ (fun z => absurd z.1 (by decide)), f22 84 k (by omega), f19 84 k (by omega), f15 84 k (by omega), ← w13, yi_u_ne _ _ (fun z => absurd z.1 (by decide)), ← w11, yi_u_ne _ _ (fun z => absurd z.1 (by decide)), ← w9, yi_u_ne _ _ (fun z => absurd z.1 (by decide))]) (fun k => by rw [fJa 85 k (by omega), f30 85 k (by omega), ← w26, yi_u_ne _ _ (fun z => absurd z.1 (by decide)), f22 85 k (by omega), f19 85 k (by omega), f15 85 k (by omega), ← w13, yi_u_ne _ _ (fun z => absurd z.1 (by decide)), ← w11, yi_u_ne _ _ (fun z => absurd z.1 (by decide)), ← w9, yi_u_ne _ _ (fun z => absurd z.1 (by decide))]) hTI4) ⟨by omega, by omega⟩ (ym_TK_lt hTI4 (by omega) (by omega)) (by omega) ⟨by omega, by omega⟩ (pld (by omega)).1 (pld (by omega)).2 ⟨by omega, by omega⟩ (by omega)) ?_
        rintro _ ⟨I72, L74, rfl, f73, f75, h76a, h76b, h76c, h76d, h76e, h76f, lwI72, loI72, ldI72⟩
        show yi_G zi_Ms d zi_m72 (79, [(0, .inr (.inr (some 82)))], [], (I72, L74, X), 0, 0) _
        refine yi_G_run 2 (82, [(0, .inr (.inr (some 82)))], [.inl 59, .inr (.inr (some 82))], (I72, L74, X), 0, 0) (fun _ => rfl) ?_
        refine yi_G_callv rfl rfl (ym_rcv hS) rfl (c_takeSign d (by omega) hS (ym_TK_t (fun k => by rw [f73 84 k (by omega), fJa 84 k (by omega), f30 84 k (by omega), ← w26, yi_u_ne _ _ (fun z => absurd z.1 (by decide)), f22 84 k (by omega), f19 84 k (by omega), f15 84 k (by omega), ← w13, yi_u_ne _ _ (fun z => absurd z.1 (by decide)), ← w11, yi_u_ne _ _ (fun z => absurd z.1 (by decide)), ← w9, yi_u_ne _ _ (fun z => absurd z.1 (by decide))]) (fun k => by rw [f73 85 k (by omega), fJa 85 k (by omega), f30 85 k (by omega), ← w26, yi_u_ne _ _ (fun z => absurd z.1 (by decide)), f22 85 k (by omega), f19 85 k (by omega), f15 85 k (by omega), ← w13, yi_u_ne _ _ (fun z => absurd z.1 (by decide)), ← w11, yi_u_ne _ _ (fun z => absurd z.1 (by decide)), ← w9, yi_u_ne _ _ (fun z => absurd z.1 (by decide))]) hTI4) ⟨by omega, by omega⟩ (by omega)) ?_
        rintro _ ⟨I77, rfl, f78, h79a, h79b, h79c⟩
        show yi_G zi_Ms d zi_m72 (85, [(0, .inr (.inr (some 82)))], [], (I77, L74, X), 0, 0) _
        refine yi_G_run 1 (56, [(0, .inr (.inr (some 82)))], [], (I77, L74, X), 0, 0) (fun _ => rfl) ?_
        have r80 : I77 82 13 = I72 82 13 := by rw [f78 82 (13) (by omega)]
        have r81 : I77 82 19 = I72 82 19 := by rw [f78 82 (19) (by omega)]
        have r82 : I77 82 13 = I72 82 13 := by rw [f78 82 (13) (by omega)]
        have r83 : I77 82 19 = I72 82 19 := by rw [f78 82 (19) (by omega)]
        have r84 : I77 82 13 = I72 82 13 := by rw [f78 82 (13) (by omega)]
        have r85 : I77 82 19 = I72 82 19 := by rw [f78 82 (19) (by omega)]
        have r86 : I77 82 13 = I72 82 13 := by rw [f78 82 (13) (by omega)]
        have r87 : I77 82 19 = I72 82 19 := by rw [f78 82 (19) (by omega)]
        have r88 : I77 82 13 = I72 82 13 := by rw [f78 82 (13) (by omega)]
        have r89 : I77 82 19 = I72 82 19 := by rw [f78 82 (19) (by omega)]
        exact ih56 _ (by omega) I77 L74 (fun p k hp => by rw [f78 p k (by omega), f73 p k (by omega), fJa p k (by omega)]) (fun p k hp => by rw [f75 p k (by omega), fKa p k (by omega)]) (by omega) (by omega) (by omega) (by omega) (by omega) (ym_LW_f (ym_LW_t plw lwI72 (by omega)) (fun k => by rw [f78 89 k (by omega)]) (fun k => by rw [f78 90 k (by omega)])) (fun k hk => by rw [f78 88 k (by omega), loI72 k hk]; exact plo k hk) (fun zz => ym_LL_t (fun k => f78 88 k (by omega)) (fun k => f78 89 k (by omega)) (fun k => f78 90 k (by omega)) (f78 82 19 (by omega)) (f78 82 13 (by omega)) (ldI72 (by omega))) rfl
    · refine yi_G_if1 true rfl (yi_ne_t h32) ?_
      refine yi_G_run 1 (89, [(0, .inr (.inr (some 82)))], [.inr (.inr (some 82))], (Ja, Ka, X), 0, 0) (fun _ => rfl) ?_
      refine yi_G_get (92, [(0, .inr (.inr (some 82)))], [.inl (Ja 82 8)], (Ja, Ka, X), 0, 0) rfl (ym_gi hS rfl rfl rfl) ?_
      by_cases h90 : (Ja 82 8) ≤ 0
      · refine yi_G_if1 true rfl (yi_le_t h90) ?_
        refine yi_G_run 2 (102, [(1, .inl 0), (0, .inr (.inr (some 82)))], [], (Ja, Ka, X), 0, 0) (fun _ => rfl) ?_
        have pt102 : ∀ (m : Nat) (k : Int) (Jb : Nat → Nat → Int), (∀ p k, p ≠ 88 → Jb p k = Ja p k) → (0 ≤ k ∧ k ≤ 50) → (∀ j : Nat, (j : Int) < k → Jb 88 j = Ja 88 (50 + j)) → (∀ j : Nat, 50 ≤ j → Jb 88 j = Ja 88 j) → (50 - k).toNat = m → yi_G zi_Ms d zi_m72 (102, [(1, .inl k), (0, .inr (.inr (some 82)))], [], (Jb, Ka, X), 0, 0) (fun r => ∃ z I' L', r = (some (.inl z), (I', L', X), 0, 0) ∧ I' 82 2 = 0 ∧ ym_IV I' ∧ (∀ p k, (p < 82 ∨ 108 < p ∨ p = 83 ∨ p = 87) → I' p k = I p k) ∧ (∀ p k, (p < 82 ∨ 108 < p ∨ p = 83 ∨ p = 87) → L' p k = L p k) ∧ ((z = 0 ∧ ∀ k : Nat, k < 4 → I' 101 k = 0) ∨ (¬ z = 0 ∧ ∀ k : Nat, I' 101 k = I 101 k))) := by
          intro m102
          induction m102 using Nat.strongRecOn with
          | _ m102 ih102 =>
          intro k Jb fJb k0 hb1 hb2 hm102
          refine yi_G_run 2 (105, [(1, .inl k), (0, .inr (.inr (some 82)))], [.inl 50, .inl k], (Jb, Ka, X), 0, 0) (fun _ => rfl) ?_
          by_cases h91 : 50 ≤ k
          · refine yi_G_if2 true rfl (yi_ge_t h91) ?_
            refine yi_G_run 2 (131, [(1, .inl 0), (0, .inr (.inr (some 82)))], [], (Jb, Ka, X), 0, 0) (fun _ => rfl) ?_
            have pt131 : ∀ (m : Nat) (q : Int) (Jc : Nat → Nat → Int), (∀ p k, p ≠ 89 ∧ p ≠ 90 → Jc p k = Jb p k) → (0 ≤ q ∧ q ≤ Ja 82 13) → (∀ j : Nat, (j : Int) < q → Jc 89 j = Jb 89 (1100 + j) ∧ Jc 90 j = Jb 90 (1100 + j)) → (∀ j : Nat, 1100 ≤ j → Jc 89 j = Jb 89 j ∧ Jc 90 j = Jb 90 j) → (Ja 82 13 - q).toNat = m → yi_G zi_Ms d zi_m72 (131, [(1, .inl q), (0, .inr (.inr (some 82)))], [], (Jc, Ka, X), 0, 0) (fun r => ∃ z I' L', r = (some (.inl z), (I', L', X), 0, 0) ∧ I' 82 2 = 0 ∧ ym_IV I' ∧ (∀ p k, (p < 82 ∨ 108 < p ∨ p = 83 ∨ p = 87) → I' p k = I p k) ∧ (∀ p k, (p < 82 ∨ 108 < p ∨ p = 83 ∨ p = 87) → L' p k = L p k) ∧ ((z = 0 ∧ ∀ k : Nat, k < 4 → I' 101 k = 0) ∨ (¬ z = 0 ∧ ∀ k : Nat, I' 101 k = I 101 k))) := by
              intro m131
              induction m131 using Nat.strongRecOn with
              | _ m131 ih131 =>
              intro q Jc fJc q0 hc1 hc2 hm131
              refine yi_G_run 2 (133, [(1, .inl q), (0, .inr (.inr (some 82)))], [.inr (.inr (some 82)), .inl q], (Jc, Ka, X), 0, 0) (fun _ => rfl) ?_
              have r92 : Jc 82 13 = Ja 82 13 := by rw [fJc 82 (13) (by omega), fJb 82 (13) (by omega)]
              refine yi_G_get (136, [(1, .inl q), (0, .inr (.inr (some 82)))], [.inl (Ja 82 13), .inl q], (Jc, Ka, X), 0, 0) rfl (ym_gi hS rfl rfl r92) ?_
              by_cases h93 : (Ja 82 13) ≤ q
              · refine yi_G_if2 true rfl (yi_ge_t h93) ?_
                refine yi_G_run 2 (179, [(1, .inl 0), (0, .inr (.inr (some 82)))], [], (Jc, Ka, X), 0, 0) (fun _ => rfl) ?_
                have pt179 : ∀ (m : Nat) (u : Int) (Jd : Nat → Nat → Int) (Kd : Nat → Nat → Int), (∀ p k, p ≠ 93 → Jd p k = Jc p k) → (∀ p k, p ≠ 91 → Kd p k = Ka p k) → (0 ≤ u ∧ u ≤ Ja 82 19) → (Ja 82 19 - u).toNat = m → yi_G zi_Ms d zi_m72 (179, [(1, .inl u), (0, .inr (.inr (some 82)))], [], (Jd, Kd, X), 0, 0) (fun r => ∃ z I' L', r = (some (.inl z), (I', L', X), 0, 0) ∧ I' 82 2 = 0 ∧ ym_IV I' ∧ (∀ p k, (p < 82 ∨ 108 < p ∨ p = 83 ∨ p = 87) → I' p k = I p k) ∧ (∀ p k, (p < 82 ∨ 108 < p ∨ p = 83 ∨ p = 87) → L' p k = L p k) ∧ ((z = 0 ∧ ∀ k : Nat, k < 4 → I' 101 k = 0) ∨ (¬ z = 0 ∧ ∀ k : Nat, I' 101 k = I 101 k))) := by
                  intro m179
                  induction m179 using Nat.strongRecOn with
                  | _ m179 ih179 =>
                  intro u Jd Kd fJd fKd u0 hm179
                  refine yi_G_run 2 (181, [(1, .inl u), (0, .inr (.inr (some 82)))], [.inr (.inr (some 82)), .inl u], (Jd, Kd, X), 0, 0) (fun _ => rfl) ?_
                  have r94 : Jd 82 19 = Ja 82 19 := by rw [fJd 82 (19) (by omega), fJc 82 (19) (by omega), fJb 82 (19) (by omega)]
                  refine yi_G_get (184, [(1, .inl u), (0, .inr (.inr (some 82)))], [.inl (Ja 82 19), .inl u], (Jd, Kd, X), 0, 0) rfl (ym_gi hS rfl rfl r94) ?_
                  by_cases h95 : (Ja 82 19) ≤ u
                  · refine yi_G_if2 true rfl (yi_ge_t h95) ?_
                    refine yi_G_run 2 (219, [(1, .inl u), (0, .inr (.inr (some 82)))], [.inr (.inr (some 82)), .inr (.inr (some 82))], (Jd, Kd, X), 0, 0) (fun _ => rfl) ?_
                    have r96 : Jd 82 19 = Ja 82 19 := by rw [fJd 82 (19) (by omega), fJc 82 (19) (by omega), fJb 82 (19) (by omega)]
                    refine yi_G_get (222, [(1, .inl u), (0, .inr (.inr (some 82)))], [.inl (Ja 82 19), .inr (.inr (some 82))], (Jd, Kd, X), 0, 0) rfl (ym_gi hS rfl rfl r96) ?_
                    refine yi_G_put (225, [(1, .inl u), (0, .inr (.inr (some 82)))], [], ((yi_u Jd 82 18 (Ja 82 19)), Kd, X), 0, 0) rfl (ym_pi hS rfl rfl) ?_
                    generalize w98 : yi_u Jd 82 18 (Ja 82 19) = I97
                    refine yi_G_run 1 (226, [(1, .inl u), (0, .inr (.inr (some 82)))], [.inr (.inr (some 82))], (I97, Kd, X), 0, 0) (fun _ => rfl) ?_
                    have r99 : I97 82 13 = Ja 82 13 := by rw [← w98, yi_u_ne _ _ (by omega), fJd 82 (13) (by omega), fJc 82 (13) (by omega), fJb 82 (13) (by omega)]
                    have r100 : I97 82 19 = Ja 82 19 := by rw [← w98, yi_u_ne _ _ (by omega), fJd 82 (19) (by omega), fJc 82 (19) (by omega), fJb 82 (19) (by omega)]
                    have ll := pld (by omega)
                    have e50 : ∀ k : Nat, k < 50 → I97 88 k = Ja 88 (50 + k) := fun k hk => by rw [← w98, yi_u_ne _ _ (by omega), fJd 88 k (by omega), fJc 88 k (by omega)]; exact hb1 k (by omega)
                    have e89 : ∀ k : Nat, (k : Int) < Ja 82 13 → I97 89 k = Ja 89 (1100 + k) ∧ I97 90 k = Ja 90 (1100 + k) := fun k hk => ⟨by rw [← w98, yi_u_ne _ _ (by omega), fJd 89 k (by omega)]; rw [(hc1 k (by omega)).1]; exact fJb 89 _ (by omega), by rw [← w98, yi_u_ne _ _ (by omega), fJd 90 k (by omega)]; rw [(hc1 k (by omega)).2]; exact fJb 90 _ (by omega)⟩
                    obtain ⟨lrb, fob⟩ := ym_LR_of ll.1 e50
                    have pkb : ym_PK I97 := ym_PK_of ll.1 ll.2 rfl (by omega) e50 e89
                    have fbb := ym_fo_b (da := I97 88 0) (pe := I97 88 1) (ev := I97 88 2) (by have := lrb.2.2.1; omega)
                    refine yi_G_callv rfl rfl (ym_rcv hS) rfl (c_begins d (by omega) hS lrb (ym_PK_PL pkb) fob) ?_
                    rintro _ ⟨I101, L103, rfl, f102, f104, v24, v25, v20, pwb, s0b, v30, mkb⟩
                    show yi_G zi_Ms d zi_m72 (229, [(1, .inl u), (0, .inr (.inr (some 82)))], [], (I101, L103, X), 0, 0) _
                    refine yi_G_run 1 (230, [(1, .inl u), (0, .inr (.inr (some 82)))], [.inl 0], (I101, L103, X), 0, 0) (fun _ => rfl) ?_
                    have r105 : I101 82 2 = 0 := by rw [f102 82 (2) (by omega), ← w98, yi_u_ne _ _ (by omega), fJd 82 (2) (by omega), fJc 82 (2) (by omega), fJb 82 (2) (by omega), fJa 82 (2) (by omega), f30 82 (2) (by omega), ← w26, yi_u_ne _ _ (by omega), f22 82 (2) (by omega), f19 82 (2) (by omega), f15 82 (2) (by omega), ← w13, yi_u_ne _ _ (by omega), ← w11, yi_u_ne _ _ (by omega), ← w9, yi_u_ne _ _ (by omega), c2I4]
                    have r106 : I101 82 18 = Ja 82 19 := by rw [f102 82 (18) (by omega), ← w98, yi_u_eq]
                    have r107 : I101 82 19 = Ja 82 19 := by rw [f102 82 (19) (by omega), ← w98, yi_u_ne _ _ (by omega), fJd 82 (19) (by omega), fJc 82 (19) (by omega), fJb 82 (19) (by omega)]
                    exact yi_G_reti rfl rfl (⟨_, _, _, rfl, by omega, ⟨ym_LR_t (fun k => f102 88 k (by omega)) lrb, ym_PK_t ⟨lrb.2.2.2.2.1.2, lrb.2.2.2.2.2.2⟩ (fun k _ => f102 88 k (by omega)) (fun k _ => ⟨f102 89 k (by omega), f102 90 k (by omega)⟩) pkb, pwb, ym_ST_0 s0b v30 mkb, by omega, by omega, by omega, by omega, by omega, by rw [f102 88 0 (by omega), f102 88 1 (by omega), f102 88 2 (by omega)]; exact fob⟩, (fun p k hp => by rw [f102 p k (by omega), ← w98, yi_u_ne _ _ (fun z => by omega), fJd p k (by omega), fJc p k (by omega), fJb p k (by omega), fJa p k (by omega), f30 p k (by omega), ← w26, yi_u_ne _ _ (fun z => by omega), f22 p k (by omega), f19 p k (by omega), f15 p k (by omega), ← w13, yi_u_ne _ _ (fun z => by omega), ← w11, yi_u_ne _ _ (fun z => by omega), ← w9, yi_u_ne _ _ (fun z => by omega), f5 p k (by omega), ← w2, yi_u_ne _ _ (fun z => by omega)]), (fun p k hp => by rw [f104 p k (by omega), fKd p k (by omega), fKa p k (by omega), f7 p k (by omega)]), Or.inl ⟨rfl, fun k hk => (mkb (k : Int) (by omega) (by omega)).1⟩⟩)
                  · refine yi_G_if2 false rfl (yi_ge_f h95) ?_
                    refine yi_G_run 1 (188, [(1, .inl u), (0, .inr (.inr (some 82)))], [.inr (.inr (some 82))], (Jd, Kd, X), 0, 0) (fun _ => rfl) ?_
                    refine yi_G_get (191, [(1, .inl u), (0, .inr (.inr (some 82)))], [.inr (.inr (some 91))], (Jd, Kd, X), 0, 0) rfl (ym_gr hS 8 rfl rfl rfl) ?_
                    refine yi_G_run 2 (193, [(1, .inl u), (0, .inr (.inr (some 82)))], [.inr (.inr (some 82)), .inl u, .inr (.inr (some 91))], (Jd, Kd, X), 0, 0) (fun _ => rfl) ?_
                    refine yi_G_get (196, [(1, .inl u), (0, .inr (.inr (some 82)))], [.inr (.inr (some 92)), .inl u, .inr (.inr (some 91))], (Jd, Kd, X), 0, 0) rfl (ym_gr hS 9 rfl rfl rfl) ?_
                    refine yi_G_run 1 (197, [(1, .inl u), (0, .inr (.inr (some 82)))], [.inl u, .inr (.inr (some 92)), .inl u, .inr (.inr (some 91))], (Jd, Kd, X), 0, 0) (fun _ => rfl) ?_
                    have r108 : Kd 92 (u.toNat) = Ka 92 (u.toNat) := by rw [fKd 92 (u.toNat) (by omega)]
                    refine yi_G_lald (198, [(1, .inl u), (0, .inr (.inr (some 82)))], [.inr (.inl (Ka 92 (u.toNat))), .inl u, .inr (.inr (some 91))], (Jd, Kd, X), 0, 0) rfl (ym_ll hS 9 rfl (by omega) (by omega) r108) ?_
                    refine yi_G_last (199, [(1, .inl u), (0, .inr (.inr (some 82)))], [], (Jd, (yi_u Kd 91 (u.toNat) (Ka 92 (u.toNat))), X), 0, 0) rfl (ym_sl hS 8 rfl (by omega) (by omega)) ?_
                    generalize w110 : yi_u Kd 91 (u.toNat) (Ka 92 (u.toNat)) = L109
                    refine yi_G_run 1 (200, [(1, .inl u), (0, .inr (.inr (some 82)))], [.inr (.inr (some 82))], (Jd, L109, X), 0, 0) (fun _ => rfl) ?_
                    refine yi_G_get (203, [(1, .inl u), (0, .inr (.inr (some 82)))], [.inr (.inr (some 93))], (Jd, L109, X), 0, 0) rfl (ym_gr hS 10 rfl rfl rfl) ?_
                    refine yi_G_run 2 (205, [(1, .inl u), (0, .inr (.inr (some 82)))], [.inr (.inr (some 82)), .inl u, .inr (.inr (some 93))], (Jd, L109, X), 0, 0) (fun _ => rfl) ?_
                    refine yi_G_get (208, [(1, .inl u), (0, .inr (.inr (some 82)))], [.inr (.inr (some 94)), .inl u, .inr (.inr (some 93))], (Jd, L109, X), 0, 0) rfl (ym_gr hS 11 rfl rfl rfl) ?_
                    refine yi_G_run 1 (209, [(1, .inl u), (0, .inr (.inr (some 82)))], [.inl u, .inr (.inr (some 94)), .inl u, .inr (.inr (some 93))], (Jd, L109, X), 0, 0) (fun _ => rfl) ?_
                    have r111 : Jd 94 (u.toNat) = Ja 94 (u.toNat) := by rw [fJd 94 (u.toNat) (by omega), fJc 94 (u.toNat) (by omega), fJb 94 (u.toNat) (by omega)]
                    refine yi_G_iald (210, [(1, .inl u), (0, .inr (.inr (some 82)))], [.inl (Ja 94 (u.toNat)), .inl u, .inr (.inr (some 93))], (Jd, L109, X), 0, 0) rfl (ym_li hS 11 rfl (by omega) (by omega) r111) ?_
                    refine yi_G_iast (211, [(1, .inl u), (0, .inr (.inr (some 82)))], [], ((yi_u Jd 93 (u.toNat) (Ja 94 (u.toNat))), L109, X), 0, 0) rfl (ym_si hS 10 rfl (by omega) (by omega)) ?_
                    generalize w113 : yi_u Jd 93 (u.toNat) (Ja 94 (u.toNat)) = I112
                    refine yi_G_iinc [(1, .inl (u + 1)), (0, .inr (.inr (some 82)))] rfl rfl rfl (by rw [show yi_w (u + 1) = u + 1 from (yi_wn (by omega) (by omega)).trans (by omega)]; rfl) ?_
                    refine yi_G_run 1 (179, [(1, .inl (u + 1)), (0, .inr (.inr (some 82)))], [], (I112, L109, X), 0, 0) (fun _ => rfl) ?_
                    exact ih179 _ (by omega) (u + 1) I112 L109 (fun p k hp => by rw [← w113, yi_u_ne _ _ (fun z => by omega), fJd p k (by omega)]) (fun p k hp => by rw [← w110, yi_u_ne _ _ (fun z => by omega), fKd p k (by omega)]) (by omega) rfl
                exact pt179 _ 0 Jc Ka (fun _ _ _ => rfl) (fun _ _ _ => rfl) (by omega) rfl
              · refine yi_G_if2 false rfl (yi_ge_f h93) ?_
                refine yi_G_run 1 (140, [(1, .inl q), (0, .inr (.inr (some 82)))], [.inr (.inr (some 82))], (Jc, Ka, X), 0, 0) (fun _ => rfl) ?_
                refine yi_G_get (143, [(1, .inl q), (0, .inr (.inr (some 82)))], [.inr (.inr (some 89))], (Jc, Ka, X), 0, 0) rfl (ym_gr hS 6 rfl rfl rfl) ?_
                refine yi_G_run 2 (145, [(1, .inl q), (0, .inr (.inr (some 82)))], [.inr (.inr (some 82)), .inl q, .inr (.inr (some 89))], (Jc, Ka, X), 0, 0) (fun _ => rfl) ?_
                refine yi_G_get (148, [(1, .inl q), (0, .inr (.inr (some 82)))], [.inr (.inr (some 89)), .inl q, .inr (.inr (some 89))], (Jc, Ka, X), 0, 0) rfl (ym_gr hS 6 rfl rfl rfl) ?_
                refine yi_G_run 2 (152, [(1, .inl q), (0, .inr (.inr (some 82)))], [.inl q, .inl 1100, .inr (.inr (some 89)), .inl q, .inr (.inr (some 89))], (Jc, Ka, X), 0, 0) (fun _ => rfl) ?_
                refine yi_G_iadd rfl (1100 + q) (yi_wn (by omega) (by omega)) ?_
                refine yi_G_iald (154, [(1, .inl q), (0, .inr (.inr (some 82)))], [.inl (Jc 89 ((1100 + q).toNat)), .inl q, .inr (.inr (some 89))], (Jc, Ka, X), 0, 0) rfl (ym_li hS 6 rfl (by omega) (by omega) rfl) ?_
                refine yi_G_iast (155, [(1, .inl q), (0, .inr (.inr (some 82)))], [], ((yi_u Jc 89 (q.toNat) (Jc 89 ((1100 + q).toNat))), Ka, X), 0, 0) rfl (ym_si hS 6 rfl (by omega) (by omega)) ?_
                generalize w115 : yi_u Jc 89 (q.toNat) (Jc 89 ((1100 + q).toNat)) = I114
                refine yi_G_run 1 (156, [(1, .inl q), (0, .inr (.inr (some 82)))], [.inr (.inr (some 82))], (I114, Ka, X), 0, 0) (fun _ => rfl) ?_
                refine yi_G_get (159, [(1, .inl q), (0, .inr (.inr (some 82)))], [.inr (.inr (some 90))], (I114, Ka, X), 0, 0) rfl (ym_gr hS 7 rfl rfl rfl) ?_
                refine yi_G_run 2 (161, [(1, .inl q), (0, .inr (.inr (some 82)))], [.inr (.inr (some 82)), .inl q, .inr (.inr (some 90))], (I114, Ka, X), 0, 0) (fun _ => rfl) ?_
                refine yi_G_get (164, [(1, .inl q), (0, .inr (.inr (some 82)))], [.inr (.inr (some 90)), .inl q, .inr (.inr (some 90))], (I114, Ka, X), 0, 0) rfl (ym_gr hS 7 rfl rfl rfl) ?_
                refine yi_G_run 2 (168, [(1, .inl q), (0, .inr (.inr (some 82)))], [.inl q, .inl 1100, .inr (.inr (some 90)), .inl q, .inr (.inr (some 90))], (I114, Ka, X), 0, 0) (fun _ => rfl) ?_
                refine yi_G_iadd rfl (1100 + q) (yi_wn (by omega) (by omega)) ?_
                have r116 : I114 90 ((1100 + q).toNat) = Jc 90 ((1100 + q).toNat) := by rw [← w115, yi_u_ne _ _ (by omega)]
                refine yi_G_iald (170, [(1, .inl q), (0, .inr (.inr (some 82)))], [.inl (Jc 90 ((1100 + q).toNat)), .inl q, .inr (.inr (some 90))], (I114, Ka, X), 0, 0) rfl (ym_li hS 7 rfl (by omega) (by omega) r116) ?_
                refine yi_G_iast (171, [(1, .inl q), (0, .inr (.inr (some 82)))], [], ((yi_u I114 90 (q.toNat) (Jc 90 ((1100 + q).toNat))), Ka, X), 0, 0) rfl (ym_si hS 7 rfl (by omega) (by omega)) ?_
                generalize w118 : yi_u I114 90 (q.toNat) (Jc 90 ((1100 + q).toNat)) = I117
                refine yi_G_iinc [(1, .inl (q + 1)), (0, .inr (.inr (some 82)))] rfl rfl rfl (by rw [show yi_w (q + 1) = q + 1 from (yi_wn (by omega) (by omega)).trans (by omega)]; rfl) ?_
                refine yi_G_run 1 (131, [(1, .inl (q + 1)), (0, .inr (.inr (some 82)))], [], (I117, Ka, X), 0, 0) (fun _ => rfl) ?_
                exact ih131 _ (by omega) (q + 1) I117 (fun p k hp => by rw [← w118, yi_u_ne _ _ (fun z => by omega), ← w115, yi_u_ne _ _ (fun z => by omega), fJc p k (by omega)]) (by omega) (fun j hj => by rw [← w118, ← w115]; exact (by by_cases e : j = q.toNat; (subst e; rw [yi_u_ne _ _ (by omega), yi_u_eq, yi_u_eq]; constructor; (first | rfl | (rw [(hc2 _ (by omega)).1]; congr 1; omega)); (first | rfl | (rw [(hc2 _ (by omega)).2]; congr 1; omega))); (rw [yi_u_ne _ _ (by omega), yi_u_ne _ _ (by omega), yi_u_ne _ _ (by omega), yi_u_ne _ _ (by omega)]; exact hc1 j (by omega)))) (fun j hj => ⟨by rw [← w118, yi_u_ne _ _ (by omega), ← w115, yi_u_ne _ _ (by omega)]; exact (hc2 j hj).1, by rw [← w118, yi_u_ne _ _ (by omega), ← w115, yi_u_ne _ _ (by omega)]; exact (hc2 j hj).2⟩) rfl
            exact pt131 _ 0 Jb (fun _ _ _ => rfl) (by omega) (fun j hj => absurd hj (by omega)) (fun j hj => ⟨rfl, rfl⟩) rfl
          · refine yi_G_if2 false rfl (yi_ge_f h91) ?_
            refine yi_G_run 1 (109, [(1, .inl k), (0, .inr (.inr (some 82)))], [.inr (.inr (some 82))], (Jb, Ka, X), 0, 0) (fun _ => rfl) ?_
            refine yi_G_get (112, [(1, .inl k), (0, .inr (.inr (some 82)))], [.inr (.inr (some 88))], (Jb, Ka, X), 0, 0) rfl (ym_gr hS 5 rfl rfl rfl) ?_
            refine yi_G_run 2 (114, [(1, .inl k), (0, .inr (.inr (some 82)))], [.inr (.inr (some 82)), .inl k, .inr (.inr (some 88))], (Jb, Ka, X), 0, 0) (fun _ => rfl) ?_
            refine yi_G_get (117, [(1, .inl k), (0, .inr (.inr (some 82)))], [.inr (.inr (some 88)), .inl k, .inr (.inr (some 88))], (Jb, Ka, X), 0, 0) rfl (ym_gr hS 5 rfl rfl rfl) ?_
            refine yi_G_run 2 (120, [(1, .inl k), (0, .inr (.inr (some 82)))], [.inl k, .inl 50, .inr (.inr (some 88)), .inl k, .inr (.inr (some 88))], (Jb, Ka, X), 0, 0) (fun _ => rfl) ?_
            refine yi_G_iadd rfl (50 + k) (yi_wn (by omega) (by omega)) ?_
            refine yi_G_iald (122, [(1, .inl k), (0, .inr (.inr (some 82)))], [.inl (Jb 88 ((50 + k).toNat)), .inl k, .inr (.inr (some 88))], (Jb, Ka, X), 0, 0) rfl (ym_li hS 5 rfl (by omega) (by omega) rfl) ?_
            refine yi_G_iast (123, [(1, .inl k), (0, .inr (.inr (some 82)))], [], ((yi_u Jb 88 (k.toNat) (Jb 88 ((50 + k).toNat))), Ka, X), 0, 0) rfl (ym_si hS 5 rfl (by omega) (by omega)) ?_
            generalize w120 : yi_u Jb 88 (k.toNat) (Jb 88 ((50 + k).toNat)) = I119
            refine yi_G_iinc [(1, .inl (k + 1)), (0, .inr (.inr (some 82)))] rfl rfl rfl (by rw [show yi_w (k + 1) = k + 1 from (yi_wn (by omega) (by omega)).trans (by omega)]; rfl) ?_
            refine yi_G_run 1 (102, [(1, .inl (k + 1)), (0, .inr (.inr (some 82)))], [], (I119, Ka, X), 0, 0) (fun _ => rfl) ?_
            exact ih102 _ (by omega) (k + 1) I119 (fun p k hp => by rw [← w120, yi_u_ne _ _ (fun z => by omega), fJb p k (by omega)]) (by omega) (fun j hj => by rw [← w120]; exact (by by_cases e : j = k.toNat; (subst e; rw [yi_u_eq]; first | rfl | (rw [hb2 _ (by omega)]; congr 1; omega)); (rw [yi_u_ne _ _ (by omega)]; exact hb1 j (by omega)))) (fun j hj => by rw [← w120, yi_u_ne _ _ (by omega)]; exact hb2 j hj) rfl
        exact pt102 _ 0 Ja (fun _ _ _ => rfl) (by omega) (fun j hj => absurd hj (by omega)) (fun j hj => rfl) rfl
      · refine yi_G_if1 false rfl (yi_le_f h90) ?_
        refine yi_G_run 1 (96, [(0, .inr (.inr (some 82)))], [.inr (.inr (some 82))], (Ja, Ka, X), 0, 0) (fun _ => rfl) ?_
        refine yi_G_get (99, [(0, .inr (.inr (some 82)))], [.inl (Ja 82 8)], (Ja, Ka, X), 0, 0) rfl (ym_gi hS rfl rfl rfl) ?_
        have r121 : Ja 82 2 = 0 := by rw [fJa 82 (2) (by omega), f30 82 (2) (by omega), ← w26, yi_u_ne _ _ (by omega), f22 82 (2) (by omega), f19 82 (2) (by omega), f15 82 (2) (by omega), ← w13, yi_u_ne _ _ (by omega), ← w11, yi_u_ne _ _ (by omega), ← w9, yi_u_ne _ _ (by omega), c2I4]
        have r122 : Ja 82 24 = I 82 24 := by rw [fJa 82 (24) (by omega), f30 82 (24) (by omega), ← w26, yi_u_ne _ _ (by omega), f22 82 (24) (by omega), f19 82 (24) (by omega), f15 82 (24) (by omega), ← w13, yi_u_ne _ _ (by omega), ← w11, yi_u_ne _ _ (by omega), ← w9, yi_u_ne _ _ (by omega), f5 82 (24) (by omega), ← w2, yi_u_ne _ _ (by omega)]
        have r123 : Ja 82 25 = I 82 25 := by rw [fJa 82 (25) (by omega), f30 82 (25) (by omega), ← w26, yi_u_ne _ _ (by omega), f22 82 (25) (by omega), f19 82 (25) (by omega), f15 82 (25) (by omega), ← w13, yi_u_ne _ _ (by omega), ← w11, yi_u_ne _ _ (by omega), ← w9, yi_u_ne _ _ (by omega), f5 82 (25) (by omega), ← w2, yi_u_ne _ _ (by omega)]
        have r124 : Ja 82 18 = I 82 18 := by rw [fJa 82 (18) (by omega), f30 82 (18) (by omega), ← w26, yi_u_ne _ _ (by omega), f22 82 (18) (by omega), f19 82 (18) (by omega), f15 82 (18) (by omega), ← w13, yi_u_ne _ _ (by omega), ← w11, yi_u_ne _ _ (by omega), ← w9, yi_u_ne _ _ (by omega), f5 82 (18) (by omega), ← w2, yi_u_ne _ _ (by omega)]
        have FI : ∀ p k, (p < 82 ∨ 108 < p ∨ p = 83 ∨ p = 87 ∨ p = 101) → Ja p k = I p k := (fun p k hp => by rw [fJa p k (by omega), f30 p k (by omega), ← w26, yi_u_ne _ _ (fun z => by omega), f22 p k (by omega), f19 p k (by omega), f15 p k (by omega), ← w13, yi_u_ne _ _ (fun z => by omega), ← w11, yi_u_ne _ _ (fun z => by omega), ← w9, yi_u_ne _ _ (fun z => by omega), f5 p k (by omega), ← w2, yi_u_ne _ _ (fun z => by omega)])
        exact yi_G_reti rfl rfl (⟨_, _, _, rfl, by omega, ym_IV_t hIV plo plw (fun k => by rw [fJa 98 k (by omega), f30 98 k (by omega), ← w26, yi_u_ne _ _ (by omega), f22 98 k (by omega), f19 98 k (by omega), f15 98 k (by omega), ← w13, yi_u_ne _ _ (by omega), ← w11, yi_u_ne _ _ (by omega), ← w9, yi_u_ne _ _ (by omega), f5 98 k (by omega), ← w2, yi_u_ne _ _ (by omega)]) ((ym_ST_t (fun k => fJa 100 k (by omega)) (fJa 82 30 (by omega)) (fun k => fJa 101 k (by omega)) (fun k => fJa 102 k (by omega)) (ym_ST_t (fun k => f30 100 k (by omega)) (f30 82 30 (by omega)) (fun k => f30 101 k (by omega)) (fun k => f30 102 k (by omega)) (ym_ST_t (fun k => by rw [← w26, yi_u_ne _ _ (by omega)]) (by rw [← w26, yi_u_ne _ _ (by omega)]) (fun k => by rw [← w26, yi_u_ne _ _ (by omega)]) (fun k => by rw [← w26, yi_u_ne _ _ (by omega)]) (ym_ST_t (fun k => f22 100 k (by omega)) (f22 82 30 (by omega)) (fun k => f22 101 k (by omega)) (fun k => f22 102 k (by omega)) (ym_ST_t (fun k => f19 100 k (by omega)) (f19 82 30 (by omega)) (fun k => f19 101 k (by omega)) (fun k => f19 102 k (by omega)) (ym_ST_t (fun k => f15 100 k (by omega)) (f15 82 30 (by omega)) (fun k => f15 101 k (by omega)) (fun k => f15 102 k (by omega)) (ym_ST_t (fun k => by rw [← w13, yi_u_ne _ _ (by omega)]) (by rw [← w13, yi_u_ne _ _ (by omega)]) (fun k => by rw [← w13, yi_u_ne _ _ (by omega)]) (fun k => by rw [← w13, yi_u_ne _ _ (by omega)]) (ym_ST_t (fun k => by rw [← w11, yi_u_ne _ _ (by omega)]) (by rw [← w11, yi_u_ne _ _ (by omega)]) (fun k => by rw [← w11, yi_u_ne _ _ (by omega)]) (fun k => by rw [← w11, yi_u_ne _ _ (by omega)]) (ym_ST_t (fun k => by rw [← w9, yi_u_ne _ _ (by omega)]) (by rw [← w9, yi_u_ne _ _ (by omega)]) (fun k => by rw [← w9, yi_u_ne _ _ (by omega)]) (fun k => by rw [← w9, yi_u_ne _ _ (by omega)]) (ym_ST_t (fun k => f5 100 k (by omega)) (f5 82 30 (by omega)) (fun k => f5 101 k (by omega)) (fun k => f5 102 k (by omega)) (ym_ST_t (fun k => by rw [← w2, yi_u_ne _ _ (by omega)]) (by rw [← w2, yi_u_ne _ _ (by omega)]) (fun k => by rw [← w2, yi_u_ne _ _ (by omega)]) (fun k => by rw [← w2, yi_u_ne _ _ (by omega)]) hST)))))))))))) r122 r123 r124 pn (by omega), (fun p k hp => FI p k (by omega)), (fun p k hp => by rw [fKa p k (by omega), f7 p k (by omega)]), Or.inr ⟨by omega, fun k => FI 101 k (by omega)⟩⟩)
  have r125 : I29 82 13 = 0 := by rw [f30 82 (13) (by omega), ← w26, yi_u_ne _ _ (by omega), f22 82 (13) (by omega), f19 82 (13) (by omega), f15 82 (13) (by omega), ← w13, yi_u_ne _ _ (by omega), ← w11, yi_u_ne _ _ (by omega), ← w9, yi_u_eq]
  have r126 : I29 82 19 = 0 := by rw [f30 82 (19) (by omega), ← w26, yi_u_ne _ _ (by omega), f22 82 (19) (by omega), f19 82 (19) (by omega), f15 82 (19) (by omega), ← w13, yi_u_ne _ _ (by omega), ← w11, yi_u_eq]
  have r127 : I29 82 13 = 0 := by rw [f30 82 (13) (by omega), ← w26, yi_u_ne _ _ (by omega), f22 82 (13) (by omega), f19 82 (13) (by omega), f15 82 (13) (by omega), ← w13, yi_u_ne _ _ (by omega), ← w11, yi_u_ne _ _ (by omega), ← w9, yi_u_eq]
  have r128 : I29 82 19 = 0 := by rw [f30 82 (19) (by omega), ← w26, yi_u_ne _ _ (by omega), f22 82 (19) (by omega), f19 82 (19) (by omega), f15 82 (19) (by omega), ← w13, yi_u_ne _ _ (by omega), ← w11, yi_u_eq]
  have r129 : I29 82 13 = 0 := by rw [f30 82 (13) (by omega), ← w26, yi_u_ne _ _ (by omega), f22 82 (13) (by omega), f19 82 (13) (by omega), f15 82 (13) (by omega), ← w13, yi_u_ne _ _ (by omega), ← w11, yi_u_ne _ _ (by omega), ← w9, yi_u_eq]
  have r130 : I29 82 19 = 0 := by rw [f30 82 (19) (by omega), ← w26, yi_u_ne _ _ (by omega), f22 82 (19) (by omega), f19 82 (19) (by omega), f15 82 (19) (by omega), ← w13, yi_u_ne _ _ (by omega), ← w11, yi_u_eq]
  have r131 : I29 82 13 = 0 := by rw [f30 82 (13) (by omega), ← w26, yi_u_ne _ _ (by omega), f22 82 (13) (by omega), f19 82 (13) (by omega), f15 82 (13) (by omega), ← w13, yi_u_ne _ _ (by omega), ← w11, yi_u_ne _ _ (by omega), ← w9, yi_u_eq]
  have r132 : I29 82 19 = 0 := by rw [f30 82 (19) (by omega), ← w26, yi_u_ne _ _ (by omega), f22 82 (19) (by omega), f19 82 (19) (by omega), f15 82 (19) (by omega), ← w13, yi_u_ne _ _ (by omega), ← w11, yi_u_eq]
  have r133 : I29 82 13 = 0 := by rw [f30 82 (13) (by omega), ← w26, yi_u_ne _ _ (by omega), f22 82 (13) (by omega), f19 82 (13) (by omega), f15 82 (13) (by omega), ← w13, yi_u_ne _ _ (by omega), ← w11, yi_u_ne _ _ (by omega), ← w9, yi_u_eq]
  have r134 : I29 82 19 = 0 := by rw [f30 82 (19) (by omega), ← w26, yi_u_ne _ _ (by omega), f22 82 (19) (by omega), f19 82 (19) (by omega), f15 82 (19) (by omega), ← w13, yi_u_ne _ _ (by omega), ← w11, yi_u_eq]
  have r135 : I29 88 50 = z23 := by rw [f30 88 (50) (by omega), ← w26, yi_u_eq]
  have r136 : I29 88 51 = I14 88 51 := by rw [f30 88 (51) (by omega), ← w26, yi_u_ne _ _ (by omega), f22 88 (51) (by omega), f19 88 (51) (by omega)]
  have r137 : I29 88 52 = I14 88 52 := by rw [f30 88 (52) (by omega), ← w26, yi_u_ne _ _ (by omega), f22 88 (52) (by omega), f19 88 (52) (by omega)]
  have r138 : I29 88 53 = I14 88 53 := by rw [f30 88 (53) (by omega), ← w26, yi_u_ne _ _ (by omega), f22 88 (53) (by omega), f19 88 (53) (by omega)]
  have r139 : I29 88 54 = I14 88 54 := by rw [f30 88 (54) (by omega), ← w26, yi_u_ne _ _ (by omega), f22 88 (54) (by omega), f19 88 (54) (by omega)]
  have r140 : I29 88 55 = I14 88 55 := by rw [f30 88 (55) (by omega), ← w26, yi_u_ne _ _ (by omega), f22 88 (55) (by omega), f19 88 (55) (by omega)]
  have r141 : I29 88 56 = I14 88 56 := by rw [f30 88 (56) (by omega), ← w26, yi_u_ne _ _ (by omega), f22 88 (56) (by omega), f19 88 (56) (by omega)]
  have r142 : I29 82 19 = 0 := by rw [f30 82 (19) (by omega), ← w26, yi_u_ne _ _ (by omega), f22 82 (19) (by omega), f19 82 (19) (by omega), f15 82 (19) (by omega), ← w13, yi_u_ne _ _ (by omega), ← w11, yi_u_eq]
  exact pt56 _ I29 L6 (fun _ _ _ => rfl) (fun _ _ _ => rfl) (by omega) (by omega) (by omega) (by omega) (by omega) (ym_LW_f (ym_LW_r _ _) (fun k => by rw [f30 89 k (by omega), ← w26, yi_u_ne _ _ (fun z => absurd z.1 (by decide)), f22 89 k (by omega), f19 89 k (by omega), f15 89 k (by omega), ← w13, yi_u_ne _ _ (fun z => absurd z.1 (by decide)), ← w11, yi_u_ne _ _ (fun z => absurd z.1 (by decide)), ← w9, yi_u_ne _ _ (fun z => absurd z.1 (by decide)), f5 89 k (by omega), ← w2, yi_u_ne _ _ (fun z => absurd z.1 (by decide))]) (fun k => by rw [f30 90 k (by omega), ← w26, yi_u_ne _ _ (fun z => absurd z.1 (by decide)), f22 90 k (by omega), f19 90 k (by omega), f15 90 k (by omega), ← w13, yi_u_ne _ _ (fun z => absurd z.1 (by decide)), ← w11, yi_u_ne _ _ (fun z => absurd z.1 (by decide)), ← w9, yi_u_ne _ _ (fun z => absurd z.1 (by decide)), f5 90 k (by omega), ← w2, yi_u_ne _ _ (fun z => absurd z.1 (by decide))])) (fun k hk => by rw [f30 88 k (by omega), ← w26, yi_u_ne _ _ (by omega), f22 88 k (by omega), f19 88 k (by omega), slo k hk, ← w13, yi_u_ne _ _ (by omega), ← w11, yi_u_ne _ _ (by omega), ← w9, yi_u_ne _ _ (by omega), f5 88 k (by omega), ← w2, yi_u_ne _ _ (by omega)]) (fun zz => ⟨⟨⟨by omega, by omega⟩, ⟨by omega, by omega⟩, ⟨by omega, by omega⟩, ⟨by omega, by omega⟩, ⟨by omega, by omega⟩, ⟨by omega, by omega⟩, by omega, by rw [r135, r136, r137, sh51, sh52]; exact fo0 _⟩, ⟨fun k a b => absurd b (by omega), fun w a b => absurd b (by omega), Or.inl (by omega)⟩⟩) rfl
theorem m_markM {I L : Nat → Nat → Int} {X : ym_X} {m bk : Int} (b0 : bk = 0 ∨ bk = 1) (hS : ym_S X) (h : ym_IV I) : yi_E zi_Ms 60 82 [.inr (.inr (some 82)), .inl m, .inl bk] (I, L, X) (fun r => ∃ z I' L', r = (some (.inl z), (I', L', X), 0, 0) ∧ ym_MF I L I' L' ∧ ym_IV I' ∧ (I' 82 2 = I 82 2 ∧ ym_MT I L I' L') ∧ mq_Q I I' m bk z) := (c_markM 60 (by omega) hS b0 h.1 h.2.2.2.1 h.2.2.2.2.2.1).imp (fun r ⟨z, I', L', e, f, g, s_, q_⟩ => ⟨z, I', L', e, fun p k hp => ⟨f p k (by omega), g p k (by omega)⟩, (ym_IV_s h (fun p k hp => f p k (by omega)) s_).1, ⟨(ym_IV_s h (fun p k hp => f p k (by omega)) s_).2, fun k => ⟨f 83 k (by omega), g 87 k (by omega)⟩⟩, q_⟩)
theorem m_landM {I L : Nat → Nat → Int} {X : ym_X} (hS : ym_S X) (h : ym_IV I) : yi_E zi_Ms 60 72 [.inr (.inr (some 82))] (I, L, X) (fun r => ∃ z I' L', r = (some (.inl z), (I', L', X), 0, 0) ∧ ym_MF I L I' L' ∧ ym_IV I' ∧ (I' 82 2 = 0 ∧ ym_MT I L I' L') ∧ ((z = 0 ∧ ∀ k : Nat, k < 4 → I' 101 k = 0) ∨ (¬ z = 0 ∧ ∀ k : Nat, I' 101 k = I 101 k))) := (c_landM 60 (by omega) hS h).imp (fun r ⟨z, I', L', e, t_, iv, f, g, x⟩ => ⟨z, I', L', e, fun p k hp => ⟨f p k (by omega), g p k (by omega)⟩, iv, ⟨t_, fun k => ⟨f 83 k (by omega), g 87 k (by omega)⟩⟩, x⟩)
