/-! The class: promised, undone, struck, marked: the state behind. -/
theorem p_promise {d : Nat} {I L : Nat → Nat → Int} {R : Nat → Nat → Option Nat} {Y : (Nat → Nat) × (Nat → Nat) × Nat} {pf : Nat → Bool} {n da pe ev pr q c u : Nat} {S : ss_T} {A l : ss_R} {W : Nat → ss_R} {U : Nat → ss_T} {M : Nat → Option (ss_T × Option ss_R)} {aq : Option ss_R} (hW : ca_W I L R Y pf n da pe ev q A W) (hL : ca_L I L R Y pf n c l) (h50 : sc_S I L R Y pf n da pe pr 50 S) (hP : ck_P I L R Y pf n da pe pr u U M) (ha : sa_A I L R Y pf n 50 aq) (hb : da ≤ 6 ∧ pe ≤ 4 ∧ pr ≤ 5 ∧ S.1.1 ≤ 12 ∧ S.1.2.2 ≤ 20) {x y : Int} : yi_P zi_Ms d 166 [.inr (.inr (some 10)), .inl x, .inl y] (I, L, R, Y) (fun r => (¬ ((0 ≤ x ∧ x < pe) ∧ (0 ≤ y ∧ y ≤ 99) ∧ S.1.2.2 < 20) ∧ r = (some (.inl (-1)), (I, L, R, Y), 0, 0)) ∨ (((0 ≤ x ∧ x < pe) ∧ (0 ≤ y ∧ y ≤ 99) ∧ S.1.2.2 < 20) ∧ ∃ I' L' R' Y' nc ns, r = (some (.inl ((S.1.2.2 : Int) + 1)), (I', L', R', Y'), nc, ns) ∧ ca_W I' L' R' Y' pf n da pe ev q A W ∧ ca_L I' L' R' Y' pf n c l ∧ sc_S I' L' R' Y' pf n da pe pr 50 (ss_pm S x y) ∧ ck_P I' L' R' Y' pf n da pe pr (us_n u) (us_p u U S) M ∧ sa_A I' L' R' Y' pf n 50 aq)) := by
  refine yi_P_of (M := zi_m166) rfl (fun d k => ?_)
  have hA := hW.1.1
  have hNA := hA.2.2.2
  obtain ⟨h16, hq, hqN, hq3, hda, hpe, hev⟩ := hW.2.1
  have bld := hW.2.2.1.1
  show yi_D zi_Ms d zi_m166 k (0, [(0, .inr (.inr (some 10))), (1, .inl x), (2, .inl y)], [], (I, L, R, Y), 0, 0) _
  refine yi_D_run 1 (1, [(0, .inr (.inr (some 10))), (1, .inl x), (2, .inl y)], [.inr (.inr (some 10))], (I, L, R, Y), 0, 0) (fun _ => rfl) ?_
  refine yi_D_gr (v := some q) rfl rfl rfl h16 (fun _ => ?_)
  refine yi_D_run 1 (5, [(0, .inr (.inr (some 10))), (1, .inl x), (2, .inl y)], [.inl x, .inr (.inr (some q))], (I, L, R, Y), 0, 0) (fun _ => rfl) ?_
  refine yi_D_callv rfl (p_isPerson2 hq hpe (by omega)) ?_
  rintro _ (⟨hb1, rfl⟩ | ⟨hb2, rfl⟩)
  · show yi_D zi_Ms d zi_m166 k (8, [(0, .inr (.inr (some 10))), (1, .inl x), (2, .inl y)], [.inl 1], (I, L, R, Y), 0, 0) _
    refine yi_D_if1 false rfl (by decide) ?_
    refine yi_D_run 1 (12, [(0, .inr (.inr (some 10))), (1, .inl x), (2, .inl y)], [.inl y], (I, L, R, Y), 0, 0) (fun _ => rfl) ?_
    by_cases h3 : y < 0
    · refine yi_D_if1 true rfl (yi_lt_t h3) ?_
      refine yi_D_run 1 (34, [(0, .inr (.inr (some 10))), (1, .inl x), (2, .inl y)], [.inl (-1)], (I, L, R, Y), 0, 0) (fun _ => rfl) ?_
      refine yi_D_reti rfl ?_
      exact Or.inl ⟨by omega, rfl⟩
    · refine yi_D_if1 false rfl (yi_lt_f h3) ?_
      refine yi_D_run 2 (18, [(0, .inr (.inr (some 10))), (1, .inl x), (2, .inl y)], [.inl 99, .inl y], (I, L, R, Y), 0, 0) (fun _ => rfl) ?_
      by_cases h4 : 99 < y
      · refine yi_D_if2 true rfl (yi_gt_t h4) ?_
        refine yi_D_run 1 (34, [(0, .inr (.inr (some 10))), (1, .inl x), (2, .inl y)], [.inl (-1)], (I, L, R, Y), 0, 0) (fun _ => rfl) ?_
        refine yi_D_reti rfl ?_
        exact Or.inl ⟨by omega, rfl⟩
      · refine yi_D_if2 false rfl (yi_gt_f h4) ?_
        refine yi_D_run 1 (22, [(0, .inr (.inr (some 10))), (1, .inl x), (2, .inl y)], [.inr (.inr (some 10))], (I, L, R, Y), 0, 0) (fun _ => rfl) ?_
        refine yi_D_gr (v := some 50) rfl rfl rfl (at_r hA (j := 6) rfl) (fun _ => ?_)
        refine yi_D_gi (v := (S.1.2.2 : Int)) rfl rfl rfl h50.2.1.2.2 (fun _ => ?_)
        refine yi_D_run 1 (30, [(0, .inr (.inr (some 10))), (1, .inl x), (2, .inl y)], [.inl 20, .inl (S.1.2.2 : Int)], (I, L, R, Y), 0, 0) (fun _ => rfl) ?_
        by_cases h5 : (S.1.2.2 : Int) < 20
        · refine yi_D_if2 true rfl (yi_lt_t h5) ?_
          refine yi_D_run 1 (36, [(0, .inr (.inr (some 10))), (1, .inl x), (2, .inl y)], [.inr (.inr (some 10))], (I, L, R, Y), 0, 0) (fun _ => rfl) ?_
          refine yi_D_callv rfl (p_remC hW hL h50 hP ha hb) ?_
          rintro _ ⟨I6, L7, R8, Y9, n10, m11, rfl, w12, l13, s14, p15, a16, K17, hq18⟩
          show yi_D zi_Ms d zi_m166 k (39, [(0, .inr (.inr (some 10))), (1, .inl x), (2, .inl y)], [], (I6, L7, R8, Y9), (0 + n10), (0 + m11)) _
          refine yi_D_run 1 (40, [(0, .inr (.inr (some 10))), (1, .inl x), (2, .inl y)], [.inr (.inr (some 10))], (I6, L7, R8, Y9), (0 + n10), (0 + m11)) (fun _ => rfl) ?_
          refine yi_D_gr (v := some 50) rfl rfl rfl (at_r w12.1.1 (j := 6) rfl) (fun _ => ?_)
          refine yi_D_run 2 (45, [(0, .inr (.inr (some 10))), (1, .inl x), (2, .inl y)], [.inl y, .inl x, .inr (.inr (some 50))], (I6, L7, R8, Y9), (0 + n10), (0 + m11)) (fun _ => rfl) ?_
          refine yi_D_callv rfl (p_addPromise s14.1 s14.2.1.2.2 (by omega)) ?_
          rintro _ ⟨I19, rfl, e120, e221, e322, e423⟩
          show yi_D zi_Ms d zi_m166 k (48, [(0, .inr (.inr (some 10))), (1, .inl x), (2, .inl y)], [], (I19, L7, R8, Y9), (0 + n10), (0 + m11)) _
          refine yi_D_run 1 (49, [(0, .inr (.inr (some 10))), (1, .inl x), (2, .inl y)], [.inr (.inr (some 10))], (I19, L7, R8, Y9), (0 + n10), (0 + m11)) (fun _ => rfl) ?_
          refine yi_D_gr (v := some 50) rfl rfl rfl (at_r w12.1.1 (j := 6) rfl) (fun _ => ?_)
          refine yi_D_gi (v := (S.1.2.2 : Int) + 1) rfl rfl rfl e120 (fun _ => ?_)
          refine yi_D_reti rfl ?_
          have z := ca_50 (I' := I19) (R' := R8) w12 l13 p15 (fun x k h => ⟨e423 x k (by omega), rfl⟩) (fun _ _ => rfl)
          exact Or.inr ⟨by omega, _, _, _, _, _, _, rfl, z.2.1, z.2.2.1, sc_S_pm s14 z.1 (by omega) e120 e221 e322 e423, z.2.2.2, sa_A_t a16 z.1 rfl⟩
        · refine yi_D_if2 false rfl (yi_lt_f h5) ?_
          refine yi_D_run 1 (34, [(0, .inr (.inr (some 10))), (1, .inl x), (2, .inl y)], [.inl (-1)], (I, L, R, Y), 0, 0) (fun _ => rfl) ?_
          refine yi_D_reti rfl ?_
          exact Or.inl ⟨by omega, rfl⟩
  · show yi_D zi_Ms d zi_m166 k (8, [(0, .inr (.inr (some 10))), (1, .inl x), (2, .inl y)], [.inl 0], (I, L, R, Y), 0, 0) _
    refine yi_D_if1 true rfl (by decide) ?_
    refine yi_D_run 1 (34, [(0, .inr (.inr (some 10))), (1, .inl x), (2, .inl y)], [.inl (-1)], (I, L, R, Y), 0, 0) (fun _ => rfl) ?_
    refine yi_D_reti rfl ?_
    exact Or.inl ⟨by omega, rfl⟩
