/-! The check begins a land: its rows, its state. -/
theorem q_begins {d : Nat} {I L : Nat → Nat → Int} {R : Nat → Nat → Option Nat} {Y : (Nat → Nat) × (Nat → Nat) × Nat} (hS : ym_S (R, Y)) {da pe ev m F n nl nw : Nat} {fa : Nat → Int} {lf lN wf wN who : Nat → Nat} {lw ww : Nat → Nat → Int} {kd : Nat → Int} (hda : I 88 0 = (da : Int)) (hpe : I 88 1 = (pe : Int)) (hev : I 88 2 = (ev : Int)) (bld : da ≤ 6 ∧ pe ≤ 4 ∧ ev ≤ 4) (hm : m = mny da pe ev) (hF : F = ev ^ m) (hF2 : F ≤ 32768) (hn : n = (F + 63) / 64) (hnl : I 88 4 = (nl : Int)) (hnl4 : nl ≤ 4) (hnw : I 88 5 = (nw : Int)) (hnw6 : nw ≤ 6) (hlf : ∀ j, j < nl → I 88 (21 + j) = (lf j : Int)) (hwf : ∀ w, w < nw → I 88 (27 + 3 * w) = (wf w : Int)) (hwo : ∀ w, w < nw → I 88 (25 + 3 * w) = (who w : Int) ∧ who w ≤ 4 ∧ I 88 (11 + 2 * who w) = kd w) (hfa : ∀ j, j < 3 → I 95 j = fa j) (hpl : ∀ j, j < nl → pgF I pe ev da m F 0 fa (lf j) (lN j) (lw j)) (hpw : ∀ w, w < nw → pgF I pe ev da m F (kd w) fa (wf w) (wN w) (ww w)) (h28 : I 82 28 = 0) (hbn : bn_I R Y) (hN82 : 82 < Y.2.2) : yi_P zi_Ms d 4 [.inr (.inr (some 82))] (I, L, R, Y) (fun r => ∃ I' L', r = (none, (I', L', R, Y), 0, 0) ∧ (∀ k e f, k < m → e < ev → f < 64 * n → rbt L' (ev * k + e) f = (decide (f < F) && decide (dg ev m f k = e))) ∧ (∀ f, f < 64 * n → rbt L' 32 f = (decide (f < F) && al (fun j => decide (¬ lw j f = 0)) nl)) ∧ (∀ w f, w < nw → f < 64 * n → rbt L' (40 + w) f = (!(decide (kd w = 4) && nmg I (wf w) (wN w)) && (decide (f < F) && (decide (¬ ww w f = 0) != decide (kd w = 2))))) ∧ (∀ a, a ≤ 32 → rok L' a n) ∧ (∀ w, w < nw → rok L' (40 + w) n) ∧ (I' 82 24 = (F : Int) ∧ I' 82 25 = (n : Int) ∧ I' 82 28 = 0 ∧ ∀ k, k < m → I' 98 k = ((ev ^ (m - 1 - k) : Nat) : Int)) ∧ (∀ k : Nat, k < 110 → I' 100 k = if k = 1 then 1 else if 3 ≤ k ∧ k < 8 then I 88 (12 + 2 * (k - 3)) else if 44 ≤ k ∧ k < 68 then -1 else 0) ∧ I' 82 30 = 0 ∧ (∀ m : Nat, m < 5 → I' 101 m = 0 ∧ I' 102 m = 0) ∧ (∀ p k, bn_pr p = true → I' p k = I p k ∧ L' p k = L p k) ∧ ∀ p k, bn_ps p k = true → I' p k = I p k) := by
  refine yi_P_of (M := zi_m4) rfl (fun d k => ?_)
  show yi_D zi_Ms d zi_m4 k (0, [(0, .inr (.inr (some 82)))], [], (I, L, R, Y), 0, 0) _
  refine yi_D_run 1 (1, [(0, .inr (.inr (some 82)))], [.inr (.inr (some 82))], (I, L, R, Y), 0, 0) (fun _ => rfl) ?_
  refine yi_D_callv rfl (yi_P_a (q_findsFutures hS hda hpe hev bld hm hF hF2 hn hnl hnl4 hnw hnw6 hlf hwf hwo hfa hpl hpw h28) (bn_P hbn (by decide +kernel) (bn_vn (bn_v82 hN82) bn_v0))) ?_
  rintro _ ⟨⟨I1, L2, rfl, r13, r24, r35, r46, r57, r68, r79, r810, r911⟩, hb12⟩
  have hb12 : bn_H I L I1 L2 R Y := hb12
  have e88 : ∀ k, I1 88 k = I 88 k := fun k => (hb12.2.1 88 k rfl).1
  show yi_D zi_Ms d zi_m4 k (4, [(0, .inr (.inr (some 82)))], [], (I1, L2, R, Y), 0, 0) _
  refine yi_D_run 2 (6, [(1, .inl 0), (0, .inr (.inr (some 82)))], [], (I1, L2, R, Y), 0, 0) (fun _ => rfl) ?_
  have pt6 : ∀ j6, j6 ≤ k → ∀ (z1 : Int) (J1 : Nat → Nat → Int), (0 ≤ z1 ∧ z1 ≤ 110) → (∀ k : Nat, (k : Int) < z1 → J1 100 k = if 44 ≤ k ∧ k < 68 then -1 else 0) → (∀ p k, ¬ p = 100 → J1 p k = I1 p k) → yi_D zi_Ms d zi_m4 j6 (6, [(1, .inl z1), (0, .inr (.inr (some 82)))], [], (J1, L2, R, Y), 0, 0) (fun r => ∃ I' L', r = (none, (I', L', R, Y), 0, 0) ∧ (∀ k e f, k < m → e < ev → f < 64 * n → rbt L' (ev * k + e) f = (decide (f < F) && decide (dg ev m f k = e))) ∧ (∀ f, f < 64 * n → rbt L' 32 f = (decide (f < F) && al (fun j => decide (¬ lw j f = 0)) nl)) ∧ (∀ w f, w < nw → f < 64 * n → rbt L' (40 + w) f = (!(decide (kd w = 4) && nmg I (wf w) (wN w)) && (decide (f < F) && (decide (¬ ww w f = 0) != decide (kd w = 2))))) ∧ (∀ a, a ≤ 32 → rok L' a n) ∧ (∀ w, w < nw → rok L' (40 + w) n) ∧ (I' 82 24 = (F : Int) ∧ I' 82 25 = (n : Int) ∧ I' 82 28 = 0 ∧ ∀ k, k < m → I' 98 k = ((ev ^ (m - 1 - k) : Nat) : Int)) ∧ (∀ k : Nat, k < 110 → I' 100 k = if k = 1 then 1 else if 3 ≤ k ∧ k < 8 then I 88 (12 + 2 * (k - 3)) else if 44 ≤ k ∧ k < 68 then -1 else 0) ∧ I' 82 30 = 0 ∧ (∀ m : Nat, m < 5 → I' 101 m = 0 ∧ I' 102 m = 0) ∧ (∀ p k, bn_pr p = true → I' p k = I p k ∧ L' p k = L p k) ∧ ∀ p k, bn_ps p k = true → I' p k = I p k) := by
    intro j6
    induction j6 with
    | zero => intros; exact yi_D_0
    | succ j6 ih6 =>
    intro hk6 z1 J1 hz1 h6v h6f
    refine yi_D_run1 1 (9, [(1, .inl z1), (0, .inr (.inr (some 82)))], [.inl 110, .inl z1], (J1, L2, R, Y), 0, 0) (fun _ => rfl) ?_
    by_cases h13 : 110 ≤ z1
    · refine yi_D_if2 true rfl (yi_ge_t h13) ?_
      refine yi_D_run 1 (42, [(1, .inl z1), (0, .inr (.inr (some 82)))], [.inr (.inr (some 82))], (J1, L2, R, Y), 0, 0) (fun _ => rfl) ?_
      refine yi_D_gr (v := some 100) rfl rfl rfl (ym_S_at hS (j := 17) rfl).1 (fun _ => ?_)
      refine yi_D_run 2 (47, [(1, .inl z1), (0, .inr (.inr (some 82)))], [.inl 1, .inl 1, .inr (.inr (some 100))], (J1, L2, R, Y), 0, 0) (fun _ => rfl) ?_
      refine yi_D_is rfl (fun _ _ => ?_)
      show yi_D zi_Ms d zi_m4 j6 (48, [(1, .inl z1), (0, .inr (.inr (some 82)))], [], ((yi_u J1 100 1 1), L2, R, Y), 0, 0) _
      generalize w15 : yi_u J1 100 1 1 = I14
      refine yi_D_run 2 (50, [(1, .inl 0), (0, .inr (.inr (some 82)))], [], (I14, L2, R, Y), 0, 0) (fun _ => rfl) ?_
      have pt50 : ∀ j50, j50 ≤ j6 → ∀ (z2 : Int) (J2 : Nat → Nat → Int), (0 ≤ z2 ∧ z2 ≤ 5) → (∀ k : Nat, k < 110 → True → J2 100 k = if 3 ≤ k ∧ (k : Int) < 3 + z2 then I 88 (12 + 2 * (k - 3)) else if k = 1 then 1 else if 44 ≤ k ∧ k < 68 then -1 else 0) → (∀ p k, ¬ p = 100 → J2 p k = I1 p k) → yi_D zi_Ms d zi_m4 j50 (50, [(1, .inl z2), (0, .inr (.inr (some 82)))], [], (J2, L2, R, Y), 0, 0) (fun r => ∃ I' L', r = (none, (I', L', R, Y), 0, 0) ∧ (∀ k e f, k < m → e < ev → f < 64 * n → rbt L' (ev * k + e) f = (decide (f < F) && decide (dg ev m f k = e))) ∧ (∀ f, f < 64 * n → rbt L' 32 f = (decide (f < F) && al (fun j => decide (¬ lw j f = 0)) nl)) ∧ (∀ w f, w < nw → f < 64 * n → rbt L' (40 + w) f = (!(decide (kd w = 4) && nmg I (wf w) (wN w)) && (decide (f < F) && (decide (¬ ww w f = 0) != decide (kd w = 2))))) ∧ (∀ a, a ≤ 32 → rok L' a n) ∧ (∀ w, w < nw → rok L' (40 + w) n) ∧ (I' 82 24 = (F : Int) ∧ I' 82 25 = (n : Int) ∧ I' 82 28 = 0 ∧ ∀ k, k < m → I' 98 k = ((ev ^ (m - 1 - k) : Nat) : Int)) ∧ (∀ k : Nat, k < 110 → I' 100 k = if k = 1 then 1 else if 3 ≤ k ∧ k < 8 then I 88 (12 + 2 * (k - 3)) else if 44 ≤ k ∧ k < 68 then -1 else 0) ∧ I' 82 30 = 0 ∧ (∀ m : Nat, m < 5 → I' 101 m = 0 ∧ I' 102 m = 0) ∧ (∀ p k, bn_pr p = true → I' p k = I p k ∧ L' p k = L p k) ∧ ∀ p k, bn_ps p k = true → I' p k = I p k) := by
        intro j50
        induction j50 with
        | zero => intros; exact yi_D_0
        | succ j50 ih50 =>
        intro hk50 z2 J2 hz2 h50v h50f
        refine yi_D_run1 1 (52, [(1, .inl z2), (0, .inr (.inr (some 82)))], [.inl 5, .inl z2], (J2, L2, R, Y), 0, 0) (fun _ => rfl) ?_
        by_cases h16 : 5 ≤ z2
        · refine yi_D_if2 true rfl (yi_ge_t h16) ?_
          refine yi_D_run 2 (84, [(1, .inl z2), (0, .inr (.inr (some 82)))], [.inl 0, .inr (.inr (some 82))], (J2, L2, R, Y), 0, 0) (fun _ => rfl) ?_
          refine yi_D_pi rfl (fun _ => ?_)
          generalize w18 : yi_u J2 82 30 0 = I17
          refine yi_D_run 2 (89, [(1, .inl 0), (0, .inr (.inr (some 82)))], [], (I17, L2, R, Y), 0, 0) (fun _ => rfl) ?_
          have pt89 : ∀ j89, j89 ≤ j50 → ∀ (z3 : Int) (J3 : Nat → Nat → Int), (0 ≤ z3 ∧ z3 ≤ 5) → (∀ k : Nat, (k : Int) < z3 → J3 101 k = 0 ∧ J3 102 k = 0) → (∀ p k, ¬ p = 101 ∧ ¬ p = 102 ∧ ¬ (p = 82 ∧ k = 30) → J3 p k = J2 p k) → (J3 82 30 = 0) → yi_D zi_Ms d zi_m4 j89 (89, [(1, .inl z3), (0, .inr (.inr (some 82)))], [], (J3, L2, R, Y), 0, 0) (fun r => ∃ I' L', r = (none, (I', L', R, Y), 0, 0) ∧ (∀ k e f, k < m → e < ev → f < 64 * n → rbt L' (ev * k + e) f = (decide (f < F) && decide (dg ev m f k = e))) ∧ (∀ f, f < 64 * n → rbt L' 32 f = (decide (f < F) && al (fun j => decide (¬ lw j f = 0)) nl)) ∧ (∀ w f, w < nw → f < 64 * n → rbt L' (40 + w) f = (!(decide (kd w = 4) && nmg I (wf w) (wN w)) && (decide (f < F) && (decide (¬ ww w f = 0) != decide (kd w = 2))))) ∧ (∀ a, a ≤ 32 → rok L' a n) ∧ (∀ w, w < nw → rok L' (40 + w) n) ∧ (I' 82 24 = (F : Int) ∧ I' 82 25 = (n : Int) ∧ I' 82 28 = 0 ∧ ∀ k, k < m → I' 98 k = ((ev ^ (m - 1 - k) : Nat) : Int)) ∧ (∀ k : Nat, k < 110 → I' 100 k = if k = 1 then 1 else if 3 ≤ k ∧ k < 8 then I 88 (12 + 2 * (k - 3)) else if 44 ≤ k ∧ k < 68 then -1 else 0) ∧ I' 82 30 = 0 ∧ (∀ m : Nat, m < 5 → I' 101 m = 0 ∧ I' 102 m = 0) ∧ (∀ p k, bn_pr p = true → I' p k = I p k ∧ L' p k = L p k) ∧ ∀ p k, bn_ps p k = true → I' p k = I p k) := by
            intro j89
            induction j89 with
            | zero => intros; exact yi_D_0
            | succ j89 ih89 =>
            intro hk89 z3 J3 hz3 h89v h89f h89u
            refine yi_D_run1 1 (91, [(1, .inl z3), (0, .inr (.inr (some 82)))], [.inl 5, .inl z3], (J3, L2, R, Y), 0, 0) (fun _ => rfl) ?_
            by_cases h19 : 5 ≤ z3
            · refine yi_D_if2 true rfl (yi_ge_t h19) ?_
              refine yi_D_retv rfl ?_
              refine ⟨_, _, rfl, r13, r24, r35, r46, r57, ⟨((h89f 82 24 (by omega)).trans ((h50f 82 24 (by omega)).trans r68)), ((h89f 82 25 (by omega)).trans ((h50f 82 25 (by omega)).trans r79)), ((h89f 82 28 (by omega)).trans ((h50f 82 28 (by omega)).trans r810)), fun k hk => ((h89f 98 k (by omega)).trans ((h50f 98 k (by omega)).trans (r911 k hk)))⟩, fun k hk => ?_, h89u, fun m hm => h89v m (by omega), fun p k hp => ⟨?_, (hb12.2.1 p k hp).2⟩, fun p k hp => ?_⟩
              · rw [h89f 100 k (by omega), h50v k hk trivial]
                by_cases c : k = 1
                · rw [if_neg (show ¬ (3 ≤ k ∧ (k : Int) < 3 + z2) by omega), if_pos c, if_pos c]
                · by_cases c2 : 3 ≤ k ∧ k < 8
                  · rw [if_pos (show 3 ≤ k ∧ (k : Int) < 3 + z2 by omega), if_neg c, if_pos c2]
                  · rw [if_neg (show ¬ (3 ≤ k ∧ (k : Int) < 3 + z2) by omega), if_neg c, if_neg c, if_neg c2]
              · have hq : ¬ p = 100 ∧ ¬ p = 101 ∧ ¬ p = 102 ∧ ¬ p = 82 := by
                  refine ⟨?_, ?_, ?_, ?_⟩ <;> (intro e; subst e; exact absurd hp (by decide))
                exact ((h89f p k (by omega)).trans ((h50f p k (by omega)).trans (hb12.2.1 p k hp).1))
              · have hq : p = 82 ∧ ¬ k = 30 := by
                  unfold bn_ps at hp
                  rw [Bool.and_eq_true] at hp
                  refine ⟨Nat.eq_of_beq_eq_true hp.1, fun e => ?_⟩
                  subst e
                  exact absurd hp.2 (by decide)
                exact ((h89f p k (by omega)).trans ((h50f p k (by omega)).trans (hb12.2.2 p k hp)))
            · refine yi_D_if2 false rfl (yi_ge_f h19) ?_
              refine yi_D_run 1 (95, [(1, .inl z3), (0, .inr (.inr (some 82)))], [.inr (.inr (some 82))], (J3, L2, R, Y), 0, 0) (fun _ => rfl) ?_
              refine yi_D_gr (v := some 102) rfl rfl rfl (ym_S_at hS (j := 19) rfl).1 (fun _ => ?_)
              refine yi_D_run 2 (100, [(1, .inl z3), (0, .inr (.inr (some 82)))], [.inl 0, .inl z3, .inr (.inr (some 102))], (J3, L2, R, Y), 0, 0) (fun _ => rfl) ?_
              refine yi_D_bs rfl (fun _ _ => ?_)
              generalize w21 : yi_u J3 102 (z3.toNat) 0 = I20
              refine yi_D_run 1 (102, [(1, .inl z3), (0, .inr (.inr (some 82)))], [.inr (.inr (some 82))], (I20, L2, R, Y), 0, 0) (fun _ => rfl) ?_
              refine yi_D_gr (v := some 101) rfl rfl rfl (ym_S_at hS (j := 18) rfl).1 (fun _ => ?_)
              refine yi_D_run 2 (107, [(1, .inl z3), (0, .inr (.inr (some 82)))], [.inl 0, .inl z3, .inr (.inr (some 101))], (I20, L2, R, Y), 0, 0) (fun _ => rfl) ?_
              refine yi_D_bs rfl (fun _ _ => ?_)
              generalize w23 : yi_u I20 101 (z3.toNat) 0 = I22
              refine yi_D_iinc [(1, .inl (z3 + 1)), (0, .inr (.inr (some 82)))] rfl rfl rfl (by rw [show yi_w (z3 + 1) = z3 + 1 from (yi_wn (by omega) (by omega)).trans (by omega)]; rfl) ?_
              refine yi_D_run 1 (89, [(1, .inl (z3 + 1)), (0, .inr (.inr (some 82)))], [], (I22, L2, R, Y), 0, 0) (fun _ => rfl) ?_
              exact yi_D_mono (ih89 (by omega) (z3 + 1) I22 (by omega) (fun k hk => by by_cases e : (k : Int) = z3; rw [← w23, ← w21, show k = z3.toNat by omega]; constructor; rw [yi_u_eq]; rw [yi_u_ne _ _ (by omega), yi_u_eq]; rw [← w23, ← w21, yi_u_ne _ _ (by omega), yi_u_ne _ _ (by omega), yi_u_ne _ _ (by omega), yi_u_ne _ _ (by omega)]; exact h89v k (by omega)) (fun p k h => by rw [← w23, yi_u_ne _ _ (by omega), ← w21, yi_u_ne _ _ (by omega)]; exact h89f p k h) (by rw [← w23, yi_u_ne _ _ (by omega), ← w21, yi_u_ne _ _ (by omega)]; exact h89u)) (by omega)
          exact pt89 j50 (Nat.le_refl _) 0 I17 (by omega) (fun k hk => absurd hk (by omega)) (fun p k h => by rw [← w18, yi_u_ne _ _ (by omega)]) (by rw [← w18, yi_u_eq])
        · refine yi_D_if2 false rfl (yi_ge_f h16) ?_
          refine yi_D_run 1 (56, [(1, .inl z2), (0, .inr (.inr (some 82)))], [.inr (.inr (some 82))], (J2, L2, R, Y), 0, 0) (fun _ => rfl) ?_
          refine yi_D_gr (v := some 100) rfl rfl rfl (ym_S_at hS (j := 17) rfl).1 (fun _ => ?_)
          refine yi_D_run 2 (61, [(1, .inl z2), (0, .inr (.inr (some 82)))], [.inl z2, .inl 3, .inr (.inr (some 100))], (J2, L2, R, Y), 0, 0) (fun _ => rfl) ?_
          refine yi_D_iadd rfl (3 + z2) (yi_wn (by omega) (by omega)) ?_
          refine yi_D_run 1 (63, [(1, .inl z2), (0, .inr (.inr (some 82)))], [.inr (.inr (some 82)), .inl (3 + z2), .inr (.inr (some 100))], (J2, L2, R, Y), 0, 0) (fun _ => rfl) ?_
          refine yi_D_gr (v := some 88) rfl rfl rfl (ym_S_at hS (j := 5) rfl).1 (fun _ => ?_)
          refine yi_D_run 3 (70, [(1, .inl z2), (0, .inr (.inr (some 82)))], [.inl z2, .inl 2, .inl 11, .inr (.inr (some 88)), .inl (3 + z2), .inr (.inr (some 100))], (J2, L2, R, Y), 0, 0) (fun _ => rfl) ?_
          refine yi_D_imul rfl (2 * z2) (yi_wn (by omega) (by omega)) ?_
          refine yi_D_iadd rfl (11 + (2 * z2)) (yi_wn (by omega) (by omega)) ?_
          refine yi_D_run 1 (73, [(1, .inl z2), (0, .inr (.inr (some 82)))], [.inl 1, .inl (11 + (2 * z2)), .inr (.inr (some 88)), .inl (3 + z2), .inr (.inr (some 100))], (J2, L2, R, Y), 0, 0) (fun _ => rfl) ?_
          refine yi_D_iadd rfl ((11 + (2 * z2)) + 1) (yi_wn (by omega) (by omega)) ?_
          have r24 : J2 88 (((11 + (2 * z2)) + 1).toNat) = I1 88 (((11 + (2 * z2)) + 1).toNat) := by rw [h50f 88 (((11 + (2 * z2)) + 1).toNat) (by omega)]
          refine yi_D_il (v := I1 88 (((11 + (2 * z2)) + 1).toNat)) rfl rfl r24 (fun _ _ => ?_)
          refine yi_D_is rfl (fun _ _ => ?_)
          generalize w26 : yi_u J2 100 ((3 + z2).toNat) (I1 88 (((11 + (2 * z2)) + 1).toNat)) = I25
          refine yi_D_iinc [(1, .inl (z2 + 1)), (0, .inr (.inr (some 82)))] rfl rfl rfl (by rw [show yi_w (z2 + 1) = z2 + 1 from (yi_wn (by omega) (by omega)).trans (by omega)]; rfl) ?_
          refine yi_D_run 1 (50, [(1, .inl (z2 + 1)), (0, .inr (.inr (some 82)))], [], (I25, L2, R, Y), 0, 0) (fun _ => rfl) ?_
          exact yi_D_mono (ih50 (by omega) (z2 + 1) I25 (by omega) (fun k hk h3 => by by_cases e : (k : Int) = 3 + z2; rw [← w26, show k = (3 + z2).toNat by omega, yi_u_eq, if_pos (by omega), e88, show (11 + (2 * z2) + 1).toNat = 12 + 2 * ((3 + z2).toNat - 3) by omega]; rw [← w26, yi_u_ne _ _ (by omega)]; have z := h50v k hk (by omega); by_cases c : 3 ≤ k ∧ (k : Int) < 3 + z2; rw [if_pos (by omega)]; rw [if_pos (by omega)] at z; exact z; rw [if_neg (by omega)]; rw [if_neg (by omega)] at z; exact z) (fun p k h => by rw [← w26, yi_u_ne _ _ (by omega)]; exact h50f p k h)) (by omega)
      exact pt50 j6 (Nat.le_refl _) 0 I14 (by omega) (fun k hk h3 => by rw [if_neg (by omega), ← w15]; by_cases e : k = 1; rw [e, yi_u_eq, if_pos rfl]; rw [yi_u_ne _ _ (by omega), if_neg e]; exact h6v k (by omega)) (fun p k h => by rw [← w15, yi_u_ne _ _ (by omega)]; exact h6f p k h)
    · refine yi_D_if2 false rfl (yi_ge_f h13) ?_
      refine yi_D_run 1 (13, [(1, .inl z1), (0, .inr (.inr (some 82)))], [.inr (.inr (some 82))], (J1, L2, R, Y), 0, 0) (fun _ => rfl) ?_
      refine yi_D_gr (v := some 100) rfl rfl rfl (ym_S_at hS (j := 17) rfl).1 (fun _ => ?_)
      refine yi_D_run 3 (20, [(1, .inl z1), (0, .inr (.inr (some 82)))], [.inl 44, .inl z1, .inl z1, .inr (.inr (some 100))], (J1, L2, R, Y), 0, 0) (fun _ => rfl) ?_
      by_cases h27 : z1 < 44
      · refine yi_D_if2 true rfl (yi_lt_t h27) ?_
        refine yi_D_run 1 (34, [(1, .inl z1), (0, .inr (.inr (some 82)))], [.inl 0, .inl z1, .inr (.inr (some 100))], (J1, L2, R, Y), 0, 0) (fun _ => rfl) ?_
        refine yi_D_is rfl (fun _ _ => ?_)
        generalize w29 : yi_u J1 100 (z1.toNat) 0 = I28
        refine yi_D_iinc [(1, .inl (z1 + 1)), (0, .inr (.inr (some 82)))] rfl rfl rfl (by rw [show yi_w (z1 + 1) = z1 + 1 from (yi_wn (by omega) (by omega)).trans (by omega)]; rfl) ?_
        refine yi_D_run 1 (6, [(1, .inl (z1 + 1)), (0, .inr (.inr (some 82)))], [], (I28, L2, R, Y), 0, 0) (fun _ => rfl) ?_
        exact yi_D_mono (ih6 (by omega) (z1 + 1) I28 (by omega) (fun k hk => if e : (k : Int) = z1 then (by rw [← w29, show k = z1.toNat by omega, yi_u_eq]; first | (rw [if_pos (by omega)]; done) | (rw [if_neg (by omega)]; done)) else (by rw [← w29, yi_u_ne _ _ (by omega)]; exact h6v k (by omega))) (fun p k h => by rw [← w29, yi_u_ne _ _ (by omega)]; exact h6f p k h)) (by omega)
      · refine yi_D_if2 false rfl (yi_lt_f h27) ?_
        refine yi_D_run 2 (26, [(1, .inl z1), (0, .inr (.inr (some 82)))], [.inl 68, .inl z1, .inl z1, .inr (.inr (some 100))], (J1, L2, R, Y), 0, 0) (fun _ => rfl) ?_
        by_cases h30 : 68 ≤ z1
        · refine yi_D_if2 true rfl (yi_ge_t h30) ?_
          refine yi_D_run 1 (34, [(1, .inl z1), (0, .inr (.inr (some 82)))], [.inl 0, .inl z1, .inr (.inr (some 100))], (J1, L2, R, Y), 0, 0) (fun _ => rfl) ?_
          refine yi_D_is rfl (fun _ _ => ?_)
          generalize w32 : yi_u J1 100 (z1.toNat) 0 = I31
          refine yi_D_iinc [(1, .inl (z1 + 1)), (0, .inr (.inr (some 82)))] rfl rfl rfl (by rw [show yi_w (z1 + 1) = z1 + 1 from (yi_wn (by omega) (by omega)).trans (by omega)]; rfl) ?_
          refine yi_D_run 1 (6, [(1, .inl (z1 + 1)), (0, .inr (.inr (some 82)))], [], (I31, L2, R, Y), 0, 0) (fun _ => rfl) ?_
          exact yi_D_mono (ih6 (by omega) (z1 + 1) I31 (by omega) (fun k hk => if e : (k : Int) = z1 then (by rw [← w32, show k = z1.toNat by omega, yi_u_eq]; first | (rw [if_pos (by omega)]; done) | (rw [if_neg (by omega)]; done)) else (by rw [← w32, yi_u_ne _ _ (by omega)]; exact h6v k (by omega))) (fun p k h => by rw [← w32, yi_u_ne _ _ (by omega)]; exact h6f p k h)) (by omega)
        · refine yi_D_if2 false rfl (yi_ge_f h30) ?_
          refine yi_D_run 2 (34, [(1, .inl z1), (0, .inr (.inr (some 82)))], [.inl (-1), .inl z1, .inr (.inr (some 100))], (J1, L2, R, Y), 0, 0) (fun _ => rfl) ?_
          refine yi_D_is rfl (fun _ _ => ?_)
          generalize w34 : yi_u J1 100 (z1.toNat) (-1) = I33
          refine yi_D_iinc [(1, .inl (z1 + 1)), (0, .inr (.inr (some 82)))] rfl rfl rfl (by rw [show yi_w (z1 + 1) = z1 + 1 from (yi_wn (by omega) (by omega)).trans (by omega)]; rfl) ?_
          refine yi_D_run 1 (6, [(1, .inl (z1 + 1)), (0, .inr (.inr (some 82)))], [], (I33, L2, R, Y), 0, 0) (fun _ => rfl) ?_
          exact yi_D_mono (ih6 (by omega) (z1 + 1) I33 (by omega) (fun k hk => if e : (k : Int) = z1 then (by rw [← w34, show k = z1.toNat by omega, yi_u_eq]; first | (rw [if_pos (by omega)]; done) | (rw [if_neg (by omega)]; done)) else (by rw [← w34, yi_u_ne _ _ (by omega)]; exact h6v k (by omega))) (fun p k h => by rw [← w34, yi_u_ne _ _ (by omega)]; exact h6f p k h)) (by omega)
  exact pt6 k (Nat.le_refl _) 0 I1 (by omega) (fun k hk => absurd hk (by omega)) (fun _ _ _ => rfl)
