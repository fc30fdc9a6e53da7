/-! The class: in which futures a formula holds. -/
theorem ww_rz {I L I' G : Nat → Nat → Int} {R R' : Nat → Nat → Option Nat} {Y Y' : (Nat → Nat) × (Nat → Nat) × Nat} {n da pe ev p c c' : Nat} {W : Nat → Nat → Int} (hA : at_T R Y) (hd : I 34 7 = (da : Int) ∧ I 34 8 = (pe : Int)) (bld : da ≤ 6 ∧ pe ≤ 4 ∧ ev ≤ 4) (hp : ¬ p = 34 ∧ ¬ p = 39) (hW : wd_C I L R Y n da pe ev W p c) (h43 : ∀ i pw cw, i < 96 → R 39 i = some pw → R pw 0 = some cw → ¬ cw = 43) (hz : rz_H I R Y I' R' Y' p n c c') (hG : ∀ q k, q < Y.2.2 → ¬ q = c' → ¬ q = 43 → G q k = L q k) : ww_S I' G R' Y' n da pe ev W := by
  have hN := hA.2.2.2
  obtain ⟨-, z2, ⟨z3, z4⟩, z5⟩ := hz
  refine ⟨⟨((z2 34 7 (by omega)).1 (by omega)).trans hd.1, ((z2 34 8 (by omega)).1 (by omega)).trans hd.2⟩, bld, fun d x e h1 h2 h3 => ?_⟩
  obtain ⟨pw, cw, w1, w2, w3, w4, w5⟩ := hW d x e h1 h2 h3
  have w2' := w2
  obtain ⟨⟨v1, v2, v3, v4, v5, v6⟩, v7, v8⟩ := w2
  have hi : 16 * d + 4 * x + e < 96 := by omega
  have hc43 := h43 _ pw cw hi w1 v7
  refine ⟨pw, cw, ((z2 39 _ (by omega)).2 (by omega)).trans w1, rw_S_t w2' ((z2 pw 1 v3).1 (by omega)) ((z2 pw 0 v3).2 (by omega)) z3 z4, fun k hk => ?_⟩
  rw [hG cw k v4 (by rcases z5 with ⟨a, -, -⟩ | ⟨a, -, -, -⟩ <;> omega) hc43]
  exact w3 k hk
theorem p_solve {d : Nat} {I L : Nat → Nat → Int} {R : Nat → Nat → Option Nat} {Y : (Nat → Nat) × (Nat → Nat) × Nat} (hA : at_T R Y) {n da pe ev Q fr m T p c : Nat} {W : Nat → Nat → Int} {cd : Nat → Nat} {sk : Nat → Nat → Nat → List Bool} (h342 : I 34 2 = (T : Int)) (h349 : I 34 9 = (n : Int)) (hn : n = (T + 63) / 64 ∧ 1 ≤ T ∧ n ≤ 512) (hd : I 34 7 = (da : Int) ∧ I 34 8 = (pe : Int)) (bld : da ≤ 6 ∧ pe ≤ 4 ∧ ev ≤ 4) (hpp : 10 ≤ p ∧ p < Y.2.2 ∧ Y.1 p = 5) (hR : R p 0 = some c) (hc : 10 ≤ c ∧ c < Y.2.2 ∧ Y.1 c = 21 ∧ Y.2.1 c ≤ 1000000 ∧ ¬ c = 43) (hW : wd_C I L R Y n da pe ev W p c) (h43 : ∀ i pw cw, i < 96 → R 39 i = some pw → R pw 0 = some cw → ¬ cw = 43) (hQ : 10 ≤ Q ∧ Q < Y.2.2 ∧ ¬ Q = p ∧ fr + m ≤ Y.2.1 Q ∧ Y.2.1 Q ≤ 100000) (hcd : ∀ k, k < m → I Q (fr + k) = (cd k : Int)) (hok : ∀ k, k < m → cokX pe ev da (cd k)) (hsk : ∀ z, z < n → ∀ i, i < 64 → sk z i 0 = [] ∧ ∀ k, k < m → bst (cval W pe ev da z i) (cd k) (sk z i k) = some (sk z i (k + 1))) : yi_P zi_Ms d 309 [.inr (.inr (some 34)), .inr (.inr (some Q)), .inl (fr : Int), .inl ((fr + m : Nat) : Int), .inr (.inr (some p))] (I, L, R, Y) (fun r => ∃ I' L' R' Y' nc ns c', r = (none, (I', L', R', Y'), nc, ns) ∧ rz_H I R Y I' R' Y' p n c c' ∧ (∀ f, f < 64 * n → rbc L' c' f = (decide (f < T) && (sk (f / 64) (f % 64) m).headD false)) ∧ rkc L' c' n ∧ (∀ q k, q < Y.2.2 → ¬ q = c' → ¬ q = 43 → L' q k = L q k) ∧ Y'.2.1 c' ≤ 1000000) := by
  refine yi_P_of (M := zi_m309) rfl (fun d k => ?_)
  have hNA := hA.2.2.2
  have hp34 : ¬ p = 34 := fun e => by have k5 := hpp.2.2; rw [e] at k5; have := at_k hA (j := 3) rfl; omega
  have hp39 : ¬ p = 39 := fun e => by have k5 := hpp.2.2; rw [e] at k5; have := at_nk hA (j := 7) rfl; omega
  show yi_D zi_Ms d zi_m309 k (0, [(0, .inr (.inr (some 34))), (1, .inr (.inr (some Q))), (2, .inl (fr : Int)), (3, .inl ((fr + m : Nat) : Int)), (4, .inr (.inr (some p)))], [], (I, L, R, Y), 0, 0) _
  refine yi_D_run 2 (3, [(0, .inr (.inr (some 34))), (1, .inr (.inr (some Q))), (2, .inl (fr : Int)), (3, .inl ((fr + m : Nat) : Int)), (4, .inr (.inr (some p)))], [.inr (.inr (some 34)), .inr (.inr (some p))], (I, L, R, Y), 0, 0) (fun _ => rfl) ?_
  refine yi_D_gi (v := (n : Int)) rfl rfl rfl h349 (fun _ => ?_)
  refine yi_D_callv rfl (p_resizeB ⟨by omega, by omega, by omega, by omega, hc.2.2.1⟩ hR ⟨by omega, by omega⟩) ?_
  rintro _ ⟨I1, L2, R3, Y4, n5, m6, c7, rfl, hz8, hL9, hB10⟩
  have hfI11 : ∀ q k, (q < Y.2.2 ∧ ¬ (q = p ∧ k = 1)) → I1 q k = I q k := fun q k h => (hz8.2.1 q k h.1).1 h.2
  have hfR12 : ∀ q k, (q < Y.2.2 ∧ ¬ (q = p ∧ k = 0)) → R3 q k = R q k := fun q k h => (hz8.2.1 q k h.1).2 h.2
  have hfY13 : ∀ q, q < Y.2.2 → Y4.1 q = Y.1 q ∧ Y4.2.1 q = Y.2.1 q := hz8.2.2.1.2
  have hNN14 := hz8.2.2.1.1
  obtain ⟨z115, z216, z317, z418, z519, z620⟩ := hz8.1
  show yi_D zi_Ms d zi_m309 k (9, [(0, .inr (.inr (some 34))), (1, .inr (.inr (some Q))), (2, .inl (fr : Int)), (3, .inl ((fr + m : Nat) : Int)), (4, .inr (.inr (some p)))], [], (I1, L2, R3, Y4), (0 + n5), (0 + m6)) _
  have hwT : ∀ G : Nat → Nat → Int, (∀ q k, q < Y.2.2 → ¬ q = c7 → ¬ q = 43 → G q k = L q k) → ww_S I1 G R3 Y4 n da pe ev W := fun G hG => ww_rz hA hd bld ⟨hp34, hp39⟩ hW h43 hz8 hG
  have hcc43 : ¬ c7 = 43 := by rcases hz8.2.2.2 with ⟨a, -, -⟩ | ⟨a, -, -, -⟩ <;> omega
  have hA2 : at_T R3 Y4 := at_T_t hA (fun x hx => by
    have b : ∀ q ∈ at_L, q.1 < 110 ∧ ¬ (q.1 = 35 ∨ q.1 = 37 ∨ q.1 = 41 ∨ q.1 = 58 ∨ q.1 = 60 ∨ q.1 = 62) := by decide
    have b2 : ∀ q ∈ at_L, q.1 = 10 ∨ q.1 = 11 ∨ q.1 = 12 ∨ q.1 = 34 ∨ q.1 = 44 ∨ q.1 = 46 ∨ q.1 = 50 := by decide
    refine (hz8.2.1 x.1 x.2.1 (by have := (b x hx).1; omega)).2 (fun e => ?_)
    have k5 := hpp.2.2
    rw [← e.1] at k5
    have k := b2 x hx
    have a0 := at_k hA (j := 0) rfl
    have a1 := at_k hA (j := 1) rfl
    have a2 := at_k hA (j := 2) rfl
    have a3 := at_k hA (j := 3) rfl
    have a4 := at_k hA (j := 7) rfl
    have a5 := at_k hA (j := 8) rfl
    have a6 := at_k hA (j := 10) rfl
    rcases k with k | k | k | k | k | k | k <;> (rw [k] at k5; omega)) hz8.2.2.1.1 hz8.2.2.1.2
  refine yi_D_run 2 (12, [(5, .inl 0), (0, .inr (.inr (some 34))), (1, .inr (.inr (some Q))), (2, .inl (fr : Int)), (3, .inl ((fr + m : Nat) : Int)), (4, .inr (.inr (some p)))], [], (I1, L2, R3, Y4), (0 + n5), (0 + m6)) (fun _ => rfl) ?_
  have pt12 : ∀ j12, j12 ≤ k → ∀ (y5 : Int) (G1 : Nat → Nat → Int), (0 ≤ y5 ∧ y5 ≤ (n : Int)) → (∀ f, f < 64 * y5.toNat → rbc G1 c7 f = (sk (f / 64) (f % 64) m).headD false) → (∀ k, k < y5.toNat → b64 (G1 c7 k)) → (∀ q k, q < Y.2.2 → ¬ q = c7 → ¬ q = 43 → G1 q k = L q k) → yi_D zi_Ms d zi_m309 j12 (12, [(5, .inl y5), (0, .inr (.inr (some 34))), (1, .inr (.inr (some Q))), (2, .inl (fr : Int)), (3, .inl ((fr + m : Nat) : Int)), (4, .inr (.inr (some p)))], [], (I1, G1, R3, Y4), (0 + n5), (0 + m6)) (fun r => ∃ I' L' R' Y' nc ns c', r = (none, (I', L', R', Y'), nc, ns) ∧ rz_H I R Y I' R' Y' p n c c' ∧ (∀ f, f < 64 * n → rbc L' c' f = (decide (f < T) && (sk (f / 64) (f % 64) m).headD false)) ∧ rkc L' c' n ∧ (∀ q k, q < Y.2.2 → ¬ q = c' → ¬ q = 43 → L' q k = L q k) ∧ Y'.2.1 c' ≤ 1000000) := by
    intro j12
    induction j12 with
    | zero => intros; exact yi_D_0
    | succ j12 ih12 =>
    intro hk12 y5 G1 hy5 hb hkb hF
    refine yi_D_run1 1 (15, [(5, .inl y5), (0, .inr (.inr (some 34))), (1, .inr (.inr (some Q))), (2, .inl (fr : Int)), (3, .inl ((fr + m : Nat) : Int)), (4, .inr (.inr (some p)))], [.inr (.inr (some 34)), .inl y5], (I1, G1, R3, Y4), (0 + n5), (0 + m6)) (fun _ => rfl) ?_
    have r21 : I1 34 9 = (n : Int) := by rw [hfI11 34 9 (by omega), h349]
    refine yi_D_gi (v := (n : Int)) rfl rfl rfl r21 (fun _ => ?_)
    by_cases h22 : (n : Int) ≤ y5
    · refine yi_D_if2 true rfl (yi_ge_t h22) ?_
      refine yi_D_run 1 (56, [(5, .inl y5), (0, .inr (.inr (some 34))), (1, .inr (.inr (some Q))), (2, .inl (fr : Int)), (3, .inl ((fr + m : Nat) : Int)), (4, .inr (.inr (some p)))], [.inr (.inr (some 34))], (I1, G1, R3, Y4), (0 + n5), (0 + m6)) (fun _ => rfl) ?_
      have r23 : I1 34 2 = (T : Int) := by rw [hfI11 34 2 (by omega), h342]
      refine yi_D_gi (v := (T : Int)) rfl rfl rfl r23 (fun _ => ?_)
      refine yi_D_run 1 (61, [(5, .inl y5), (0, .inr (.inr (some 34))), (1, .inr (.inr (some Q))), (2, .inl (fr : Int)), (3, .inl ((fr + m : Nat) : Int)), (4, .inr (.inr (some p)))], [.inl 64, .inl (T : Int)], (I1, G1, R3, Y4), (0 + n5), (0 + m6)) (fun _ => rfl) ?_
      refine yi_D_irem rfl (by omega) ((T : Int) % 64) (yi_md (by omega) rfl) ?_
      refine yi_D_run 2 (65, [(5, .inl ((T : Int) % 64)), (0, .inr (.inr (some 34))), (1, .inr (.inr (some Q))), (2, .inl (fr : Int)), (3, .inl ((fr + m : Nat) : Int)), (4, .inr (.inr (some p)))], [.inr (.inr (some 34))], (I1, G1, R3, Y4), (0 + n5), (0 + m6)) (fun _ => rfl) ?_
      have r24 : I1 34 9 = (n : Int) := by rw [hfI11 34 9 (by omega), h349]
      refine yi_D_gi (v := (n : Int)) rfl rfl rfl r24 (fun _ => ?_)
      refine yi_D_run 1 (69, [(5, .inl ((T : Int) % 64)), (0, .inr (.inr (some 34))), (1, .inr (.inr (some Q))), (2, .inl (fr : Int)), (3, .inl ((fr + m : Nat) : Int)), (4, .inr (.inr (some p)))], [.inl 1, .inl (n : Int)], (I1, G1, R3, Y4), (0 + n5), (0 + m6)) (fun _ => rfl) ?_
      refine yi_D_isub rfl ((n : Int) - 1) (yi_wn (by omega) (by omega)) ?_
      refine yi_D_run 2 (74, [(6, .inl ((n : Int) - 1)), (5, .inl ((T : Int) % 64)), (0, .inr (.inr (some 34))), (1, .inr (.inr (some Q))), (2, .inl (fr : Int)), (3, .inl ((fr + m : Nat) : Int)), (4, .inr (.inr (some p)))], [.inl ((T : Int) % 64)], (I1, G1, R3, Y4), (0 + n5), (0 + m6)) (fun _ => rfl) ?_
      by_cases h25 : ((T : Int) % 64) = 0
      · refine yi_D_if1 true rfl (yi_eq_t h25) ?_
        refine yi_D_retv rfl ?_
        have hy5n : y5.toNat = n := by omega
        rw [hy5n] at hb hkb
        exact ⟨_, _, _, _, _, _, c7, rfl, hz8, fun f hf => by rw [hb f hf, decide_eq_true (show f < T by omega), Bool.true_and], hkb, hF, hB10 hc.2.2.2.1⟩
      · refine yi_D_if1 false rfl (yi_eq_f h25) ?_
        refine yi_D_run 1 (79, [(6, .inl ((n : Int) - 1)), (5, .inl ((T : Int) % 64)), (0, .inr (.inr (some 34))), (1, .inr (.inr (some Q))), (2, .inl (fr : Int)), (3, .inl ((fr + m : Nat) : Int)), (4, .inr (.inr (some p)))], [.inl ((n : Int) - 1)], (I1, G1, R3, Y4), (0 + n5), (0 + m6)) (fun _ => rfl) ?_
        have h26 : ¬ (((n : Int) - 1) < 0) := by omega
        refine yi_D_if1 false rfl (yi_lt_f h26) ?_
        refine yi_D_run 2 (86, [(6, .inl ((n : Int) - 1)), (5, .inl ((T : Int) % 64)), (0, .inr (.inr (some 34))), (1, .inr (.inr (some Q))), (2, .inl (fr : Int)), (3, .inl ((fr + m : Nat) : Int)), (4, .inr (.inr (some p)))], [.inr (.inr (some p)), .inl ((n : Int) - 1)], (I1, G1, R3, Y4), (0 + n5), (0 + m6)) (fun _ => rfl) ?_
        refine yi_D_gr (v := some c7) rfl rfl (Nat.ble_eq_true_of_le (by omega)) z115 (fun _ => ?_)
        refine yi_D_len (v := (Y4.2.1 c7 : Int)) rfl (Nat.ble_eq_true_of_le (by omega)) rfl ?_
        have h27 : ¬ ((Y4.2.1 c7 : Int) ≤ ((n : Int) - 1)) := by omega
        refine yi_D_if2 false rfl (yi_ge_f h27) ?_
        refine yi_D_run 1 (95, [(6, .inl ((n : Int) - 1)), (5, .inl ((T : Int) % 64)), (0, .inr (.inr (some 34))), (1, .inr (.inr (some Q))), (2, .inl (fr : Int)), (3, .inl ((fr + m : Nat) : Int)), (4, .inr (.inr (some p)))], [.inr (.inr (some p))], (I1, G1, R3, Y4), (0 + n5), (0 + m6)) (fun _ => rfl) ?_
        refine yi_D_gr (v := some c7) rfl rfl (Nat.ble_eq_true_of_le (by omega)) z115 (fun _ => ?_)
        refine yi_D_run 2 (101, [(6, .inl ((n : Int) - 1)), (5, .inl ((T : Int) % 64)), (0, .inr (.inr (some 34))), (1, .inr (.inr (some Q))), (2, .inl (fr : Int)), (3, .inl ((fr + m : Nat) : Int)), (4, .inr (.inr (some p)))], [.inl ((n : Int) - 1), .inr (.inr (some c7)), .inl ((n : Int) - 1), .inr (.inr (some c7))], (I1, G1, R3, Y4), (0 + n5), (0 + m6)) (fun _ => rfl) ?_
        refine yi_D_ll (v := G1 c7 (((n : Int) - 1).toNat)) rfl (Nat.ble_eq_true_of_le (by omega)) rfl (fun _ _ => ?_)
        refine yi_D_run 6 (109, [(6, .inl ((n : Int) - 1)), (5, .inl ((T : Int) % 64)), (0, .inr (.inr (some 34))), (1, .inr (.inr (some Q))), (2, .inl (fr : Int)), (3, .inl ((fr + m : Nat) : Int)), (4, .inr (.inr (some p)))], [.inr (.inl (yi_land (G1 c7 (((n : Int) - 1).toNat)) (yi_W ((yi_lshl 1 ((T : Int) % 64)) - 1)))), .inl ((n : Int) - 1), .inr (.inr (some c7))], (I1, G1, R3, Y4), (0 + n5), (0 + m6)) (fun _ => rfl) ?_
        refine yi_D_ls rfl (fun _ _ => ?_)
        generalize w29 : yi_u G1 c7 (((n : Int) - 1).toNat) (yi_land (G1 c7 (((n : Int) - 1).toNat)) (yi_W ((yi_lshl 1 ((T : Int) % 64)) - 1))) = L28
        refine yi_D_retv rfl ?_
        have hy5n : y5.toNat = n := by omega
        rw [hy5n] at hb hkb
        refine ⟨_, _, _, _, _, _, c7, rfl, hz8, fun f hf => ?_, fun k hk => ?_, fun q k h1 h2 h3 => ?_, hB10 hc.2.2.2.1⟩
        · have z := hb f hf
          unfold rbc at z ⊢
          by_cases e : f / 64 = n - 1
          · rw [e] at z ⊢
            rw [← w29, show ((n : Int) - 1).toNat = n - 1 by omega, yi_u_eq, yb_and, z, show (T : Int) % 64 = ((T % 64 : Nat) : Int) by omega, yb_low (T % 64) (by omega) _ (Nat.mod_lt _ (by omega)), Bool.and_comm]
            exact congrArg (· && _) (decide_eq_decide.2 (by omega))
          · rw [← w29, yi_u_ne _ _ (fun y => e (by have := y.2; omega)), z, decide_eq_true (show f < T by omega), Bool.true_and]
        · by_cases e : k = n - 1
          · rw [e, ← w29, show ((n : Int) - 1).toNat = n - 1 by omega, yi_u_eq]
            exact b64_land _ _
          · rw [← w29, yi_u_ne _ _ (fun y => e (by have := y.2; omega))]
            exact hkb k hk
        · rw [← w29, yi_u_ne _ _ (fun y => h2 y.1)]
          exact hF q k h1 h2 h3
    · refine yi_D_if2 false rfl (yi_ge_f h22) ?_
      refine yi_D_run 2 (25, [(5, .inl y5), (0, .inr (.inr (some 34))), (1, .inr (.inr (some Q))), (2, .inl (fr : Int)), (3, .inl ((fr + m : Nat) : Int)), (4, .inr (.inr (some p)))], [.inr (.inr (some p)), .inl y5], (I1, G1, R3, Y4), (0 + n5), (0 + m6)) (fun _ => rfl) ?_
      refine yi_D_gr (v := some c7) rfl rfl (Nat.ble_eq_true_of_le (by omega)) z115 (fun _ => ?_)
      refine yi_D_len (v := (Y4.2.1 c7 : Int)) rfl (Nat.ble_eq_true_of_le (by omega)) rfl ?_
      have h30 : ¬ ((Y4.2.1 c7 : Int) ≤ y5) := by omega
      refine yi_D_if2 false rfl (yi_ge_f h30) ?_
      refine yi_D_run 1 (34, [(5, .inl y5), (0, .inr (.inr (some 34))), (1, .inr (.inr (some Q))), (2, .inl (fr : Int)), (3, .inl ((fr + m : Nat) : Int)), (4, .inr (.inr (some p)))], [.inr (.inr (some p))], (I1, G1, R3, Y4), (0 + n5), (0 + m6)) (fun _ => rfl) ?_
      refine yi_D_gr (v := some c7) rfl rfl (Nat.ble_eq_true_of_le (by omega)) z115 (fun _ => ?_)
      refine yi_D_run 6 (45, [(5, .inl y5), (0, .inr (.inr (some 34))), (1, .inr (.inr (some Q))), (2, .inl (fr : Int)), (3, .inl ((fr + m : Nat) : Int)), (4, .inr (.inr (some p)))], [.inl y5, .inl ((fr + m : Nat) : Int), .inl (fr : Int), .inr (.inr (some Q)), .inr (.inr (some 34)), .inl y5, .inr (.inr (some c7))], (I1, G1, R3, Y4), (0 + n5), (0 + m6)) (fun _ => rfl) ?_
      refine yi_D_callv rfl (p_solveCell hA2 (fun G hG => hwT G (fun q k h1 h2 h3 => (hG q k h3).trans (hF q k h1 h2 h3))) ⟨hQ.1, by rw [(hfY13 Q hQ.2.1).2]; exact hQ.2.2.2.1, by rw [(hfY13 Q hQ.2.1).2]; exact hQ.2.2.2.2⟩ (fun k hk => by rw [hfI11 Q _ ⟨hQ.2.1, fun z => hQ.2.2.1 z.1⟩]; exact hcd k hk) hok (z := y5) (sk := sk y5.toNat) (fun i hi => hsk y5.toNat (by omega) i hi) (by omega)) ?_
      rintro _ ⟨v31, L32, rfl, a33, b34, f35⟩
      show yi_D zi_Ms d zi_m309 j12 (48, [(5, .inl y5), (0, .inr (.inr (some 34))), (1, .inr (.inr (some Q))), (2, .inl (fr : Int)), (3, .inl ((fr + m : Nat) : Int)), (4, .inr (.inr (some p)))], [.inr (.inl v31), .inl y5, .inr (.inr (some c7))], (I1, L32, R3, Y4), (0 + n5), (0 + m6)) _
      refine yi_D_ls rfl (fun _ _ => ?_)
      generalize w37 : yi_u L32 c7 (y5.toNat) v31 = L36
      refine yi_D_iinc [(5, .inl (y5 + 1)), (0, .inr (.inr (some 34))), (1, .inr (.inr (some Q))), (2, .inl (fr : Int)), (3, .inl ((fr + m : Nat) : Int)), (4, .inr (.inr (some p)))] rfl rfl rfl (by rw [show yi_w (y5 + 1) = y5 + 1 from (yi_wn (by omega) (by omega)).trans (by omega)]; rfl) ?_
      refine yi_D_run 1 (12, [(5, .inl (y5 + 1)), (0, .inr (.inr (some 34))), (1, .inr (.inr (some Q))), (2, .inl (fr : Int)), (3, .inl ((fr + m : Nat) : Int)), (4, .inr (.inr (some p)))], [], (I1, L36, R3, Y4), (0 + n5), (0 + m6)) (fun _ => rfl) ?_
      exact yi_D_mono (ih12 (by omega) (y5 + 1) L36 (by omega) (fun f hf => by unfold rbc; by_cases e : f / 64 = y5.toNat; rw [e, ← w37, yi_u_eq, a33 _ (Nat.mod_lt _ (by omega))]; rw [← w37, yi_u_ne _ _ (fun z => e z.2), f35 _ _ hcc43]; exact hb f (by omega)) (fun k hk => by by_cases e : k = y5.toNat; rw [e, ← w37, yi_u_eq]; exact b34; rw [← w37, yi_u_ne _ _ (fun z => e z.2), f35 _ _ hcc43]; exact hkb k (by omega)) (fun q k h1 h2 h3 => by rw [← w37, yi_u_ne _ _ (fun z => h2 z.1), f35 q k h3]; exact hF q k h1 h2 h3)) (by omega)
  exact pt12 k (Nat.le_refl _) 0 L2 (by omega) (fun f hf => absurd hf (by omega)) (fun k hk => absurd hk (by omega)) (fun q k h1 _ _ => hL9 q k h1)
