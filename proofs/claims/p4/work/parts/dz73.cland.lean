/-! The class's land: laws, wishes and prices are put in, exactly. -/
theorem p_addLawE {d : Nat} {I L : Nat → Nat → Int} {R : Nat → Nat → Option Nat} {Y : (Nat → Nat) × (Nat → Nat) × Nat} {q n : Nat} {x y : Int} (hq : 20 ≤ q) (h8 : R q 8 = some (q + 9)) (h9 : R q 9 = some (q + 10)) (hn : I q 18 = (n : Int)) (h4 : n < 4) : yi_P zi_Ms d 221 [.inr (.inr (some q)), .inl x, .inl y] (I, L, R, Y) (fun r => ∃ I', r = (none, (I', L, R, Y), 0, 0) ∧ I' (q + 9) n = x ∧ I' (q + 10) n = y ∧ I' q 18 = (n : Int) + 1 ∧ ∀ p k, ¬ (p = q + 9 ∧ k = n) ∧ ¬ (p = q + 10 ∧ k = n) ∧ ¬ (p = q ∧ k = 18) → I' p k = I p k) := by
  refine yi_P_of (M := zi_m221) rfl (fun d k => ?_)
  show yi_D zi_Ms d zi_m221 k (0, [(0, .inr (.inr (some q))), (1, .inl x), (2, .inl y)], [], (I, L, R, Y), 0, 0) _
  refine yi_D_run 1 (1, [(0, .inr (.inr (some q))), (1, .inl x), (2, .inl y)], [.inr (.inr (some q))], (I, L, R, Y), 0, 0) (fun _ => rfl) ?_
  refine yi_D_gi (v := (n : Int)) rfl rfl (Nat.ble_eq_true_of_le (by omega)) hn (fun _ => ?_)
  refine yi_D_run 1 (5, [(0, .inr (.inr (some q))), (1, .inl x), (2, .inl y)], [.inl 4, .inl (n : Int)], (I, L, R, Y), 0, 0) (fun _ => rfl) ?_
  have h1 : ¬ (4 ≤ (n : Int)) := by omega
  refine yi_D_if2 false rfl (yi_ge_f h1) ?_
  refine yi_D_run 1 (9, [(0, .inr (.inr (some q))), (1, .inl x), (2, .inl y)], [.inr (.inr (some q))], (I, L, R, Y), 0, 0) (fun _ => rfl) ?_
  refine yi_D_gr (v := some (q + 9)) rfl rfl (Nat.ble_eq_true_of_le (by omega)) h8 (fun _ => ?_)
  refine yi_D_run 1 (13, [(0, .inr (.inr (some q))), (1, .inl x), (2, .inl y)], [.inr (.inr (some q)), .inr (.inr (some (q + 9)))], (I, L, R, Y), 0, 0) (fun _ => rfl) ?_
  refine yi_D_gi (v := (n : Int)) rfl rfl (Nat.ble_eq_true_of_le (by omega)) hn (fun _ => ?_)
  refine yi_D_run 1 (17, [(0, .inr (.inr (some q))), (1, .inl x), (2, .inl y)], [.inl x, .inl (n : Int), .inr (.inr (some (q + 9)))], (I, L, R, Y), 0, 0) (fun _ => rfl) ?_
  refine yi_D_is rfl (fun _ _ => ?_)
  generalize w3 : yi_u I (q + 9) ((n : Int).toNat) x = I2
  have w3 : yi_u I (q + 9) n x = I2 := w3
  refine yi_D_run 1 (19, [(0, .inr (.inr (some q))), (1, .inl x), (2, .inl y)], [.inr (.inr (some q))], (I2, L, R, Y), 0, 0) (fun _ => rfl) ?_
  refine yi_D_gr (v := some (q + 10)) rfl rfl (Nat.ble_eq_true_of_le (by omega)) h9 (fun _ => ?_)
  refine yi_D_run 1 (23, [(0, .inr (.inr (some q))), (1, .inl x), (2, .inl y)], [.inr (.inr (some q)), .inr (.inr (some (q + 10)))], (I2, L, R, Y), 0, 0) (fun _ => rfl) ?_
  have r4 : I2 q 18 = (n : Int) := by rw [← w3, yi_u_ne _ _ (by omega), hn]
  refine yi_D_gi (v := (n : Int)) rfl rfl (Nat.ble_eq_true_of_le (by omega)) r4 (fun _ => ?_)
  refine yi_D_run 1 (27, [(0, .inr (.inr (some q))), (1, .inl x), (2, .inl y)], [.inl y, .inl (n : Int), .inr (.inr (some (q + 10)))], (I2, L, R, Y), 0, 0) (fun _ => rfl) ?_
  refine yi_D_is rfl (fun _ _ => ?_)
  generalize w6 : yi_u I2 (q + 10) ((n : Int).toNat) y = I5
  have w6 : yi_u I2 (q + 10) n y = I5 := w6
  refine yi_D_run 2 (30, [(0, .inr (.inr (some q))), (1, .inl x), (2, .inl y)], [.inr (.inr (some q)), .inr (.inr (some q))], (I5, L, R, Y), 0, 0) (fun _ => rfl) ?_
  have r7 : I5 q 18 = (n : Int) := by rw [← w6, yi_u_ne _ _ (by omega), ← w3, yi_u_ne _ _ (by omega), hn]
  refine yi_D_gi (v := (n : Int)) rfl rfl (Nat.ble_eq_true_of_le (by omega)) r7 (fun _ => ?_)
  refine yi_D_run 1 (34, [(0, .inr (.inr (some q))), (1, .inl x), (2, .inl y)], [.inl 1, .inl (n : Int), .inr (.inr (some q))], (I5, L, R, Y), 0, 0) (fun _ => rfl) ?_
  refine yi_D_iadd rfl ((n : Int) + 1) (yi_wn (by omega) (by omega)) ?_
  refine yi_D_pi rfl (fun _ => ?_)
  generalize w9 : yi_u I5 q 18 ((n : Int) + 1) = I8
  refine yi_D_retv rfl ?_
  refine ⟨_, rfl, ?_, ?_, ?_, fun p k hp => ?_⟩
  · rw [← w9, yi_u_ne _ _ (by omega), ← w6, yi_u_ne _ _ (by omega), ← w3, yi_u_eq]
  · rw [← w9, yi_u_ne _ _ (by omega), ← w6, yi_u_eq]
  · rw [← w9, yi_u_eq]
  · rw [← w9, yi_u_ne _ _ (by omega), ← w6, yi_u_ne _ _ (by omega), ← w3, yi_u_ne _ _ (by omega)]
theorem p_addWishE {d : Nat} {I L : Nat → Nat → Int} {R : Nat → Nat → Option Nat} {Y : (Nat → Nat) × (Nat → Nat) × Nat} {q n : Nat} {x y z w : Int} (hq : 20 ≤ q) (h6 : R q 6 = some (q + 7)) (h7 : R q 7 = some (q + 8)) (h10 : R q 10 = some (q + 11)) (h11 : R q 11 = some (q + 12)) (hn : I q 19 = (n : Int)) (h4 : n < 6) : yi_P zi_Ms d 224 [.inr (.inr (some q)), .inl x, .inl y, .inl z, .inl w] (I, L, R, Y) (fun r => ∃ I', r = (none, (I', L, R, Y), 0, 0) ∧ I' (q + 7) n = x ∧ I' (q + 8) n = y ∧ I' (q + 11) n = z ∧ I' (q + 12) n = w ∧ I' q 19 = (n : Int) + 1 ∧ ∀ p k, ¬ (p = q + 7 ∧ k = n) ∧ ¬ (p = q + 8 ∧ k = n) ∧ ¬ (p = q + 11 ∧ k = n) ∧ ¬ (p = q + 12 ∧ k = n) ∧ ¬ (p = q ∧ k = 19) → I' p k = I p k) := by
  refine yi_P_of (M := zi_m224) rfl (fun d k => ?_)
  show yi_D zi_Ms d zi_m224 k (0, [(0, .inr (.inr (some q))), (1, .inl x), (2, .inl y), (3, .inl z), (4, .inl w)], [], (I, L, R, Y), 0, 0) _
  refine yi_D_run 1 (1, [(0, .inr (.inr (some q))), (1, .inl x), (2, .inl y), (3, .inl z), (4, .inl w)], [.inr (.inr (some q))], (I, L, R, Y), 0, 0) (fun _ => rfl) ?_
  refine yi_D_gi (v := (n : Int)) rfl rfl (Nat.ble_eq_true_of_le (by omega)) hn (fun _ => ?_)
  refine yi_D_run 1 (6, [(0, .inr (.inr (some q))), (1, .inl x), (2, .inl y), (3, .inl z), (4, .inl w)], [.inl 6, .inl (n : Int)], (I, L, R, Y), 0, 0) (fun _ => rfl) ?_
  have h1 : ¬ (6 ≤ (n : Int)) := by omega
  refine yi_D_if2 false rfl (yi_ge_f h1) ?_
  refine yi_D_run 1 (10, [(0, .inr (.inr (some q))), (1, .inl x), (2, .inl y), (3, .inl z), (4, .inl w)], [.inr (.inr (some q))], (I, L, R, Y), 0, 0) (fun _ => rfl) ?_
  refine yi_D_gr (v := some (q + 7)) rfl rfl (Nat.ble_eq_true_of_le (by omega)) h6 (fun _ => ?_)
  refine yi_D_run 1 (14, [(0, .inr (.inr (some q))), (1, .inl x), (2, .inl y), (3, .inl z), (4, .inl w)], [.inr (.inr (some q)), .inr (.inr (some (q + 7)))], (I, L, R, Y), 0, 0) (fun _ => rfl) ?_
  refine yi_D_gi (v := (n : Int)) rfl rfl (Nat.ble_eq_true_of_le (by omega)) hn (fun _ => ?_)
  refine yi_D_run 1 (18, [(0, .inr (.inr (some q))), (1, .inl x), (2, .inl y), (3, .inl z), (4, .inl w)], [.inl x, .inl (n : Int), .inr (.inr (some (q + 7)))], (I, L, R, Y), 0, 0) (fun _ => rfl) ?_
  refine yi_D_is rfl (fun _ _ => ?_)
  generalize w3 : yi_u I (q + 7) ((n : Int).toNat) x = I2
  have w3 : yi_u I (q + 7) n x = I2 := w3
  refine yi_D_run 1 (20, [(0, .inr (.inr (some q))), (1, .inl x), (2, .inl y), (3, .inl z), (4, .inl w)], [.inr (.inr (some q))], (I2, L, R, Y), 0, 0) (fun _ => rfl) ?_
  refine yi_D_gr (v := some (q + 8)) rfl rfl (Nat.ble_eq_true_of_le (by omega)) h7 (fun _ => ?_)
  refine yi_D_run 1 (24, [(0, .inr (.inr (some q))), (1, .inl x), (2, .inl y), (3, .inl z), (4, .inl w)], [.inr (.inr (some q)), .inr (.inr (some (q + 8)))], (I2, L, R, Y), 0, 0) (fun _ => rfl) ?_
  have r4 : I2 q 19 = (n : Int) := by rw [← w3, yi_u_ne _ _ (by omega), hn]
  refine yi_D_gi (v := (n : Int)) rfl rfl (Nat.ble_eq_true_of_le (by omega)) r4 (fun _ => ?_)
  refine yi_D_run 1 (28, [(0, .inr (.inr (some q))), (1, .inl x), (2, .inl y), (3, .inl z), (4, .inl w)], [.inl y, .inl (n : Int), .inr (.inr (some (q + 8)))], (I2, L, R, Y), 0, 0) (fun _ => rfl) ?_
  refine yi_D_is rfl (fun _ _ => ?_)
  generalize w6 : yi_u I2 (q + 8) ((n : Int).toNat) y = I5
  have w6 : yi_u I2 (q + 8) n y = I5 := w6
  refine yi_D_run 1 (30, [(0, .inr (.inr (some q))), (1, .inl x), (2, .inl y), (3, .inl z), (4, .inl w)], [.inr (.inr (some q))], (I5, L, R, Y), 0, 0) (fun _ => rfl) ?_
  refine yi_D_gr (v := some (q + 11)) rfl rfl (Nat.ble_eq_true_of_le (by omega)) h10 (fun _ => ?_)
  refine yi_D_run 1 (34, [(0, .inr (.inr (some q))), (1, .inl x), (2, .inl y), (3, .inl z), (4, .inl w)], [.inr (.inr (some q)), .inr (.inr (some (q + 11)))], (I5, L, R, Y), 0, 0) (fun _ => rfl) ?_
  have r7 : I5 q 19 = (n : Int) := by rw [← w6, yi_u_ne _ _ (by omega), ← w3, yi_u_ne _ _ (by omega), hn]
  refine yi_D_gi (v := (n : Int)) rfl rfl (Nat.ble_eq_true_of_le (by omega)) r7 (fun _ => ?_)
  refine yi_D_run 1 (38, [(0, .inr (.inr (some q))), (1, .inl x), (2, .inl y), (3, .inl z), (4, .inl w)], [.inl z, .inl (n : Int), .inr (.inr (some (q + 11)))], (I5, L, R, Y), 0, 0) (fun _ => rfl) ?_
  refine yi_D_is rfl (fun _ _ => ?_)
  generalize w9 : yi_u I5 (q + 11) ((n : Int).toNat) z = I8
  have w9 : yi_u I5 (q + 11) n z = I8 := w9
  refine yi_D_run 1 (40, [(0, .inr (.inr (some q))), (1, .inl x), (2, .inl y), (3, .inl z), (4, .inl w)], [.inr (.inr (some q))], (I8, L, R, Y), 0, 0) (fun _ => rfl) ?_
  refine yi_D_gr (v := some (q + 12)) rfl rfl (Nat.ble_eq_true_of_le (by omega)) h11 (fun _ => ?_)
  refine yi_D_run 1 (44, [(0, .inr (.inr (some q))), (1, .inl x), (2, .inl y), (3, .inl z), (4, .inl w)], [.inr (.inr (some q)), .inr (.inr (some (q + 12)))], (I8, L, R, Y), 0, 0) (fun _ => rfl) ?_
  have r10 : I8 q 19 = (n : Int) := by rw [← w9, yi_u_ne _ _ (by omega), ← w6, yi_u_ne _ _ (by omega), ← w3, yi_u_ne _ _ (by omega), hn]
  refine yi_D_gi (v := (n : Int)) rfl rfl (Nat.ble_eq_true_of_le (by omega)) r10 (fun _ => ?_)
  refine yi_D_run 1 (49, [(0, .inr (.inr (some q))), (1, .inl x), (2, .inl y), (3, .inl z), (4, .inl w)], [.inl w, .inl (n : Int), .inr (.inr (some (q + 12)))], (I8, L, R, Y), 0, 0) (fun _ => rfl) ?_
  refine yi_D_is rfl (fun _ _ => ?_)
  generalize w12 : yi_u I8 (q + 12) ((n : Int).toNat) w = I11
  have w12 : yi_u I8 (q + 12) n w = I11 := w12
  refine yi_D_run 2 (52, [(0, .inr (.inr (some q))), (1, .inl x), (2, .inl y), (3, .inl z), (4, .inl w)], [.inr (.inr (some q)), .inr (.inr (some q))], (I11, L, R, Y), 0, 0) (fun _ => rfl) ?_
  have r13 : I11 q 19 = (n : Int) := by rw [← w12, yi_u_ne _ _ (by omega), ← w9, yi_u_ne _ _ (by omega), ← w6, yi_u_ne _ _ (by omega), ← w3, yi_u_ne _ _ (by omega), hn]
  refine yi_D_gi (v := (n : Int)) rfl rfl (Nat.ble_eq_true_of_le (by omega)) r13 (fun _ => ?_)
  refine yi_D_run 1 (56, [(0, .inr (.inr (some q))), (1, .inl x), (2, .inl y), (3, .inl z), (4, .inl w)], [.inl 1, .inl (n : Int), .inr (.inr (some q))], (I11, L, R, Y), 0, 0) (fun _ => rfl) ?_
  refine yi_D_iadd rfl ((n : Int) + 1) (yi_wn (by omega) (by omega)) ?_
  refine yi_D_pi rfl (fun _ => ?_)
  generalize w15 : yi_u I11 q 19 ((n : Int) + 1) = I14
  refine yi_D_retv rfl ?_
  refine ⟨_, rfl, ?_, ?_, ?_, ?_, ?_, fun p k hp => ?_⟩
  · rw [← w15, yi_u_ne _ _ (by omega), ← w12, yi_u_ne _ _ (by omega), ← w9, yi_u_ne _ _ (by omega), ← w6, yi_u_ne _ _ (by omega), ← w3, yi_u_eq]
  · rw [← w15, yi_u_ne _ _ (by omega), ← w12, yi_u_ne _ _ (by omega), ← w9, yi_u_ne _ _ (by omega), ← w6, yi_u_eq]
  · rw [← w15, yi_u_ne _ _ (by omega), ← w12, yi_u_ne _ _ (by omega), ← w9, yi_u_eq]
  · rw [← w15, yi_u_ne _ _ (by omega), ← w12, yi_u_eq]
  · rw [← w15, yi_u_eq]
  · rw [← w15, yi_u_ne _ _ (by omega), ← w12, yi_u_ne _ _ (by omega), ← w9, yi_u_ne _ _ (by omega), ← w6, yi_u_ne _ _ (by omega), ← w3, yi_u_ne _ _ (by omega)]
theorem p_setPriceE {d : Nat} {I L : Nat → Nat → Int} {R : Nat → Nat → Option Nat} {Y : (Nat → Nat) × (Nat → Nat) × Nat} {q fr m : Nat} (hq : 20 ≤ q ∧ q < Y.2.2) (hN : 20 ≤ Y.2.2) (hY : Y.2.1 19 = 1002) (hm : fr + m ≤ 1002) : yi_P zi_Ms d 237 [.inr (.inr (some q)), .inr (.inr (some 19)), .inl (fr : Int), .inl ((fr + m : Nat) : Int)] (I, L, R, Y) (fun r => ∃ I' L' R' Y' nc ns p, r = (none, (I', L', R', Y'), nc, ns) ∧ (Y.2.2 ≤ p ∧ p < Y'.2.2 ∧ Y'.1 p = 20 ∧ Y'.2.1 p = m) ∧ R' q 12 = some p ∧ (∀ k, k < m → I' p k = I 19 (fr + k)) ∧ (∀ x k, x < Y.2.2 → ¬ (x = q ∧ k = 13) → I' x k = I x k) ∧ (∀ x k, x < Y.2.2 → L' x k = L x k) ∧ I' q 13 = 1 ∧ (∀ x k, x < Y.2.2 → ¬ (x = q ∧ k = 12) → R' x k = R x k) ∧ Y.2.2 ≤ Y'.2.2 ∧ ∀ x, x < Y.2.2 → Y'.1 x = Y.1 x ∧ Y'.2.1 x = Y.2.1 x) := by
  refine yi_P_of (M := zi_m237) rfl (fun d k => ?_)
  show yi_D zi_Ms d zi_m237 k (0, [(0, .inr (.inr (some q))), (1, .inr (.inr (some 19))), (2, .inl (fr : Int)), (3, .inl ((fr + m : Nat) : Int))], [], (I, L, R, Y), 0, 0) _
  refine yi_D_run 2 (2, [(0, .inr (.inr (some q))), (1, .inr (.inr (some 19))), (2, .inl (fr : Int)), (3, .inl ((fr + m : Nat) : Int))], [.inl 1, .inr (.inr (some q))], (I, L, R, Y), 0, 0) (fun _ => rfl) ?_
  refine yi_D_pi rfl (fun _ => ?_)
  generalize w2 : yi_u I q 13 1 = I1
  refine yi_D_run 1 (6, [(0, .inr (.inr (some q))), (1, .inr (.inr (some 19))), (2, .inl (fr : Int)), (3, .inl ((fr + m : Nat) : Int))], [.inl (fr : Int)], (I1, L, R, Y), 0, 0) (fun _ => rfl) ?_
  have h3 : ¬ ((fr : Int) < 0) := by omega
  refine yi_D_if1 false rfl (yi_lt_f h3) ?_
  refine yi_D_run 2 (11, [(0, .inr (.inr (some q))), (1, .inr (.inr (some 19))), (2, .inl (fr : Int)), (3, .inl ((fr + m : Nat) : Int))], [.inl ((fr + m : Nat) : Int), .inl (fr : Int)], (I1, L, R, Y), 0, 0) (fun _ => rfl) ?_
  have h4 : ¬ (((fr + m : Nat) : Int) < (fr : Int)) := by omega
  refine yi_D_if2 false rfl (yi_gt_f h4) ?_
  refine yi_D_run 2 (16, [(0, .inr (.inr (some q))), (1, .inr (.inr (some 19))), (2, .inl (fr : Int)), (3, .inl ((fr + m : Nat) : Int))], [.inr (.inr (some 19)), .inl ((fr + m : Nat) : Int)], (I1, L, R, Y), 0, 0) (fun _ => rfl) ?_
  refine yi_D_len (v := 1002) rfl rfl (by rw [hY]; rfl) ?_
  have h5 : ¬ (1002 < ((fr + m : Nat) : Int)) := by omega
  refine yi_D_if2 false rfl (yi_gt_f h5) ?_
  refine yi_D_run 3 (23, [(0, .inr (.inr (some q))), (1, .inr (.inr (some 19))), (2, .inl (fr : Int)), (3, .inl ((fr + m : Nat) : Int))], [.inl (fr : Int), .inl ((fr + m : Nat) : Int), .inr (.inr (some q))], (I1, L, R, Y), 0, 0) (fun _ => rfl) ?_
  refine yi_D_isub rfl (((fr + m : Nat) : Int) - (fr : Int)) (yi_wn (by omega) (by omega)) ?_
  refine yi_D_nwa3 rfl (fun q6 I7 L8 R9 Y10 m11 mk12 mn13 ml14 my15 => ?_)
  obtain ⟨k16, k17, k18, k19, k20, k21⟩ := mk12
  have q6q : q6 = Y.2.2 := k16
  have q6n := k21
  refine yi_D_prw rfl (fun _ => ?_)
  generalize w23 : cl_u R9 q 12 (some q6) = R22
  refine yi_D_run 2 (32, [(4, .inl 0), (0, .inr (.inr (some q))), (1, .inr (.inr (some 19))), (2, .inl (fr : Int)), (3, .inl ((fr + m : Nat) : Int))], [], (I7, L8, R22, Y10), (0 + 1), m11) (fun _ => rfl) ?_
  have pt32 : ∀ j32, j32 ≤ k → ∀ (y4 : Int) (J1 : Nat → Nat → Int), (0 ≤ y4 ∧ y4 ≤ (m : Int)) → (∀ k, k < y4.toNat → J1 q6 k = I 19 (fr + k)) → (∀ p k, ¬ p = q6 → J1 p k = I7 p k) → yi_D zi_Ms d zi_m237 j32 (32, [(4, .inl y4), (0, .inr (.inr (some q))), (1, .inr (.inr (some 19))), (2, .inl (fr : Int)), (3, .inl ((fr + m : Nat) : Int))], [], (J1, L8, R22, Y10), (0 + 1), m11) (fun r => ∃ I' L' R' Y' nc ns p, r = (none, (I', L', R', Y'), nc, ns) ∧ (Y.2.2 ≤ p ∧ p < Y'.2.2 ∧ Y'.1 p = 20 ∧ Y'.2.1 p = m) ∧ R' q 12 = some p ∧ (∀ k, k < m → I' p k = I 19 (fr + k)) ∧ (∀ x k, x < Y.2.2 → ¬ (x = q ∧ k = 13) → I' x k = I x k) ∧ (∀ x k, x < Y.2.2 → L' x k = L x k) ∧ I' q 13 = 1 ∧ (∀ x k, x < Y.2.2 → ¬ (x = q ∧ k = 12) → R' x k = R x k) ∧ Y.2.2 ≤ Y'.2.2 ∧ ∀ x, x < Y.2.2 → Y'.1 x = Y.1 x ∧ Y'.2.1 x = Y.2.1 x) := by
    intro j32
    induction j32 with
    | zero => intros; exact yi_D_0
    | succ j32 ih32 =>
    intro hk32 y4 J1 hy4 hv hJ
    refine yi_D_run1 1 (35, [(4, .inl y4), (0, .inr (.inr (some q))), (1, .inr (.inr (some 19))), (2, .inl (fr : Int)), (3, .inl ((fr + m : Nat) : Int))], [.inr (.inr (some q)), .inl y4], (J1, L8, R22, Y10), (0 + 1), m11) (fun _ => rfl) ?_
    have r24 : R22 q 12 = some q6 := by rw [← w23, cl_u_eq]
    refine yi_D_gr (v := some q6) rfl rfl (Nat.ble_eq_true_of_le (by omega)) r24 (fun _ => ?_)
    refine yi_D_len (v := ((((fr + m : Nat) : Int) - (fr : Int)).toNat : Int)) rfl (Nat.ble_eq_true_of_le (by omega)) (congrArg Nat.cast k20) ?_
    by_cases h25 : ((((fr + m : Nat) : Int) - (fr : Int)).toNat : Int) ≤ y4
    · refine yi_D_if2 true rfl (yi_ge_t h25) ?_
      refine yi_D_retv rfl ?_
      refine ⟨_, _, _, _, _, _, q6, rfl, ⟨by omega, by omega, ?_, ?_⟩, ?_, fun k hk => ?_, fun p k hp hne => ?_, fun p k hp => ?_, ?_, fun p k hp hne => ?_, by omega, fun p hp => ?_⟩
      · rw [my15]
      · have e := k20
        omega
      · rw [← w23, cl_u_eq]
      · have e := hv k (by omega)
        rw [e]
      · rw [hJ p k (by omega), (fun p k hp => (k17 p k hp).1) p k (by omega), ← w2, yi_u_ne _ _ (by omega)]
      · rw [(k17 p k (by omega)).2.1]
      · rw [hJ q 13 (by omega), (fun p k hp => (k17 p k hp).1) q 13 (by omega), ← w2, yi_u_eq]
      · rw [← w23, cl_u_ne _ _ hne, (k17 p k (by omega)).2.2]
      · exact ⟨(k19 p (by omega)).1, (k19 p (by omega)).2⟩
    · refine yi_D_if2 false rfl (yi_ge_f h25) ?_
      refine yi_D_run 1 (43, [(4, .inl y4), (0, .inr (.inr (some q))), (1, .inr (.inr (some 19))), (2, .inl (fr : Int)), (3, .inl ((fr + m : Nat) : Int))], [.inr (.inr (some q))], (J1, L8, R22, Y10), (0 + 1), m11) (fun _ => rfl) ?_
      have r26 : R22 q 12 = some q6 := by rw [← w23, cl_u_eq]
      refine yi_D_gr (v := some q6) rfl rfl (Nat.ble_eq_true_of_le (by omega)) r26 (fun _ => ?_)
      refine yi_D_run 4 (52, [(4, .inl y4), (0, .inr (.inr (some q))), (1, .inr (.inr (some 19))), (2, .inl (fr : Int)), (3, .inl ((fr + m : Nat) : Int))], [.inl y4, .inl (fr : Int), .inr (.inr (some 19)), .inl y4, .inr (.inr (some q6))], (J1, L8, R22, Y10), (0 + 1), m11) (fun _ => rfl) ?_
      refine yi_D_iadd rfl ((fr : Int) + y4) (yi_wn (by omega) (by omega)) ?_
      have r27 : J1 19 (((fr : Int) + y4).toNat) = I 19 (((fr : Int) + y4).toNat) := by rw [hJ 19 (((fr : Int) + y4).toNat) (by omega), (fun p k hp => (k17 p k hp).1) 19 (((fr : Int) + y4).toNat) (by omega), ← w2, yi_u_ne _ _ (by omega)]
      refine yi_D_il (v := I 19 (((fr : Int) + y4).toNat)) rfl rfl r27 (fun _ _ => ?_)
      refine yi_D_is rfl (fun _ _ => ?_)
      generalize w29 : yi_u J1 q6 (y4.toNat) (I 19 (((fr : Int) + y4).toNat)) = I28
      refine yi_D_iinc [(4, .inl (y4 + 1)), (0, .inr (.inr (some q))), (1, .inr (.inr (some 19))), (2, .inl (fr : Int)), (3, .inl ((fr + m : Nat) : Int))] rfl rfl rfl (by rw [show yi_w (y4 + 1) = y4 + 1 from (yi_wn (by omega) (by omega)).trans (by omega)]; rfl) ?_
      refine yi_D_run 1 (32, [(4, .inl (y4 + 1)), (0, .inr (.inr (some q))), (1, .inr (.inr (some 19))), (2, .inl (fr : Int)), (3, .inl ((fr + m : Nat) : Int))], [], (I28, L8, R22, Y10), (0 + 1), m11) (fun _ => rfl) ?_
      exact yi_D_mono (ih32 (by omega) (y4 + 1) I28 (by omega) (fun k hk => by by_cases e : k = y4.toNat; rw [e, ← w29, yi_u_eq, show ((fr : Int) + y4).toNat = fr + y4.toNat by omega]; rw [← w29, yi_u_ne _ _ (fun z => e z.2)]; exact hv k (by omega)) (fun p k hp => by rw [← w29, yi_u_ne _ _ (fun z => hp z.1)]; exact hJ p k hp)) (by omega)
  exact pt32 k (Nat.le_refl _) 0 I7 (by omega) (fun k hk => absurd hk (by omega)) (fun _ _ _ => rfl)
