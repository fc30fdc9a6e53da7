/-! The class reader: lines of a land. -/
theorem sp_pw {e : Int} (he : 1 ≤ e) : ∀ (n m : Nat), n ≤ m → e ^ n ≤ e ^ m
  | n, 0, h => by rw [show n = 0 by omega]; exact Int.le_refl _
  | n, m + 1, h => by
    by_cases c : n = m + 1
    · rw [c]; exact Int.le_refl _
    · have a := sp_pw he n m (by omega)
      have b : 0 < e ^ m := Int.pow_pos (by omega)
      have z := Int.mul_le_mul_of_nonneg_left he (show 0 ≤ e ^ m by omega)
      rw [Int.pow_succ]
      omega
theorem p_futuresWith {d : Nat} {I L : Nat → Nat → Int} {R : Nat → Nat → Option Nat} {Y : (Nat → Nat) × (Nat → Nat) × Nat} {p e : Int} {K P V : Nat → Int} {te q : Nat} {ld : Nat → Int} {nm : Int → Int} (hW : cs_W I L R Y K P V te q ld nm) (p0 : 0 ≤ p ∧ p ≤ 5) (e0 : 0 ≤ e ∧ e ≤ 5) : yi_P zi_Ms d 226 [.inr (.inr (some q)), .inl p, .inl e] (I, L, R, Y) (fun r => ∃ z, r = (some (.inl z), (I, L, R, Y), 0, 0) ∧ (32768 < z ↔ sp_bigb (ld 0) p e = 1)) := by
  refine yi_P_of (M := zi_m226) rfl (fun d k => ?_)
  obtain ⟨ly1, ly2, ly3, ly4⟩ := hW.2.2.1.2.2.2
  have lb := hW.2.2.2.2.1
  have hq0 := hW.2.2.1.1
  have hm0 := Int.mul_le_mul (a := p) (c := 5) (b := ld 0) (d := 6) (by omega) (by omega) (by omega) (by omega)
  have hm1 := Int.mul_nonneg (a := p) (b := ld 0) (by omega) (by omega)
  show yi_D zi_Ms d zi_m226 k (0, [(0, .inr (.inr (some q))), (1, .inl p), (2, .inl e)], [], (I, L, R, Y), 0, 0) _
  refine yi_D_run 1 (1, [(0, .inr (.inr (some q))), (1, .inl p), (2, .inl e)], [.inl p], (I, L, R, Y), 0, 0) (fun _ => rfl) ?_
  by_cases h1 : p ≤ 0
  · refine yi_D_if1 true rfl (yi_le_t h1) ?_
    refine yi_D_run 1 (9, [(0, .inr (.inr (some q))), (1, .inl p), (2, .inl e)], [.inl 1], (I, L, R, Y), 0, 0) (fun _ => rfl) ?_
    refine yi_D_reti rfl ?_
    refine ⟨1, rfl, ?_⟩
    unfold sp_bigb
    rw [if_neg]
    · omega
    · rintro ⟨z1, z2⟩
      have hp : p = 0 := by omega
      rw [hp, Int.mul_zero, Int.toNat_zero, Int.pow_zero] at z2
      omega
  · refine yi_D_if1 false rfl (yi_le_f h1) ?_
    refine yi_D_run 1 (5, [(0, .inr (.inr (some q))), (1, .inl p), (2, .inl e)], [.inl e], (I, L, R, Y), 0, 0) (fun _ => rfl) ?_
    by_cases h2 : 0 < e
    · refine yi_D_if1 true rfl (yi_gt_t h2) ?_
      refine yi_D_run 4 (15, [(4, .inl 0), (3, .inl 1), (0, .inr (.inr (some q))), (1, .inl p), (2, .inl e)], [], (I, L, R, Y), 0, 0) (fun _ => rfl) ?_
      have pt15 : ∀ j15, j15 ≤ k → ∀ (y4 : Int) (y3 : Int), (0 ≤ y4 ∧ y4 ≤ p * ld 0) → (y3 = e ^ y4.toNat) → (1 ≤ y3 ∧ y3 ≤ 163840) → yi_D zi_Ms d zi_m226 j15 (15, [(4, .inl y4), (3, .inl y3), (0, .inr (.inr (some q))), (1, .inl p), (2, .inl e)], [], (I, L, R, Y), 0, 0) (fun r => ∃ z, r = (some (.inl z), (I, L, R, Y), 0, 0) ∧ (32768 < z ↔ sp_bigb (ld 0) p e = 1)) := by
        intro j15
        induction j15 with
        | zero => intros; exact yi_D_0
        | succ j15 ih15 =>
        intro hk15 y4 y3 hi hpw hb3
        refine yi_D_run1 2 (19, [(4, .inl y4), (3, .inl y3), (0, .inr (.inr (some q))), (1, .inl p), (2, .inl e)], [.inr (.inr (some q)), .inl p, .inl y4], (I, L, R, Y), 0, 0) (fun _ => rfl) ?_
        refine yi_D_gi (v := ld 0) rfl rfl (Nat.ble_eq_true_of_le (by omega)) hW.2.2.2.1.1 (fun _ => ?_)
        refine yi_D_imul rfl (p * (ld 0)) (yi_wn (by omega) (by omega)) ?_
        by_cases h3 : (p * (ld 0)) ≤ y4
        · refine yi_D_if2 true rfl (yi_ge_t h3) ?_
          refine yi_D_run 1 (43, [(4, .inl y4), (3, .inl y3), (0, .inr (.inr (some q))), (1, .inl p), (2, .inl e)], [.inl y3], (I, L, R, Y), 0, 0) (fun _ => rfl) ?_
          refine yi_D_ldc (32769) rfl (by decide +kernel) ?_
          refine yi_D_run 1 (48, [(4, .inl y4), (3, .inl y3), (0, .inr (.inr (some q))), (1, .inl p), (2, .inl e)], [.inl (if 32769 < y3 then 32769 else y3)], (I, L, R, Y), 0, 0) (fun _ => rfl) ?_
          refine yi_D_reti rfl ?_
          refine ⟨_, rfl, ?_⟩
          have hx : e ^ y4.toNat ≤ e ^ (ld 0 * p).toNat := sp_pw (by omega) _ _ (by rw [Int.mul_comm]; omega)
          have hs : sp_bigb (ld 0) p e = 1 ↔ 32768 < e ^ (ld 0 * p).toNat := by
            unfold sp_bigb
            split
            · rename_i h
              exact ⟨fun _ => h.2, fun _ => rfl⟩
            · rename_i h
              exact ⟨fun z => absurd z (by decide), fun z => absurd ⟨by omega, z⟩ h⟩
          have hy : 32768 < e ^ (ld 0 * p).toNat → 32768 < y3 := fun hb => by
            by_cases hq : y3 ≤ 32768
            · have hz : y4.toNat = (ld 0 * p).toNat := by rw [Int.mul_comm]; omega
              rw [hz] at hpw
              omega
            · omega
          rw [hs]
          generalize e ^ (ld 0 * p).toNat = N at hx hy ⊢
          split <;> omega
        · refine yi_D_if2 false rfl (yi_ge_f h3) ?_
          refine yi_D_run 1 (27, [(4, .inl y4), (3, .inl y3), (0, .inr (.inr (some q))), (1, .inl p), (2, .inl e)], [.inl y3], (I, L, R, Y), 0, 0) (fun _ => rfl) ?_
          refine yi_D_ldc (32768) rfl (by decide +kernel) ?_
          by_cases h4 : 32768 < y3
          · refine yi_D_if2 true rfl (yi_gt_t h4) ?_
            refine yi_D_run 1 (43, [(4, .inl y4), (3, .inl y3), (0, .inr (.inr (some q))), (1, .inl p), (2, .inl e)], [.inl y3], (I, L, R, Y), 0, 0) (fun _ => rfl) ?_
            refine yi_D_ldc (32769) rfl (by decide +kernel) ?_
            refine yi_D_run 1 (48, [(4, .inl y4), (3, .inl y3), (0, .inr (.inr (some q))), (1, .inl p), (2, .inl e)], [.inl (if 32769 < y3 then 32769 else y3)], (I, L, R, Y), 0, 0) (fun _ => rfl) ?_
            refine yi_D_reti rfl ?_
            refine ⟨_, rfl, ?_⟩
            have hx : e ^ y4.toNat ≤ e ^ (ld 0 * p).toNat := sp_pw (by omega) _ _ (by rw [Int.mul_comm]; omega)
            have hs : sp_bigb (ld 0) p e = 1 ↔ 32768 < e ^ (ld 0 * p).toNat := by
              unfold sp_bigb
              split
              · rename_i h
                exact ⟨fun _ => h.2, fun _ => rfl⟩
              · rename_i h
                exact ⟨fun z => absurd z (by decide), fun z => absurd ⟨by omega, z⟩ h⟩
            have hy : 32768 < e ^ (ld 0 * p).toNat → 32768 < y3 := fun hb => by
              by_cases hq : y3 ≤ 32768
              · have hz : y4.toNat = (ld 0 * p).toNat := by rw [Int.mul_comm]; omega
                rw [hz] at hpw
                omega
              · omega
            rw [hs]
            generalize e ^ (ld 0 * p).toNat = N at hx hy ⊢
            split <;> omega
          · refine yi_D_if2 false rfl (yi_gt_f h4) ?_
            refine yi_D_run 2 (34, [(4, .inl y4), (3, .inl y3), (0, .inr (.inr (some q))), (1, .inl p), (2, .inl e)], [.inl e, .inl y3], (I, L, R, Y), 0, 0) (fun _ => rfl) ?_
            have hm2 := Int.mul_le_mul (a := y3) (c := 32768) (b := e) (d := 5) (by omega) (by omega) (by omega) (by omega)
            have hm3 := Int.mul_le_mul (a := 1) (c := y3) (b := 1) (d := e) (by omega) (by omega) (by omega) (by omega)
            refine yi_D_imul rfl (y3 * e) (yi_wn (by omega) (by omega)) ?_
            refine yi_D_run 1 (36, [(3, .inl (y3 * e)), (4, .inl y4), (0, .inr (.inr (some q))), (1, .inl p), (2, .inl e)], [], (I, L, R, Y), 0, 0) (fun _ => rfl) ?_
            refine yi_D_iinc [(4, .inl (y4 + 1)), (3, .inl (y3 * e)), (0, .inr (.inr (some q))), (1, .inl p), (2, .inl e)] rfl rfl rfl (by rw [show yi_w (y4 + 1) = y4 + 1 from (yi_wn (by omega) (by omega)).trans (by omega)]; rfl) ?_
            refine yi_D_run 1 (15, [(4, .inl (y4 + 1)), (3, .inl (y3 * e)), (0, .inr (.inr (some q))), (1, .inl p), (2, .inl e)], [], (I, L, R, Y), 0, 0) (fun _ => rfl) ?_
            exact yi_D_mono (ih15 (by omega) (y4 + 1) (y3 * e) (by omega) (by rw [show (y4 + 1).toNat = y4.toNat + 1 by omega, Int.pow_succ, ← hpw]) (by omega)) (by omega)
      exact pt15 k (Nat.le_refl _) 0 1 (by omega) (by rw [Int.toNat_zero, Int.pow_zero]) (by omega)
    · refine yi_D_if1 false rfl (yi_gt_f h2) ?_
      refine yi_D_run 1 (9, [(0, .inr (.inr (some q))), (1, .inl p), (2, .inl e)], [.inl 1], (I, L, R, Y), 0, 0) (fun _ => rfl) ?_
      refine yi_D_reti rfl ?_
      refine ⟨1, rfl, ?_⟩
      unfold sp_bigb
      rw [if_neg]
      · omega
      · rintro ⟨z1, z2⟩
        have hp : p = 0 := by omega
        rw [hp, Int.mul_zero, Int.toNat_zero, Int.pow_zero] at z2
        omega
theorem p_addPerson {d : Nat} {I L : Nat → Nat → Int} {R : Nat → Nat → Option Nat} {Y : (Nat → Nat) × (Nat → Nat) × Nat} {x t : Int} {K P V : Nat → Int} {te q : Nat} {ld : Nat → Int} {nm : Int → Int} (hW : cs_W I L R Y K P V te q ld nm) (h4 : ld 1 < 4) : yi_P zi_Ms d 222 [.inr (.inr (some q)), .inr (.inl x), .inl t] (I, L, R, Y) (fun r => ∃ I' L', r = (none, (I', L', R, Y), 0, 0) ∧ (∀ p k, (p < q ∨ q + 14 ≤ p) → I' p k = I p k ∧ L' p k = L p k) ∧ I' q 15 = ld 1 + 1 ∧ I' (q + 4) (ld 1).toNat = t ∧ L' (q + 1) (ld 1).toNat = x ∧ (∀ p k, ¬ (p = q ∧ k = 15) ∧ ¬ (p = q + 4 ∧ k = (ld 1).toNat) → I' p k = I p k) ∧ (∀ p k, ¬ (p = q + 1 ∧ k = (ld 1).toNat) → L' p k = L p k)) := by
  refine yi_P_of (M := zi_m222) rfl (fun d k => ?_)
  obtain ⟨ly1, ly2, ly3, ly4⟩ := hW.2.2.1.2.2.2
  have lb := hW.2.2.2.2.1
  have hq0 := hW.2.2.1.1
  show yi_D zi_Ms d zi_m222 k (0, [(0, .inr (.inr (some q))), (1, .inr (.inl x)), (3, .inl t)], [], (I, L, R, Y), 0, 0) _
  refine yi_D_run 1 (1, [(0, .inr (.inr (some q))), (1, .inr (.inl x)), (3, .inl t)], [.inr (.inr (some q))], (I, L, R, Y), 0, 0) (fun _ => rfl) ?_
  refine yi_D_gi (v := ld 1) rfl rfl (Nat.ble_eq_true_of_le (by omega)) hW.2.2.2.1.2.1 (fun _ => ?_)
  refine yi_D_run 1 (5, [(0, .inr (.inr (some q))), (1, .inr (.inl x)), (3, .inl t)], [.inl 4, .inl (ld 1)], (I, L, R, Y), 0, 0) (fun _ => rfl) ?_
  by_cases h1 : 4 ≤ (ld 1)
  · refine yi_D_if2 true rfl (yi_ge_t h1) ?_
    refine yi_D_retv rfl ?_
    exfalso; omega
  · refine yi_D_if2 false rfl (yi_ge_f h1) ?_
    refine yi_D_run 1 (9, [(0, .inr (.inr (some q))), (1, .inr (.inl x)), (3, .inl t)], [.inr (.inr (some q))], (I, L, R, Y), 0, 0) (fun _ => rfl) ?_
    refine yi_D_gr (v := some (q + 1)) rfl rfl (Nat.ble_eq_true_of_le (by omega)) (hW.2.2.1.2.2.1 0 (by omega)) (fun _ => ?_)
    refine yi_D_run 1 (13, [(0, .inr (.inr (some q))), (1, .inr (.inl x)), (3, .inl t)], [.inr (.inr (some q)), .inr (.inr (some (q + 1)))], (I, L, R, Y), 0, 0) (fun _ => rfl) ?_
    refine yi_D_gi (v := ld 1) rfl rfl (Nat.ble_eq_true_of_le (by omega)) hW.2.2.2.1.2.1 (fun _ => ?_)
    refine yi_D_run 1 (17, [(0, .inr (.inr (some q))), (1, .inr (.inl x)), (3, .inl t)], [.inr (.inl x), .inl (ld 1), .inr (.inr (some (q + 1)))], (I, L, R, Y), 0, 0) (fun _ => rfl) ?_
    refine yi_D_ls rfl (fun _ _ => ?_)
    generalize w3 : yi_u L (q + 1) ((ld 1).toNat) x = L2
    refine yi_D_run 1 (19, [(0, .inr (.inr (some q))), (1, .inr (.inl x)), (3, .inl t)], [.inr (.inr (some q))], (I, L2, R, Y), 0, 0) (fun _ => rfl) ?_
    refine yi_D_gr (v := some (q + 4)) rfl rfl (Nat.ble_eq_true_of_le (by omega)) (hW.2.2.1.2.2.1 3 (by omega)) (fun _ => ?_)
    refine yi_D_run 1 (23, [(0, .inr (.inr (some q))), (1, .inr (.inl x)), (3, .inl t)], [.inr (.inr (some q)), .inr (.inr (some (q + 4)))], (I, L2, R, Y), 0, 0) (fun _ => rfl) ?_
    refine yi_D_gi (v := ld 1) rfl rfl (Nat.ble_eq_true_of_le (by omega)) hW.2.2.2.1.2.1 (fun _ => ?_)
    refine yi_D_run 1 (27, [(0, .inr (.inr (some q))), (1, .inr (.inl x)), (3, .inl t)], [.inl t, .inl (ld 1), .inr (.inr (some (q + 4)))], (I, L2, R, Y), 0, 0) (fun _ => rfl) ?_
    refine yi_D_is rfl (fun _ _ => ?_)
    generalize w5 : yi_u I (q + 4) ((ld 1).toNat) t = I4
    refine yi_D_run 2 (30, [(0, .inr (.inr (some q))), (1, .inr (.inl x)), (3, .inl t)], [.inr (.inr (some q)), .inr (.inr (some q))], (I4, L2, R, Y), 0, 0) (fun _ => rfl) ?_
    have r6 : I4 q 15 = ld 1 := by rw [← w5, yi_u_ne _ _ (by omega), hW.2.2.2.1.2.1]
    refine yi_D_gi (v := ld 1) rfl rfl (Nat.ble_eq_true_of_le (by omega)) r6 (fun _ => ?_)
    refine yi_D_run 1 (34, [(0, .inr (.inr (some q))), (1, .inr (.inl x)), (3, .inl t)], [.inl 1, .inl (ld 1), .inr (.inr (some q))], (I4, L2, R, Y), 0, 0) (fun _ => rfl) ?_
    refine yi_D_iadd rfl ((ld 1) + 1) (yi_wn (by omega) (by omega)) ?_
    refine yi_D_pi rfl (fun _ => ?_)
    generalize w8 : yi_u I4 q 15 ((ld 1) + 1) = I7
    refine yi_D_retv rfl ?_
    refine ⟨_, _, rfl, fun p k hp => ?_, ?_, ?_, ?_, ?_, ?_⟩
    · exact ⟨by rw [← w8, yi_u_ne _ _ (by omega), ← w5, yi_u_ne _ _ (by omega)], by rw [← w3, yi_u_ne _ _ (by omega)]⟩
    · rw [← w8, yi_u_eq]
    · rw [← w8, yi_u_ne _ _ (by omega), ← w5, yi_u_eq]
    · rw [← w3, yi_u_eq]
    · exact fun p k hp => by rw [← w8, yi_u_ne _ _ (by omega), ← w5, yi_u_ne _ _ (by omega)]
    · exact fun p k hp => by rw [← w3, yi_u_ne _ _ (by omega)]
theorem p_addEvent {d : Nat} {I L : Nat → Nat → Int} {R : Nat → Nat → Option Nat} {Y : (Nat → Nat) × (Nat → Nat) × Nat} {x : Int} {K P V : Nat → Int} {te q : Nat} {ld : Nat → Int} {nm : Int → Int} (hW : cs_W I L R Y K P V te q ld nm) (h4 : ld 2 < 4) : yi_P zi_Ms d 220 [.inr (.inr (some q)), .inr (.inl x)] (I, L, R, Y) (fun r => ∃ I' L', r = (none, (I', L', R, Y), 0, 0) ∧ (∀ p k, (p < q ∨ q + 14 ≤ p) → I' p k = I p k ∧ L' p k = L p k) ∧ I' q 16 = ld 2 + 1 ∧ L' (q + 2) (ld 2).toNat = x ∧ (∀ p k, ¬ (p = q ∧ k = 16) → I' p k = I p k) ∧ (∀ p k, ¬ (p = q + 2 ∧ k = (ld 2).toNat) → L' p k = L p k)) := by
  refine yi_P_of (M := zi_m220) rfl (fun d k => ?_)
  obtain ⟨ly1, ly2, ly3, ly4⟩ := hW.2.2.1.2.2.2
  have lb := hW.2.2.2.2.1
  have hq0 := hW.2.2.1.1
  show yi_D zi_Ms d zi_m220 k (0, [(0, .inr (.inr (some q))), (1, .inr (.inl x))], [], (I, L, R, Y), 0, 0) _
  refine yi_D_run 1 (1, [(0, .inr (.inr (some q))), (1, .inr (.inl x))], [.inr (.inr (some q))], (I, L, R, Y), 0, 0) (fun _ => rfl) ?_
  refine yi_D_gi (v := ld 2) rfl rfl (Nat.ble_eq_true_of_le (by omega)) hW.2.2.2.1.2.2.1 (fun _ => ?_)
  refine yi_D_run 1 (5, [(0, .inr (.inr (some q))), (1, .inr (.inl x))], [.inl 4, .inl (ld 2)], (I, L, R, Y), 0, 0) (fun _ => rfl) ?_
  by_cases h1 : 4 ≤ (ld 2)
  · refine yi_D_if2 true rfl (yi_ge_t h1) ?_
    refine yi_D_retv rfl ?_
    exfalso; omega
  · refine yi_D_if2 false rfl (yi_ge_f h1) ?_
    refine yi_D_run 1 (9, [(0, .inr (.inr (some q))), (1, .inr (.inl x))], [.inr (.inr (some q))], (I, L, R, Y), 0, 0) (fun _ => rfl) ?_
    refine yi_D_gr (v := some (q + 2)) rfl rfl (Nat.ble_eq_true_of_le (by omega)) (hW.2.2.1.2.2.1 1 (by omega)) (fun _ => ?_)
    refine yi_D_run 1 (13, [(0, .inr (.inr (some q))), (1, .inr (.inl x))], [.inr (.inr (some q)), .inr (.inr (some (q + 2)))], (I, L, R, Y), 0, 0) (fun _ => rfl) ?_
    refine yi_D_gi (v := ld 2) rfl rfl (Nat.ble_eq_true_of_le (by omega)) hW.2.2.2.1.2.2.1 (fun _ => ?_)
    refine yi_D_run 1 (17, [(0, .inr (.inr (some q))), (1, .inr (.inl x))], [.inr (.inl x), .inl (ld 2), .inr (.inr (some (q + 2)))], (I, L, R, Y), 0, 0) (fun _ => rfl) ?_
    refine yi_D_ls rfl (fun _ _ => ?_)
    generalize w3 : yi_u L (q + 2) ((ld 2).toNat) x = L2
    refine yi_D_run 2 (20, [(0, .inr (.inr (some q))), (1, .inr (.inl x))], [.inr (.inr (some q)), .inr (.inr (some q))], (I, L2, R, Y), 0, 0) (fun _ => rfl) ?_
    refine yi_D_gi (v := ld 2) rfl rfl (Nat.ble_eq_true_of_le (by omega)) hW.2.2.2.1.2.2.1 (fun _ => ?_)
    refine yi_D_run 1 (24, [(0, .inr (.inr (some q))), (1, .inr (.inl x))], [.inl 1, .inl (ld 2), .inr (.inr (some q))], (I, L2, R, Y), 0, 0) (fun _ => rfl) ?_
    refine yi_D_iadd rfl ((ld 2) + 1) (yi_wn (by omega) (by omega)) ?_
    refine yi_D_pi rfl (fun _ => ?_)
    generalize w5 : yi_u I q 16 ((ld 2) + 1) = I4
    refine yi_D_retv rfl ?_
    refine ⟨_, _, rfl, fun p k hp => ?_, ?_, ?_, ?_, ?_⟩
    · exact ⟨by rw [← w5, yi_u_ne _ _ (by omega)], by rw [← w3, yi_u_ne _ _ (by omega)]⟩
    · rw [← w5, yi_u_eq]
    · rw [← w3, yi_u_eq]
    · exact fun p k hp => by rw [← w5, yi_u_ne _ _ (by omega)]
    · exact fun p k hp => by rw [← w3, yi_u_ne _ _ (by omega)]
theorem p_addProphet {d : Nat} {I L : Nat → Nat → Int} {R : Nat → Nat → Option Nat} {Y : (Nat → Nat) × (Nat → Nat) × Nat} {x s t : Int} {K P V : Nat → Int} {te q : Nat} {ld : Nat → Int} {nm : Int → Int} (hW : cs_W I L R Y K P V te q ld nm) (h4 : ld 3 < 5) : yi_P zi_Ms d 223 [.inr (.inr (some q)), .inr (.inl x), .inl s, .inl t] (I, L, R, Y) (fun r => ∃ I' L', r = (none, (I', L', R, Y), 0, 0) ∧ (∀ p k, (p < q ∨ q + 14 ≤ p) → I' p k = I p k ∧ L' p k = L p k) ∧ I' q 17 = ld 3 + 1 ∧ I' (q + 5) (ld 3).toNat = s ∧ I' (q + 6) (ld 3).toNat = t ∧ L' (q + 3) (ld 3).toNat = x ∧ (∀ p k, ¬ (p = q ∧ k = 17) ∧ ¬ (p = q + 5 ∧ k = (ld 3).toNat) ∧ ¬ (p = q + 6 ∧ k = (ld 3).toNat) → I' p k = I p k) ∧ (∀ p k, ¬ (p = q + 3 ∧ k = (ld 3).toNat) → L' p k = L p k)) := by
  refine yi_P_of (M := zi_m223) rfl (fun d k => ?_)
  obtain ⟨ly1, ly2, ly3, ly4⟩ := hW.2.2.1.2.2.2
  have lb := hW.2.2.2.2.1
  have hq0 := hW.2.2.1.1
  show yi_D zi_Ms d zi_m223 k (0, [(0, .inr (.inr (some q))), (1, .inr (.inl x)), (3, .inl s), (4, .inl t)], [], (I, L, R, Y), 0, 0) _
  refine yi_D_run 1 (1, [(0, .inr (.inr (some q))), (1, .inr (.inl x)), (3, .inl s), (4, .inl t)], [.inr (.inr (some q))], (I, L, R, Y), 0, 0) (fun _ => rfl) ?_
  refine yi_D_gi (v := ld 3) rfl rfl (Nat.ble_eq_true_of_le (by omega)) hW.2.2.2.1.2.2.2.1 (fun _ => ?_)
  refine yi_D_run 1 (5, [(0, .inr (.inr (some q))), (1, .inr (.inl x)), (3, .inl s), (4, .inl t)], [.inl 5, .inl (ld 3)], (I, L, R, Y), 0, 0) (fun _ => rfl) ?_
  by_cases h1 : 5 ≤ (ld 3)
  · refine yi_D_if2 true rfl (yi_ge_t h1) ?_
    refine yi_D_retv rfl ?_
    exfalso; omega
  · refine yi_D_if2 false rfl (yi_ge_f h1) ?_
    refine yi_D_run 1 (9, [(0, .inr (.inr (some q))), (1, .inr (.inl x)), (3, .inl s), (4, .inl t)], [.inr (.inr (some q))], (I, L, R, Y), 0, 0) (fun _ => rfl) ?_
    refine yi_D_gr (v := some (q + 3)) rfl rfl (Nat.ble_eq_true_of_le (by omega)) (hW.2.2.1.2.2.1 2 (by omega)) (fun _ => ?_)
    refine yi_D_run 1 (13, [(0, .inr (.inr (some q))), (1, .inr (.inl x)), (3, .inl s), (4, .inl t)], [.inr (.inr (some q)), .inr (.inr (some (q + 3)))], (I, L, R, Y), 0, 0) (fun _ => rfl) ?_
    refine yi_D_gi (v := ld 3) rfl rfl (Nat.ble_eq_true_of_le (by omega)) hW.2.2.2.1.2.2.2.1 (fun _ => ?_)
    refine yi_D_run 1 (17, [(0, .inr (.inr (some q))), (1, .inr (.inl x)), (3, .inl s), (4, .inl t)], [.inr (.inl x), .inl (ld 3), .inr (.inr (some (q + 3)))], (I, L, R, Y), 0, 0) (fun _ => rfl) ?_
    refine yi_D_ls rfl (fun _ _ => ?_)
    generalize w3 : yi_u L (q + 3) ((ld 3).toNat) x = L2
    refine yi_D_run 1 (19, [(0, .inr (.inr (some q))), (1, .inr (.inl x)), (3, .inl s), (4, .inl t)], [.inr (.inr (some q))], (I, L2, R, Y), 0, 0) (fun _ => rfl) ?_
    refine yi_D_gr (v := some (q + 5)) rfl rfl (Nat.ble_eq_true_of_le (by omega)) (hW.2.2.1.2.2.1 4 (by omega)) (fun _ => ?_)
    refine yi_D_run 1 (23, [(0, .inr (.inr (some q))), (1, .inr (.inl x)), (3, .inl s), (4, .inl t)], [.inr (.inr (some q)), .inr (.inr (some (q + 5)))], (I, L2, R, Y), 0, 0) (fun _ => rfl) ?_
    refine yi_D_gi (v := ld 3) rfl rfl (Nat.ble_eq_true_of_le (by omega)) hW.2.2.2.1.2.2.2.1 (fun _ => ?_)
    refine yi_D_run 1 (27, [(0, .inr (.inr (some q))), (1, .inr (.inl x)), (3, .inl s), (4, .inl t)], [.inl s, .inl (ld 3), .inr (.inr (some (q + 5)))], (I, L2, R, Y), 0, 0) (fun _ => rfl) ?_
    refine yi_D_is rfl (fun _ _ => ?_)
    generalize w5 : yi_u I (q + 5) ((ld 3).toNat) s = I4
    refine yi_D_run 1 (29, [(0, .inr (.inr (some q))), (1, .inr (.inl x)), (3, .inl s), (4, .inl t)], [.inr (.inr (some q))], (I4, L2, R, Y), 0, 0) (fun _ => rfl) ?_
    refine yi_D_gr (v := some (q + 6)) rfl rfl (Nat.ble_eq_true_of_le (by omega)) (hW.2.2.1.2.2.1 5 (by omega)) (fun _ => ?_)
    refine yi_D_run 1 (33, [(0, .inr (.inr (some q))), (1, .inr (.inl x)), (3, .inl s), (4, .inl t)], [.inr (.inr (some q)), .inr (.inr (some (q + 6)))], (I4, L2, R, Y), 0, 0) (fun _ => rfl) ?_
    have r6 : I4 q 17 = ld 3 := by rw [← w5, yi_u_ne _ _ (by omega), hW.2.2.2.1.2.2.2.1]
    refine yi_D_gi (v := ld 3) rfl rfl (Nat.ble_eq_true_of_le (by omega)) r6 (fun _ => ?_)
    refine yi_D_run 1 (38, [(0, .inr (.inr (some q))), (1, .inr (.inl x)), (3, .inl s), (4, .inl t)], [.inl t, .inl (ld 3), .inr (.inr (some (q + 6)))], (I4, L2, R, Y), 0, 0) (fun _ => rfl) ?_
    refine yi_D_is rfl (fun _ _ => ?_)
    generalize w8 : yi_u I4 (q + 6) ((ld 3).toNat) t = I7
    refine yi_D_run 2 (41, [(0, .inr (.inr (some q))), (1, .inr (.inl x)), (3, .inl s), (4, .inl t)], [.inr (.inr (some q)), .inr (.inr (some q))], (I7, L2, R, Y), 0, 0) (fun _ => rfl) ?_
    have r9 : I7 q 17 = ld 3 := by rw [← w8, yi_u_ne _ _ (by omega), ← w5, yi_u_ne _ _ (by omega), hW.2.2.2.1.2.2.2.1]
    refine yi_D_gi (v := ld 3) rfl rfl (Nat.ble_eq_true_of_le (by omega)) r9 (fun _ => ?_)
    refine yi_D_run 1 (45, [(0, .inr (.inr (some q))), (1, .inr (.inl x)), (3, .inl s), (4, .inl t)], [.inl 1, .inl (ld 3), .inr (.inr (some q))], (I7, L2, R, Y), 0, 0) (fun _ => rfl) ?_
    refine yi_D_iadd rfl ((ld 3) + 1) (yi_wn (by omega) (by omega)) ?_
    refine yi_D_pi rfl (fun _ => ?_)
    generalize w11 : yi_u I7 q 17 ((ld 3) + 1) = I10
    refine yi_D_retv rfl ?_
    refine ⟨_, _, rfl, fun p k hp => ?_, ?_, ?_, ?_, ?_, ?_, ?_⟩
    · exact ⟨by rw [← w11, yi_u_ne _ _ (by omega), ← w8, yi_u_ne _ _ (by omega), ← w5, yi_u_ne _ _ (by omega)], by rw [← w3, yi_u_ne _ _ (by omega)]⟩
    · rw [← w11, yi_u_eq]
    · rw [← w11, yi_u_ne _ _ (by omega), ← w8, yi_u_ne _ _ (by omega), ← w5, yi_u_eq]
    · rw [← w11, yi_u_ne _ _ (by omega), ← w8, yi_u_eq]
    · rw [← w3, yi_u_eq]
    · exact fun p k hp => by rw [← w11, yi_u_ne _ _ (by omega), ← w8, yi_u_ne _ _ (by omega), ← w5, yi_u_ne _ _ (by omega)]
    · exact fun p k hp => by rw [← w3, yi_u_ne _ _ (by omega)]
theorem p_addLaw {d : Nat} {I L : Nat → Nat → Int} {R : Nat → Nat → Option Nat} {Y : (Nat → Nat) × (Nat → Nat) × Nat} {x y : Int} {K P V : Nat → Int} {te q : Nat} {ld : Nat → Int} {nm : Int → Int} (hW : cs_W I L R Y K P V te q ld nm) (h4 : ld 4 < 4) : yi_P zi_Ms d 221 [.inr (.inr (some q)), .inl x, .inl y] (I, L, R, Y) (fun r => ∃ I', r = (none, (I', L, R, Y), 0, 0) ∧ (∀ p k, (p = q → ¬ k = 18) ∧ (p ≤ q + 6 ∨ q + 14 ≤ p) → I' p k = I p k) ∧ I' q 18 = ld 4 + 1) := by
  refine yi_P_of (M := zi_m221) rfl (fun d k => ?_)
  obtain ⟨ly1, ly2, ly3, ly4⟩ := hW.2.2.1.2.2.2
  have lb := hW.2.2.2.2.1
  have hq0 := hW.2.2.1.1
  show yi_D zi_Ms d zi_m221 k (0, [(0, .inr (.inr (some q))), (1, .inl x), (2, .inl y)], [], (I, L, R, Y), 0, 0) _
  refine yi_D_run 1 (1, [(0, .inr (.inr (some q))), (1, .inl x), (2, .inl y)], [.inr (.inr (some q))], (I, L, R, Y), 0, 0) (fun _ => rfl) ?_
  refine yi_D_gi (v := ld 4) rfl rfl (Nat.ble_eq_true_of_le (by omega)) hW.2.2.2.1.2.2.2.2.1 (fun _ => ?_)
  refine yi_D_run 1 (5, [(0, .inr (.inr (some q))), (1, .inl x), (2, .inl y)], [.inl 4, .inl (ld 4)], (I, L, R, Y), 0, 0) (fun _ => rfl) ?_
  by_cases h1 : 4 ≤ (ld 4)
  · refine yi_D_if2 true rfl (yi_ge_t h1) ?_
    refine yi_D_retv rfl ?_
    exfalso; omega
  · refine yi_D_if2 false rfl (yi_ge_f h1) ?_
    refine yi_D_run 1 (9, [(0, .inr (.inr (some q))), (1, .inl x), (2, .inl y)], [.inr (.inr (some q))], (I, L, R, Y), 0, 0) (fun _ => rfl) ?_
    refine yi_D_gr (v := some (q + 9)) rfl rfl (Nat.ble_eq_true_of_le (by omega)) (hW.2.2.1.2.2.1 8 (by omega)) (fun _ => ?_)
    refine yi_D_run 1 (13, [(0, .inr (.inr (some q))), (1, .inl x), (2, .inl y)], [.inr (.inr (some q)), .inr (.inr (some (q + 9)))], (I, L, R, Y), 0, 0) (fun _ => rfl) ?_
    refine yi_D_gi (v := ld 4) rfl rfl (Nat.ble_eq_true_of_le (by omega)) hW.2.2.2.1.2.2.2.2.1 (fun _ => ?_)
    refine yi_D_run 1 (17, [(0, .inr (.inr (some q))), (1, .inl x), (2, .inl y)], [.inl x, .inl (ld 4), .inr (.inr (some (q + 9)))], (I, L, R, Y), 0, 0) (fun _ => rfl) ?_
    refine yi_D_is rfl (fun _ _ => ?_)
    generalize w3 : yi_u I (q + 9) ((ld 4).toNat) x = I2
    refine yi_D_run 1 (19, [(0, .inr (.inr (some q))), (1, .inl x), (2, .inl y)], [.inr (.inr (some q))], (I2, L, R, Y), 0, 0) (fun _ => rfl) ?_
    refine yi_D_gr (v := some (q + 10)) rfl rfl (Nat.ble_eq_true_of_le (by omega)) (hW.2.2.1.2.2.1 9 (by omega)) (fun _ => ?_)
    refine yi_D_run 1 (23, [(0, .inr (.inr (some q))), (1, .inl x), (2, .inl y)], [.inr (.inr (some q)), .inr (.inr (some (q + 10)))], (I2, L, R, Y), 0, 0) (fun _ => rfl) ?_
    have r4 : I2 q 18 = ld 4 := by rw [← w3, yi_u_ne _ _ (by omega), hW.2.2.2.1.2.2.2.2.1]
    refine yi_D_gi (v := ld 4) rfl rfl (Nat.ble_eq_true_of_le (by omega)) r4 (fun _ => ?_)
    refine yi_D_run 1 (27, [(0, .inr (.inr (some q))), (1, .inl x), (2, .inl y)], [.inl y, .inl (ld 4), .inr (.inr (some (q + 10)))], (I2, L, R, Y), 0, 0) (fun _ => rfl) ?_
    refine yi_D_is rfl (fun _ _ => ?_)
    generalize w6 : yi_u I2 (q + 10) ((ld 4).toNat) y = I5
    refine yi_D_run 2 (30, [(0, .inr (.inr (some q))), (1, .inl x), (2, .inl y)], [.inr (.inr (some q)), .inr (.inr (some q))], (I5, L, R, Y), 0, 0) (fun _ => rfl) ?_
    have r7 : I5 q 18 = ld 4 := by rw [← w6, yi_u_ne _ _ (by omega), ← w3, yi_u_ne _ _ (by omega), hW.2.2.2.1.2.2.2.2.1]
    refine yi_D_gi (v := ld 4) rfl rfl (Nat.ble_eq_true_of_le (by omega)) r7 (fun _ => ?_)
    refine yi_D_run 1 (34, [(0, .inr (.inr (some q))), (1, .inl x), (2, .inl y)], [.inl 1, .inl (ld 4), .inr (.inr (some q))], (I5, L, R, Y), 0, 0) (fun _ => rfl) ?_
    refine yi_D_iadd rfl ((ld 4) + 1) (yi_wn (by omega) (by omega)) ?_
    refine yi_D_pi rfl (fun _ => ?_)
    generalize w9 : yi_u I5 q 18 ((ld 4) + 1) = I8
    refine yi_D_retv rfl ?_
    refine ⟨_, rfl, fun p k hp => ?_, ?_⟩
    · rw [← w9, yi_u_ne _ _ (by omega), ← w6, yi_u_ne _ _ (by omega), ← w3, yi_u_ne _ _ (by omega)]
    · rw [← w9, yi_u_eq]
theorem p_addWish {d : Nat} {I L : Nat → Nat → Int} {R : Nat → Nat → Option Nat} {Y : (Nat → Nat) × (Nat → Nat) × Nat} {x y z w : Int} {K P V : Nat → Int} {te q : Nat} {ld : Nat → Int} {nm : Int → Int} (hW : cs_W I L R Y K P V te q ld nm) (h4 : ld 5 < 6) : yi_P zi_Ms d 224 [.inr (.inr (some q)), .inl x, .inl y, .inl z, .inl w] (I, L, R, Y) (fun r => ∃ I', r = (none, (I', L, R, Y), 0, 0) ∧ (∀ p k, (p = q → ¬ k = 19) ∧ (p ≤ q + 6 ∨ q + 14 ≤ p) → I' p k = I p k) ∧ I' q 19 = ld 5 + 1) := by
  refine yi_P_of (M := zi_m224) rfl (fun d k => ?_)
  obtain ⟨ly1, ly2, ly3, ly4⟩ := hW.2.2.1.2.2.2
  have lb := hW.2.2.2.2.1
  have hq0 := hW.2.2.1.1
  show yi_D zi_Ms d zi_m224 k (0, [(0, .inr (.inr (some q))), (1, .inl x), (2, .inl y), (3, .inl z), (4, .inl w)], [], (I, L, R, Y), 0, 0) _
  refine yi_D_run 1 (1, [(0, .inr (.inr (some q))), (1, .inl x), (2, .inl y), (3, .inl z), (4, .inl w)], [.inr (.inr (some q))], (I, L, R, Y), 0, 0) (fun _ => rfl) ?_
  refine yi_D_gi (v := ld 5) rfl rfl (Nat.ble_eq_true_of_le (by omega)) hW.2.2.2.1.2.2.2.2.2 (fun _ => ?_)
  refine yi_D_run 1 (6, [(0, .inr (.inr (some q))), (1, .inl x), (2, .inl y), (3, .inl z), (4, .inl w)], [.inl 6, .inl (ld 5)], (I, L, R, Y), 0, 0) (fun _ => rfl) ?_
  by_cases h1 : 6 ≤ (ld 5)
  · refine yi_D_if2 true rfl (yi_ge_t h1) ?_
    refine yi_D_retv rfl ?_
    exfalso; omega
  · refine yi_D_if2 false rfl (yi_ge_f h1) ?_
    refine yi_D_run 1 (10, [(0, .inr (.inr (some q))), (1, .inl x), (2, .inl y), (3, .inl z), (4, .inl w)], [.inr (.inr (some q))], (I, L, R, Y), 0, 0) (fun _ => rfl) ?_
    refine yi_D_gr (v := some (q + 7)) rfl rfl (Nat.ble_eq_true_of_le (by omega)) (hW.2.2.1.2.2.1 6 (by omega)) (fun _ => ?_)
    refine yi_D_run 1 (14, [(0, .inr (.inr (some q))), (1, .inl x), (2, .inl y), (3, .inl z), (4, .inl w)], [.inr (.inr (some q)), .inr (.inr (some (q + 7)))], (I, L, R, Y), 0, 0) (fun _ => rfl) ?_
    refine yi_D_gi (v := ld 5) rfl rfl (Nat.ble_eq_true_of_le (by omega)) hW.2.2.2.1.2.2.2.2.2 (fun _ => ?_)
    refine yi_D_run 1 (18, [(0, .inr (.inr (some q))), (1, .inl x), (2, .inl y), (3, .inl z), (4, .inl w)], [.inl x, .inl (ld 5), .inr (.inr (some (q + 7)))], (I, L, R, Y), 0, 0) (fun _ => rfl) ?_
    refine yi_D_is rfl (fun _ _ => ?_)
    generalize w3 : yi_u I (q + 7) ((ld 5).toNat) x = I2
    refine yi_D_run 1 (20, [(0, .inr (.inr (some q))), (1, .inl x), (2, .inl y), (3, .inl z), (4, .inl w)], [.inr (.inr (some q))], (I2, L, R, Y), 0, 0) (fun _ => rfl) ?_
    refine yi_D_gr (v := some (q + 8)) rfl rfl (Nat.ble_eq_true_of_le (by omega)) (hW.2.2.1.2.2.1 7 (by omega)) (fun _ => ?_)
    refine yi_D_run 1 (24, [(0, .inr (.inr (some q))), (1, .inl x), (2, .inl y), (3, .inl z), (4, .inl w)], [.inr (.inr (some q)), .inr (.inr (some (q + 8)))], (I2, L, R, Y), 0, 0) (fun _ => rfl) ?_
    have r4 : I2 q 19 = ld 5 := by rw [← w3, yi_u_ne _ _ (by omega), hW.2.2.2.1.2.2.2.2.2]
    refine yi_D_gi (v := ld 5) rfl rfl (Nat.ble_eq_true_of_le (by omega)) r4 (fun _ => ?_)
    refine yi_D_run 1 (28, [(0, .inr (.inr (some q))), (1, .inl x), (2, .inl y), (3, .inl z), (4, .inl w)], [.inl y, .inl (ld 5), .inr (.inr (some (q + 8)))], (I2, L, R, Y), 0, 0) (fun _ => rfl) ?_
    refine yi_D_is rfl (fun _ _ => ?_)
    generalize w6 : yi_u I2 (q + 8) ((ld 5).toNat) y = I5
    refine yi_D_run 1 (30, [(0, .inr (.inr (some q))), (1, .inl x), (2, .inl y), (3, .inl z), (4, .inl w)], [.inr (.inr (some q))], (I5, L, R, Y), 0, 0) (fun _ => rfl) ?_
    refine yi_D_gr (v := some (q + 11)) rfl rfl (Nat.ble_eq_true_of_le (by omega)) (hW.2.2.1.2.2.1 10 (by omega)) (fun _ => ?_)
    refine yi_D_run 1 (34, [(0, .inr (.inr (some q))), (1, .inl x), (2, .inl y), (3, .inl z), (4, .inl w)], [.inr (.inr (some q)), .inr (.inr (some (q + 11)))], (I5, L, R, Y), 0, 0) (fun _ => rfl) ?_
    have r7 : I5 q 19 = ld 5 := by rw [← w6, yi_u_ne _ _ (by omega), ← w3, yi_u_ne _ _ (by omega), hW.2.2.2.1.2.2.2.2.2]
    refine yi_D_gi (v := ld 5) rfl rfl (Nat.ble_eq_true_of_le (by omega)) r7 (fun _ => ?_)
    refine yi_D_run 1 (38, [(0, .inr (.inr (some q))), (1, .inl x), (2, .inl y), (3, .inl z), (4, .inl w)], [.inl z, .inl (ld 5), .inr (.inr (some (q + 11)))], (I5, L, R, Y), 0, 0) (fun _ => rfl) ?_
    refine yi_D_is rfl (fun _ _ => ?_)
    generalize w9 : yi_u I5 (q + 11) ((ld 5).toNat) z = I8
    refine yi_D_run 1 (40, [(0, .inr (.inr (some q))), (1, .inl x), (2, .inl y), (3, .inl z), (4, .inl w)], [.inr (.inr (some q))], (I8, L, R, Y), 0, 0) (fun _ => rfl) ?_
    refine yi_D_gr (v := some (q + 12)) rfl rfl (Nat.ble_eq_true_of_le (by omega)) (hW.2.2.1.2.2.1 11 (by omega)) (fun _ => ?_)
    refine yi_D_run 1 (44, [(0, .inr (.inr (some q))), (1, .inl x), (2, .inl y), (3, .inl z), (4, .inl w)], [.inr (.inr (some q)), .inr (.inr (some (q + 12)))], (I8, L, R, Y), 0, 0) (fun _ => rfl) ?_
    have r10 : I8 q 19 = ld 5 := by rw [← w9, yi_u_ne _ _ (by omega), ← w6, yi_u_ne _ _ (by omega), ← w3, yi_u_ne _ _ (by omega), hW.2.2.2.1.2.2.2.2.2]
    refine yi_D_gi (v := ld 5) rfl rfl (Nat.ble_eq_true_of_le (by omega)) r10 (fun _ => ?_)
    refine yi_D_run 1 (49, [(0, .inr (.inr (some q))), (1, .inl x), (2, .inl y), (3, .inl z), (4, .inl w)], [.inl w, .inl (ld 5), .inr (.inr (some (q + 12)))], (I8, L, R, Y), 0, 0) (fun _ => rfl) ?_
    refine yi_D_is rfl (fun _ _ => ?_)
    generalize w12 : yi_u I8 (q + 12) ((ld 5).toNat) w = I11
    refine yi_D_run 2 (52, [(0, .inr (.inr (some q))), (1, .inl x), (2, .inl y), (3, .inl z), (4, .inl w)], [.inr (.inr (some q)), .inr (.inr (some q))], (I11, L, R, Y), 0, 0) (fun _ => rfl) ?_
    have r13 : I11 q 19 = ld 5 := by rw [← w12, yi_u_ne _ _ (by omega), ← w9, yi_u_ne _ _ (by omega), ← w6, yi_u_ne _ _ (by omega), ← w3, yi_u_ne _ _ (by omega), hW.2.2.2.1.2.2.2.2.2]
    refine yi_D_gi (v := ld 5) rfl rfl (Nat.ble_eq_true_of_le (by omega)) r13 (fun _ => ?_)
    refine yi_D_run 1 (56, [(0, .inr (.inr (some q))), (1, .inl x), (2, .inl y), (3, .inl z), (4, .inl w)], [.inl 1, .inl (ld 5), .inr (.inr (some q))], (I11, L, R, Y), 0, 0) (fun _ => rfl) ?_
    refine yi_D_iadd rfl ((ld 5) + 1) (yi_wn (by omega) (by omega)) ?_
    refine yi_D_pi rfl (fun _ => ?_)
    generalize w15 : yi_u I11 q 19 ((ld 5) + 1) = I14
    refine yi_D_retv rfl ?_
    refine ⟨_, rfl, fun p k hp => ?_, ?_⟩
    · rw [← w15, yi_u_ne _ _ (by omega), ← w12, yi_u_ne _ _ (by omega), ← w9, yi_u_ne _ _ (by omega), ← w6, yi_u_ne _ _ (by omega), ← w3, yi_u_ne _ _ (by omega)]
    · rw [← w15, yi_u_eq]
