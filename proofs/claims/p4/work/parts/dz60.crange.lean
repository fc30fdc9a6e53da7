/-! The class: futures from one to another. -/
/-- a future of a row of the class -/
def rbc (L : Nat → Nat → Int) (c f : Nat) : Bool := yb (L c (f / 64)) (f % 64)
def rkc (L : Nat → Nat → Int) (c n : Nat) : Prop := ∀ k, k < n → b64 (L c k)
theorem ar_lo {x i j : Nat} {s : Int} (hs : s = ((x : Nat) : Int) % 64) (hi : i = x / 64) (hj : j < 64) : yb (yi_lshl (-1) s) j = decide (x ≤ 64 * i + j) := by
  rw [show s = ((x % 64 : Nat) : Int) by omega, yb_lshl (x % 64) (by omega) j hj]
  exact decide_eq_decide.2 (by omega)
theorem ar_hi {y i j : Nat} {s : Int} (hs : s = 63 - (((y : Nat) : Int) - 1) % 64) (hi : i = (y - 1) / 64) (hy : 1 ≤ y) (hj : j < 64) : yb (yi_lushr (-1) s) j = decide (64 * i + j < y) := by
  rw [show s = ((63 - (y - 1) % 64 : Nat) : Int) by omega, yb_ushr (63 - (y - 1) % 64) (by omega) j hj]
  exact decide_eq_decide.2 (by omega)
theorem ar_s {L0 G G' : Nat → Nat → Int} {c n x y i : Nat} {w : Int} (hb : ∀ f, f < 64 * n → rbc G c f = (rbc L0 c f || decide (x ≤ f ∧ f < y ∧ f / 64 < i))) (hw : G' c i = yi_lor (G c i) w) (hG : ∀ k, ¬ k = i → G' c k = G c k) (hbit : ∀ j, j < 64 → yb w j = decide (x ≤ 64 * i + j ∧ 64 * i + j < y)) (f : Nat) (hf : f < 64 * n) : rbc G' c f = (rbc L0 c f || decide (x ≤ f ∧ f < y ∧ f / 64 < i + 1)) := by
  have z := hb f hf
  unfold rbc at z ⊢
  by_cases e : f / 64 = i
  · rw [e] at z ⊢
    rw [hw, yb_or, z, hbit _ (Nat.mod_lt _ (by omega)), decide_eq_false (show ¬ (x ≤ f ∧ f < y ∧ i < i) by omega), Bool.or_false, show 64 * i + f % 64 = f by omega]
    exact congrArg _ (decide_eq_decide.2 (by omega))
  · rw [hG _ e, z]
    exact congrArg _ (decide_eq_decide.2 (by omega))
theorem p_addRange {d : Nat} {I L : Nat → Nat → Int} {R : Nat → Nat → Option Nat} {Y : (Nat → Nat) × (Nat → Nat) × Nat} {p c n : Nat} (hf : rw_S I R Y p c n) {x y : Nat} (hxy : x < y ∧ y ≤ 64 * n) : yi_P zi_Ms d 196 [.inr (.inr (some p)), .inl (x : Int), .inl (y : Int)] (I, L, R, Y) (fun r => ∃ L', r = (none, (I, L', R, Y), 0, 0) ∧ (∀ f, f < 64 * n → rbc L' c f = (rbc L c f || decide (x ≤ f ∧ f < y))) ∧ (rkc L c n → rkc L' c n) ∧ ∀ q k, ¬ (q = c ∧ k < n) → L' q k = L q k) := by
  refine yi_P_of (M := zi_m196) rfl (fun d k => ?_)
  obtain ⟨⟨hp10, hc10, hpN, hcN, hp5, hc5⟩, -, -, hn9, hn5⟩ := id hf
  show yi_D zi_Ms d zi_m196 k (0, [(0, .inr (.inr (some p))), (1, .inl (x : Int)), (2, .inl (y : Int))], [], (I, L, R, Y), 0, 0) _
  refine yi_D_run 1 (1, [(0, .inr (.inr (some p))), (1, .inl (x : Int)), (2, .inl (y : Int))], [.inl (x : Int)], (I, L, R, Y), 0, 0) (fun _ => rfl) ?_
  have h1 : ¬ ((x : Int) < 0) := by omega
  refine yi_D_if1 false rfl (yi_lt_f h1) ?_
  refine yi_D_run 2 (6, [(0, .inr (.inr (some p))), (1, .inl (x : Int)), (2, .inl (y : Int))], [.inl (y : Int), .inl (x : Int)], (I, L, R, Y), 0, 0) (fun _ => rfl) ?_
  have h2 : ¬ ((y : Int) ≤ (x : Int)) := by omega
  refine yi_D_if2 false rfl (yi_ge_f h2) ?_
  refine yi_D_run 2 (11, [(0, .inr (.inr (some p))), (1, .inl (x : Int)), (2, .inl (y : Int))], [.inr (.inr (some p)), .inl (y : Int)], (I, L, R, Y), 0, 0) (fun _ => rfl) ?_
  refine yi_D_gi (v := (n : Int)) rfl rfl (Nat.ble_eq_true_of_le (by omega)) hf.2.2.1 (fun _ => ?_)
  refine yi_D_run 1 (16, [(0, .inr (.inr (some p))), (1, .inl (x : Int)), (2, .inl (y : Int))], [.inl 64, .inl (n : Int), .inl (y : Int)], (I, L, R, Y), 0, 0) (fun _ => rfl) ?_
  refine yi_D_imul rfl ((n : Int) * 64) (yi_wn (by omega) (by omega)) ?_
  have h3 : (y : Int) ≤ ((n : Int) * 64) := by omega
  refine yi_D_if2 true rfl (yi_le_t h3) ?_
  refine yi_D_run 2 (24, [(0, .inr (.inr (some p))), (1, .inl (x : Int)), (2, .inl (y : Int))], [.inl 64, .inl (x : Int)], (I, L, R, Y), 0, 0) (fun _ => rfl) ?_
  refine yi_D_idiv rfl (by omega) ((x : Int) / 64) (yi_dv (by omega) rfl (by omega) (by omega)) ?_
  refine yi_D_run 3 (28, [(3, .inl ((x : Int) / 64)), (0, .inr (.inr (some p))), (1, .inl (x : Int)), (2, .inl (y : Int))], [.inl 1, .inl (y : Int)], (I, L, R, Y), 0, 0) (fun _ => rfl) ?_
  refine yi_D_isub rfl ((y : Int) - 1) (yi_wn (by omega) (by omega)) ?_
  refine yi_D_run 1 (31, [(3, .inl ((x : Int) / 64)), (0, .inr (.inr (some p))), (1, .inl (x : Int)), (2, .inl (y : Int))], [.inl 64, .inl ((y : Int) - 1)], (I, L, R, Y), 0, 0) (fun _ => rfl) ?_
  refine yi_D_idiv rfl (by omega) (((y : Int) - 1) / 64) (yi_dv (by omega) rfl (by omega) (by omega)) ?_
  refine yi_D_run 3 (37, [(5, .inl ((x : Int) / 64)), (4, .inl (((y : Int) - 1) / 64)), (3, .inl ((x : Int) / 64)), (0, .inr (.inr (some p))), (1, .inl (x : Int)), (2, .inl (y : Int))], [], (I, L, R, Y), 0, 0) (fun _ => rfl) ?_
  have pt37 : ∀ j37, j37 ≤ k → ∀ (y5 : Int) (z6 : Int) (G1 : Nat → Nat → Int), ((x : Int) / 64 ≤ y5 ∧ y5 ≤ ((y : Int) - 1) / 64 + 1) → (∀ f, f < 64 * n → rbc G1 c f = (rbc L c f || decide (x ≤ f ∧ f < y ∧ f / 64 < y5.toNat))) → (rkc L c n → rkc G1 c n) → (∀ q k, ¬ (q = c ∧ k < n) → G1 q k = L q k) → yi_D zi_Ms d zi_m196 j37 (37, [(5, .inl y5), (4, .inl (((y : Int) - 1) / 64)), (3, .inl ((x : Int) / 64)), (0, .inr (.inr (some p))), (1, .inl (x : Int)), (2, .inl (y : Int)), (6, .inr (.inl z6))], [], (I, G1, R, Y), 0, 0) (fun r => ∃ L', r = (none, (I, L', R, Y), 0, 0) ∧ (∀ f, f < 64 * n → rbc L' c f = (rbc L c f || decide (x ≤ f ∧ f < y))) ∧ (rkc L c n → rkc L' c n) ∧ ∀ q k, ¬ (q = c ∧ k < n) → L' q k = L q k) := by
    intro j37
    induction j37 with
    | zero => intros; exact yi_D_0
    | succ j37 ih37 =>
    intro hk37 y5 z6 G1 hy hb hk1 hF
    refine yi_D_run1 1 (41, [(5, .inl y5), (4, .inl (((y : Int) - 1) / 64)), (3, .inl ((x : Int) / 64)), (0, .inr (.inr (some p))), (1, .inl (x : Int)), (2, .inl (y : Int)), (6, .inr (.inl z6))], [.inl (((y : Int) - 1) / 64), .inl y5], (I, G1, R, Y), 0, 0) (fun _ => rfl) ?_
    by_cases h4 : (((y : Int) - 1) / 64) < y5
    · refine yi_D_if2 true rfl (yi_gt_t h4) ?_
      refine yi_D_retv rfl ?_
      exact ⟨_, rfl, fun f hf => by rw [hb f hf]; exact congrArg _ (decide_eq_decide.2 (by omega)), hk1, hF⟩
    · refine yi_D_if2 false rfl (yi_gt_f h4) ?_
      refine yi_D_run 2 (47, [(5, .inl y5), (4, .inl (((y : Int) - 1) / 64)), (3, .inl ((x : Int) / 64)), (0, .inr (.inr (some p))), (1, .inl (x : Int)), (2, .inl (y : Int)), (6, .inr (.inl z6))], [.inr (.inr (some p)), .inl y5], (I, G1, R, Y), 0, 0) (fun _ => rfl) ?_
      refine yi_D_gr (v := some c) rfl rfl (Nat.ble_eq_true_of_le (by omega)) hf.2.1 (fun _ => ?_)
      refine yi_D_len (v := (Y.2.1 c : Int)) rfl (Nat.ble_eq_true_of_le (by omega)) rfl ?_
      have h5 : ¬ ((Y.2.1 c : Int) ≤ y5) := by omega
      refine yi_D_if2 false rfl (yi_ge_f h5) ?_
      refine yi_D_ldc2 ((-1)) rfl (by decide +kernel) ?_
      refine yi_D_run 3 (62, [(6, .inr (.inl (-1))), (5, .inl y5), (4, .inl (((y : Int) - 1) / 64)), (3, .inl ((x : Int) / 64)), (0, .inr (.inr (some p))), (1, .inl (x : Int)), (2, .inl (y : Int))], [.inl ((x : Int) / 64), .inl y5], (I, G1, R, Y), 0, 0) (fun _ => rfl) ?_
      by_cases h6 : y5 = ((x : Int) / 64)
      · refine yi_D_if2 false rfl (yi_ne_f h6) ?_
        refine yi_D_run 1 (67, [(6, .inr (.inl (-1))), (5, .inl y5), (4, .inl (((y : Int) - 1) / 64)), (3, .inl ((x : Int) / 64)), (0, .inr (.inr (some p))), (1, .inl (x : Int)), (2, .inl (y : Int))], [.inr (.inl (-1))], (I, G1, R, Y), 0, 0) (fun _ => rfl) ?_
        refine yi_D_ldc2 ((-1)) rfl (by decide +kernel) ?_
        refine yi_D_run 2 (73, [(6, .inr (.inl (-1))), (5, .inl y5), (4, .inl (((y : Int) - 1) / 64)), (3, .inl ((x : Int) / 64)), (0, .inr (.inr (some p))), (1, .inl (x : Int)), (2, .inl (y : Int))], [.inl 64, .inl (x : Int), .inr (.inl (-1)), .inr (.inl (-1))], (I, G1, R, Y), 0, 0) (fun _ => rfl) ?_
        refine yi_D_irem rfl (by omega) ((x : Int) % 64) (yi_md (by omega) rfl) ?_
        refine yi_D_run 5 (82, [(6, .inr (.inl (yi_land (-1) (yi_lshl (-1) ((x : Int) % 64))))), (5, .inl y5), (4, .inl (((y : Int) - 1) / 64)), (3, .inl ((x : Int) / 64)), (0, .inr (.inr (some p))), (1, .inl (x : Int)), (2, .inl (y : Int))], [.inl (((y : Int) - 1) / 64), .inl y5], (I, G1, R, Y), 0, 0) (fun _ => rfl) ?_
        by_cases h7 : y5 = (((y : Int) - 1) / 64)
        · refine yi_D_if2 false rfl (yi_ne_f h7) ?_
          refine yi_D_run 1 (87, [(6, .inr (.inl (yi_land (-1) (yi_lshl (-1) ((x : Int) % 64))))), (5, .inl y5), (4, .inl (((y : Int) - 1) / 64)), (3, .inl ((x : Int) / 64)), (0, .inr (.inr (some p))), (1, .inl (x : Int)), (2, .inl (y : Int))], [.inr (.inl (yi_land (-1) (yi_lshl (-1) ((x : Int) % 64))))], (I, G1, R, Y), 0, 0) (fun _ => rfl) ?_
          refine yi_D_ldc2 ((-1)) rfl (by decide +kernel) ?_
          refine yi_D_run 3 (94, [(6, .inr (.inl (yi_land (-1) (yi_lshl (-1) ((x : Int) % 64))))), (5, .inl y5), (4, .inl (((y : Int) - 1) / 64)), (3, .inl ((x : Int) / 64)), (0, .inr (.inr (some p))), (1, .inl (x : Int)), (2, .inl (y : Int))], [.inl 1, .inl (y : Int), .inl 63, .inr (.inl (-1)), .inr (.inl (yi_land (-1) (yi_lshl (-1) ((x : Int) % 64))))], (I, G1, R, Y), 0, 0) (fun _ => rfl) ?_
          refine yi_D_isub rfl ((y : Int) - 1) (yi_wn (by omega) (by omega)) ?_
          refine yi_D_run 1 (97, [(6, .inr (.inl (yi_land (-1) (yi_lshl (-1) ((x : Int) % 64))))), (5, .inl y5), (4, .inl (((y : Int) - 1) / 64)), (3, .inl ((x : Int) / 64)), (0, .inr (.inr (some p))), (1, .inl (x : Int)), (2, .inl (y : Int))], [.inl 64, .inl ((y : Int) - 1), .inl 63, .inr (.inl (-1)), .inr (.inl (yi_land (-1) (yi_lshl (-1) ((x : Int) % 64))))], (I, G1, R, Y), 0, 0) (fun _ => rfl) ?_
          refine yi_D_irem rfl (by omega) (((y : Int) - 1) % 64) (yi_md (by omega) rfl) ?_
          refine yi_D_isub rfl (63 - (((y : Int) - 1) % 64)) (yi_wn (by omega) (by omega)) ?_
          refine yi_D_run 4 (104, [(6, .inr (.inl (yi_land (yi_land (-1) (yi_lshl (-1) ((x : Int) % 64))) (yi_lushr (-1) (63 - (((y : Int) - 1) % 64)))))), (5, .inl y5), (4, .inl (((y : Int) - 1) / 64)), (3, .inl ((x : Int) / 64)), (0, .inr (.inr (some p))), (1, .inl (x : Int)), (2, .inl (y : Int))], [.inr (.inr (some p))], (I, G1, R, Y), 0, 0) (fun _ => rfl) ?_
          refine yi_D_gr (v := some c) rfl rfl (Nat.ble_eq_true_of_le (by omega)) hf.2.1 (fun _ => ?_)
          refine yi_D_run 2 (110, [(6, .inr (.inl (yi_land (yi_land (-1) (yi_lshl (-1) ((x : Int) % 64))) (yi_lushr (-1) (63 - (((y : Int) - 1) % 64)))))), (5, .inl y5), (4, .inl (((y : Int) - 1) / 64)), (3, .inl ((x : Int) / 64)), (0, .inr (.inr (some p))), (1, .inl (x : Int)), (2, .inl (y : Int))], [.inl y5, .inr (.inr (some c)), .inl y5, .inr (.inr (some c))], (I, G1, R, Y), 0, 0) (fun _ => rfl) ?_
          refine yi_D_ll (v := G1 c (y5.toNat)) rfl (Nat.ble_eq_true_of_le (by omega)) rfl (fun _ _ => ?_)
          refine yi_D_run 2 (114, [(6, .inr (.inl (yi_land (yi_land (-1) (yi_lshl (-1) ((x : Int) % 64))) (yi_lushr (-1) (63 - (((y : Int) - 1) % 64)))))), (5, .inl y5), (4, .inl (((y : Int) - 1) / 64)), (3, .inl ((x : Int) / 64)), (0, .inr (.inr (some p))), (1, .inl (x : Int)), (2, .inl (y : Int))], [.inr (.inl (yi_lor (G1 c (y5.toNat)) (yi_land (yi_land (-1) (yi_lshl (-1) ((x : Int) % 64))) (yi_lushr (-1) (63 - (((y : Int) - 1) % 64)))))), .inl y5, .inr (.inr (some c))], (I, G1, R, Y), 0, 0) (fun _ => rfl) ?_
          skip
          refine yi_D_ls rfl (fun _ _ => ?_)
          generalize w9 : yi_u G1 c (y5.toNat) (yi_lor (G1 c (y5.toNat)) (yi_land (yi_land (-1) (yi_lshl (-1) ((x : Int) % 64))) (yi_lushr (-1) (63 - (((y : Int) - 1) % 64))))) = L8
          refine yi_D_iinc [(5, .inl (y5 + 1)), (6, .inr (.inl (yi_land (yi_land (-1) (yi_lshl (-1) ((x : Int) % 64))) (yi_lushr (-1) (63 - (((y : Int) - 1) % 64)))))), (4, .inl (((y : Int) - 1) / 64)), (3, .inl ((x : Int) / 64)), (0, .inr (.inr (some p))), (1, .inl (x : Int)), (2, .inl (y : Int))] rfl rfl rfl (by rw [show yi_w (y5 + 1) = y5 + 1 from (yi_wn (by omega) (by omega)).trans (by omega)]; rfl) ?_
          refine yi_D_run 1 (37, [(5, .inl (y5 + 1)), (6, .inr (.inl (yi_land (yi_land (-1) (yi_lshl (-1) ((x : Int) % 64))) (yi_lushr (-1) (63 - (((y : Int) - 1) % 64)))))), (4, .inl (((y : Int) - 1) / 64)), (3, .inl ((x : Int) / 64)), (0, .inr (.inr (some p))), (1, .inl (x : Int)), (2, .inl (y : Int))], [], (I, L8, R, Y), 0, 0) (fun _ => rfl) ?_
          refine yi_D_al (al := [(5, .inl (y5 + 1)), (4, .inl (((y : Int) - 1) / 64)), (3, .inl ((x : Int) / 64)), (0, .inr (.inr (some p))), (1, .inl (x : Int)), (2, .inl (y : Int)), (6, .inr (.inl (yi_land (yi_land (-1) (yi_lshl (-1) ((x : Int) % 64))) (yi_lushr (-1) (63 - (((y : Int) - 1) % 64))))))]) (show ([5, 4, 3, 0, 1, 2, 6] : List Nat).Nodup by decide) (show ([5, 6, 4, 3, 0, 1, 2] : List Nat).Nodup by decide) (yi_mc (List.mem_of_getElem? (i := 0) rfl) (yi_mc (List.mem_of_getElem? (i := 6) rfl) (yi_mc (List.mem_of_getElem? (i := 1) rfl) (yi_mc (List.mem_of_getElem? (i := 2) rfl) (yi_mc (List.mem_of_getElem? (i := 3) rfl) (yi_mc (List.mem_of_getElem? (i := 4) rfl) (yi_mc (List.mem_of_getElem? (i := 5) rfl) yi_mn))))))) ?_
          exact yi_D_mono (ih37 (by omega) (y5 + 1) (yi_land (yi_land (-1) (yi_lshl (-1) ((x : Int) % 64))) (yi_lushr (-1) (63 - (((y : Int) - 1) % 64)))) L8 (by omega) (by rw [show (y5 + 1).toNat = y5.toNat + 1 by omega]; exact ar_s (G := G1) (i := y5.toNat) (w := yi_land (yi_land (-1) (yi_lshl (-1) ((x : Int) % 64))) (yi_lushr (-1) (63 - (((y : Int) - 1) % 64)))) hb (by rw [← w9, yi_u_eq]) (fun k hk => by rw [← w9, yi_u_ne _ _ (fun z => hk z.2)]) (fun j hj => by rw [yb_and, yb_and, yb_m1 hj, Bool.true_and, ar_lo (x := x) (i := y5.toNat) rfl (by omega) hj, ar_hi (y := y) (i := y5.toNat) rfl (by omega) (by omega) hj, ← Bool.decide_and])) (fun h k hk => by by_cases e : k = y5.toNat; rw [e, ← w9, yi_u_eq]; exact b64_lor _ _; rw [← w9, yi_u_ne _ _ (fun z => e z.2)]; exact hk1 h k hk) (fun q k h => by rw [← w9, yi_u_ne _ _ (by omega)]; exact hF q k h)) (by omega)
        · refine yi_D_if2 true rfl (yi_ne_t h7) ?_
          refine yi_D_run 1 (104, [(6, .inr (.inl (yi_land (-1) (yi_lshl (-1) ((x : Int) % 64))))), (5, .inl y5), (4, .inl (((y : Int) - 1) / 64)), (3, .inl ((x : Int) / 64)), (0, .inr (.inr (some p))), (1, .inl (x : Int)), (2, .inl (y : Int))], [.inr (.inr (some p))], (I, G1, R, Y), 0, 0) (fun _ => rfl) ?_
          refine yi_D_gr (v := some c) rfl rfl (Nat.ble_eq_true_of_le (by omega)) hf.2.1 (fun _ => ?_)
          refine yi_D_run 2 (110, [(6, .inr (.inl (yi_land (-1) (yi_lshl (-1) ((x : Int) % 64))))), (5, .inl y5), (4, .inl (((y : Int) - 1) / 64)), (3, .inl ((x : Int) / 64)), (0, .inr (.inr (some p))), (1, .inl (x : Int)), (2, .inl (y : Int))], [.inl y5, .inr (.inr (some c)), .inl y5, .inr (.inr (some c))], (I, G1, R, Y), 0, 0) (fun _ => rfl) ?_
          refine yi_D_ll (v := G1 c (y5.toNat)) rfl (Nat.ble_eq_true_of_le (by omega)) rfl (fun _ _ => ?_)
          refine yi_D_run 2 (114, [(6, .inr (.inl (yi_land (-1) (yi_lshl (-1) ((x : Int) % 64))))), (5, .inl y5), (4, .inl (((y : Int) - 1) / 64)), (3, .inl ((x : Int) / 64)), (0, .inr (.inr (some p))), (1, .inl (x : Int)), (2, .inl (y : Int))], [.inr (.inl (yi_lor (G1 c (y5.toNat)) (yi_land (-1) (yi_lshl (-1) ((x : Int) % 64))))), .inl y5, .inr (.inr (some c))], (I, G1, R, Y), 0, 0) (fun _ => rfl) ?_
          skip
          refine yi_D_ls rfl (fun _ _ => ?_)
          generalize w11 : yi_u G1 c (y5.toNat) (yi_lor (G1 c (y5.toNat)) (yi_land (-1) (yi_lshl (-1) ((x : Int) % 64)))) = L10
          refine yi_D_iinc [(5, .inl (y5 + 1)), (6, .inr (.inl (yi_land (-1) (yi_lshl (-1) ((x : Int) % 64))))), (4, .inl (((y : Int) - 1) / 64)), (3, .inl ((x : Int) / 64)), (0, .inr (.inr (some p))), (1, .inl (x : Int)), (2, .inl (y : Int))] rfl rfl rfl (by rw [show yi_w (y5 + 1) = y5 + 1 from (yi_wn (by omega) (by omega)).trans (by omega)]; rfl) ?_
          refine yi_D_run 1 (37, [(5, .inl (y5 + 1)), (6, .inr (.inl (yi_land (-1) (yi_lshl (-1) ((x : Int) % 64))))), (4, .inl (((y : Int) - 1) / 64)), (3, .inl ((x : Int) / 64)), (0, .inr (.inr (some p))), (1, .inl (x : Int)), (2, .inl (y : Int))], [], (I, L10, R, Y), 0, 0) (fun _ => rfl) ?_
          refine yi_D_al (al := [(5, .inl (y5 + 1)), (4, .inl (((y : Int) - 1) / 64)), (3, .inl ((x : Int) / 64)), (0, .inr (.inr (some p))), (1, .inl (x : Int)), (2, .inl (y : Int)), (6, .inr (.inl (yi_land (-1) (yi_lshl (-1) ((x : Int) % 64)))))]) (show ([5, 4, 3, 0, 1, 2, 6] : List Nat).Nodup by decide) (show ([5, 6, 4, 3, 0, 1, 2] : List Nat).Nodup by decide) (yi_mc (List.mem_of_getElem? (i := 0) rfl) (yi_mc (List.mem_of_getElem? (i := 6) rfl) (yi_mc (List.mem_of_getElem? (i := 1) rfl) (yi_mc (List.mem_of_getElem? (i := 2) rfl) (yi_mc (List.mem_of_getElem? (i := 3) rfl) (yi_mc (List.mem_of_getElem? (i := 4) rfl) (yi_mc (List.mem_of_getElem? (i := 5) rfl) yi_mn))))))) ?_
          exact yi_D_mono (ih37 (by omega) (y5 + 1) (yi_land (-1) (yi_lshl (-1) ((x : Int) % 64))) L10 (by omega) (by rw [show (y5 + 1).toNat = y5.toNat + 1 by omega]; exact ar_s (G := G1) (i := y5.toNat) (w := yi_land (-1) (yi_lshl (-1) ((x : Int) % 64))) hb (by rw [← w11, yi_u_eq]) (fun k hk => by rw [← w11, yi_u_ne _ _ (fun z => hk z.2)]) (fun j hj => by rw [yb_and, yb_m1 hj, Bool.true_and, ar_lo (x := x) (i := y5.toNat) rfl (by omega) hj]; exact decide_eq_decide.2 (by omega))) (fun h k hk => by by_cases e : k = y5.toNat; rw [e, ← w11, yi_u_eq]; exact b64_lor _ _; rw [← w11, yi_u_ne _ _ (fun z => e z.2)]; exact hk1 h k hk) (fun q k h => by rw [← w11, yi_u_ne _ _ (by omega)]; exact hF q k h)) (by omega)
      · refine yi_D_if2 true rfl (yi_ne_t h6) ?_
        refine yi_D_run 2 (82, [(6, .inr (.inl (-1))), (5, .inl y5), (4, .inl (((y : Int) - 1) / 64)), (3, .inl ((x : Int) / 64)), (0, .inr (.inr (some p))), (1, .inl (x : Int)), (2, .inl (y : Int))], [.inl (((y : Int) - 1) / 64), .inl y5], (I, G1, R, Y), 0, 0) (fun _ => rfl) ?_
        by_cases h12 : y5 = (((y : Int) - 1) / 64)
        · refine yi_D_if2 false rfl (yi_ne_f h12) ?_
          refine yi_D_run 1 (87, [(6, .inr (.inl (-1))), (5, .inl y5), (4, .inl (((y : Int) - 1) / 64)), (3, .inl ((x : Int) / 64)), (0, .inr (.inr (some p))), (1, .inl (x : Int)), (2, .inl (y : Int))], [.inr (.inl (-1))], (I, G1, R, Y), 0, 0) (fun _ => rfl) ?_
          refine yi_D_ldc2 ((-1)) rfl (by decide +kernel) ?_
          refine yi_D_run 3 (94, [(6, .inr (.inl (-1))), (5, .inl y5), (4, .inl (((y : Int) - 1) / 64)), (3, .inl ((x : Int) / 64)), (0, .inr (.inr (some p))), (1, .inl (x : Int)), (2, .inl (y : Int))], [.inl 1, .inl (y : Int), .inl 63, .inr (.inl (-1)), .inr (.inl (-1))], (I, G1, R, Y), 0, 0) (fun _ => rfl) ?_
          refine yi_D_isub rfl ((y : Int) - 1) (yi_wn (by omega) (by omega)) ?_
          refine yi_D_run 1 (97, [(6, .inr (.inl (-1))), (5, .inl y5), (4, .inl (((y : Int) - 1) / 64)), (3, .inl ((x : Int) / 64)), (0, .inr (.inr (some p))), (1, .inl (x : Int)), (2, .inl (y : Int))], [.inl 64, .inl ((y : Int) - 1), .inl 63, .inr (.inl (-1)), .inr (.inl (-1))], (I, G1, R, Y), 0, 0) (fun _ => rfl) ?_
          refine yi_D_irem rfl (by omega) (((y : Int) - 1) % 64) (yi_md (by omega) rfl) ?_
          refine yi_D_isub rfl (63 - (((y : Int) - 1) % 64)) (yi_wn (by omega) (by omega)) ?_
          refine yi_D_run 4 (104, [(6, .inr (.inl (yi_land (-1) (yi_lushr (-1) (63 - (((y : Int) - 1) % 64)))))), (5, .inl y5), (4, .inl (((y : Int) - 1) / 64)), (3, .inl ((x : Int) / 64)), (0, .inr (.inr (some p))), (1, .inl (x : Int)), (2, .inl (y : Int))], [.inr (.inr (some p))], (I, G1, R, Y), 0, 0) (fun _ => rfl) ?_
          refine yi_D_gr (v := some c) rfl rfl (Nat.ble_eq_true_of_le (by omega)) hf.2.1 (fun _ => ?_)
          refine yi_D_run 2 (110, [(6, .inr (.inl (yi_land (-1) (yi_lushr (-1) (63 - (((y : Int) - 1) % 64)))))), (5, .inl y5), (4, .inl (((y : Int) - 1) / 64)), (3, .inl ((x : Int) / 64)), (0, .inr (.inr (some p))), (1, .inl (x : Int)), (2, .inl (y : Int))], [.inl y5, .inr (.inr (some c)), .inl y5, .inr (.inr (some c))], (I, G1, R, Y), 0, 0) (fun _ => rfl) ?_
          refine yi_D_ll (v := G1 c (y5.toNat)) rfl (Nat.ble_eq_true_of_le (by omega)) rfl (fun _ _ => ?_)
          refine yi_D_run 2 (114, [(6, .inr (.inl (yi_land (-1) (yi_lushr (-1) (63 - (((y : Int) - 1) % 64)))))), (5, .inl y5), (4, .inl (((y : Int) - 1) / 64)), (3, .inl ((x : Int) / 64)), (0, .inr (.inr (some p))), (1, .inl (x : Int)), (2, .inl (y : Int))], [.inr (.inl (yi_lor (G1 c (y5.toNat)) (yi_land (-1) (yi_lushr (-1) (63 - (((y : Int) - 1) % 64)))))), .inl y5, .inr (.inr (some c))], (I, G1, R, Y), 0, 0) (fun _ => rfl) ?_
          skip
          refine yi_D_ls rfl (fun _ _ => ?_)
          generalize w14 : yi_u G1 c (y5.toNat) (yi_lor (G1 c (y5.toNat)) (yi_land (-1) (yi_lushr (-1) (63 - (((y : Int) - 1) % 64))))) = L13
          refine yi_D_iinc [(5, .inl (y5 + 1)), (6, .inr (.inl (yi_land (-1) (yi_lushr (-1) (63 - (((y : Int) - 1) % 64)))))), (4, .inl (((y : Int) - 1) / 64)), (3, .inl ((x : Int) / 64)), (0, .inr (.inr (some p))), (1, .inl (x : Int)), (2, .inl (y : Int))] rfl rfl rfl (by rw [show yi_w (y5 + 1) = y5 + 1 from (yi_wn (by omega) (by omega)).trans (by omega)]; rfl) ?_
          refine yi_D_run 1 (37, [(5, .inl (y5 + 1)), (6, .inr (.inl (yi_land (-1) (yi_lushr (-1) (63 - (((y : Int) - 1) % 64)))))), (4, .inl (((y : Int) - 1) / 64)), (3, .inl ((x : Int) / 64)), (0, .inr (.inr (some p))), (1, .inl (x : Int)), (2, .inl (y : Int))], [], (I, L13, R, Y), 0, 0) (fun _ => rfl) ?_
          refine yi_D_al (al := [(5, .inl (y5 + 1)), (4, .inl (((y : Int) - 1) / 64)), (3, .inl ((x : Int) / 64)), (0, .inr (.inr (some p))), (1, .inl (x : Int)), (2, .inl (y : Int)), (6, .inr (.inl (yi_land (-1) (yi_lushr (-1) (63 - (((y : Int) - 1) % 64))))))]) (show ([5, 4, 3, 0, 1, 2, 6] : List Nat).Nodup by decide) (show ([5, 6, 4, 3, 0, 1, 2] : List Nat).Nodup by decide) (yi_mc (List.mem_of_getElem? (i := 0) rfl) (yi_mc (List.mem_of_getElem? (i := 6) rfl) (yi_mc (List.mem_of_getElem? (i := 1) rfl) (yi_mc (List.mem_of_getElem? (i := 2) rfl) (yi_mc (List.mem_of_getElem? (i := 3) rfl) (yi_mc (List.mem_of_getElem? (i := 4) rfl) (yi_mc (List.mem_of_getElem? (i := 5) rfl) yi_mn))))))) ?_
          exact yi_D_mono (ih37 (by omega) (y5 + 1) (yi_land (-1) (yi_lushr (-1) (63 - (((y : Int) - 1) % 64)))) L13 (by omega) (by rw [show (y5 + 1).toNat = y5.toNat + 1 by omega]; exact ar_s (G := G1) (i := y5.toNat) (w := yi_land (-1) (yi_lushr (-1) (63 - (((y : Int) - 1) % 64)))) hb (by rw [← w14, yi_u_eq]) (fun k hk => by rw [← w14, yi_u_ne _ _ (fun z => hk z.2)]) (fun j hj => by rw [yb_and, yb_m1 hj, Bool.true_and, ar_hi (y := y) (i := y5.toNat) rfl (by omega) (by omega) hj]; exact decide_eq_decide.2 (by omega))) (fun h k hk => by by_cases e : k = y5.toNat; rw [e, ← w14, yi_u_eq]; exact b64_lor _ _; rw [← w14, yi_u_ne _ _ (fun z => e z.2)]; exact hk1 h k hk) (fun q k h => by rw [← w14, yi_u_ne _ _ (by omega)]; exact hF q k h)) (by omega)
        · refine yi_D_if2 true rfl (yi_ne_t h12) ?_
          refine yi_D_run 1 (104, [(6, .inr (.inl (-1))), (5, .inl y5), (4, .inl (((y : Int) - 1) / 64)), (3, .inl ((x : Int) / 64)), (0, .inr (.inr (some p))), (1, .inl (x : Int)), (2, .inl (y : Int))], [.inr (.inr (some p))], (I, G1, R, Y), 0, 0) (fun _ => rfl) ?_
          refine yi_D_gr (v := some c) rfl rfl (Nat.ble_eq_true_of_le (by omega)) hf.2.1 (fun _ => ?_)
          refine yi_D_run 2 (110, [(6, .inr (.inl (-1))), (5, .inl y5), (4, .inl (((y : Int) - 1) / 64)), (3, .inl ((x : Int) / 64)), (0, .inr (.inr (some p))), (1, .inl (x : Int)), (2, .inl (y : Int))], [.inl y5, .inr (.inr (some c)), .inl y5, .inr (.inr (some c))], (I, G1, R, Y), 0, 0) (fun _ => rfl) ?_
          refine yi_D_ll (v := G1 c (y5.toNat)) rfl (Nat.ble_eq_true_of_le (by omega)) rfl (fun _ _ => ?_)
          refine yi_D_run 2 (114, [(6, .inr (.inl (-1))), (5, .inl y5), (4, .inl (((y : Int) - 1) / 64)), (3, .inl ((x : Int) / 64)), (0, .inr (.inr (some p))), (1, .inl (x : Int)), (2, .inl (y : Int))], [.inr (.inl (yi_lor (G1 c (y5.toNat)) (-1))), .inl y5, .inr (.inr (some c))], (I, G1, R, Y), 0, 0) (fun _ => rfl) ?_
          skip
          refine yi_D_ls rfl (fun _ _ => ?_)
          generalize w16 : yi_u G1 c (y5.toNat) (yi_lor (G1 c (y5.toNat)) (-1)) = L15
          refine yi_D_iinc [(5, .inl (y5 + 1)), (6, .inr (.inl (-1))), (4, .inl (((y : Int) - 1) / 64)), (3, .inl ((x : Int) / 64)), (0, .inr (.inr (some p))), (1, .inl (x : Int)), (2, .inl (y : Int))] rfl rfl rfl (by rw [show yi_w (y5 + 1) = y5 + 1 from (yi_wn (by omega) (by omega)).trans (by omega)]; rfl) ?_
          refine yi_D_run 1 (37, [(5, .inl (y5 + 1)), (6, .inr (.inl (-1))), (4, .inl (((y : Int) - 1) / 64)), (3, .inl ((x : Int) / 64)), (0, .inr (.inr (some p))), (1, .inl (x : Int)), (2, .inl (y : Int))], [], (I, L15, R, Y), 0, 0) (fun _ => rfl) ?_
          refine yi_D_al (al := [(5, .inl (y5 + 1)), (4, .inl (((y : Int) - 1) / 64)), (3, .inl ((x : Int) / 64)), (0, .inr (.inr (some p))), (1, .inl (x : Int)), (2, .inl (y : Int)), (6, .inr (.inl (-1)))]) (show ([5, 4, 3, 0, 1, 2, 6] : List Nat).Nodup by decide) (show ([5, 6, 4, 3, 0, 1, 2] : List Nat).Nodup by decide) (yi_mc (List.mem_of_getElem? (i := 0) rfl) (yi_mc (List.mem_of_getElem? (i := 6) rfl) (yi_mc (List.mem_of_getElem? (i := 1) rfl) (yi_mc (List.mem_of_getElem? (i := 2) rfl) (yi_mc (List.mem_of_getElem? (i := 3) rfl) (yi_mc (List.mem_of_getElem? (i := 4) rfl) (yi_mc (List.mem_of_getElem? (i := 5) rfl) yi_mn))))))) ?_
          exact yi_D_mono (ih37 (by omega) (y5 + 1) (-1) L15 (by omega) (by rw [show (y5 + 1).toNat = y5.toNat + 1 by omega]; exact ar_s (G := G1) (i := y5.toNat) (w := (-1)) hb (by rw [← w16, yi_u_eq]) (fun k hk => by rw [← w16, yi_u_ne _ _ (fun z => hk z.2)]) (fun j hj => by rw [yb_m1 hj]; exact (decide_eq_true (by omega)).symm)) (fun h k hk => by by_cases e : k = y5.toNat; rw [e, ← w16, yi_u_eq]; exact b64_lor _ _; rw [← w16, yi_u_ne _ _ (fun z => e z.2)]; exact hk1 h k hk) (fun q k h => by rw [← w16, yi_u_ne _ _ (by omega)]; exact hF q k h)) (by omega)
  refine yi_D_al (al := [(5, .inl ((x : Int) / 64)), (4, .inl (((y : Int) - 1) / 64)), (3, .inl ((x : Int) / 64)), (0, .inr (.inr (some p))), (1, .inl (x : Int)), (2, .inl (y : Int)), (6, .inr (.inl 0))]) (show ([5, 4, 3, 0, 1, 2, 6] : List Nat).Nodup by decide) (show ([5, 4, 3, 0, 1, 2] : List Nat).Nodup by decide) (yi_mc (List.mem_of_getElem? (i := 0) rfl) (yi_mc (List.mem_of_getElem? (i := 1) rfl) (yi_mc (List.mem_of_getElem? (i := 2) rfl) (yi_mc (List.mem_of_getElem? (i := 3) rfl) (yi_mc (List.mem_of_getElem? (i := 4) rfl) (yi_mc (List.mem_of_getElem? (i := 5) rfl) yi_mn)))))) ?_
  exact pt37 k (Nat.le_refl _) ((x : Int) / 64) 0 L (by omega) (fun f hf => by rw [decide_eq_false (by omega), Bool.or_false]) (fun h => h) (fun _ _ _ => rfl)
theorem p_addRangeI {d : Nat} {I L : Nat → Nat → Int} {R : Nat → Nat → Option Nat} {Y : (Nat → Nat) × (Nat → Nat) × Nat} {p c n : Nat} (hf : rw_S I R Y p c n) {x y : Nat} {a b : Int} (ha : a = (x : Int)) (hb : b = (y : Int)) (hxy : x < y ∧ y ≤ 64 * n) : yi_P zi_Ms d 196 [.inr (.inr (some p)), .inl a, .inl b] (I, L, R, Y) (fun r => ∃ L', r = (none, (I, L', R, Y), 0, 0) ∧ (∀ f, f < 64 * n → rbc L' c f = (rbc L c f || decide (x ≤ f ∧ f < y))) ∧ (rkc L c n → rkc L' c n) ∧ ∀ q k, ¬ (q = c ∧ k < n) → L' q k = L q k) := by
  subst ha
  subst hb
  exact p_addRange hf hxy
