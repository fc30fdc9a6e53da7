/-! The class: what lies where for ever; lands and words read. -/
def at_L : List (Nat × Nat × Nat) := [(10, 0, 11), (10, 1, 12), (10, 2, 34), (10, 3, 44), (10, 4, 46), (10, 5, 49), (10, 6, 50), (10, 7, 56), (10, 8, 57), (10, 9, 58), (10, 10, 60), (10, 11, 62), (10, 12, 64), (10, 13, 65), (10, 14, 66), (10, 15, 67), (11, 0, 12), (11, 1, 18), (11, 2, 19), (12, 0, 13), (12, 1, 14), (12, 2, 15), (12, 3, 16), (12, 4, 17), (34, 0, 35), (34, 1, 37), (34, 3, 39), (34, 4, 40), (34, 5, 41), (34, 6, 43), (44, 0, 45), (46, 0, 47), (50, 0, 51), (50, 1, 52), (50, 2, 53), (50, 3, 54), (50, 4, 55)]
def at_K : List (Nat × Nat) := [(10, 0), (11, 1), (12, 2), (34, 4), (35, 5), (37, 5), (41, 5), (44, 6), (46, 7), (49, 8), (50, 9), (58, 5), (60, 5), (62, 5)]
def at_N : List (Nat × Nat × Nat) := [(13, 23, 1000), (14, 20, 1001), (15, 20, 1001), (16, 21, 1001), (17, 21, 29), (18, 21, 3), (19, 20, 1002), (39, 24, 96), (40, 24, 6), (43, 21, 64), (45, 20, 64), (47, 24, 12), (51, 26, 12), (52, 20, 5), (53, 20, 24), (54, 20, 20), (55, 20, 20), (56, 25, 16), (57, 25, 4), (64, 20, 96), (65, 20, 2), (66, 20, 5), (67, 22, 64)]
/-- the class's own cells: who holds which, of what kind, how long -/
def at_T (R : Nat → Nat → Option Nat) (Y : (Nat → Nat) × (Nat → Nat) × Nat) : Prop := (∀ q ∈ at_L, R q.1 q.2.1 = some q.2.2) ∧ (∀ q ∈ at_K, Y.1 q.1 = q.2) ∧ (∀ q ∈ at_N, Y.1 q.1 = q.2.1 ∧ Y.2.1 q.1 = q.2.2) ∧ 110 ≤ Y.2.2
section ATT
variable {R R' : Nat → Nat → Option Nat} {Y Y' : (Nat → Nat) × (Nat → Nat) × Nat}
theorem at_r (h : at_T R Y) {j p k v : Nat} (hq : at_L[j]? = some (p, k, v)) : R p k = some v := h.1 _ (List.mem_of_getElem? hq)
theorem at_k (h : at_T R Y) {j p v : Nat} (hq : at_K[j]? = some (p, v)) : Y.1 p = v := h.2.1 _ (List.mem_of_getElem? hq)
theorem at_n (h : at_T R Y) {j p k v : Nat} (hq : at_N[j]? = some (p, k, v)) : Y.2.1 p = v := (h.2.2.1 _ (List.mem_of_getElem? hq)).2
theorem at_nk (h : at_T R Y) {j p k v : Nat} (hq : at_N[j]? = some (p, k, v)) : Y.1 p = k := (h.2.2.1 _ (List.mem_of_getElem? hq)).1
theorem at_ni (h : at_T R Y) {j p k v : Nat} (hq : at_N[j]? = some (p, k, v)) : (Y.2.1 p : Int) = (v : Int) := congrArg Nat.cast (at_n h hq)
theorem at_T_t (h : at_T R Y) (hR : ∀ q ∈ at_L, R' q.1 q.2.1 = R q.1 q.2.1) (hN : Y.2.2 ≤ Y'.2.2) (hY : ∀ q, q < Y.2.2 → Y'.1 q = Y.1 q ∧ Y'.2.1 q = Y.2.1 q) : at_T R' Y' := by
  have b1 : ∀ q ∈ at_K, q.1 < 110 := by decide
  have b2 : ∀ q ∈ at_N, q.1 < 110 := by decide
  have hn := h.2.2.2
  refine ⟨fun q hq => (hR q hq).trans (h.1 q hq), fun q hq => ?_, fun q hq => ?_, Nat.le_trans hn hN⟩
  · have := b1 q hq
    rw [(hY q.1 (by omega)).1]
    exact h.2.1 q hq
  · have := b2 q hq
    rw [(hY q.1 (by omega)).1, (hY q.1 (by omega)).2]
    exact h.2.2.1 q hq
end ATT
theorem p_isEvent {d : Nat} {I L : Nat → Nat → Int} {R : Nat → Nat → Option Nat} {Y : (Nat → Nat) × (Nat → Nat) × Nat} {q : Nat} (hq : 10 ≤ q) {x n : Int} (hn : I q 16 = n) (bn : n ≤ 4) : yi_P zi_Ms d 228 [.inr (.inr (some q)), .inl x] (I, L, R, Y) (fun r => ((0 ≤ x ∧ x < n) ∧ r = (some (.inl 1), (I, L, R, Y), 0, 0)) ∨ (¬ (0 ≤ x ∧ x < n) ∧ r = (some (.inl 0), (I, L, R, Y), 0, 0))) := by
  refine yi_P_of (M := zi_m228) rfl (fun d k => ?_)
  show yi_D zi_Ms d zi_m228 k (0, [(0, .inr (.inr (some q))), (1, .inl x)], [], (I, L, R, Y), 0, 0) _
  refine yi_D_run 1 (1, [(0, .inr (.inr (some q))), (1, .inl x)], [.inl x], (I, L, R, Y), 0, 0) (fun _ => rfl) ?_
  by_cases h1 : x < 0
  · refine yi_D_if1 true rfl (yi_lt_t h1) ?_
    refine yi_D_run 1 (22, [(0, .inr (.inr (some q))), (1, .inl x)], [.inl 0], (I, L, R, Y), 0, 0) (fun _ => rfl) ?_
    refine yi_D_reti rfl ?_
    exact Or.inr ⟨by omega, rfl⟩
  · refine yi_D_if1 false rfl (yi_lt_f h1) ?_
    refine yi_D_run 2 (6, [(0, .inr (.inr (some q))), (1, .inl x)], [.inr (.inr (some q)), .inl x], (I, L, R, Y), 0, 0) (fun _ => rfl) ?_
    refine yi_D_gi (v := n) rfl rfl (Nat.ble_eq_true_of_le (by omega)) hn (fun _ => ?_)
    by_cases h2 : n ≤ x
    · refine yi_D_if2 true rfl (yi_ge_t h2) ?_
      refine yi_D_run 1 (22, [(0, .inr (.inr (some q))), (1, .inl x)], [.inl 0], (I, L, R, Y), 0, 0) (fun _ => rfl) ?_
      refine yi_D_reti rfl ?_
      exact Or.inr ⟨by omega, rfl⟩
    · refine yi_D_if2 false rfl (yi_ge_f h2) ?_
      refine yi_D_run 2 (14, [(0, .inr (.inr (some q))), (1, .inl x)], [.inl 4, .inl x], (I, L, R, Y), 0, 0) (fun _ => rfl) ?_
      by_cases h3 : 4 ≤ x
      · refine yi_D_if2 true rfl (yi_ge_t h3) ?_
        refine yi_D_run 1 (22, [(0, .inr (.inr (some q))), (1, .inl x)], [.inl 0], (I, L, R, Y), 0, 0) (fun _ => rfl) ?_
        refine yi_D_reti rfl ?_
        exact Or.inr ⟨by omega, rfl⟩
      · refine yi_D_if2 false rfl (yi_ge_f h3) ?_
        refine yi_D_run 2 (22, [(0, .inr (.inr (some q))), (1, .inl x)], [.inl 1], (I, L, R, Y), 0, 0) (fun _ => rfl) ?_
        refine yi_D_reti rfl ?_
        exact Or.inl ⟨by omega, rfl⟩
theorem p_isDay {d : Nat} {I L : Nat → Nat → Int} {R : Nat → Nat → Option Nat} {Y : (Nat → Nat) × (Nat → Nat) × Nat} {q : Nat} (hq : 10 ≤ q) {x n : Int} (hn : I q 14 = n) (bn : n ≤ 6) : yi_P zi_Ms d 227 [.inr (.inr (some q)), .inl x] (I, L, R, Y) (fun r => ((1 ≤ x ∧ x ≤ n) ∧ r = (some (.inl 1), (I, L, R, Y), 0, 0)) ∨ (¬ (1 ≤ x ∧ x ≤ n) ∧ r = (some (.inl 0), (I, L, R, Y), 0, 0))) := by
  refine yi_P_of (M := zi_m227) rfl (fun d k => ?_)
  show yi_D zi_Ms d zi_m227 k (0, [(0, .inr (.inr (some q))), (1, .inl x)], [], (I, L, R, Y), 0, 0) _
  refine yi_D_run 2 (2, [(0, .inr (.inr (some q))), (1, .inl x)], [.inl 1, .inl x], (I, L, R, Y), 0, 0) (fun _ => rfl) ?_
  by_cases h1 : x < 1
  · refine yi_D_if2 true rfl (yi_lt_t h1) ?_
    refine yi_D_run 1 (24, [(0, .inr (.inr (some q))), (1, .inl x)], [.inl 0], (I, L, R, Y), 0, 0) (fun _ => rfl) ?_
    refine yi_D_reti rfl ?_
    exact Or.inr ⟨by omega, rfl⟩
  · refine yi_D_if2 false rfl (yi_lt_f h1) ?_
    refine yi_D_run 2 (7, [(0, .inr (.inr (some q))), (1, .inl x)], [.inr (.inr (some q)), .inl x], (I, L, R, Y), 0, 0) (fun _ => rfl) ?_
    refine yi_D_gi (v := n) rfl rfl (Nat.ble_eq_true_of_le (by omega)) hn (fun _ => ?_)
    by_cases h2 : n < x
    · refine yi_D_if2 true rfl (yi_gt_t h2) ?_
      refine yi_D_run 1 (24, [(0, .inr (.inr (some q))), (1, .inl x)], [.inl 0], (I, L, R, Y), 0, 0) (fun _ => rfl) ?_
      refine yi_D_reti rfl ?_
      exact Or.inr ⟨by omega, rfl⟩
    · refine yi_D_if2 false rfl (yi_gt_f h2) ?_
      refine yi_D_run 2 (16, [(0, .inr (.inr (some q))), (1, .inl x)], [.inl 6, .inl x], (I, L, R, Y), 0, 0) (fun _ => rfl) ?_
      by_cases h3 : 6 < x
      · refine yi_D_if2 true rfl (yi_gt_t h3) ?_
        refine yi_D_run 1 (24, [(0, .inr (.inr (some q))), (1, .inl x)], [.inl 0], (I, L, R, Y), 0, 0) (fun _ => rfl) ?_
        refine yi_D_reti rfl ?_
        exact Or.inr ⟨by omega, rfl⟩
      · refine yi_D_if2 false rfl (yi_gt_f h3) ?_
        refine yi_D_run 2 (24, [(0, .inr (.inr (some q))), (1, .inl x)], [.inl 1], (I, L, R, Y), 0, 0) (fun _ => rfl) ?_
        refine yi_D_reti rfl ?_
        exact Or.inl ⟨by omega, rfl⟩
theorem p_isProphet {d : Nat} {I L : Nat → Nat → Int} {R : Nat → Nat → Option Nat} {Y : (Nat → Nat) × (Nat → Nat) × Nat} {q : Nat} (hq : 10 ≤ q) {x n : Int} (hn : I q 17 = n) (bn : n ≤ 5) : yi_P zi_Ms d 231 [.inr (.inr (some q)), .inl x] (I, L, R, Y) (fun r => ((0 ≤ x ∧ x < n) ∧ r = (some (.inl 1), (I, L, R, Y), 0, 0)) ∨ (¬ (0 ≤ x ∧ x < n) ∧ r = (some (.inl 0), (I, L, R, Y), 0, 0))) := by
  refine yi_P_of (M := zi_m231) rfl (fun d k => ?_)
  show yi_D zi_Ms d zi_m231 k (0, [(0, .inr (.inr (some q))), (1, .inl x)], [], (I, L, R, Y), 0, 0) _
  refine yi_D_run 1 (1, [(0, .inr (.inr (some q))), (1, .inl x)], [.inl x], (I, L, R, Y), 0, 0) (fun _ => rfl) ?_
  by_cases h1 : x < 0
  · refine yi_D_if1 true rfl (yi_lt_t h1) ?_
    refine yi_D_run 1 (22, [(0, .inr (.inr (some q))), (1, .inl x)], [.inl 0], (I, L, R, Y), 0, 0) (fun _ => rfl) ?_
    refine yi_D_reti rfl ?_
    exact Or.inr ⟨by omega, rfl⟩
  · refine yi_D_if1 false rfl (yi_lt_f h1) ?_
    refine yi_D_run 2 (6, [(0, .inr (.inr (some q))), (1, .inl x)], [.inr (.inr (some q)), .inl x], (I, L, R, Y), 0, 0) (fun _ => rfl) ?_
    refine yi_D_gi (v := n) rfl rfl (Nat.ble_eq_true_of_le (by omega)) hn (fun _ => ?_)
    by_cases h2 : n ≤ x
    · refine yi_D_if2 true rfl (yi_ge_t h2) ?_
      refine yi_D_run 1 (22, [(0, .inr (.inr (some q))), (1, .inl x)], [.inl 0], (I, L, R, Y), 0, 0) (fun _ => rfl) ?_
      refine yi_D_reti rfl ?_
      exact Or.inr ⟨by omega, rfl⟩
    · refine yi_D_if2 false rfl (yi_ge_f h2) ?_
      refine yi_D_run 2 (14, [(0, .inr (.inr (some q))), (1, .inl x)], [.inl 5, .inl x], (I, L, R, Y), 0, 0) (fun _ => rfl) ?_
      by_cases h3 : 5 ≤ x
      · refine yi_D_if2 true rfl (yi_ge_t h3) ?_
        refine yi_D_run 1 (22, [(0, .inr (.inr (some q))), (1, .inl x)], [.inl 0], (I, L, R, Y), 0, 0) (fun _ => rfl) ?_
        refine yi_D_reti rfl ?_
        exact Or.inr ⟨by omega, rfl⟩
      · refine yi_D_if2 false rfl (yi_ge_f h3) ?_
        refine yi_D_run 2 (22, [(0, .inr (.inr (some q))), (1, .inl x)], [.inl 1], (I, L, R, Y), 0, 0) (fun _ => rfl) ?_
        refine yi_D_reti rfl ?_
        exact Or.inl ⟨by omega, rfl⟩
theorem p_isWish {d : Nat} {I L : Nat → Nat → Int} {R : Nat → Nat → Option Nat} {Y : (Nat → Nat) × (Nat → Nat) × Nat} {q : Nat} (hq : 10 ≤ q) {x n : Int} (hn : I q 19 = n) (bn : n ≤ 6) : yi_P zi_Ms d 232 [.inr (.inr (some q)), .inl x] (I, L, R, Y) (fun r => ((0 ≤ x ∧ x < n) ∧ r = (some (.inl 1), (I, L, R, Y), 0, 0)) ∨ (¬ (0 ≤ x ∧ x < n) ∧ r = (some (.inl 0), (I, L, R, Y), 0, 0))) := by
  refine yi_P_of (M := zi_m232) rfl (fun d k => ?_)
  show yi_D zi_Ms d zi_m232 k (0, [(0, .inr (.inr (some q))), (1, .inl x)], [], (I, L, R, Y), 0, 0) _
  refine yi_D_run 1 (1, [(0, .inr (.inr (some q))), (1, .inl x)], [.inl x], (I, L, R, Y), 0, 0) (fun _ => rfl) ?_
  by_cases h1 : x < 0
  · refine yi_D_if1 true rfl (yi_lt_t h1) ?_
    refine yi_D_run 1 (23, [(0, .inr (.inr (some q))), (1, .inl x)], [.inl 0], (I, L, R, Y), 0, 0) (fun _ => rfl) ?_
    refine yi_D_reti rfl ?_
    exact Or.inr ⟨by omega, rfl⟩
  · refine yi_D_if1 false rfl (yi_lt_f h1) ?_
    refine yi_D_run 2 (6, [(0, .inr (.inr (some q))), (1, .inl x)], [.inr (.inr (some q)), .inl x], (I, L, R, Y), 0, 0) (fun _ => rfl) ?_
    refine yi_D_gi (v := n) rfl rfl (Nat.ble_eq_true_of_le (by omega)) hn (fun _ => ?_)
    by_cases h2 : n ≤ x
    · refine yi_D_if2 true rfl (yi_ge_t h2) ?_
      refine yi_D_run 1 (23, [(0, .inr (.inr (some q))), (1, .inl x)], [.inl 0], (I, L, R, Y), 0, 0) (fun _ => rfl) ?_
      refine yi_D_reti rfl ?_
      exact Or.inr ⟨by omega, rfl⟩
    · refine yi_D_if2 false rfl (yi_ge_f h2) ?_
      refine yi_D_run 2 (15, [(0, .inr (.inr (some q))), (1, .inl x)], [.inl 6, .inl x], (I, L, R, Y), 0, 0) (fun _ => rfl) ?_
      by_cases h3 : 6 ≤ x
      · refine yi_D_if2 true rfl (yi_ge_t h3) ?_
        refine yi_D_run 1 (23, [(0, .inr (.inr (some q))), (1, .inl x)], [.inl 0], (I, L, R, Y), 0, 0) (fun _ => rfl) ?_
        refine yi_D_reti rfl ?_
        exact Or.inr ⟨by omega, rfl⟩
      · refine yi_D_if2 false rfl (yi_ge_f h3) ?_
        refine yi_D_run 2 (23, [(0, .inr (.inr (some q))), (1, .inl x)], [.inl 1], (I, L, R, Y), 0, 0) (fun _ => rfl) ?_
        refine yi_D_reti rfl ?_
        exact Or.inl ⟨by omega, rfl⟩
theorem p_isPerson2 {d : Nat} {I L : Nat → Nat → Int} {R : Nat → Nat → Option Nat} {Y : (Nat → Nat) × (Nat → Nat) × Nat} {q : Nat} (hq : 10 ≤ q) {x n : Int} (hn : I q 15 = n) (bn : n ≤ 4) : yi_P zi_Ms d 230 [.inr (.inr (some q)), .inl x] (I, L, R, Y) (fun r => ((0 ≤ x ∧ x < n) ∧ r = (some (.inl 1), (I, L, R, Y), 0, 0)) ∨ (¬ (0 ≤ x ∧ x < n) ∧ r = (some (.inl 0), (I, L, R, Y), 0, 0))) := by
  refine yi_P_of (M := zi_m230) rfl (fun d k => ?_)
  show yi_D zi_Ms d zi_m230 k (0, [(0, .inr (.inr (some q))), (1, .inl x)], [], (I, L, R, Y), 0, 0) _
  refine yi_D_run 1 (1, [(0, .inr (.inr (some q))), (1, .inl x)], [.inl x], (I, L, R, Y), 0, 0) (fun _ => rfl) ?_
  by_cases h1 : x < 0
  · refine yi_D_if1 true rfl (yi_lt_t h1) ?_
    refine yi_D_run 1 (22, [(0, .inr (.inr (some q))), (1, .inl x)], [.inl 0], (I, L, R, Y), 0, 0) (fun _ => rfl) ?_
    refine yi_D_reti rfl ?_
    exact Or.inr ⟨by omega, rfl⟩
  · refine yi_D_if1 false rfl (yi_lt_f h1) ?_
    refine yi_D_run 2 (6, [(0, .inr (.inr (some q))), (1, .inl x)], [.inr (.inr (some q)), .inl x], (I, L, R, Y), 0, 0) (fun _ => rfl) ?_
    refine yi_D_gi (v := n) rfl rfl (Nat.ble_eq_true_of_le (by omega)) hn (fun _ => ?_)
    by_cases h2 : n ≤ x
    · refine yi_D_if2 true rfl (yi_ge_t h2) ?_
      refine yi_D_run 1 (22, [(0, .inr (.inr (some q))), (1, .inl x)], [.inl 0], (I, L, R, Y), 0, 0) (fun _ => rfl) ?_
      refine yi_D_reti rfl ?_
      exact Or.inr ⟨by omega, rfl⟩
    · refine yi_D_if2 false rfl (yi_ge_f h2) ?_
      refine yi_D_run 2 (14, [(0, .inr (.inr (some q))), (1, .inl x)], [.inl 4, .inl x], (I, L, R, Y), 0, 0) (fun _ => rfl) ?_
      by_cases h3 : 4 ≤ x
      · refine yi_D_if2 true rfl (yi_ge_t h3) ?_
        refine yi_D_run 1 (22, [(0, .inr (.inr (some q))), (1, .inl x)], [.inl 0], (I, L, R, Y), 0, 0) (fun _ => rfl) ?_
        refine yi_D_reti rfl ?_
        exact Or.inr ⟨by omega, rfl⟩
      · refine yi_D_if2 false rfl (yi_ge_f h3) ?_
        refine yi_D_run 2 (22, [(0, .inr (.inr (some q))), (1, .inl x)], [.inl 1], (I, L, R, Y), 0, 0) (fun _ => rfl) ?_
        refine yi_D_reti rfl ?_
        exact Or.inl ⟨by omega, rfl⟩
theorem p_isWord {d : Nat} {I L : Nat → Nat → Int} {R : Nat → Nat → Option Nat} {Y : (Nat → Nat) × (Nat → Nat) × Nat} {q : Nat} (hq : 10 ≤ q) {x y z : Int} {da pe ev : Int} (hda : I q 14 = da) (hpe : I q 15 = pe) (hev : I q 16 = ev) (bda : da ≤ 6) (bpe : pe ≤ 4) (bev : ev ≤ 4) : yi_P zi_Ms d 233 [.inr (.inr (some q)), .inl x, .inl y, .inl z] (I, L, R, Y) (fun r => (((0 ≤ x ∧ x < pe) ∧ (1 ≤ y ∧ y ≤ da) ∧ 0 ≤ z ∧ z < ev) ∧ r = (some (.inl 1), (I, L, R, Y), 0, 0)) ∨ (¬ ((0 ≤ x ∧ x < pe) ∧ (1 ≤ y ∧ y ≤ da) ∧ 0 ≤ z ∧ z < ev) ∧ r = (some (.inl 0), (I, L, R, Y), 0, 0))) := by
  refine yi_P_of (M := zi_m233) rfl (fun d k => ?_)
  show yi_D zi_Ms d zi_m233 k (0, [(0, .inr (.inr (some q))), (1, .inl x), (2, .inl y), (3, .inl z)], [], (I, L, R, Y), 0, 0) _
  refine yi_D_run 2 (2, [(0, .inr (.inr (some q))), (1, .inl x), (2, .inl y), (3, .inl z)], [.inl x, .inr (.inr (some q))], (I, L, R, Y), 0, 0) (fun _ => rfl) ?_
  refine yi_D_callv rfl (p_isPerson2 hq hpe bpe) ?_
  rintro _ (⟨hb1, rfl⟩ | ⟨hb2, rfl⟩)
  · show yi_D zi_Ms d zi_m233 k (5, [(0, .inr (.inr (some q))), (1, .inl x), (2, .inl y), (3, .inl z)], [.inl 1], (I, L, R, Y), 0, 0) _
    refine yi_D_if1 false rfl (by decide) ?_
    refine yi_D_run 2 (10, [(0, .inr (.inr (some q))), (1, .inl x), (2, .inl y), (3, .inl z)], [.inl y, .inr (.inr (some q))], (I, L, R, Y), 0, 0) (fun _ => rfl) ?_
    refine yi_D_callv rfl (p_isDay hq hda bda) ?_
    rintro _ (⟨hb3, rfl⟩ | ⟨hb4, rfl⟩)
    · show yi_D zi_Ms d zi_m233 k (13, [(0, .inr (.inr (some q))), (1, .inl x), (2, .inl y), (3, .inl z)], [.inl 1], (I, L, R, Y), 0, 0) _
      refine yi_D_if1 false rfl (by decide) ?_
      refine yi_D_run 2 (18, [(0, .inr (.inr (some q))), (1, .inl x), (2, .inl y), (3, .inl z)], [.inl z, .inr (.inr (some q))], (I, L, R, Y), 0, 0) (fun _ => rfl) ?_
      refine yi_D_callv rfl (p_isEvent hq hev bev) ?_
      rintro _ (⟨hb5, rfl⟩ | ⟨hb6, rfl⟩)
      · show yi_D zi_Ms d zi_m233 k (21, [(0, .inr (.inr (some q))), (1, .inl x), (2, .inl y), (3, .inl z)], [.inl 1], (I, L, R, Y), 0, 0) _
        refine yi_D_if1 false rfl (by decide) ?_
        refine yi_D_run 2 (29, [(0, .inr (.inr (some q))), (1, .inl x), (2, .inl y), (3, .inl z)], [.inl 1], (I, L, R, Y), 0, 0) (fun _ => rfl) ?_
        refine yi_D_reti rfl ?_
        exact Or.inl ⟨by omega, rfl⟩
      · show yi_D zi_Ms d zi_m233 k (21, [(0, .inr (.inr (some q))), (1, .inl x), (2, .inl y), (3, .inl z)], [.inl 0], (I, L, R, Y), 0, 0) _
        refine yi_D_if1 true rfl (by decide) ?_
        refine yi_D_run 1 (29, [(0, .inr (.inr (some q))), (1, .inl x), (2, .inl y), (3, .inl z)], [.inl 0], (I, L, R, Y), 0, 0) (fun _ => rfl) ?_
        refine yi_D_reti rfl ?_
        exact Or.inr ⟨by omega, rfl⟩
    · show yi_D zi_Ms d zi_m233 k (13, [(0, .inr (.inr (some q))), (1, .inl x), (2, .inl y), (3, .inl z)], [.inl 0], (I, L, R, Y), 0, 0) _
      refine yi_D_if1 true rfl (by decide) ?_
      refine yi_D_run 1 (29, [(0, .inr (.inr (some q))), (1, .inl x), (2, .inl y), (3, .inl z)], [.inl 0], (I, L, R, Y), 0, 0) (fun _ => rfl) ?_
      refine yi_D_reti rfl ?_
      exact Or.inr ⟨by omega, rfl⟩
  · show yi_D zi_Ms d zi_m233 k (5, [(0, .inr (.inr (some q))), (1, .inl x), (2, .inl y), (3, .inl z)], [.inl 0], (I, L, R, Y), 0, 0) _
    refine yi_D_if1 true rfl (by decide) ?_
    refine yi_D_run 1 (29, [(0, .inr (.inr (some q))), (1, .inl x), (2, .inl y), (3, .inl z)], [.inl 0], (I, L, R, Y), 0, 0) (fun _ => rfl) ?_
    refine yi_D_reti rfl ?_
    exact Or.inr ⟨by omega, rfl⟩
theorem p_kindOf {d : Nat} {I L : Nat → Nat → Int} {R : Nat → Nat → Option Nat} {Y : (Nat → Nat) × (Nat → Nat) × Nat} {q : Nat} (hq : 10 ≤ q) {x n : Int} (hn : I q 17 = n) (bn : n ≤ 5) (hr : R q 4 = some (q + 5)) : yi_P zi_Ms d 234 [.inr (.inr (some q)), .inl x] (I, L, R, Y) (fun r => r = (some (.inl (if 0 ≤ x ∧ x < n then I (q + 5) x.toNat else -1)), (I, L, R, Y), 0, 0)) := by
  refine yi_P_of (M := zi_m234) rfl (fun d k => ?_)
  show yi_D zi_Ms d zi_m234 k (0, [(0, .inr (.inr (some q))), (1, .inl x)], [], (I, L, R, Y), 0, 0) _
  refine yi_D_run 2 (2, [(0, .inr (.inr (some q))), (1, .inl x)], [.inl x, .inr (.inr (some q))], (I, L, R, Y), 0, 0) (fun _ => rfl) ?_
  refine yi_D_callv rfl (p_isProphet hq hn bn) ?_
  rintro _ (⟨hb1, rfl⟩ | ⟨hb2, rfl⟩)
  · show yi_D zi_Ms d zi_m234 k (5, [(0, .inr (.inr (some q))), (1, .inl x)], [.inl 1], (I, L, R, Y), 0, 0) _
    refine yi_D_if1 false rfl (by decide) ?_
    refine yi_D_run 1 (9, [(0, .inr (.inr (some q))), (1, .inl x)], [.inr (.inr (some q))], (I, L, R, Y), 0, 0) (fun _ => rfl) ?_
    refine yi_D_gr (v := some (q + 5)) rfl rfl (Nat.ble_eq_true_of_le (by omega)) hr (fun _ => ?_)
    refine yi_D_run 1 (13, [(0, .inr (.inr (some q))), (1, .inl x)], [.inl x, .inr (.inr (some (q + 5)))], (I, L, R, Y), 0, 0) (fun _ => rfl) ?_
    refine yi_D_il (v := I (q + 5) (x.toNat)) rfl (Nat.ble_eq_true_of_le (by omega)) rfl (fun _ _ => ?_)
    refine yi_D_run 1 (18, [(0, .inr (.inr (some q))), (1, .inl x)], [.inl (I (q + 5) (x.toNat))], (I, L, R, Y), 0, 0) (fun _ => rfl) ?_
    refine yi_D_reti rfl ?_
    first
    | (rw [if_pos (by omega)]; done)
    | (rw [if_neg (by omega)]; done)
  · show yi_D zi_Ms d zi_m234 k (5, [(0, .inr (.inr (some q))), (1, .inl x)], [.inl 0], (I, L, R, Y), 0, 0) _
    refine yi_D_if1 true rfl (by decide) ?_
    refine yi_D_run 1 (18, [(0, .inr (.inr (some q))), (1, .inl x)], [.inl (-1)], (I, L, R, Y), 0, 0) (fun _ => rfl) ?_
    refine yi_D_reti rfl ?_
    first
    | (rw [if_pos (by omega)]; done)
    | (rw [if_neg (by omega)]; done)
theorem p_purseOf {d : Nat} {I L : Nat → Nat → Int} {R : Nat → Nat → Option Nat} {Y : (Nat → Nat) × (Nat → Nat) × Nat} {q : Nat} (hq : 10 ≤ q) {x n : Int} (hn : I q 17 = n) (bn : n ≤ 5) (hr : R q 5 = some (q + 6)) : yi_P zi_Ms d 236 [.inr (.inr (some q)), .inl x] (I, L, R, Y) (fun r => r = (some (.inl (if 0 ≤ x ∧ x < n then I (q + 6) x.toNat else -1)), (I, L, R, Y), 0, 0)) := by
  refine yi_P_of (M := zi_m236) rfl (fun d k => ?_)
  show yi_D zi_Ms d zi_m236 k (0, [(0, .inr (.inr (some q))), (1, .inl x)], [], (I, L, R, Y), 0, 0) _
  refine yi_D_run 2 (2, [(0, .inr (.inr (some q))), (1, .inl x)], [.inl x, .inr (.inr (some q))], (I, L, R, Y), 0, 0) (fun _ => rfl) ?_
  refine yi_D_callv rfl (p_isProphet hq hn bn) ?_
  rintro _ (⟨hb1, rfl⟩ | ⟨hb2, rfl⟩)
  · show yi_D zi_Ms d zi_m236 k (5, [(0, .inr (.inr (some q))), (1, .inl x)], [.inl 1], (I, L, R, Y), 0, 0) _
    refine yi_D_if1 false rfl (by decide) ?_
    refine yi_D_run 1 (9, [(0, .inr (.inr (some q))), (1, .inl x)], [.inr (.inr (some q))], (I, L, R, Y), 0, 0) (fun _ => rfl) ?_
    refine yi_D_gr (v := some (q + 6)) rfl rfl (Nat.ble_eq_true_of_le (by omega)) hr (fun _ => ?_)
    refine yi_D_run 1 (13, [(0, .inr (.inr (some q))), (1, .inl x)], [.inl x, .inr (.inr (some (q + 6)))], (I, L, R, Y), 0, 0) (fun _ => rfl) ?_
    refine yi_D_il (v := I (q + 6) (x.toNat)) rfl (Nat.ble_eq_true_of_le (by omega)) rfl (fun _ _ => ?_)
    refine yi_D_run 1 (18, [(0, .inr (.inr (some q))), (1, .inl x)], [.inl (I (q + 6) (x.toNat))], (I, L, R, Y), 0, 0) (fun _ => rfl) ?_
    refine yi_D_reti rfl ?_
    first
    | (rw [if_pos (by omega)]; done)
    | (rw [if_neg (by omega)]; done)
  · show yi_D zi_Ms d zi_m236 k (5, [(0, .inr (.inr (some q))), (1, .inl x)], [.inl 0], (I, L, R, Y), 0, 0) _
    refine yi_D_if1 true rfl (by decide) ?_
    refine yi_D_run 1 (18, [(0, .inr (.inr (some q))), (1, .inl x)], [.inl (-1)], (I, L, R, Y), 0, 0) (fun _ => rfl) ?_
    refine yi_D_reti rfl ?_
    first
    | (rw [if_pos (by omega)]; done)
    | (rw [if_neg (by omega)]; done)
theorem p_wishOwner {d : Nat} {I L : Nat → Nat → Int} {R : Nat → Nat → Option Nat} {Y : (Nat → Nat) × (Nat → Nat) × Nat} {q : Nat} (hq : 10 ≤ q) {x n : Int} (hn : I q 19 = n) (bn : n ≤ 6) (hr : R q 6 = some (q + 7)) : yi_P zi_Ms d 240 [.inr (.inr (some q)), .inl x] (I, L, R, Y) (fun r => r = (some (.inl (if 0 ≤ x ∧ x < n then I (q + 7) x.toNat else -1)), (I, L, R, Y), 0, 0)) := by
  refine yi_P_of (M := zi_m240) rfl (fun d k => ?_)
  show yi_D zi_Ms d zi_m240 k (0, [(0, .inr (.inr (some q))), (1, .inl x)], [], (I, L, R, Y), 0, 0) _
  refine yi_D_run 2 (2, [(0, .inr (.inr (some q))), (1, .inl x)], [.inl x, .inr (.inr (some q))], (I, L, R, Y), 0, 0) (fun _ => rfl) ?_
  refine yi_D_callv rfl (p_isWish hq hn bn) ?_
  rintro _ (⟨hb1, rfl⟩ | ⟨hb2, rfl⟩)
  · show yi_D zi_Ms d zi_m240 k (5, [(0, .inr (.inr (some q))), (1, .inl x)], [.inl 1], (I, L, R, Y), 0, 0) _
    refine yi_D_if1 false rfl (by decide) ?_
    refine yi_D_run 1 (9, [(0, .inr (.inr (some q))), (1, .inl x)], [.inr (.inr (some q))], (I, L, R, Y), 0, 0) (fun _ => rfl) ?_
    refine yi_D_gr (v := some (q + 7)) rfl rfl (Nat.ble_eq_true_of_le (by omega)) hr (fun _ => ?_)
    refine yi_D_run 1 (13, [(0, .inr (.inr (some q))), (1, .inl x)], [.inl x, .inr (.inr (some (q + 7)))], (I, L, R, Y), 0, 0) (fun _ => rfl) ?_
    refine yi_D_il (v := I (q + 7) (x.toNat)) rfl (Nat.ble_eq_true_of_le (by omega)) rfl (fun _ _ => ?_)
    refine yi_D_run 1 (18, [(0, .inr (.inr (some q))), (1, .inl x)], [.inl (I (q + 7) (x.toNat))], (I, L, R, Y), 0, 0) (fun _ => rfl) ?_
    refine yi_D_reti rfl ?_
    first
    | (rw [if_pos (by omega)]; done)
    | (rw [if_neg (by omega)]; done)
  · show yi_D zi_Ms d zi_m240 k (5, [(0, .inr (.inr (some q))), (1, .inl x)], [.inl 0], (I, L, R, Y), 0, 0) _
    refine yi_D_if1 true rfl (by decide) ?_
    refine yi_D_run 1 (18, [(0, .inr (.inr (some q))), (1, .inl x)], [.inl (-1)], (I, L, R, Y), 0, 0) (fun _ => rfl) ?_
    refine yi_D_reti rfl ?_
    first
    | (rw [if_pos (by omega)]; done)
    | (rw [if_neg (by omega)]; done)
theorem p_wishCoins {d : Nat} {I L : Nat → Nat → Int} {R : Nat → Nat → Option Nat} {Y : (Nat → Nat) × (Nat → Nat) × Nat} {q : Nat} (hq : 10 ≤ q) {x n : Int} (hn : I q 19 = n) (bn : n ≤ 6) (hr : R q 7 = some (q + 8)) : yi_P zi_Ms d 239 [.inr (.inr (some q)), .inl x] (I, L, R, Y) (fun r => r = (some (.inl (if 0 ≤ x ∧ x < n then I (q + 8) x.toNat else 0)), (I, L, R, Y), 0, 0)) := by
  refine yi_P_of (M := zi_m239) rfl (fun d k => ?_)
  show yi_D zi_Ms d zi_m239 k (0, [(0, .inr (.inr (some q))), (1, .inl x)], [], (I, L, R, Y), 0, 0) _
  refine yi_D_run 2 (2, [(0, .inr (.inr (some q))), (1, .inl x)], [.inl x, .inr (.inr (some q))], (I, L, R, Y), 0, 0) (fun _ => rfl) ?_
  refine yi_D_callv rfl (p_isWish hq hn bn) ?_
  rintro _ (⟨hb1, rfl⟩ | ⟨hb2, rfl⟩)
  · show yi_D zi_Ms d zi_m239 k (5, [(0, .inr (.inr (some q))), (1, .inl x)], [.inl 1], (I, L, R, Y), 0, 0) _
    refine yi_D_if1 false rfl (by decide) ?_
    refine yi_D_run 1 (9, [(0, .inr (.inr (some q))), (1, .inl x)], [.inr (.inr (some q))], (I, L, R, Y), 0, 0) (fun _ => rfl) ?_
    refine yi_D_gr (v := some (q + 8)) rfl rfl (Nat.ble_eq_true_of_le (by omega)) hr (fun _ => ?_)
    refine yi_D_run 1 (13, [(0, .inr (.inr (some q))), (1, .inl x)], [.inl x, .inr (.inr (some (q + 8)))], (I, L, R, Y), 0, 0) (fun _ => rfl) ?_
    refine yi_D_il (v := I (q + 8) (x.toNat)) rfl (Nat.ble_eq_true_of_le (by omega)) rfl (fun _ _ => ?_)
    refine yi_D_run 1 (18, [(0, .inr (.inr (some q))), (1, .inl x)], [.inl (I (q + 8) (x.toNat))], (I, L, R, Y), 0, 0) (fun _ => rfl) ?_
    refine yi_D_reti rfl ?_
    first
    | (rw [if_pos (by omega)]; done)
    | (rw [if_neg (by omega)]; done)
  · show yi_D zi_Ms d zi_m239 k (5, [(0, .inr (.inr (some q))), (1, .inl x)], [.inl 0], (I, L, R, Y), 0, 0) _
    refine yi_D_if1 true rfl (by decide) ?_
    refine yi_D_run 1 (18, [(0, .inr (.inr (some q))), (1, .inl x)], [.inl 0], (I, L, R, Y), 0, 0) (fun _ => rfl) ?_
    refine yi_D_reti rfl ?_
    first
    | (rw [if_pos (by omega)]; done)
    | (rw [if_neg (by omega)]; done)
theorem p_wordNumber {d : Nat} {I L : Nat → Nat → Int} {R : Nat → Nat → Option Nat} {Y : (Nat → Nat) × (Nat → Nat) × Nat} {x y z : Int} (hx : 0 ≤ x ∧ x ≤ 100) (hy : 0 ≤ y ∧ y ≤ 100) (hz : 0 ≤ z ∧ z ≤ 100) : yi_P zi_Ms d 189 [.inl x, .inl y, .inl z] (I, L, R, Y) (fun r => r = (some (.inl (16 * (y - 1) + 4 * x + z)), (I, L, R, Y), 0, 0)) := by
  refine yi_P_of (M := zi_m189) rfl (fun d k => ?_)
  show yi_D zi_Ms d zi_m189 k (0, [(0, .inl x), (1, .inl y), (2, .inl z)], [], (I, L, R, Y), 0, 0) _
  refine yi_D_run 2 (2, [(0, .inl x), (1, .inl y), (2, .inl z)], [.inl 1, .inl y], (I, L, R, Y), 0, 0) (fun _ => rfl) ?_
  refine yi_D_isub rfl (y - 1) (yi_wn (by omega) (by omega)) ?_
  refine yi_D_run 1 (4, [(0, .inl x), (1, .inl y), (2, .inl z)], [.inl 4, .inl (y - 1)], (I, L, R, Y), 0, 0) (fun _ => rfl) ?_
  refine yi_D_imul rfl ((y - 1) * 4) (yi_wn (by omega) (by omega)) ?_
  refine yi_D_run 1 (6, [(0, .inl x), (1, .inl y), (2, .inl z)], [.inl 4, .inl ((y - 1) * 4)], (I, L, R, Y), 0, 0) (fun _ => rfl) ?_
  refine yi_D_imul rfl (((y - 1) * 4) * 4) (yi_wn (by omega) (by omega)) ?_
  refine yi_D_run 2 (9, [(0, .inl x), (1, .inl y), (2, .inl z)], [.inl 4, .inl x, .inl (((y - 1) * 4) * 4)], (I, L, R, Y), 0, 0) (fun _ => rfl) ?_
  refine yi_D_imul rfl (x * 4) (yi_wn (by omega) (by omega)) ?_
  refine yi_D_iadd rfl ((((y - 1) * 4) * 4) + (x * 4)) (yi_wn (by omega) (by omega)) ?_
  refine yi_D_run 1 (12, [(0, .inl x), (1, .inl y), (2, .inl z)], [.inl z, .inl ((((y - 1) * 4) * 4) + (x * 4))], (I, L, R, Y), 0, 0) (fun _ => rfl) ?_
  refine yi_D_iadd rfl (((((y - 1) * 4) * 4) + (x * 4)) + z) (yi_wn (by omega) (by omega)) ?_
  refine yi_D_reti rfl ?_
  exact congrArg (fun z => (some (Sum.inl z), (I, L, R, Y), 0, 0)) (by omega)
theorem p_wordRow {d : Nat} {I L : Nat → Nat → Int} {R : Nat → Nat → Option Nat} {Y : (Nat → Nat) × (Nat → Nat) × Nat} (hA : at_T R Y) {x : Int} {w : Nat} (hx : 0 ≤ x ∧ x < 96) (hw : R 39 x.toNat = some w) : yi_P zi_Ms d 314 [.inr (.inr (some 34)), .inl x] (I, L, R, Y) (fun r => r = (some (.inr (.inr (some w))), (I, L, R, Y), 0, 0)) := by
  refine yi_P_of (M := zi_m314) rfl (fun d k => ?_)
  show yi_D zi_Ms d zi_m314 k (0, [(0, .inr (.inr (some 34))), (1, .inl x)], [], (I, L, R, Y), 0, 0) _
  refine yi_D_run 1 (1, [(0, .inr (.inr (some 34))), (1, .inl x)], [.inl x], (I, L, R, Y), 0, 0) (fun _ => rfl) ?_
  by_cases h1 : x < 0
  · refine yi_D_if1 true rfl (yi_lt_t h1) ?_
    refine yi_D_run 3 (25, [(2, .inr (.inr none)), (0, .inr (.inr (some 34))), (1, .inl x)], [.inr (.inr none)], (I, L, R, Y), 0, 0) (fun _ => rfl) ?_
    refine yi_D_nnx rfl ?_
    refine yi_D_run 1 (29, [(2, .inr (.inr none)), (0, .inr (.inr (some 34))), (1, .inl x)], [.inr (.inr (some 34))], (I, L, R, Y), 0, 0) (fun _ => rfl) ?_
    refine yi_D_gr (v := some 37) rfl rfl rfl (at_r hA (j := 25) rfl) (fun _ => ?_)
    refine yi_D_run 1 (36, [(2, .inr (.inr none)), (0, .inr (.inr (some 34))), (1, .inl x)], [.inr (.inr (some 37))], (I, L, R, Y), 0, 0) (fun _ => rfl) ?_
    refine yi_D_reta rfl ?_
    first
    | rfl
    | (exfalso; omega)
  · refine yi_D_if1 false rfl (yi_lt_f h1) ?_
    refine yi_D_run 2 (6, [(0, .inr (.inr (some 34))), (1, .inl x)], [.inr (.inr (some 34)), .inl x], (I, L, R, Y), 0, 0) (fun _ => rfl) ?_
    refine yi_D_gr (v := some 39) rfl rfl rfl (at_r hA (j := 26) rfl) (fun _ => ?_)
    refine yi_D_len (v := 96) rfl rfl (at_ni hA (j := 7) rfl) ?_
    by_cases h2 : 96 ≤ x
    · refine yi_D_if2 true rfl (yi_ge_t h2) ?_
      refine yi_D_run 3 (25, [(2, .inr (.inr none)), (0, .inr (.inr (some 34))), (1, .inl x)], [.inr (.inr none)], (I, L, R, Y), 0, 0) (fun _ => rfl) ?_
      refine yi_D_nnx rfl ?_
      refine yi_D_run 1 (29, [(2, .inr (.inr none)), (0, .inr (.inr (some 34))), (1, .inl x)], [.inr (.inr (some 34))], (I, L, R, Y), 0, 0) (fun _ => rfl) ?_
      refine yi_D_gr (v := some 37) rfl rfl rfl (at_r hA (j := 25) rfl) (fun _ => ?_)
      refine yi_D_run 1 (36, [(2, .inr (.inr none)), (0, .inr (.inr (some 34))), (1, .inl x)], [.inr (.inr (some 37))], (I, L, R, Y), 0, 0) (fun _ => rfl) ?_
      refine yi_D_reta rfl ?_
      first
      | rfl
      | (exfalso; omega)
    · refine yi_D_if2 false rfl (yi_ge_f h2) ?_
      refine yi_D_run 1 (14, [(0, .inr (.inr (some 34))), (1, .inl x)], [.inr (.inr (some 34))], (I, L, R, Y), 0, 0) (fun _ => rfl) ?_
      refine yi_D_gr (v := some 39) rfl rfl rfl (at_r hA (j := 26) rfl) (fun _ => ?_)
      refine yi_D_run 1 (18, [(0, .inr (.inr (some 34))), (1, .inl x)], [.inl x, .inr (.inr (some 39))], (I, L, R, Y), 0, 0) (fun _ => rfl) ?_
      refine yi_D_rl (v := some w) rfl rfl hw (fun _ _ => ?_)
      refine yi_D_run 3 (25, [(2, .inr (.inr (some w))), (0, .inr (.inr (some 34))), (1, .inl x)], [.inr (.inr (some w))], (I, L, R, Y), 0, 0) (fun _ => rfl) ?_
      refine yi_D_nsx rfl ?_
      refine yi_D_run 1 (36, [(2, .inr (.inr (some w))), (0, .inr (.inr (some 34))), (1, .inl x)], [.inr (.inr (some w))], (I, L, R, Y), 0, 0) (fun _ => rfl) ?_
      refine yi_D_reta rfl ?_
      first
      | rfl
      | (exfalso; omega)
theorem p_wishRow {d : Nat} {I L : Nat → Nat → Int} {R : Nat → Nat → Option Nat} {Y : (Nat → Nat) × (Nat → Nat) × Nat} (hA : at_T R Y) {x : Int} {w : Nat} (hx : 0 ≤ x ∧ x < 6) (hw : R 40 x.toNat = some w) : yi_P zi_Ms d 312 [.inr (.inr (some 34)), .inl x] (I, L, R, Y) (fun r => r = (some (.inr (.inr (some w))), (I, L, R, Y), 0, 0)) := by
  refine yi_P_of (M := zi_m312) rfl (fun d k => ?_)
  show yi_D zi_Ms d zi_m312 k (0, [(0, .inr (.inr (some 34))), (1, .inl x)], [], (I, L, R, Y), 0, 0) _
  refine yi_D_run 1 (1, [(0, .inr (.inr (some 34))), (1, .inl x)], [.inl x], (I, L, R, Y), 0, 0) (fun _ => rfl) ?_
  by_cases h1 : x < 0
  · refine yi_D_if1 true rfl (yi_lt_t h1) ?_
    refine yi_D_run 3 (25, [(2, .inr (.inr none)), (0, .inr (.inr (some 34))), (1, .inl x)], [.inr (.inr none)], (I, L, R, Y), 0, 0) (fun _ => rfl) ?_
    refine yi_D_nnx rfl ?_
    refine yi_D_run 1 (29, [(2, .inr (.inr none)), (0, .inr (.inr (some 34))), (1, .inl x)], [.inr (.inr (some 34))], (I, L, R, Y), 0, 0) (fun _ => rfl) ?_
    refine yi_D_gr (v := some 37) rfl rfl rfl (at_r hA (j := 25) rfl) (fun _ => ?_)
    refine yi_D_run 1 (36, [(2, .inr (.inr none)), (0, .inr (.inr (some 34))), (1, .inl x)], [.inr (.inr (some 37))], (I, L, R, Y), 0, 0) (fun _ => rfl) ?_
    refine yi_D_reta rfl ?_
    first
    | rfl
    | (exfalso; omega)
  · refine yi_D_if1 false rfl (yi_lt_f h1) ?_
    refine yi_D_run 2 (6, [(0, .inr (.inr (some 34))), (1, .inl x)], [.inr (.inr (some 34)), .inl x], (I, L, R, Y), 0, 0) (fun _ => rfl) ?_
    refine yi_D_gr (v := some 40) rfl rfl rfl (at_r hA (j := 27) rfl) (fun _ => ?_)
    refine yi_D_len (v := 6) rfl rfl (at_ni hA (j := 8) rfl) ?_
    by_cases h2 : 6 ≤ x
    · refine yi_D_if2 true rfl (yi_ge_t h2) ?_
      refine yi_D_run 3 (25, [(2, .inr (.inr none)), (0, .inr (.inr (some 34))), (1, .inl x)], [.inr (.inr none)], (I, L, R, Y), 0, 0) (fun _ => rfl) ?_
      refine yi_D_nnx rfl ?_
      refine yi_D_run 1 (29, [(2, .inr (.inr none)), (0, .inr (.inr (some 34))), (1, .inl x)], [.inr (.inr (some 34))], (I, L, R, Y), 0, 0) (fun _ => rfl) ?_
      refine yi_D_gr (v := some 37) rfl rfl rfl (at_r hA (j := 25) rfl) (fun _ => ?_)
      refine yi_D_run 1 (36, [(2, .inr (.inr none)), (0, .inr (.inr (some 34))), (1, .inl x)], [.inr (.inr (some 37))], (I, L, R, Y), 0, 0) (fun _ => rfl) ?_
      refine yi_D_reta rfl ?_
      first
      | rfl
      | (exfalso; omega)
    · refine yi_D_if2 false rfl (yi_ge_f h2) ?_
      refine yi_D_run 1 (14, [(0, .inr (.inr (some 34))), (1, .inl x)], [.inr (.inr (some 34))], (I, L, R, Y), 0, 0) (fun _ => rfl) ?_
      refine yi_D_gr (v := some 40) rfl rfl rfl (at_r hA (j := 27) rfl) (fun _ => ?_)
      refine yi_D_run 1 (18, [(0, .inr (.inr (some 34))), (1, .inl x)], [.inl x, .inr (.inr (some 40))], (I, L, R, Y), 0, 0) (fun _ => rfl) ?_
      refine yi_D_rl (v := some w) rfl rfl hw (fun _ _ => ?_)
      refine yi_D_run 3 (25, [(2, .inr (.inr (some w))), (0, .inr (.inr (some 34))), (1, .inl x)], [.inr (.inr (some w))], (I, L, R, Y), 0, 0) (fun _ => rfl) ?_
      refine yi_D_nsx rfl ?_
      refine yi_D_run 1 (36, [(2, .inr (.inr (some w))), (0, .inr (.inr (some 34))), (1, .inl x)], [.inr (.inr (some w))], (I, L, R, Y), 0, 0) (fun _ => rfl) ?_
      refine yi_D_reta rfl ?_
      first
      | rfl
      | (exfalso; omega)
theorem p_forgetPast {d : Nat} {I L : Nat → Nat → Int} {R : Nat → Nat → Option Nat} {Y : (Nat → Nat) × (Nat → Nat) × Nat} (hA : at_T R Y) : yi_P zi_Ms d 152 [.inr (.inr (some 10))] (I, L, R, Y) (fun r => ∃ I', r = (none, (I', L, R, Y), 0, 0) ∧ I' 10 17 = 0 ∧ I' 10 18 = 0 ∧ ∀ q k, ¬ (q = 10 ∧ (k = 17 ∨ k = 18)) → I' q k = I q k) := by
  refine yi_P_of (M := zi_m152) rfl (fun d k => ?_)
  show yi_D zi_Ms d zi_m152 k (0, [(0, .inr (.inr (some 10)))], [], (I, L, R, Y), 0, 0) _
  refine yi_D_run 2 (2, [(0, .inr (.inr (some 10)))], [.inl 0, .inr (.inr (some 10))], (I, L, R, Y), 0, 0) (fun _ => rfl) ?_
  refine yi_D_pi rfl (fun _ => ?_)
  generalize w2 : yi_u I 10 17 0 = I1
  refine yi_D_run 2 (7, [(0, .inr (.inr (some 10)))], [.inl 0, .inr (.inr (some 10))], (I1, L, R, Y), 0, 0) (fun _ => rfl) ?_
  refine yi_D_pi rfl (fun _ => ?_)
  generalize w4 : yi_u I1 10 18 0 = I3
  refine yi_D_retv rfl ?_
  refine ⟨_, rfl, by rw [← w4, yi_u_ne _ _ (by omega), ← w2, yi_u_eq], by rw [← w4, yi_u_eq], fun q k h => by rw [← w4, yi_u_ne _ _ (by omega), ← w2, yi_u_ne _ _ (by omega)]⟩
