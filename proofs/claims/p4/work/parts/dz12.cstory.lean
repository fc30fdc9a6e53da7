/-! The class's stories: what was told by hand, one call of theirs each. -/
/-- a story: its rows lie behind it -/
def sy_T (R : Nat → Nat → Option Nat) (Y : (Nat → Nat) × (Nat → Nat) × Nat) (p : Nat) : Prop := (10 ≤ p ∧ p + 5 < Y.2.2 ∧ Y.1 p = 9 ∧ Y.1 (p + 1) = 26 ∧ Y.1 (p + 2) = 20 ∧ Y.1 (p + 3) = 20 ∧ Y.1 (p + 4) = 20 ∧ Y.1 (p + 5) = 20) ∧ (R p 0 = some (p + 1) ∧ R p 1 = some (p + 2) ∧ R p 2 = some (p + 3) ∧ R p 3 = some (p + 4) ∧ R p 4 = some (p + 5)) ∧ (Y.2.1 (p + 1) = 12 ∧ Y.2.1 (p + 2) = 5 ∧ Y.2.1 (p + 3) = 24 ∧ Y.2.1 (p + 4) = 20 ∧ Y.2.1 (p + 5) = 20)
/-- one story is now what another one was -/
def sy_C (I : Nat → Nat → Int) (R : Nat → Nat → Option Nat) (I' : Nat → Nat → Int) (R' : Nat → Nat → Option Nat) (p s : Nat) : Prop := (I' p 6 = I s 6 ∧ I' p 7 = I s 7 ∧ I' p 8 = I s 8 ∧ R' p 5 = R s 5) ∧ (∀ k, k < 12 → R' (p + 1) k = R (s + 1) k) ∧ (∀ k, k < 5 → I' (p + 2) k = I (s + 2) k) ∧ (∀ k, k < 24 → I' (p + 3) k = I (s + 3) k) ∧ (∀ k, k < 20 → I' (p + 4) k = I (s + 4) k ∧ I' (p + 5) k = I (s + 5) k) ∧ (∀ q k, ¬ (p ≤ q ∧ q ≤ p + 5) → I' q k = I q k ∧ R' q k = R q k) ∧ (∀ k, k < 5 → R' p k = R p k)
theorem p_sayingAt {d : Nat} {I L : Nat → Nat → Int} {R : Nat → Nat → Option Nat} {Y : (Nat → Nat) × (Nat → Nat) × Nat} {p : Nat} (hT : sy_T R Y p) {t : Int} (ht : I p 6 = t) (ht2 : t ≤ 12) {x : Int} : yi_P zi_Ms d 287 [.inr (.inr (some p)), .inl x] (I, L, R, Y) (fun r => ((0 ≤ x ∧ x < t) ∧ r = (some (.inr (.inr (R (p + 1) x.toNat))), (I, L, R, Y), 0, 0)) ∨ (¬ (0 ≤ x ∧ x < t) ∧ r = (some (.inr (.inr none)), (I, L, R, Y), 0, 0))) := by
  refine yi_P_of (M := zi_m287) rfl (fun d k => ?_)
  have h10p := hT.1.1
  have hNp := hT.1.2.1
  show yi_D zi_Ms d zi_m287 k (0, [(0, .inr (.inr (some p))), (1, .inl x)], [], (I, L, R, Y), 0, 0) _
  refine yi_D_run 1 (1, [(0, .inr (.inr (some p))), (1, .inl x)], [.inl x], (I, L, R, Y), 0, 0) (fun _ => rfl) ?_
  by_cases h1 : x < 0
  · refine yi_D_if1 true rfl (yi_lt_t h1) ?_
    refine yi_D_run 1 (31, [(0, .inr (.inr (some p))), (1, .inl x)], [.inr (.inr none)], (I, L, R, Y), 0, 0) (fun _ => rfl) ?_
    refine yi_D_reta rfl ?_
    first
    | exact Or.inl ⟨by omega, rfl⟩
    | exact Or.inr ⟨by omega, rfl⟩
  · refine yi_D_if1 false rfl (yi_lt_f h1) ?_
    refine yi_D_run 2 (6, [(0, .inr (.inr (some p))), (1, .inl x)], [.inr (.inr (some p)), .inl x], (I, L, R, Y), 0, 0) (fun _ => rfl) ?_
    refine yi_D_gi (v := t) rfl rfl (Nat.ble_eq_true_of_le (by omega)) ht (fun _ => ?_)
    by_cases h2 : t ≤ x
    · refine yi_D_if2 true rfl (yi_ge_t h2) ?_
      refine yi_D_run 1 (31, [(0, .inr (.inr (some p))), (1, .inl x)], [.inr (.inr none)], (I, L, R, Y), 0, 0) (fun _ => rfl) ?_
      refine yi_D_reta rfl ?_
      first
      | exact Or.inl ⟨by omega, rfl⟩
      | exact Or.inr ⟨by omega, rfl⟩
    · refine yi_D_if2 false rfl (yi_ge_f h2) ?_
      refine yi_D_run 2 (14, [(0, .inr (.inr (some p))), (1, .inl x)], [.inr (.inr (some p)), .inl x], (I, L, R, Y), 0, 0) (fun _ => rfl) ?_
      refine yi_D_gr (v := some (p + 1)) rfl rfl (Nat.ble_eq_true_of_le (by omega)) hT.2.1.1 (fun _ => ?_)
      refine yi_D_len (v := 12) rfl (Nat.ble_eq_true_of_le (by omega)) (by rw [hT.2.2.1]; rfl) ?_
      by_cases h3 : 12 ≤ x
      · refine yi_D_if2 true rfl (yi_ge_t h3) ?_
        refine yi_D_run 1 (31, [(0, .inr (.inr (some p))), (1, .inl x)], [.inr (.inr none)], (I, L, R, Y), 0, 0) (fun _ => rfl) ?_
        refine yi_D_reta rfl ?_
        first
        | exact Or.inl ⟨by omega, rfl⟩
        | exact Or.inr ⟨by omega, rfl⟩
      · refine yi_D_if2 false rfl (yi_ge_f h3) ?_
        refine yi_D_run 1 (22, [(0, .inr (.inr (some p))), (1, .inl x)], [.inr (.inr (some p))], (I, L, R, Y), 0, 0) (fun _ => rfl) ?_
        refine yi_D_gr (v := some (p + 1)) rfl rfl (Nat.ble_eq_true_of_le (by omega)) hT.2.1.1 (fun _ => ?_)
        refine yi_D_run 1 (26, [(0, .inr (.inr (some p))), (1, .inl x)], [.inl x, .inr (.inr (some (p + 1)))], (I, L, R, Y), 0, 0) (fun _ => rfl) ?_
        refine yi_D_rl (v := R (p + 1) (x.toNat)) rfl (Nat.ble_eq_true_of_le (by omega)) rfl (fun _ _ => ?_)
        refine yi_D_run 1 (31, [(0, .inr (.inr (some p))), (1, .inl x)], [.inr (.inr (R (p + 1) (x.toNat)))], (I, L, R, Y), 0, 0) (fun _ => rfl) ?_
        refine yi_D_reta rfl ?_
        first
        | exact Or.inl ⟨by omega, rfl⟩
        | exact Or.inr ⟨by omega, rfl⟩
theorem p_purseOfS {d : Nat} {I L : Nat → Nat → Int} {R : Nat → Nat → Option Nat} {Y : (Nat → Nat) × (Nat → Nat) × Nat} {p : Nat} (hT : sy_T R Y p) {x : Int} : yi_P zi_Ms d 285 [.inr (.inr (some p)), .inl x] (I, L, R, Y) (fun r => r = (some (.inl (if 0 ≤ x ∧ x < 5 then I (p + 2) x.toNat else -1)), (I, L, R, Y), 0, 0)) := by
  refine yi_P_of (M := zi_m285) rfl (fun d k => ?_)
  have h10p := hT.1.1
  have hNp := hT.1.2.1
  show yi_D zi_Ms d zi_m285 k (0, [(0, .inr (.inr (some p))), (1, .inl x)], [], (I, L, R, Y), 0, 0) _
  refine yi_D_run 1 (1, [(0, .inr (.inr (some p))), (1, .inl x)], [.inl x], (I, L, R, Y), 0, 0) (fun _ => rfl) ?_
  by_cases h1 : x < 0
  · refine yi_D_if1 true rfl (yi_lt_t h1) ?_
    refine yi_D_run 1 (23, [(0, .inr (.inr (some p))), (1, .inl x)], [.inl (-1)], (I, L, R, Y), 0, 0) (fun _ => rfl) ?_
    refine yi_D_reti rfl ?_
    first
    | (rw [if_pos (by omega)]; done)
    | (rw [if_neg (by omega)]; done)
  · refine yi_D_if1 false rfl (yi_lt_f h1) ?_
    refine yi_D_run 2 (6, [(0, .inr (.inr (some p))), (1, .inl x)], [.inr (.inr (some p)), .inl x], (I, L, R, Y), 0, 0) (fun _ => rfl) ?_
    refine yi_D_gr (v := some (p + 2)) rfl rfl (Nat.ble_eq_true_of_le (by omega)) hT.2.1.2.1 (fun _ => ?_)
    refine yi_D_len (v := 5) rfl (Nat.ble_eq_true_of_le (by omega)) (by rw [hT.2.2.2.1]; rfl) ?_
    by_cases h2 : 5 ≤ x
    · refine yi_D_if2 true rfl (yi_ge_t h2) ?_
      refine yi_D_run 1 (23, [(0, .inr (.inr (some p))), (1, .inl x)], [.inl (-1)], (I, L, R, Y), 0, 0) (fun _ => rfl) ?_
      refine yi_D_reti rfl ?_
      first
      | (rw [if_pos (by omega)]; done)
      | (rw [if_neg (by omega)]; done)
    · refine yi_D_if2 false rfl (yi_ge_f h2) ?_
      refine yi_D_run 1 (14, [(0, .inr (.inr (some p))), (1, .inl x)], [.inr (.inr (some p))], (I, L, R, Y), 0, 0) (fun _ => rfl) ?_
      refine yi_D_gr (v := some (p + 2)) rfl rfl (Nat.ble_eq_true_of_le (by omega)) hT.2.1.2.1 (fun _ => ?_)
      refine yi_D_run 1 (18, [(0, .inr (.inr (some p))), (1, .inl x)], [.inl x, .inr (.inr (some (p + 2)))], (I, L, R, Y), 0, 0) (fun _ => rfl) ?_
      refine yi_D_il (v := I (p + 2) (x.toNat)) rfl (Nat.ble_eq_true_of_le (by omega)) rfl (fun _ _ => ?_)
      refine yi_D_run 1 (23, [(0, .inr (.inr (some p))), (1, .inl x)], [.inl (I (p + 2) (x.toNat))], (I, L, R, Y), 0, 0) (fun _ => rfl) ?_
      refine yi_D_reti rfl ?_
      first
      | (rw [if_pos (by omega)]; done)
      | (rw [if_neg (by omega)]; done)
theorem p_cameIndex {d : Nat} {I L : Nat → Nat → Int} {R : Nat → Nat → Option Nat} {Y : (Nat → Nat) × (Nat → Nat) × Nat} {x y : Int} : yi_P zi_Ms d 278 [.inl x, .inl y] (I, L, R, Y) (fun r => r = (some (.inl (if 0 ≤ x ∧ x < 4 ∧ 1 ≤ y ∧ y ≤ 6 then 4 * (y - 1) + x else -1)), (I, L, R, Y), 0, 0)) := by
  refine yi_P_of (M := zi_m278) rfl (fun d k => ?_)
  show yi_D zi_Ms d zi_m278 k (0, [(0, .inl x), (1, .inl y)], [], (I, L, R, Y), 0, 0) _
  refine yi_D_run 1 (1, [(0, .inl x), (1, .inl y)], [.inl x], (I, L, R, Y), 0, 0) (fun _ => rfl) ?_
  by_cases h1 : x < 0
  · refine yi_D_if1 true rfl (yi_lt_t h1) ?_
    refine yi_D_run 3 (27, [(2, .inl 0), (0, .inl x), (1, .inl y)], [.inl 0], (I, L, R, Y), 0, 0) (fun _ => rfl) ?_
    refine yi_D_if1 true rfl (by decide) ?_
    refine yi_D_run 1 (41, [(2, .inl 0), (0, .inl x), (1, .inl y)], [.inl (-1)], (I, L, R, Y), 0, 0) (fun _ => rfl) ?_
    refine yi_D_reti rfl ?_
    first
    | (rw [if_pos (by omega)]; exact congrArg (fun z => (some (Sum.inl z), (I, L, R, Y), 0, 0)) (by omega))
    | (rw [if_neg (by omega)]; done)
  · refine yi_D_if1 false rfl (yi_lt_f h1) ?_
    refine yi_D_run 2 (6, [(0, .inl x), (1, .inl y)], [.inl 4, .inl x], (I, L, R, Y), 0, 0) (fun _ => rfl) ?_
    by_cases h2 : 4 ≤ x
    · refine yi_D_if2 true rfl (yi_ge_t h2) ?_
      refine yi_D_run 3 (27, [(2, .inl 0), (0, .inl x), (1, .inl y)], [.inl 0], (I, L, R, Y), 0, 0) (fun _ => rfl) ?_
      refine yi_D_if1 true rfl (by decide) ?_
      refine yi_D_run 1 (41, [(2, .inl 0), (0, .inl x), (1, .inl y)], [.inl (-1)], (I, L, R, Y), 0, 0) (fun _ => rfl) ?_
      refine yi_D_reti rfl ?_
      first
      | (rw [if_pos (by omega)]; exact congrArg (fun z => (some (Sum.inl z), (I, L, R, Y), 0, 0)) (by omega))
      | (rw [if_neg (by omega)]; done)
    · refine yi_D_if2 false rfl (yi_ge_f h2) ?_
      refine yi_D_run 2 (11, [(0, .inl x), (1, .inl y)], [.inl 1, .inl y], (I, L, R, Y), 0, 0) (fun _ => rfl) ?_
      by_cases h3 : y < 1
      · refine yi_D_if2 true rfl (yi_lt_t h3) ?_
        refine yi_D_run 3 (27, [(2, .inl 0), (0, .inl x), (1, .inl y)], [.inl 0], (I, L, R, Y), 0, 0) (fun _ => rfl) ?_
        refine yi_D_if1 true rfl (by decide) ?_
        refine yi_D_run 1 (41, [(2, .inl 0), (0, .inl x), (1, .inl y)], [.inl (-1)], (I, L, R, Y), 0, 0) (fun _ => rfl) ?_
        refine yi_D_reti rfl ?_
        first
        | (rw [if_pos (by omega)]; exact congrArg (fun z => (some (Sum.inl z), (I, L, R, Y), 0, 0)) (by omega))
        | (rw [if_neg (by omega)]; done)
      · refine yi_D_if2 false rfl (yi_lt_f h3) ?_
        refine yi_D_run 2 (17, [(0, .inl x), (1, .inl y)], [.inl 6, .inl y], (I, L, R, Y), 0, 0) (fun _ => rfl) ?_
        by_cases h4 : 6 < y
        · refine yi_D_if2 true rfl (yi_gt_t h4) ?_
          refine yi_D_run 3 (27, [(2, .inl 0), (0, .inl x), (1, .inl y)], [.inl 0], (I, L, R, Y), 0, 0) (fun _ => rfl) ?_
          refine yi_D_if1 true rfl (by decide) ?_
          refine yi_D_run 1 (41, [(2, .inl 0), (0, .inl x), (1, .inl y)], [.inl (-1)], (I, L, R, Y), 0, 0) (fun _ => rfl) ?_
          refine yi_D_reti rfl ?_
          first
          | (rw [if_pos (by omega)]; exact congrArg (fun z => (some (Sum.inl z), (I, L, R, Y), 0, 0)) (by omega))
          | (rw [if_neg (by omega)]; done)
        · refine yi_D_if2 false rfl (yi_gt_f h4) ?_
          refine yi_D_run 4 (27, [(2, .inl 1), (0, .inl x), (1, .inl y)], [.inl 1], (I, L, R, Y), 0, 0) (fun _ => rfl) ?_
          refine yi_D_if1 false rfl (by decide) ?_
          refine yi_D_run 2 (32, [(2, .inl 1), (0, .inl x), (1, .inl y)], [.inl 1, .inl y], (I, L, R, Y), 0, 0) (fun _ => rfl) ?_
          refine yi_D_isub rfl (y - 1) (yi_wn (by omega) (by omega)) ?_
          refine yi_D_run 1 (34, [(2, .inl 1), (0, .inl x), (1, .inl y)], [.inl 4, .inl (y - 1)], (I, L, R, Y), 0, 0) (fun _ => rfl) ?_
          refine yi_D_imul rfl ((y - 1) * 4) (yi_wn (by omega) (by omega)) ?_
          refine yi_D_run 1 (36, [(2, .inl 1), (0, .inl x), (1, .inl y)], [.inl x, .inl ((y - 1) * 4)], (I, L, R, Y), 0, 0) (fun _ => rfl) ?_
          refine yi_D_iadd rfl (((y - 1) * 4) + x) (yi_wn (by omega) (by omega)) ?_
          refine yi_D_run 1 (41, [(2, .inl 1), (0, .inl x), (1, .inl y)], [.inl (((y - 1) * 4) + x)], (I, L, R, Y), 0, 0) (fun _ => rfl) ?_
          refine yi_D_reti rfl ?_
          first
          | (rw [if_pos (by omega)]; exact congrArg (fun z => (some (Sum.inl z), (I, L, R, Y), 0, 0)) (by omega))
          | (rw [if_neg (by omega)]; done)
theorem p_cameOf {d : Nat} {I L : Nat → Nat → Int} {R : Nat → Nat → Option Nat} {Y : (Nat → Nat) × (Nat → Nat) × Nat} {p : Nat} (hT : sy_T R Y p) {x y : Int} : yi_P zi_Ms d 279 [.inr (.inr (some p)), .inl x, .inl y] (I, L, R, Y) (fun r => r = (some (.inl (if 0 ≤ x ∧ x < 4 ∧ 1 ≤ y ∧ y ≤ 6 then I (p + 3) (4 * (y - 1) + x).toNat else -1)), (I, L, R, Y), 0, 0)) := by
  refine yi_P_of (M := zi_m279) rfl (fun d k => ?_)
  have h10p := hT.1.1
  have hNp := hT.1.2.1
  generalize hci : (if 0 ≤ x ∧ x < 4 ∧ 1 ≤ y ∧ y ≤ 6 then 4 * (y - 1) + x else -1) = ci
  have hci2 : (0 ≤ x ∧ x < 4 ∧ 1 ≤ y ∧ y ≤ 6 ∧ ci = 4 * (y - 1) + x) ∨ (¬ (0 ≤ x ∧ x < 4 ∧ 1 ≤ y ∧ y ≤ 6) ∧ ci = -1) := by
    rw [← hci]
    by_cases h : 0 ≤ x ∧ x < 4 ∧ 1 ≤ y ∧ y ≤ 6
    · rw [if_pos h]; exact Or.inl ⟨h.1, h.2.1, h.2.2.1, h.2.2.2, rfl⟩
    · rw [if_neg h]; exact Or.inr ⟨h, rfl⟩
  show yi_D zi_Ms d zi_m279 k (0, [(0, .inr (.inr (some p))), (1, .inl x), (2, .inl y)], [], (I, L, R, Y), 0, 0) _
  refine yi_D_run 2 (2, [(0, .inr (.inr (some p))), (1, .inl x), (2, .inl y)], [.inl y, .inl x], (I, L, R, Y), 0, 0) (fun _ => rfl) ?_
  refine yi_D_calls rfl (p_cameIndex (x := x) (y := y)) ?_
  rintro _ rfl
  rw [hci]
  show yi_D zi_Ms d zi_m279 k (5, [(0, .inr (.inr (some p))), (1, .inl x), (2, .inl y)], [.inl ci], (I, L, R, Y), 0, 0) _
  refine yi_D_run 3 (8, [(3, .inl ci), (0, .inr (.inr (some p))), (1, .inl x), (2, .inl y)], [.inl (-1), .inl ci], (I, L, R, Y), 0, 0) (fun _ => rfl) ?_
  by_cases h1 : ci = (-1)
  · refine yi_D_if2 false rfl (yi_ne_f h1) ?_
    refine yi_D_run 2 (21, [(3, .inl ci), (0, .inr (.inr (some p))), (1, .inl x), (2, .inl y)], [.inl (-1)], (I, L, R, Y), 0, 0) (fun _ => rfl) ?_
    refine yi_D_reti rfl ?_
    first
    | (rw [if_pos (by omega)]; exact congrArg (fun z => (some (Sum.inl (I (p + 3) (Int.toNat z))), (I, L, R, Y), 0, 0)) (by omega))
    | (rw [if_neg (by omega)]; done)
  · refine yi_D_if2 true rfl (yi_ne_t h1) ?_
    refine yi_D_run 1 (16, [(3, .inl ci), (0, .inr (.inr (some p))), (1, .inl x), (2, .inl y)], [.inr (.inr (some p))], (I, L, R, Y), 0, 0) (fun _ => rfl) ?_
    refine yi_D_gr (v := some (p + 3)) rfl rfl (Nat.ble_eq_true_of_le (by omega)) hT.2.1.2.2.1 (fun _ => ?_)
    refine yi_D_run 1 (20, [(3, .inl ci), (0, .inr (.inr (some p))), (1, .inl x), (2, .inl y)], [.inl ci, .inr (.inr (some (p + 3)))], (I, L, R, Y), 0, 0) (fun _ => rfl) ?_
    refine yi_D_il (v := I (p + 3) (ci.toNat)) rfl (Nat.ble_eq_true_of_le (by omega)) rfl (fun _ _ => ?_)
    refine yi_D_reti rfl ?_
    first
    | (rw [if_pos (by omega)]; exact congrArg (fun z => (some (Sum.inl (I (p + 3) (Int.toNat z))), (I, L, R, Y), 0, 0)) (by omega))
    | (rw [if_neg (by omega)]; done)
theorem p_promisedTo {d : Nat} {I L : Nat → Nat → Int} {R : Nat → Nat → Option Nat} {Y : (Nat → Nat) × (Nat → Nat) × Nat} {p : Nat} (hT : sy_T R Y p) {t : Int} (ht : I p 8 = t) (ht2 : t ≤ 20) {x : Int} : yi_P zi_Ms d 283 [.inr (.inr (some p)), .inl x] (I, L, R, Y) (fun r => r = (some (.inl (if 0 ≤ x ∧ x < t then I (p + 4) x.toNat else -1)), (I, L, R, Y), 0, 0)) := by
  refine yi_P_of (M := zi_m283) rfl (fun d k => ?_)
  have h10p := hT.1.1
  have hNp := hT.1.2.1
  show yi_D zi_Ms d zi_m283 k (0, [(0, .inr (.inr (some p))), (1, .inl x)], [], (I, L, R, Y), 0, 0) _
  refine yi_D_run 1 (1, [(0, .inr (.inr (some p))), (1, .inl x)], [.inl x], (I, L, R, Y), 0, 0) (fun _ => rfl) ?_
  by_cases h1 : x < 0
  · refine yi_D_if1 true rfl (yi_lt_t h1) ?_
    refine yi_D_run 1 (31, [(0, .inr (.inr (some p))), (1, .inl x)], [.inl (-1)], (I, L, R, Y), 0, 0) (fun _ => rfl) ?_
    refine yi_D_reti rfl ?_
    first
    | (rw [if_pos (by omega)]; done)
    | (rw [if_neg (by omega)]; done)
  · refine yi_D_if1 false rfl (yi_lt_f h1) ?_
    refine yi_D_run 2 (6, [(0, .inr (.inr (some p))), (1, .inl x)], [.inr (.inr (some p)), .inl x], (I, L, R, Y), 0, 0) (fun _ => rfl) ?_
    refine yi_D_gi (v := t) rfl rfl (Nat.ble_eq_true_of_le (by omega)) ht (fun _ => ?_)
    by_cases h2 : t ≤ x
    · refine yi_D_if2 true rfl (yi_ge_t h2) ?_
      refine yi_D_run 1 (31, [(0, .inr (.inr (some p))), (1, .inl x)], [.inl (-1)], (I, L, R, Y), 0, 0) (fun _ => rfl) ?_
      refine yi_D_reti rfl ?_
      first
      | (rw [if_pos (by omega)]; done)
      | (rw [if_neg (by omega)]; done)
    · refine yi_D_if2 false rfl (yi_ge_f h2) ?_
      refine yi_D_run 2 (14, [(0, .inr (.inr (some p))), (1, .inl x)], [.inr (.inr (some p)), .inl x], (I, L, R, Y), 0, 0) (fun _ => rfl) ?_
      refine yi_D_gr (v := some (p + 4)) rfl rfl (Nat.ble_eq_true_of_le (by omega)) hT.2.1.2.2.2.1 (fun _ => ?_)
      refine yi_D_len (v := 20) rfl (Nat.ble_eq_true_of_le (by omega)) (by rw [hT.2.2.2.2.2.1]; rfl) ?_
      by_cases h3 : 20 ≤ x
      · refine yi_D_if2 true rfl (yi_ge_t h3) ?_
        refine yi_D_run 1 (31, [(0, .inr (.inr (some p))), (1, .inl x)], [.inl (-1)], (I, L, R, Y), 0, 0) (fun _ => rfl) ?_
        refine yi_D_reti rfl ?_
        first
        | (rw [if_pos (by omega)]; done)
        | (rw [if_neg (by omega)]; done)
      · refine yi_D_if2 false rfl (yi_ge_f h3) ?_
        refine yi_D_run 1 (22, [(0, .inr (.inr (some p))), (1, .inl x)], [.inr (.inr (some p))], (I, L, R, Y), 0, 0) (fun _ => rfl) ?_
        refine yi_D_gr (v := some (p + 4)) rfl rfl (Nat.ble_eq_true_of_le (by omega)) hT.2.1.2.2.2.1 (fun _ => ?_)
        refine yi_D_run 1 (26, [(0, .inr (.inr (some p))), (1, .inl x)], [.inl x, .inr (.inr (some (p + 4)))], (I, L, R, Y), 0, 0) (fun _ => rfl) ?_
        refine yi_D_il (v := I (p + 4) (x.toNat)) rfl (Nat.ble_eq_true_of_le (by omega)) rfl (fun _ _ => ?_)
        refine yi_D_run 1 (31, [(0, .inr (.inr (some p))), (1, .inl x)], [.inl (I (p + 4) (x.toNat))], (I, L, R, Y), 0, 0) (fun _ => rfl) ?_
        refine yi_D_reti rfl ?_
        first
        | (rw [if_pos (by omega)]; done)
        | (rw [if_neg (by omega)]; done)
theorem p_promisedTall {d : Nat} {I L : Nat → Nat → Int} {R : Nat → Nat → Option Nat} {Y : (Nat → Nat) × (Nat → Nat) × Nat} {p : Nat} (hT : sy_T R Y p) {t : Int} (ht : I p 8 = t) (ht2 : t ≤ 20) {x : Int} : yi_P zi_Ms d 282 [.inr (.inr (some p)), .inl x] (I, L, R, Y) (fun r => r = (some (.inl (if 0 ≤ x ∧ x < t then I (p + 5) x.toNat else -1)), (I, L, R, Y), 0, 0)) := by
  refine yi_P_of (M := zi_m282) rfl (fun d k => ?_)
  have h10p := hT.1.1
  have hNp := hT.1.2.1
  show yi_D zi_Ms d zi_m282 k (0, [(0, .inr (.inr (some p))), (1, .inl x)], [], (I, L, R, Y), 0, 0) _
  refine yi_D_run 1 (1, [(0, .inr (.inr (some p))), (1, .inl x)], [.inl x], (I, L, R, Y), 0, 0) (fun _ => rfl) ?_
  by_cases h1 : x < 0
  · refine yi_D_if1 true rfl (yi_lt_t h1) ?_
    refine yi_D_run 1 (31, [(0, .inr (.inr (some p))), (1, .inl x)], [.inl (-1)], (I, L, R, Y), 0, 0) (fun _ => rfl) ?_
    refine yi_D_reti rfl ?_
    first
    | (rw [if_pos (by omega)]; done)
    | (rw [if_neg (by omega)]; done)
  · refine yi_D_if1 false rfl (yi_lt_f h1) ?_
    refine yi_D_run 2 (6, [(0, .inr (.inr (some p))), (1, .inl x)], [.inr (.inr (some p)), .inl x], (I, L, R, Y), 0, 0) (fun _ => rfl) ?_
    refine yi_D_gi (v := t) rfl rfl (Nat.ble_eq_true_of_le (by omega)) ht (fun _ => ?_)
    by_cases h2 : t ≤ x
    · refine yi_D_if2 true rfl (yi_ge_t h2) ?_
      refine yi_D_run 1 (31, [(0, .inr (.inr (some p))), (1, .inl x)], [.inl (-1)], (I, L, R, Y), 0, 0) (fun _ => rfl) ?_
      refine yi_D_reti rfl ?_
      first
      | (rw [if_pos (by omega)]; done)
      | (rw [if_neg (by omega)]; done)
    · refine yi_D_if2 false rfl (yi_ge_f h2) ?_
      refine yi_D_run 2 (14, [(0, .inr (.inr (some p))), (1, .inl x)], [.inr (.inr (some p)), .inl x], (I, L, R, Y), 0, 0) (fun _ => rfl) ?_
      refine yi_D_gr (v := some (p + 5)) rfl rfl (Nat.ble_eq_true_of_le (by omega)) hT.2.1.2.2.2.2 (fun _ => ?_)
      refine yi_D_len (v := 20) rfl (Nat.ble_eq_true_of_le (by omega)) (by rw [hT.2.2.2.2.2.2]; rfl) ?_
      by_cases h3 : 20 ≤ x
      · refine yi_D_if2 true rfl (yi_ge_t h3) ?_
        refine yi_D_run 1 (31, [(0, .inr (.inr (some p))), (1, .inl x)], [.inl (-1)], (I, L, R, Y), 0, 0) (fun _ => rfl) ?_
        refine yi_D_reti rfl ?_
        first
        | (rw [if_pos (by omega)]; done)
        | (rw [if_neg (by omega)]; done)
      · refine yi_D_if2 false rfl (yi_ge_f h3) ?_
        refine yi_D_run 1 (22, [(0, .inr (.inr (some p))), (1, .inl x)], [.inr (.inr (some p))], (I, L, R, Y), 0, 0) (fun _ => rfl) ?_
        refine yi_D_gr (v := some (p + 5)) rfl rfl (Nat.ble_eq_true_of_le (by omega)) hT.2.1.2.2.2.2 (fun _ => ?_)
        refine yi_D_run 1 (26, [(0, .inr (.inr (some p))), (1, .inl x)], [.inl x, .inr (.inr (some (p + 5)))], (I, L, R, Y), 0, 0) (fun _ => rfl) ?_
        refine yi_D_il (v := I (p + 5) (x.toNat)) rfl (Nat.ble_eq_true_of_le (by omega)) rfl (fun _ _ => ?_)
        refine yi_D_run 1 (31, [(0, .inr (.inr (some p))), (1, .inl x)], [.inl (I (p + 5) (x.toNat))], (I, L, R, Y), 0, 0) (fun _ => rfl) ?_
        refine yi_D_reti rfl ?_
        first
        | (rw [if_pos (by omega)]; done)
        | (rw [if_neg (by omega)]; done)
theorem p_addPromise {d : Nat} {I L : Nat → Nat → Int} {R : Nat → Nat → Option Nat} {Y : (Nat → Nat) × (Nat → Nat) × Nat} {p : Nat} (hT : sy_T R Y p) {t : Nat} (ht : I p 8 = (t : Int)) (ht2 : t < 20) {x y : Int} : yi_P zi_Ms d 275 [.inr (.inr (some p)), .inl x, .inl y] (I, L, R, Y) (fun r => ∃ I', r = (none, (I', L, R, Y), 0, 0) ∧ I' p 8 = (t : Int) + 1 ∧ I' (p + 4) t = x ∧ I' (p + 5) t = y ∧ ∀ q k, ¬ (q = p ∧ k = 8) ∧ ¬ (q = p + 4 ∧ k = t) ∧ ¬ (q = p + 5 ∧ k = t) → I' q k = I q k) := by
  refine yi_P_of (M := zi_m275) rfl (fun d k => ?_)
  have h10p := hT.1.1
  have hNp := hT.1.2.1
  have htn : (t : Int).toNat = t := rfl
  show yi_D zi_Ms d zi_m275 k (0, [(0, .inr (.inr (some p))), (1, .inl x), (2, .inl y)], [], (I, L, R, Y), 0, 0) _
  refine yi_D_run 1 (1, [(0, .inr (.inr (some p))), (1, .inl x), (2, .inl y)], [.inr (.inr (some p))], (I, L, R, Y), 0, 0) (fun _ => rfl) ?_
  refine yi_D_gi (v := (t : Int)) rfl rfl (Nat.ble_eq_true_of_le (by omega)) ht (fun _ => ?_)
  refine yi_D_run 1 (5, [(0, .inr (.inr (some p))), (1, .inl x), (2, .inl y)], [.inr (.inr (some p)), .inl (t : Int)], (I, L, R, Y), 0, 0) (fun _ => rfl) ?_
  refine yi_D_gr (v := some (p + 4)) rfl rfl (Nat.ble_eq_true_of_le (by omega)) hT.2.1.2.2.2.1 (fun _ => ?_)
  refine yi_D_len (v := 20) rfl (Nat.ble_eq_true_of_le (by omega)) (by rw [hT.2.2.2.2.2.1]; rfl) ?_
  by_cases h1 : 20 ≤ (t : Int)
  · refine yi_D_if2 true rfl (yi_ge_t h1) ?_
    refine yi_D_retv rfl ?_
    exfalso; omega
  · refine yi_D_if2 false rfl (yi_ge_f h1) ?_
    refine yi_D_run 1 (13, [(0, .inr (.inr (some p))), (1, .inl x), (2, .inl y)], [.inr (.inr (some p))], (I, L, R, Y), 0, 0) (fun _ => rfl) ?_
    refine yi_D_gr (v := some (p + 4)) rfl rfl (Nat.ble_eq_true_of_le (by omega)) hT.2.1.2.2.2.1 (fun _ => ?_)
    refine yi_D_run 1 (17, [(0, .inr (.inr (some p))), (1, .inl x), (2, .inl y)], [.inr (.inr (some p)), .inr (.inr (some (p + 4)))], (I, L, R, Y), 0, 0) (fun _ => rfl) ?_
    refine yi_D_gi (v := (t : Int)) rfl rfl (Nat.ble_eq_true_of_le (by omega)) ht (fun _ => ?_)
    refine yi_D_run 1 (21, [(0, .inr (.inr (some p))), (1, .inl x), (2, .inl y)], [.inl x, .inl (t : Int), .inr (.inr (some (p + 4)))], (I, L, R, Y), 0, 0) (fun _ => rfl) ?_
    refine yi_D_is rfl (fun _ _ => ?_)
    generalize w3 : yi_u I (p + 4) ((t : Int).toNat) x = I2
    refine yi_D_run 1 (23, [(0, .inr (.inr (some p))), (1, .inl x), (2, .inl y)], [.inr (.inr (some p))], (I2, L, R, Y), 0, 0) (fun _ => rfl) ?_
    refine yi_D_gr (v := some (p + 5)) rfl rfl (Nat.ble_eq_true_of_le (by omega)) hT.2.1.2.2.2.2 (fun _ => ?_)
    refine yi_D_run 1 (27, [(0, .inr (.inr (some p))), (1, .inl x), (2, .inl y)], [.inr (.inr (some p)), .inr (.inr (some (p + 5)))], (I2, L, R, Y), 0, 0) (fun _ => rfl) ?_
    have r4 : I2 p 8 = (t : Int) := by rw [← w3, yi_u_ne _ _ (by omega), ht]
    refine yi_D_gi (v := (t : Int)) rfl rfl (Nat.ble_eq_true_of_le (by omega)) r4 (fun _ => ?_)
    refine yi_D_run 1 (31, [(0, .inr (.inr (some p))), (1, .inl x), (2, .inl y)], [.inl y, .inl (t : Int), .inr (.inr (some (p + 5)))], (I2, L, R, Y), 0, 0) (fun _ => rfl) ?_
    refine yi_D_is rfl (fun _ _ => ?_)
    generalize w6 : yi_u I2 (p + 5) ((t : Int).toNat) y = I5
    refine yi_D_run 2 (34, [(0, .inr (.inr (some p))), (1, .inl x), (2, .inl y)], [.inr (.inr (some p)), .inr (.inr (some p))], (I5, L, R, Y), 0, 0) (fun _ => rfl) ?_
    have r7 : I5 p 8 = (t : Int) := by rw [← w6, yi_u_ne _ _ (by omega), ← w3, yi_u_ne _ _ (by omega), ht]
    refine yi_D_gi (v := (t : Int)) rfl rfl (Nat.ble_eq_true_of_le (by omega)) r7 (fun _ => ?_)
    refine yi_D_run 1 (38, [(0, .inr (.inr (some p))), (1, .inl x), (2, .inl y)], [.inl 1, .inl (t : Int), .inr (.inr (some p))], (I5, L, R, Y), 0, 0) (fun _ => rfl) ?_
    refine yi_D_iadd rfl ((t : Int) + 1) (yi_wn (by omega) (by omega)) ?_
    refine yi_D_pi rfl (fun _ => ?_)
    generalize w9 : yi_u I5 p 8 ((t : Int) + 1) = I8
    refine yi_D_retv rfl ?_
    refine ⟨_, rfl, by rw [← w9, yi_u_eq], by rw [← w9, yi_u_ne _ _ (by omega), ← w6, yi_u_ne _ _ (by omega), ← w3]; exact yi_u_eq .., by rw [← w9, yi_u_ne _ _ (by omega), ← w6]; exact yi_u_eq .., fun q k h => by rw [← w9, yi_u_ne _ _ (by omega), ← w6, yi_u_ne _ _ (by omega), ← w3, yi_u_ne _ _ (by omega)]⟩
theorem p_addSaying {d : Nat} {I L : Nat → Nat → Int} {R : Nat → Nat → Option Nat} {Y : (Nat → Nat) × (Nat → Nat) × Nat} {p : Nat} (hT : sy_T R Y p) {t y : Nat} (ht : I p 6 = (t : Int)) (ht2 : t < 12) : yi_P zi_Ms d 276 [.inr (.inr (some p)), .inr (.inr (some y))] (I, L, R, Y) (fun r => ∃ I' R', r = (none, (I', L, R', Y), 0, 0) ∧ I' p 6 = (t : Int) + 1 ∧ R' (p + 1) t = some y ∧ (∀ q k, ¬ (q = p ∧ k = 6) → I' q k = I q k) ∧ (∀ q k, ¬ (q = p + 1 ∧ k = t) → R' q k = R q k)) := by
  refine yi_P_of (M := zi_m276) rfl (fun d k => ?_)
  have h10p := hT.1.1
  have hNp := hT.1.2.1
  have htn : (t : Int).toNat = t := rfl
  show yi_D zi_Ms d zi_m276 k (0, [(0, .inr (.inr (some p))), (1, .inr (.inr (some y)))], [], (I, L, R, Y), 0, 0) _
  refine yi_D_run 1 (1, [(0, .inr (.inr (some p))), (1, .inr (.inr (some y)))], [.inr (.inr (some p))], (I, L, R, Y), 0, 0) (fun _ => rfl) ?_
  refine yi_D_gi (v := (t : Int)) rfl rfl (Nat.ble_eq_true_of_le (by omega)) ht (fun _ => ?_)
  refine yi_D_run 1 (5, [(0, .inr (.inr (some p))), (1, .inr (.inr (some y)))], [.inr (.inr (some p)), .inl (t : Int)], (I, L, R, Y), 0, 0) (fun _ => rfl) ?_
  refine yi_D_gr (v := some (p + 1)) rfl rfl (Nat.ble_eq_true_of_le (by omega)) hT.2.1.1 (fun _ => ?_)
  refine yi_D_len (v := 12) rfl (Nat.ble_eq_true_of_le (by omega)) (by rw [hT.2.2.1]; rfl) ?_
  by_cases h1 : 12 ≤ (t : Int)
  · refine yi_D_if2 true rfl (yi_ge_t h1) ?_
    refine yi_D_retv rfl ?_
    exfalso; omega
  · refine yi_D_if2 false rfl (yi_ge_f h1) ?_
    refine yi_D_run 1 (13, [(0, .inr (.inr (some p))), (1, .inr (.inr (some y)))], [.inr (.inr (some p))], (I, L, R, Y), 0, 0) (fun _ => rfl) ?_
    refine yi_D_gr (v := some (p + 1)) rfl rfl (Nat.ble_eq_true_of_le (by omega)) hT.2.1.1 (fun _ => ?_)
    refine yi_D_run 1 (17, [(0, .inr (.inr (some p))), (1, .inr (.inr (some y)))], [.inr (.inr (some p)), .inr (.inr (some (p + 1)))], (I, L, R, Y), 0, 0) (fun _ => rfl) ?_
    refine yi_D_gi (v := (t : Int)) rfl rfl (Nat.ble_eq_true_of_le (by omega)) ht (fun _ => ?_)
    refine yi_D_run 1 (21, [(0, .inr (.inr (some p))), (1, .inr (.inr (some y)))], [.inr (.inr (some y)), .inl (t : Int), .inr (.inr (some (p + 1)))], (I, L, R, Y), 0, 0) (fun _ => rfl) ?_
    refine yi_D_asw rfl (fun _ _ => ?_)
    generalize w3 : cl_u R (p + 1) ((t : Int).toNat) (some y) = R2
    refine yi_D_run 2 (24, [(0, .inr (.inr (some p))), (1, .inr (.inr (some y)))], [.inr (.inr (some p)), .inr (.inr (some p))], (I, L, R2, Y), 0, 0) (fun _ => rfl) ?_
    refine yi_D_gi (v := (t : Int)) rfl rfl (Nat.ble_eq_true_of_le (by omega)) ht (fun _ => ?_)
    refine yi_D_run 1 (28, [(0, .inr (.inr (some p))), (1, .inr (.inr (some y)))], [.inl 1, .inl (t : Int), .inr (.inr (some p))], (I, L, R2, Y), 0, 0) (fun _ => rfl) ?_
    refine yi_D_iadd rfl ((t : Int) + 1) (yi_wn (by omega) (by omega)) ?_
    refine yi_D_pi rfl (fun _ => ?_)
    generalize w5 : yi_u I p 6 ((t : Int) + 1) = I4
    refine yi_D_retv rfl ?_
    refine ⟨_, _, rfl, by rw [← w5, yi_u_eq], by rw [← w3]; exact cl_u_eq .., fun q k h => by rw [← w5, yi_u_ne _ _ (by omega)], fun q k h => by rw [← w3, cl_u_ne _ _ (by omega)]⟩
theorem p_pay {d : Nat} {I L : Nat → Nat → Int} {R : Nat → Nat → Option Nat} {Y : (Nat → Nat) × (Nat → Nat) × Nat} {p : Nat} (hT : sy_T R Y p) {x y : Int} (hx : 0 ≤ x ∧ x < 5) (hb : 0 ≤ I (p + 2) x.toNat ∧ I (p + 2) x.toNat ≤ 99999 ∧ 0 ≤ y ∧ y ≤ 99) : yi_P zi_Ms d 281 [.inr (.inr (some p)), .inl x, .inl y] (I, L, R, Y) (fun r => ∃ I', r = (none, (I', L, R, Y), 0, 0) ∧ I' (p + 2) x.toNat = (if 99999 < I (p + 2) x.toNat + y then 99999 else I (p + 2) x.toNat + y) ∧ ∀ q k, ¬ (q = p + 2 ∧ k = x.toNat) → I' q k = I q k) := by
  refine yi_P_of (M := zi_m281) rfl (fun d k => ?_)
  have h10p := hT.1.1
  have hNp := hT.1.2.1
  show yi_D zi_Ms d zi_m281 k (0, [(0, .inr (.inr (some p))), (1, .inl x), (2, .inl y)], [], (I, L, R, Y), 0, 0) _
  refine yi_D_run 1 (1, [(0, .inr (.inr (some p))), (1, .inl x), (2, .inl y)], [.inl x], (I, L, R, Y), 0, 0) (fun _ => rfl) ?_
  by_cases h1 : x < 0
  · refine yi_D_if1 true rfl (yi_lt_t h1) ?_
    refine yi_D_retv rfl ?_
    exfalso; omega
  · refine yi_D_if1 false rfl (yi_lt_f h1) ?_
    refine yi_D_run 2 (6, [(0, .inr (.inr (some p))), (1, .inl x), (2, .inl y)], [.inr (.inr (some p)), .inl x], (I, L, R, Y), 0, 0) (fun _ => rfl) ?_
    refine yi_D_gr (v := some (p + 2)) rfl rfl (Nat.ble_eq_true_of_le (by omega)) hT.2.1.2.1 (fun _ => ?_)
    refine yi_D_len (v := 5) rfl (Nat.ble_eq_true_of_le (by omega)) (by rw [hT.2.2.2.1]; rfl) ?_
    by_cases h2 : 5 ≤ x
    · refine yi_D_if2 true rfl (yi_ge_t h2) ?_
      refine yi_D_retv rfl ?_
      exfalso; omega
    · refine yi_D_if2 false rfl (yi_ge_f h2) ?_
      refine yi_D_run 1 (14, [(0, .inr (.inr (some p))), (1, .inl x), (2, .inl y)], [.inr (.inr (some p))], (I, L, R, Y), 0, 0) (fun _ => rfl) ?_
      refine yi_D_gr (v := some (p + 2)) rfl rfl (Nat.ble_eq_true_of_le (by omega)) hT.2.1.2.1 (fun _ => ?_)
      refine yi_D_run 2 (19, [(0, .inr (.inr (some p))), (1, .inl x), (2, .inl y)], [.inr (.inr (some p)), .inl x, .inr (.inr (some (p + 2)))], (I, L, R, Y), 0, 0) (fun _ => rfl) ?_
      refine yi_D_gr (v := some (p + 2)) rfl rfl (Nat.ble_eq_true_of_le (by omega)) hT.2.1.2.1 (fun _ => ?_)
      refine yi_D_run 1 (23, [(0, .inr (.inr (some p))), (1, .inl x), (2, .inl y)], [.inl x, .inr (.inr (some (p + 2))), .inl x, .inr (.inr (some (p + 2)))], (I, L, R, Y), 0, 0) (fun _ => rfl) ?_
      refine yi_D_il (v := I (p + 2) (x.toNat)) rfl (Nat.ble_eq_true_of_le (by omega)) rfl (fun _ _ => ?_)
      refine yi_D_run 1 (25, [(0, .inr (.inr (some p))), (1, .inl x), (2, .inl y)], [.inl y, .inl (I (p + 2) (x.toNat)), .inl x, .inr (.inr (some (p + 2)))], (I, L, R, Y), 0, 0) (fun _ => rfl) ?_
      refine yi_D_iadd rfl ((I (p + 2) (x.toNat)) + y) (yi_wn (by omega) (by omega)) ?_
      refine yi_D_ldc (99999) rfl (by decide +kernel) ?_
      refine yi_D_run 1 (31, [(0, .inr (.inr (some p))), (1, .inl x), (2, .inl y)], [.inl (if 99999 < ((I (p + 2) (x.toNat)) + y) then 99999 else ((I (p + 2) (x.toNat)) + y)), .inl x, .inr (.inr (some (p + 2)))], (I, L, R, Y), 0, 0) (fun _ => rfl) ?_
      refine yi_D_is rfl (fun _ _ => ?_)
      generalize w4 : yi_u I (p + 2) (x.toNat) (if 99999 < ((I (p + 2) (x.toNat)) + y) then 99999 else ((I (p + 2) (x.toNat)) + y)) = I3
      refine yi_D_retv rfl ?_
      refine ⟨_, rfl, by rw [← w4, yi_u_eq], fun q k h => by rw [← w4, yi_u_ne _ _ h]⟩
theorem p_storyCopy {d : Nat} {I L : Nat → Nat → Int} {R : Nat → Nat → Option Nat} {Y : (Nat → Nat) × (Nat → Nat) × Nat} {p : Nat} (hT : sy_T R Y p) {s : Nat} (hs : sy_T R Y s) (hd : p + 5 < s ∨ s + 5 < p) : yi_P zi_Ms d 280 [.inr (.inr (some p)), .inr (.inr (some s))] (I, L, R, Y) (fun r => ∃ I' R', r = (none, (I', L, R', Y), 0, 0) ∧ sy_C I R I' R' p s) := by
  refine yi_P_of (M := zi_m280) rfl (fun d k => ?_)
  have h10p := hT.1.1
  have hNp := hT.1.2.1
  have h10s := hs.1.1
  have hNs := hs.1.2.1
  show yi_D zi_Ms d zi_m280 k (0, [(0, .inr (.inr (some p))), (1, .inr (.inr (some s)))], [], (I, L, R, Y), 0, 0) _
  refine yi_D_run 2 (2, [(0, .inr (.inr (some p))), (1, .inr (.inr (some s)))], [.inr (.inr (some s)), .inr (.inr (some p))], (I, L, R, Y), 0, 0) (fun _ => rfl) ?_
  refine yi_D_gr (v := R s 5) rfl rfl (Nat.ble_eq_true_of_le (by omega)) rfl (fun _ => ?_)
  refine yi_D_prw rfl (fun _ => ?_)
  generalize w2 : cl_u R p 5 (R s 5) = R1
  refine yi_D_run 2 (10, [(0, .inr (.inr (some p))), (1, .inr (.inr (some s)))], [.inr (.inr (some s)), .inr (.inr (some p))], (I, L, R1, Y), 0, 0) (fun _ => rfl) ?_
  refine yi_D_gi (v := I s 6) rfl rfl (Nat.ble_eq_true_of_le (by omega)) rfl (fun _ => ?_)
  refine yi_D_pi rfl (fun _ => ?_)
  generalize w4 : yi_u I p 6 (I s 6) = I3
  refine yi_D_run 2 (18, [(0, .inr (.inr (some p))), (1, .inr (.inr (some s)))], [.inr (.inr (some s)), .inr (.inr (some p))], (I3, L, R1, Y), 0, 0) (fun _ => rfl) ?_
  have r5 : I3 s 7 = I s 7 := by rw [← w4, yi_u_ne _ _ (by omega)]
  refine yi_D_gi (v := I s 7) rfl rfl (Nat.ble_eq_true_of_le (by omega)) r5 (fun _ => ?_)
  refine yi_D_pi rfl (fun _ => ?_)
  generalize w7 : yi_u I3 p 7 (I s 7) = I6
  refine yi_D_run 2 (26, [(0, .inr (.inr (some p))), (1, .inr (.inr (some s)))], [.inr (.inr (some s)), .inr (.inr (some p))], (I6, L, R1, Y), 0, 0) (fun _ => rfl) ?_
  have r8 : I6 s 8 = I s 8 := by rw [← w7, yi_u_ne _ _ (by omega), ← w4, yi_u_ne _ _ (by omega)]
  refine yi_D_gi (v := I s 8) rfl rfl (Nat.ble_eq_true_of_le (by omega)) r8 (fun _ => ?_)
  refine yi_D_pi rfl (fun _ => ?_)
  generalize w10 : yi_u I6 p 8 (I s 8) = I9
  refine yi_D_run 2 (34, [(2, .inl 0), (0, .inr (.inr (some p))), (1, .inr (.inr (some s)))], [], (I9, L, R1, Y), 0, 0) (fun _ => rfl) ?_
  have pt34 : ∀ j34, j34 ≤ k → ∀ (ya : Int) (Ra : Nat → Nat → Option Nat), (0 ≤ ya ∧ ya ≤ 12) → (∀ k : Nat, (k : Int) < ya → Ra (p + 1) k = R1 (s + 1) k) → (∀ q k : Nat, ¬ (q = p + 1 ∧ (k : Int) < ya) → Ra q k = R1 q k) → yi_D zi_Ms d zi_m280 j34 (34, [(2, .inl ya), (0, .inr (.inr (some p))), (1, .inr (.inr (some s)))], [], (I9, L, Ra, Y), 0, 0) (fun r => ∃ I' R', r = (none, (I', L, R', Y), 0, 0) ∧ sy_C I R I' R' p s) := by
    intro j34
    induction j34 with
    | zero => intros; exact yi_D_0
    | succ j34 ih34 =>
    intro hk34 ya Ra hyRa hvRa0 hfRa
    refine yi_D_run1 1 (36, [(2, .inl ya), (0, .inr (.inr (some p))), (1, .inr (.inr (some s)))], [.inr (.inr (some p)), .inl ya], (I9, L, Ra, Y), 0, 0) (fun _ => rfl) ?_
    have r11 : Ra p 0 = some (p + 1) := by rw [hfRa p 0 (by omega), ← w2, cl_u_ne _ _ (by omega), hT.2.1.1]
    refine yi_D_gr (v := some (p + 1)) rfl rfl (Nat.ble_eq_true_of_le (by omega)) r11 (fun _ => ?_)
    refine yi_D_len (v := 12) rfl (Nat.ble_eq_true_of_le (by omega)) (by rw [hT.2.2.1]; rfl) ?_
    by_cases h12 : 12 ≤ ya
    · refine yi_D_if2 true rfl (yi_ge_t h12) ?_
      refine yi_D_run 2 (63, [(2, .inl 0), (0, .inr (.inr (some p))), (1, .inr (.inr (some s)))], [], (I9, L, Ra, Y), 0, 0) (fun _ => rfl) ?_
      have pt63 : ∀ j63, j63 ≤ j34 → ∀ (yb : Int) (Jb : Nat → Nat → Int), (0 ≤ yb ∧ yb ≤ 5) → (∀ k : Nat, (k : Int) < yb → Jb (p + 2) k = I9 (s + 2) k) → (∀ q k : Nat, ¬ (q = p + 2 ∧ (k : Int) < yb) → Jb q k = I9 q k) → yi_D zi_Ms d zi_m280 j63 (63, [(2, .inl yb), (0, .inr (.inr (some p))), (1, .inr (.inr (some s)))], [], (Jb, L, Ra, Y), 0, 0) (fun r => ∃ I' R', r = (none, (I', L, R', Y), 0, 0) ∧ sy_C I R I' R' p s) := by
        intro j63
        induction j63 with
        | zero => intros; exact yi_D_0
        | succ j63 ih63 =>
        intro hk63 yb Jb hyJb hvJb0 hfJb
        refine yi_D_run1 1 (65, [(2, .inl yb), (0, .inr (.inr (some p))), (1, .inr (.inr (some s)))], [.inr (.inr (some p)), .inl yb], (Jb, L, Ra, Y), 0, 0) (fun _ => rfl) ?_
        have r13 : Ra p 1 = some (p + 2) := by rw [hfRa p 1 (by omega), ← w2, cl_u_ne _ _ (by omega), hT.2.1.2.1]
        refine yi_D_gr (v := some (p + 2)) rfl rfl (Nat.ble_eq_true_of_le (by omega)) r13 (fun _ => ?_)
        refine yi_D_len (v := 5) rfl (Nat.ble_eq_true_of_le (by omega)) (by rw [hT.2.2.2.1]; rfl) ?_
        by_cases h14 : 5 ≤ yb
        · refine yi_D_if2 true rfl (yi_ge_t h14) ?_
          refine yi_D_run 2 (92, [(2, .inl 0), (0, .inr (.inr (some p))), (1, .inr (.inr (some s)))], [], (Jb, L, Ra, Y), 0, 0) (fun _ => rfl) ?_
          have pt92 : ∀ j92, j92 ≤ j63 → ∀ (yc : Int) (Jc : Nat → Nat → Int), (0 ≤ yc ∧ yc ≤ 24) → (∀ k : Nat, (k : Int) < yc → Jc (p + 3) k = Jb (s + 3) k) → (∀ q k : Nat, ¬ (q = p + 3 ∧ (k : Int) < yc) → Jc q k = Jb q k) → yi_D zi_Ms d zi_m280 j92 (92, [(2, .inl yc), (0, .inr (.inr (some p))), (1, .inr (.inr (some s)))], [], (Jc, L, Ra, Y), 0, 0) (fun r => ∃ I' R', r = (none, (I', L, R', Y), 0, 0) ∧ sy_C I R I' R' p s) := by
            intro j92
            induction j92 with
            | zero => intros; exact yi_D_0
            | succ j92 ih92 =>
            intro hk92 yc Jc hyJc hvJc0 hfJc
            refine yi_D_run1 1 (94, [(2, .inl yc), (0, .inr (.inr (some p))), (1, .inr (.inr (some s)))], [.inr (.inr (some p)), .inl yc], (Jc, L, Ra, Y), 0, 0) (fun _ => rfl) ?_
            have r15 : Ra p 2 = some (p + 3) := by rw [hfRa p 2 (by omega), ← w2, cl_u_ne _ _ (by omega), hT.2.1.2.2.1]
            refine yi_D_gr (v := some (p + 3)) rfl rfl (Nat.ble_eq_true_of_le (by omega)) r15 (fun _ => ?_)
            refine yi_D_len (v := 24) rfl (Nat.ble_eq_true_of_le (by omega)) (by rw [hT.2.2.2.2.1]; rfl) ?_
            by_cases h16 : 24 ≤ yc
            · refine yi_D_if2 true rfl (yi_ge_t h16) ?_
              refine yi_D_run 2 (121, [(2, .inl 0), (0, .inr (.inr (some p))), (1, .inr (.inr (some s)))], [], (Jc, L, Ra, Y), 0, 0) (fun _ => rfl) ?_
              have pt121 : ∀ j121, j121 ≤ j92 → ∀ (yd : Int) (Jd : Nat → Nat → Int), (0 ≤ yd ∧ yd ≤ 20) → (∀ k : Nat, (k : Int) < yd → Jd (p + 4) k = Jc (s + 4) k) → (∀ k : Nat, (k : Int) < yd → Jd (p + 5) k = Jc (s + 5) k) → (∀ q k : Nat, ¬ (q = p + 4 ∧ (k : Int) < yd) ∧ ¬ (q = p + 5 ∧ (k : Int) < yd) → Jd q k = Jc q k) → yi_D zi_Ms d zi_m280 j121 (121, [(2, .inl yd), (0, .inr (.inr (some p))), (1, .inr (.inr (some s)))], [], (Jd, L, Ra, Y), 0, 0) (fun r => ∃ I' R', r = (none, (I', L, R', Y), 0, 0) ∧ sy_C I R I' R' p s) := by
                intro j121
                induction j121 with
                | zero => intros; exact yi_D_0
                | succ j121 ih121 =>
                intro hk121 yd Jd hyJd hvJd0 hvJd1 hfJd
                refine yi_D_run1 1 (123, [(2, .inl yd), (0, .inr (.inr (some p))), (1, .inr (.inr (some s)))], [.inr (.inr (some p)), .inl yd], (Jd, L, Ra, Y), 0, 0) (fun _ => rfl) ?_
                have r17 : Ra p 3 = some (p + 4) := by rw [hfRa p 3 (by omega), ← w2, cl_u_ne _ _ (by omega), hT.2.1.2.2.2.1]
                refine yi_D_gr (v := some (p + 4)) rfl rfl (Nat.ble_eq_true_of_le (by omega)) r17 (fun _ => ?_)
                refine yi_D_len (v := 20) rfl (Nat.ble_eq_true_of_le (by omega)) (by rw [hT.2.2.2.2.2.1]; rfl) ?_
                by_cases h18 : 20 ≤ yd
                · refine yi_D_if2 true rfl (yi_ge_t h18) ?_
                  refine yi_D_retv rfl ?_
                  refine ⟨_, _, rfl, ⟨by rw [hfJd p 6 (by omega), hfJc p 6 (by omega), hfJb p 6 (by omega), ← w10, yi_u_ne _ _ (by omega), ← w7, yi_u_ne _ _ (by omega), ← w4, yi_u_eq], by rw [hfJd p 7 (by omega), hfJc p 7 (by omega), hfJb p 7 (by omega), ← w10, yi_u_ne _ _ (by omega), ← w7, yi_u_eq], by rw [hfJd p 8 (by omega), hfJc p 8 (by omega), hfJb p 8 (by omega), ← w10, yi_u_eq], by rw [hfRa p 5 (by omega), ← w2, cl_u_eq]⟩, fun k hk => by rw [hvRa0 k (by omega)]; rw [← w2, cl_u_ne _ _ (by omega)], fun k hk => by rw [hfJd (p + 2) k (by omega), hfJc (p + 2) k (by omega)]; rw [hvJb0 k (by omega)]; rw [← w10, yi_u_ne _ _ (by omega), ← w7, yi_u_ne _ _ (by omega), ← w4, yi_u_ne _ _ (by omega)], fun k hk => by rw [hfJd (p + 3) k (by omega)]; rw [hvJc0 k (by omega)]; rw [hfJb (s + 3) k (by omega), ← w10, yi_u_ne _ _ (by omega), ← w7, yi_u_ne _ _ (by omega), ← w4, yi_u_ne _ _ (by omega)], fun k hk => ⟨by rw [hvJd0 k (by omega)]; rw [hfJc (s + 4) k (by omega), hfJb (s + 4) k (by omega), ← w10, yi_u_ne _ _ (by omega), ← w7, yi_u_ne _ _ (by omega), ← w4, yi_u_ne _ _ (by omega)], by rw [hvJd1 k (by omega)]; rw [hfJc (s + 5) k (by omega), hfJb (s + 5) k (by omega), ← w10, yi_u_ne _ _ (by omega), ← w7, yi_u_ne _ _ (by omega), ← w4, yi_u_ne _ _ (by omega)]⟩, fun q k h => ⟨by rw [hfJd q k (by omega), hfJc q k (by omega), hfJb q k (by omega), ← w10, yi_u_ne _ _ (by omega), ← w7, yi_u_ne _ _ (by omega), ← w4, yi_u_ne _ _ (by omega)], by rw [hfRa q k (by omega), ← w2, cl_u_ne _ _ (by omega)]⟩, fun k hk => by rw [hfRa p k (by omega), ← w2, cl_u_ne _ _ (by omega)]⟩
                · refine yi_D_if2 false rfl (yi_ge_f h18) ?_
                  refine yi_D_run 1 (131, [(2, .inl yd), (0, .inr (.inr (some p))), (1, .inr (.inr (some s)))], [.inr (.inr (some p))], (Jd, L, Ra, Y), 0, 0) (fun _ => rfl) ?_
                  have r19 : Ra p 3 = some (p + 4) := by rw [hfRa p 3 (by omega), ← w2, cl_u_ne _ _ (by omega), hT.2.1.2.2.2.1]
                  refine yi_D_gr (v := some (p + 4)) rfl rfl (Nat.ble_eq_true_of_le (by omega)) r19 (fun _ => ?_)
                  refine yi_D_run 2 (136, [(2, .inl yd), (0, .inr (.inr (some p))), (1, .inr (.inr (some s)))], [.inr (.inr (some s)), .inl yd, .inr (.inr (some (p + 4)))], (Jd, L, Ra, Y), 0, 0) (fun _ => rfl) ?_
                  have r20 : Ra s 3 = some (s + 4) := by rw [hfRa s 3 (by omega), ← w2, cl_u_ne _ _ (by omega), hs.2.1.2.2.2.1]
                  refine yi_D_gr (v := some (s + 4)) rfl rfl (Nat.ble_eq_true_of_le (by omega)) r20 (fun _ => ?_)
                  refine yi_D_run 1 (140, [(2, .inl yd), (0, .inr (.inr (some p))), (1, .inr (.inr (some s)))], [.inl yd, .inr (.inr (some (s + 4))), .inl yd, .inr (.inr (some (p + 4)))], (Jd, L, Ra, Y), 0, 0) (fun _ => rfl) ?_
                  have r21 : Jd (s + 4) (yd.toNat) = I (s + 4) (yd.toNat) := by rw [hfJd (s + 4) (yd.toNat) (by omega), hfJc (s + 4) (yd.toNat) (by omega), hfJb (s + 4) (yd.toNat) (by omega), ← w10, yi_u_ne _ _ (by omega), ← w7, yi_u_ne _ _ (by omega), ← w4, yi_u_ne _ _ (by omega)]
                  refine yi_D_il (v := I (s + 4) (yd.toNat)) rfl (Nat.ble_eq_true_of_le (by omega)) r21 (fun _ _ => ?_)
                  refine yi_D_is rfl (fun _ _ => ?_)
                  generalize w23 : yi_u Jd (p + 4) (yd.toNat) (I (s + 4) (yd.toNat)) = I22
                  refine yi_D_run 1 (143, [(2, .inl yd), (0, .inr (.inr (some p))), (1, .inr (.inr (some s)))], [.inr (.inr (some p))], (I22, L, Ra, Y), 0, 0) (fun _ => rfl) ?_
                  have r24 : Ra p 4 = some (p + 5) := by rw [hfRa p 4 (by omega), ← w2, cl_u_ne _ _ (by omega), hT.2.1.2.2.2.2]
                  refine yi_D_gr (v := some (p + 5)) rfl rfl (Nat.ble_eq_true_of_le (by omega)) r24 (fun _ => ?_)
                  refine yi_D_run 2 (148, [(2, .inl yd), (0, .inr (.inr (some p))), (1, .inr (.inr (some s)))], [.inr (.inr (some s)), .inl yd, .inr (.inr (some (p + 5)))], (I22, L, Ra, Y), 0, 0) (fun _ => rfl) ?_
                  have r25 : Ra s 4 = some (s + 5) := by rw [hfRa s 4 (by omega), ← w2, cl_u_ne _ _ (by omega), hs.2.1.2.2.2.2]
                  refine yi_D_gr (v := some (s + 5)) rfl rfl (Nat.ble_eq_true_of_le (by omega)) r25 (fun _ => ?_)
                  refine yi_D_run 1 (152, [(2, .inl yd), (0, .inr (.inr (some p))), (1, .inr (.inr (some s)))], [.inl yd, .inr (.inr (some (s + 5))), .inl yd, .inr (.inr (some (p + 5)))], (I22, L, Ra, Y), 0, 0) (fun _ => rfl) ?_
                  have r26 : I22 (s + 5) (yd.toNat) = I (s + 5) (yd.toNat) := by rw [← w23, yi_u_ne _ _ (by omega), hfJd (s + 5) (yd.toNat) (by omega), hfJc (s + 5) (yd.toNat) (by omega), hfJb (s + 5) (yd.toNat) (by omega), ← w10, yi_u_ne _ _ (by omega), ← w7, yi_u_ne _ _ (by omega), ← w4, yi_u_ne _ _ (by omega)]
                  refine yi_D_il (v := I (s + 5) (yd.toNat)) rfl (Nat.ble_eq_true_of_le (by omega)) r26 (fun _ _ => ?_)
                  refine yi_D_is rfl (fun _ _ => ?_)
                  generalize w28 : yi_u I22 (p + 5) (yd.toNat) (I (s + 5) (yd.toNat)) = I27
                  refine yi_D_iinc [(2, .inl (yd + 1)), (0, .inr (.inr (some p))), (1, .inr (.inr (some s)))] rfl rfl rfl (by rw [show yi_w (yd + 1) = yd + 1 from (yi_wn (by omega) (by omega)).trans (by omega)]; rfl) ?_
                  refine yi_D_run 1 (121, [(2, .inl (yd + 1)), (0, .inr (.inr (some p))), (1, .inr (.inr (some s)))], [], (I27, L, Ra, Y), 0, 0) (fun _ => rfl) ?_
                  exact yi_D_mono (ih121 (by omega) (yd + 1) I27 (by omega) (fun k hk => by by_cases e : (k : Int) = yd; obtain rfl : k = yd.toNat := (by omega); rw [← w28, yi_u_ne _ _ (by omega), ← w23, yi_u_eq, hfJc (s + 4) yd.toNat (by omega), hfJb (s + 4) yd.toNat (by omega), ← w10, yi_u_ne _ _ (by omega), ← w7, yi_u_ne _ _ (by omega), ← w4, yi_u_ne _ _ (by omega)]; rw [← w28, yi_u_ne _ _ (by omega), ← w23, yi_u_ne _ _ (by omega)]; exact hvJd0 k (by omega)) (fun k hk => by by_cases e : (k : Int) = yd; obtain rfl : k = yd.toNat := (by omega); rw [← w28, yi_u_eq, hfJc (s + 5) yd.toNat (by omega), hfJb (s + 5) yd.toNat (by omega), ← w10, yi_u_ne _ _ (by omega), ← w7, yi_u_ne _ _ (by omega), ← w4, yi_u_ne _ _ (by omega)]; rw [← w28, yi_u_ne _ _ (by omega), ← w23, yi_u_ne _ _ (by omega)]; exact hvJd1 k (by omega)) (fun q k h => by rw [← w28, yi_u_ne _ _ (by omega), ← w23, yi_u_ne _ _ (by omega)]; exact hfJd q k (by omega))) (by omega)
              exact pt121 j92 (Nat.le_refl _) 0 Jc (by omega) (fun k hk => absurd hk (by omega)) (fun k hk => absurd hk (by omega)) (fun _ _ _ => rfl)
            · refine yi_D_if2 false rfl (yi_ge_f h16) ?_
              refine yi_D_run 1 (102, [(2, .inl yc), (0, .inr (.inr (some p))), (1, .inr (.inr (some s)))], [.inr (.inr (some p))], (Jc, L, Ra, Y), 0, 0) (fun _ => rfl) ?_
              have r29 : Ra p 2 = some (p + 3) := by rw [hfRa p 2 (by omega), ← w2, cl_u_ne _ _ (by omega), hT.2.1.2.2.1]
              refine yi_D_gr (v := some (p + 3)) rfl rfl (Nat.ble_eq_true_of_le (by omega)) r29 (fun _ => ?_)
              refine yi_D_run 2 (107, [(2, .inl yc), (0, .inr (.inr (some p))), (1, .inr (.inr (some s)))], [.inr (.inr (some s)), .inl yc, .inr (.inr (some (p + 3)))], (Jc, L, Ra, Y), 0, 0) (fun _ => rfl) ?_
              have r30 : Ra s 2 = some (s + 3) := by rw [hfRa s 2 (by omega), ← w2, cl_u_ne _ _ (by omega), hs.2.1.2.2.1]
              refine yi_D_gr (v := some (s + 3)) rfl rfl (Nat.ble_eq_true_of_le (by omega)) r30 (fun _ => ?_)
              refine yi_D_run 1 (111, [(2, .inl yc), (0, .inr (.inr (some p))), (1, .inr (.inr (some s)))], [.inl yc, .inr (.inr (some (s + 3))), .inl yc, .inr (.inr (some (p + 3)))], (Jc, L, Ra, Y), 0, 0) (fun _ => rfl) ?_
              have r31 : Jc (s + 3) (yc.toNat) = I (s + 3) (yc.toNat) := by rw [hfJc (s + 3) (yc.toNat) (by omega), hfJb (s + 3) (yc.toNat) (by omega), ← w10, yi_u_ne _ _ (by omega), ← w7, yi_u_ne _ _ (by omega), ← w4, yi_u_ne _ _ (by omega)]
              refine yi_D_il (v := I (s + 3) (yc.toNat)) rfl (Nat.ble_eq_true_of_le (by omega)) r31 (fun _ _ => ?_)
              refine yi_D_is rfl (fun _ _ => ?_)
              generalize w33 : yi_u Jc (p + 3) (yc.toNat) (I (s + 3) (yc.toNat)) = I32
              refine yi_D_iinc [(2, .inl (yc + 1)), (0, .inr (.inr (some p))), (1, .inr (.inr (some s)))] rfl rfl rfl (by rw [show yi_w (yc + 1) = yc + 1 from (yi_wn (by omega) (by omega)).trans (by omega)]; rfl) ?_
              refine yi_D_run 1 (92, [(2, .inl (yc + 1)), (0, .inr (.inr (some p))), (1, .inr (.inr (some s)))], [], (I32, L, Ra, Y), 0, 0) (fun _ => rfl) ?_
              exact yi_D_mono (ih92 (by omega) (yc + 1) I32 (by omega) (fun k hk => by by_cases e : (k : Int) = yc; obtain rfl : k = yc.toNat := (by omega); rw [← w33, yi_u_eq, hfJb (s + 3) yc.toNat (by omega), ← w10, yi_u_ne _ _ (by omega), ← w7, yi_u_ne _ _ (by omega), ← w4, yi_u_ne _ _ (by omega)]; rw [← w33, yi_u_ne _ _ (by omega)]; exact hvJc0 k (by omega)) (fun q k h => by rw [← w33, yi_u_ne _ _ (by omega)]; exact hfJc q k (by omega))) (by omega)
          exact pt92 j63 (Nat.le_refl _) 0 Jb (by omega) (fun k hk => absurd hk (by omega)) (fun _ _ _ => rfl)
        · refine yi_D_if2 false rfl (yi_ge_f h14) ?_
          refine yi_D_run 1 (73, [(2, .inl yb), (0, .inr (.inr (some p))), (1, .inr (.inr (some s)))], [.inr (.inr (some p))], (Jb, L, Ra, Y), 0, 0) (fun _ => rfl) ?_
          have r34 : Ra p 1 = some (p + 2) := by rw [hfRa p 1 (by omega), ← w2, cl_u_ne _ _ (by omega), hT.2.1.2.1]
          refine yi_D_gr (v := some (p + 2)) rfl rfl (Nat.ble_eq_true_of_le (by omega)) r34 (fun _ => ?_)
          refine yi_D_run 2 (78, [(2, .inl yb), (0, .inr (.inr (some p))), (1, .inr (.inr (some s)))], [.inr (.inr (some s)), .inl yb, .inr (.inr (some (p + 2)))], (Jb, L, Ra, Y), 0, 0) (fun _ => rfl) ?_
          have r35 : Ra s 1 = some (s + 2) := by rw [hfRa s 1 (by omega), ← w2, cl_u_ne _ _ (by omega), hs.2.1.2.1]
          refine yi_D_gr (v := some (s + 2)) rfl rfl (Nat.ble_eq_true_of_le (by omega)) r35 (fun _ => ?_)
          refine yi_D_run 1 (82, [(2, .inl yb), (0, .inr (.inr (some p))), (1, .inr (.inr (some s)))], [.inl yb, .inr (.inr (some (s + 2))), .inl yb, .inr (.inr (some (p + 2)))], (Jb, L, Ra, Y), 0, 0) (fun _ => rfl) ?_
          have r36 : Jb (s + 2) (yb.toNat) = I (s + 2) (yb.toNat) := by rw [hfJb (s + 2) (yb.toNat) (by omega), ← w10, yi_u_ne _ _ (by omega), ← w7, yi_u_ne _ _ (by omega), ← w4, yi_u_ne _ _ (by omega)]
          refine yi_D_il (v := I (s + 2) (yb.toNat)) rfl (Nat.ble_eq_true_of_le (by omega)) r36 (fun _ _ => ?_)
          refine yi_D_is rfl (fun _ _ => ?_)
          generalize w38 : yi_u Jb (p + 2) (yb.toNat) (I (s + 2) (yb.toNat)) = I37
          refine yi_D_iinc [(2, .inl (yb + 1)), (0, .inr (.inr (some p))), (1, .inr (.inr (some s)))] rfl rfl rfl (by rw [show yi_w (yb + 1) = yb + 1 from (yi_wn (by omega) (by omega)).trans (by omega)]; rfl) ?_
          refine yi_D_run 1 (63, [(2, .inl (yb + 1)), (0, .inr (.inr (some p))), (1, .inr (.inr (some s)))], [], (I37, L, Ra, Y), 0, 0) (fun _ => rfl) ?_
          exact yi_D_mono (ih63 (by omega) (yb + 1) I37 (by omega) (fun k hk => by by_cases e : (k : Int) = yb; obtain rfl : k = yb.toNat := (by omega); rw [← w38, yi_u_eq, ← w10, yi_u_ne _ _ (by omega), ← w7, yi_u_ne _ _ (by omega), ← w4, yi_u_ne _ _ (by omega)]; rw [← w38, yi_u_ne _ _ (by omega)]; exact hvJb0 k (by omega)) (fun q k h => by rw [← w38, yi_u_ne _ _ (by omega)]; exact hfJb q k (by omega))) (by omega)
      exact pt63 j34 (Nat.le_refl _) 0 I9 (by omega) (fun k hk => absurd hk (by omega)) (fun _ _ _ => rfl)
    · refine yi_D_if2 false rfl (yi_ge_f h12) ?_
      refine yi_D_run 1 (44, [(2, .inl ya), (0, .inr (.inr (some p))), (1, .inr (.inr (some s)))], [.inr (.inr (some p))], (I9, L, Ra, Y), 0, 0) (fun _ => rfl) ?_
      have r39 : Ra p 0 = some (p + 1) := by rw [hfRa p 0 (by omega), ← w2, cl_u_ne _ _ (by omega), hT.2.1.1]
      refine yi_D_gr (v := some (p + 1)) rfl rfl (Nat.ble_eq_true_of_le (by omega)) r39 (fun _ => ?_)
      refine yi_D_run 2 (49, [(2, .inl ya), (0, .inr (.inr (some p))), (1, .inr (.inr (some s)))], [.inr (.inr (some s)), .inl ya, .inr (.inr (some (p + 1)))], (I9, L, Ra, Y), 0, 0) (fun _ => rfl) ?_
      have r40 : Ra s 0 = some (s + 1) := by rw [hfRa s 0 (by omega), ← w2, cl_u_ne _ _ (by omega), hs.2.1.1]
      refine yi_D_gr (v := some (s + 1)) rfl rfl (Nat.ble_eq_true_of_le (by omega)) r40 (fun _ => ?_)
      refine yi_D_run 1 (53, [(2, .inl ya), (0, .inr (.inr (some p))), (1, .inr (.inr (some s)))], [.inl ya, .inr (.inr (some (s + 1))), .inl ya, .inr (.inr (some (p + 1)))], (I9, L, Ra, Y), 0, 0) (fun _ => rfl) ?_
      have r41 : Ra (s + 1) (ya.toNat) = R (s + 1) (ya.toNat) := by rw [hfRa (s + 1) (ya.toNat) (by omega), ← w2, cl_u_ne _ _ (by omega)]
      refine yi_D_rl (v := R (s + 1) (ya.toNat)) rfl (Nat.ble_eq_true_of_le (by omega)) r41 (fun _ _ => ?_)
      refine yi_D_asw rfl (fun _ _ => ?_)
      generalize w43 : cl_u Ra (p + 1) (ya.toNat) (R (s + 1) (ya.toNat)) = R42
      refine yi_D_iinc [(2, .inl (ya + 1)), (0, .inr (.inr (some p))), (1, .inr (.inr (some s)))] rfl rfl rfl (by rw [show yi_w (ya + 1) = ya + 1 from (yi_wn (by omega) (by omega)).trans (by omega)]; rfl) ?_
      refine yi_D_run 1 (34, [(2, .inl (ya + 1)), (0, .inr (.inr (some p))), (1, .inr (.inr (some s)))], [], (I9, L, R42, Y), 0, 0) (fun _ => rfl) ?_
      exact yi_D_mono (ih34 (by omega) (ya + 1) R42 (by omega) (fun k hk => by by_cases e : (k : Int) = ya; obtain rfl : k = ya.toNat := (by omega); rw [← w43, cl_u_eq, ← w2, cl_u_ne _ _ (by omega)]; rw [← w43, cl_u_ne _ _ (by omega)]; exact hvRa0 k (by omega)) (fun q k h => by rw [← w43, cl_u_ne _ _ (by omega)]; exact hfRa q k (by omega))) (by omega)
  exact pt34 k (Nat.le_refl _) 0 R1 (by omega) (fun k hk => absurd hk (by omega)) (fun _ _ _ => rfl)
theorem p_removeSaying {d : Nat} {I L : Nat → Nat → Int} {R : Nat → Nat → Option Nat} {Y : (Nat → Nat) × (Nat → Nat) × Nat} {p : Nat} (hT : sy_T R Y p) {t x : Nat} (ht : I p 6 = (t : Int)) (hx : x < t) (ht2 : t ≤ 12) : yi_P zi_Ms d 286 [.inr (.inr (some p)), .inl (x : Int)] (I, L, R, Y) (fun r => ∃ I' R', r = (none, (I', L, R', Y), 0, 0) ∧ I' p 6 = (t : Int) - 1 ∧ (∀ k, x ≤ k → k < t - 1 → R' (p + 1) k = R (p + 1) (k + 1)) ∧ (∀ q k, ¬ (q = p ∧ k = 6) → I' q k = I q k) ∧ (∀ q k, ¬ (q = p + 1 ∧ x ≤ k ∧ k < t - 1) → R' q k = R q k)) := by
  refine yi_P_of (M := zi_m286) rfl (fun d k => ?_)
  have h10p := hT.1.1
  have hNp := hT.1.2.1
  show yi_D zi_Ms d zi_m286 k (0, [(0, .inr (.inr (some p))), (1, .inl (x : Int))], [], (I, L, R, Y), 0, 0) _
  refine yi_D_run 1 (1, [(0, .inr (.inr (some p))), (1, .inl (x : Int))], [.inl (x : Int)], (I, L, R, Y), 0, 0) (fun _ => rfl) ?_
  by_cases h1 : (x : Int) < 0
  · refine yi_D_if1 true rfl (yi_lt_t h1) ?_
    refine yi_D_retv rfl ?_
    exfalso; omega
  · refine yi_D_if1 false rfl (yi_lt_f h1) ?_
    refine yi_D_run 2 (6, [(0, .inr (.inr (some p))), (1, .inl (x : Int))], [.inr (.inr (some p)), .inl (x : Int)], (I, L, R, Y), 0, 0) (fun _ => rfl) ?_
    refine yi_D_gi (v := (t : Int)) rfl rfl (Nat.ble_eq_true_of_le (by omega)) ht (fun _ => ?_)
    by_cases h2 : (t : Int) ≤ (x : Int)
    · refine yi_D_if2 true rfl (yi_ge_t h2) ?_
      refine yi_D_retv rfl ?_
      exfalso; omega
    · refine yi_D_if2 false rfl (yi_ge_f h2) ?_
      refine yi_D_run 1 (13, [(0, .inr (.inr (some p))), (1, .inl (x : Int))], [.inr (.inr (some p))], (I, L, R, Y), 0, 0) (fun _ => rfl) ?_
      refine yi_D_gi (v := (t : Int)) rfl rfl (Nat.ble_eq_true_of_le (by omega)) ht (fun _ => ?_)
      refine yi_D_run 1 (17, [(0, .inr (.inr (some p))), (1, .inl (x : Int))], [.inr (.inr (some p)), .inl (t : Int)], (I, L, R, Y), 0, 0) (fun _ => rfl) ?_
      refine yi_D_gr (v := some (p + 1)) rfl rfl (Nat.ble_eq_true_of_le (by omega)) hT.2.1.1 (fun _ => ?_)
      refine yi_D_len (v := 12) rfl (Nat.ble_eq_true_of_le (by omega)) (by rw [hT.2.2.1]; rfl) ?_
      by_cases h3 : (t : Int) ≤ 12
      · refine yi_D_if2 true rfl (yi_le_t h3) ?_
        refine yi_D_run 2 (27, [(2, .inl (x : Int)), (0, .inr (.inr (some p))), (1, .inl (x : Int))], [], (I, L, R, Y), 0, 0) (fun _ => rfl) ?_
        have pt27 : ∀ j27, j27 ≤ k → ∀ (y2 : Int) (R1 : Nat → Nat → Option Nat), ((x : Int) ≤ y2 ∧ y2 ≤ (t : Int) - 1) → (∀ k : Nat, x ≤ k → (k : Int) < y2 → R1 (p + 1) k = R (p + 1) (k + 1)) → (∀ q k : Nat, ¬ (q = p + 1 ∧ (x : Int) ≤ (k : Int) ∧ (k : Int) < y2) → R1 q k = R q k) → yi_D zi_Ms d zi_m286 j27 (27, [(2, .inl y2), (0, .inr (.inr (some p))), (1, .inl (x : Int))], [], (I, L, R1, Y), 0, 0) (fun r => ∃ I' R', r = (none, (I', L, R', Y), 0, 0) ∧ I' p 6 = (t : Int) - 1 ∧ (∀ k, x ≤ k → k < t - 1 → R' (p + 1) k = R (p + 1) (k + 1)) ∧ (∀ q k, ¬ (q = p ∧ k = 6) → I' q k = I q k) ∧ (∀ q k, ¬ (q = p + 1 ∧ x ≤ k ∧ k < t - 1) → R' q k = R q k)) := by
          intro j27
          induction j27 with
          | zero => intros; exact yi_D_0
          | succ j27 ih27 =>
          intro hk27 y2 R1 hy hvR hfR
          refine yi_D_run1 1 (29, [(2, .inl y2), (0, .inr (.inr (some p))), (1, .inl (x : Int))], [.inl 1, .inl y2], (I, L, R1, Y), 0, 0) (fun _ => rfl) ?_
          refine yi_D_iadd rfl (y2 + 1) (yi_wn (by omega) (by omega)) ?_
          refine yi_D_run 1 (31, [(2, .inl y2), (0, .inr (.inr (some p))), (1, .inl (x : Int))], [.inr (.inr (some p)), .inl (y2 + 1)], (I, L, R1, Y), 0, 0) (fun _ => rfl) ?_
          refine yi_D_gi (v := (t : Int)) rfl rfl (Nat.ble_eq_true_of_le (by omega)) ht (fun _ => ?_)
          by_cases h4 : (t : Int) ≤ (y2 + 1)
          · refine yi_D_if2 true rfl (yi_ge_t h4) ?_
            refine yi_D_run 2 (59, [(2, .inl y2), (0, .inr (.inr (some p))), (1, .inl (x : Int))], [.inr (.inr (some p)), .inr (.inr (some p))], (I, L, R1, Y), 0, 0) (fun _ => rfl) ?_
            refine yi_D_gi (v := (t : Int)) rfl rfl (Nat.ble_eq_true_of_le (by omega)) ht (fun _ => ?_)
            refine yi_D_run 1 (63, [(2, .inl y2), (0, .inr (.inr (some p))), (1, .inl (x : Int))], [.inl 1, .inl (t : Int), .inr (.inr (some p))], (I, L, R1, Y), 0, 0) (fun _ => rfl) ?_
            refine yi_D_isub rfl ((t : Int) - 1) (yi_wn (by omega) (by omega)) ?_
            refine yi_D_pi rfl (fun _ => ?_)
            generalize w6 : yi_u I p 6 ((t : Int) - 1) = I5
            refine yi_D_retv rfl ?_
            have hy2 : y2 = (t : Int) - 1 := by omega
            refine ⟨_, _, rfl, by rw [← w6, yi_u_eq], fun k h1 h2 => hvR k (by omega) (by omega), fun q k h => by rw [← w6, yi_u_ne _ _ h], fun q k h => hfR q k (by omega)⟩
          · refine yi_D_if2 false rfl (yi_ge_f h4) ?_
            refine yi_D_run 1 (38, [(2, .inl y2), (0, .inr (.inr (some p))), (1, .inl (x : Int))], [.inr (.inr (some p))], (I, L, R1, Y), 0, 0) (fun _ => rfl) ?_
            have r7 : R1 p 0 = some (p + 1) := by rw [hfR p 0 (by omega), hT.2.1.1]
            refine yi_D_gr (v := some (p + 1)) rfl rfl (Nat.ble_eq_true_of_le (by omega)) r7 (fun _ => ?_)
            refine yi_D_run 2 (43, [(2, .inl y2), (0, .inr (.inr (some p))), (1, .inl (x : Int))], [.inr (.inr (some p)), .inl y2, .inr (.inr (some (p + 1)))], (I, L, R1, Y), 0, 0) (fun _ => rfl) ?_
            have r8 : R1 p 0 = some (p + 1) := by rw [hfR p 0 (by omega), hT.2.1.1]
            refine yi_D_gr (v := some (p + 1)) rfl rfl (Nat.ble_eq_true_of_le (by omega)) r8 (fun _ => ?_)
            refine yi_D_run 2 (48, [(2, .inl y2), (0, .inr (.inr (some p))), (1, .inl (x : Int))], [.inl 1, .inl y2, .inr (.inr (some (p + 1))), .inl y2, .inr (.inr (some (p + 1)))], (I, L, R1, Y), 0, 0) (fun _ => rfl) ?_
            refine yi_D_iadd rfl (y2 + 1) (yi_wn (by omega) (by omega)) ?_
            have r9 : R1 (p + 1) ((y2 + 1).toNat) = R (p + 1) ((y2 + 1).toNat) := by rw [hfR (p + 1) ((y2 + 1).toNat) (by omega)]
            refine yi_D_rl (v := R (p + 1) ((y2 + 1).toNat)) rfl (Nat.ble_eq_true_of_le (by omega)) r9 (fun _ _ => ?_)
            refine yi_D_asw rfl (fun _ _ => ?_)
            generalize w11 : cl_u R1 (p + 1) (y2.toNat) (R (p + 1) ((y2 + 1).toNat)) = R10
            refine yi_D_iinc [(2, .inl (y2 + 1)), (0, .inr (.inr (some p))), (1, .inl (x : Int))] rfl rfl rfl (by rw [show yi_w (y2 + 1) = y2 + 1 from (yi_wn (by omega) (by omega)).trans (by omega)]; rfl) ?_
            refine yi_D_run 1 (27, [(2, .inl (y2 + 1)), (0, .inr (.inr (some p))), (1, .inl (x : Int))], [], (I, L, R10, Y), 0, 0) (fun _ => rfl) ?_
            exact yi_D_mono (ih27 (by omega) (y2 + 1) R10 (by omega) (fun k h1 h2 => by by_cases e : (k : Int) = y2; obtain rfl : k = y2.toNat := (by omega); rw [← w11, cl_u_eq, show (y2 + 1).toNat = y2.toNat + 1 by omega]; rw [← w11, cl_u_ne _ _ (by omega)]; exact hvR k h1 (by omega)) (fun q k h => by rw [← w11, cl_u_ne _ _ (by omega)]; exact hfR q k (by omega))) (by omega)
        exact pt27 k (Nat.le_refl _) (x : Int) R (by omega) (fun k h1 h2 => by omega) (fun q k h => rfl)
      · refine yi_D_if2 false rfl (yi_le_f h3) ?_
        refine yi_D_retv rfl ?_
        exfalso; omega
theorem p_setCame {d : Nat} {I L : Nat → Nat → Int} {R : Nat → Nat → Option Nat} {Y : (Nat → Nat) × (Nat → Nat) × Nat} {p : Nat} (hT : sy_T R Y p) {t x n : Nat} {e : Int} (ht : I p 7 = (t : Int)) (ht2 : 1 ≤ t ∧ t ≤ 6) (hx : x < 4) (hn : n ≤ 4) : yi_P zi_Ms d 289 [.inr (.inr (some p)), .inl (x : Int), .inl e, .inl (n : Int)] (I, L, R, Y) (fun r => ∃ I', r = (none, (I', L, R, Y), 0, 0) ∧ I' (p + 3) (4 * (t - 1) + x) = e ∧ (((∀ j : Nat, j < n → ¬ I' (p + 3) (4 * (t - 1) + j) = -1) ∧ I' p 7 = (t : Int) + 1) ∨ (¬ (∀ j : Nat, j < n → ¬ I' (p + 3) (4 * (t - 1) + j) = -1) ∧ I' p 7 = (t : Int))) ∧ ∀ q k, ¬ (q = p ∧ k = 7) ∧ ¬ (q = p + 3 ∧ k = 4 * (t - 1) + x) → I' q k = I q k) := by
  refine yi_P_of (M := zi_m289) rfl (fun d k => ?_)
  have h10p := hT.1.1
  have hNp := hT.1.2.1
  have hci : (4 * ((t : Int) - 1) + (x : Int)).toNat = 4 * (t - 1) + x := by omega
  show yi_D zi_Ms d zi_m289 k (0, [(0, .inr (.inr (some p))), (1, .inl (x : Int)), (2, .inl e), (3, .inl (n : Int))], [], (I, L, R, Y), 0, 0) _
  refine yi_D_run 2 (2, [(0, .inr (.inr (some p))), (1, .inl (x : Int)), (2, .inl e), (3, .inl (n : Int))], [.inr (.inr (some p)), .inl (x : Int)], (I, L, R, Y), 0, 0) (fun _ => rfl) ?_
  refine yi_D_gi (v := (t : Int)) rfl rfl (Nat.ble_eq_true_of_le (by omega)) ht (fun _ => ?_)
  refine yi_D_calls rfl (p_cameIndex (x := (x : Int)) (y := (t : Int))) ?_
  rintro _ rfl
  rw [if_pos (by omega)]
  show yi_D zi_Ms d zi_m289 k (8, [(0, .inr (.inr (some p))), (1, .inl (x : Int)), (2, .inl e), (3, .inl (n : Int))], [.inl (4 * ((t : Int) - 1) + (x : Int))], (I, L, R, Y), 0, 0) _
  refine yi_D_run 3 (13, [(4, .inl (4 * ((t : Int) - 1) + (x : Int))), (0, .inr (.inr (some p))), (1, .inl (x : Int)), (2, .inl e), (3, .inl (n : Int))], [.inl (-1), .inl (4 * ((t : Int) - 1) + (x : Int))], (I, L, R, Y), 0, 0) (fun _ => rfl) ?_
  by_cases h1 : (4 * ((t : Int) - 1) + (x : Int)) = (-1)
  · refine yi_D_if2 false rfl (yi_ne_f h1) ?_
    refine yi_D_retv rfl ?_
    exfalso; omega
  · refine yi_D_if2 true rfl (yi_ne_t h1) ?_
    refine yi_D_run 1 (18, [(4, .inl (4 * ((t : Int) - 1) + (x : Int))), (0, .inr (.inr (some p))), (1, .inl (x : Int)), (2, .inl e), (3, .inl (n : Int))], [.inr (.inr (some p))], (I, L, R, Y), 0, 0) (fun _ => rfl) ?_
    refine yi_D_gr (v := some (p + 3)) rfl rfl (Nat.ble_eq_true_of_le (by omega)) hT.2.1.2.2.1 (fun _ => ?_)
    refine yi_D_run 2 (24, [(4, .inl (4 * ((t : Int) - 1) + (x : Int))), (0, .inr (.inr (some p))), (1, .inl (x : Int)), (2, .inl e), (3, .inl (n : Int))], [.inl e, .inl (4 * ((t : Int) - 1) + (x : Int)), .inr (.inr (some (p + 3)))], (I, L, R, Y), 0, 0) (fun _ => rfl) ?_
    refine yi_D_is rfl (fun _ _ => ?_)
    generalize w3 : yi_u I (p + 3) ((4 * ((t : Int) - 1) + (x : Int)).toNat) e = I2
    refine yi_D_run 4 (31, [(6, .inl 0), (5, .inl 1), (4, .inl (4 * ((t : Int) - 1) + (x : Int))), (0, .inr (.inr (some p))), (1, .inl (x : Int)), (2, .inl e), (3, .inl (n : Int))], [], (I2, L, R, Y), 0, 0) (fun _ => rfl) ?_
    have pt31 : ∀ j31, j31 ≤ k → ∀ (y6 : Int) (y5 : Int), (0 ≤ y6 ∧ y6 ≤ (n : Int)) → ((y5 = 1 ∧ (∀ j : Nat, (j : Int) < y6 → ¬ I2 (p + 3) (4 * (t - 1) + j) = -1)) ∨ (y5 = 0 ∧ ¬ (∀ j : Nat, (j : Int) < y6 → ¬ I2 (p + 3) (4 * (t - 1) + j) = -1))) → yi_D zi_Ms d zi_m289 j31 (31, [(6, .inl y6), (5, .inl y5), (4, .inl (4 * ((t : Int) - 1) + (x : Int))), (0, .inr (.inr (some p))), (1, .inl (x : Int)), (2, .inl e), (3, .inl (n : Int))], [], (I2, L, R, Y), 0, 0) (fun r => ∃ I', r = (none, (I', L, R, Y), 0, 0) ∧ I' (p + 3) (4 * (t - 1) + x) = e ∧ (((∀ j : Nat, j < n → ¬ I' (p + 3) (4 * (t - 1) + j) = -1) ∧ I' p 7 = (t : Int) + 1) ∨ (¬ (∀ j : Nat, j < n → ¬ I' (p + 3) (4 * (t - 1) + j) = -1) ∧ I' p 7 = (t : Int))) ∧ ∀ q k, ¬ (q = p ∧ k = 7) ∧ ¬ (q = p + 3 ∧ k = 4 * (t - 1) + x) → I' q k = I q k) := by
      intro j31
      induction j31 with
      | zero => intros; exact yi_D_0
      | succ j31 ih31 =>
      intro hk31 y6 y5 hy hz
      refine yi_D_run1 1 (34, [(6, .inl y6), (5, .inl y5), (4, .inl (4 * ((t : Int) - 1) + (x : Int))), (0, .inr (.inr (some p))), (1, .inl (x : Int)), (2, .inl e), (3, .inl (n : Int))], [.inl (n : Int), .inl y6], (I2, L, R, Y), 0, 0) (fun _ => rfl) ?_
      by_cases h4 : (n : Int) ≤ y6
      · refine yi_D_if2 true rfl (yi_ge_t h4) ?_
        refine yi_D_run 1 (71, [(6, .inl y6), (5, .inl y5), (4, .inl (4 * ((t : Int) - 1) + (x : Int))), (0, .inr (.inr (some p))), (1, .inl (x : Int)), (2, .inl e), (3, .inl (n : Int))], [.inl y5], (I2, L, R, Y), 0, 0) (fun _ => rfl) ?_
        by_cases h5 : y5 = 0
        · refine yi_D_if1 true rfl (yi_eq_t h5) ?_
          refine yi_D_retv rfl ?_
          have hn6 : y6.toNat = n := by omega
          refine ⟨_, rfl, by rw [← w3, ← hci]; exact yi_u_eq .., ?_, fun q k h => by rw [← w3, yi_u_ne _ _ (by omega)]⟩
          refine Or.inr ⟨fun h => ?_, by rw [← w3, yi_u_ne _ _ (by omega)]; exact ht⟩
          rcases hz with ⟨h5, h6⟩ | ⟨h5, h6⟩
          · exfalso; omega
          · exact h6 (fun j hj => h j (by omega))
        · refine yi_D_if1 false rfl (yi_eq_f h5) ?_
          refine yi_D_run 2 (76, [(6, .inl y6), (5, .inl y5), (4, .inl (4 * ((t : Int) - 1) + (x : Int))), (0, .inr (.inr (some p))), (1, .inl (x : Int)), (2, .inl e), (3, .inl (n : Int))], [.inr (.inr (some p)), .inr (.inr (some p))], (I2, L, R, Y), 0, 0) (fun _ => rfl) ?_
          have r6 : I2 p 7 = (t : Int) := by rw [← w3, yi_u_ne _ _ (by omega), ht]
          refine yi_D_gi (v := (t : Int)) rfl rfl (Nat.ble_eq_true_of_le (by omega)) r6 (fun _ => ?_)
          refine yi_D_run 1 (80, [(6, .inl y6), (5, .inl y5), (4, .inl (4 * ((t : Int) - 1) + (x : Int))), (0, .inr (.inr (some p))), (1, .inl (x : Int)), (2, .inl e), (3, .inl (n : Int))], [.inl 1, .inl (t : Int), .inr (.inr (some p))], (I2, L, R, Y), 0, 0) (fun _ => rfl) ?_
          refine yi_D_iadd rfl ((t : Int) + 1) (yi_wn (by omega) (by omega)) ?_
          refine yi_D_pi rfl (fun _ => ?_)
          generalize w8 : yi_u I2 p 7 ((t : Int) + 1) = I7
          refine yi_D_retv rfl ?_
          have hn6 : y6.toNat = n := by omega
          refine ⟨_, rfl, by rw [← w8, yi_u_ne _ _ (by omega), ← w3, ← hci]; exact yi_u_eq .., ?_, fun q k h => by rw [← w8, yi_u_ne _ _ (by omega), ← w3, yi_u_ne _ _ (by omega)]⟩
          refine Or.inl ⟨fun j hj => ?_, by rw [← w8, yi_u_eq]⟩
          rw [← w8, yi_u_ne _ _ (by omega)]
          rcases hz with ⟨h5, h6⟩ | ⟨h5, h6⟩
          · exact h6 j (by omega)
          · exfalso; omega
      · refine yi_D_if2 false rfl (yi_ge_f h4) ?_
        refine yi_D_run 1 (39, [(6, .inl y6), (5, .inl y5), (4, .inl (4 * ((t : Int) - 1) + (x : Int))), (0, .inr (.inr (some p))), (1, .inl (x : Int)), (2, .inl e), (3, .inl (n : Int))], [.inl y5], (I2, L, R, Y), 0, 0) (fun _ => rfl) ?_
        by_cases h9 : y5 = 0
        · refine yi_D_if1 true rfl (yi_eq_t h9) ?_
          refine yi_D_run 2 (63, [(5, .inl 0), (6, .inl y6), (4, .inl (4 * ((t : Int) - 1) + (x : Int))), (0, .inr (.inr (some p))), (1, .inl (x : Int)), (2, .inl e), (3, .inl (n : Int))], [], (I2, L, R, Y), 0, 0) (fun _ => rfl) ?_
          refine yi_D_iinc [(6, .inl (y6 + 1)), (5, .inl 0), (4, .inl (4 * ((t : Int) - 1) + (x : Int))), (0, .inr (.inr (some p))), (1, .inl (x : Int)), (2, .inl e), (3, .inl (n : Int))] rfl rfl rfl (by rw [show yi_w (y6 + 1) = y6 + 1 from (yi_wn (by omega) (by omega)).trans (by omega)]; rfl) ?_
          refine yi_D_run 1 (31, [(6, .inl (y6 + 1)), (5, .inl 0), (4, .inl (4 * ((t : Int) - 1) + (x : Int))), (0, .inr (.inr (some p))), (1, .inl (x : Int)), (2, .inl e), (3, .inl (n : Int))], [], (I2, L, R, Y), 0, 0) (fun _ => rfl) ?_
          exact yi_D_mono (ih31 (by omega) (y6 + 1) 0 (by omega) (Or.inr ⟨rfl, fun h => by rcases hz with ⟨h5, h6⟩ | ⟨h5, h6⟩; (first | (exact absurd (by assumption) (h y6.toNat (by omega))) | (exfalso; omega)); (first | exact h6 (fun j hj => h j (by omega)) | (exfalso; omega))⟩)) (by omega)
        · refine yi_D_if1 false rfl (yi_eq_f h9) ?_
          refine yi_D_run 3 (46, [(6, .inl y6), (5, .inl y5), (4, .inl (4 * ((t : Int) - 1) + (x : Int))), (0, .inr (.inr (some p))), (1, .inl (x : Int)), (2, .inl e), (3, .inl (n : Int))], [.inr (.inr (some p)), .inl y6, .inr (.inr (some p))], (I2, L, R, Y), 0, 0) (fun _ => rfl) ?_
          have r10 : I2 p 7 = (t : Int) := by rw [← w3, yi_u_ne _ _ (by omega), ht]
          refine yi_D_gi (v := (t : Int)) rfl rfl (Nat.ble_eq_true_of_le (by omega)) r10 (fun _ => ?_)
          refine yi_D_callv rfl (p_cameOf hT) ?_
          rintro _ rfl
          rw [if_pos (by omega), show (4 * ((t : Int) - 1) + y6).toNat = 4 * (t - 1) + (y6).toNat by omega]
          show yi_D zi_Ms d zi_m289 j31 (52, [(6, .inl y6), (5, .inl y5), (4, .inl (4 * ((t : Int) - 1) + (x : Int))), (0, .inr (.inr (some p))), (1, .inl (x : Int)), (2, .inl e), (3, .inl (n : Int))], [.inl (I2 (p + 3) (4 * (t - 1) + (y6).toNat))], (I2, L, R, Y), 0, 0) _
          refine yi_D_run 1 (53, [(6, .inl y6), (5, .inl y5), (4, .inl (4 * ((t : Int) - 1) + (x : Int))), (0, .inr (.inr (some p))), (1, .inl (x : Int)), (2, .inl e), (3, .inl (n : Int))], [.inl (-1), .inl (I2 (p + 3) (4 * (t - 1) + (y6).toNat))], (I2, L, R, Y), 0, 0) (fun _ => rfl) ?_
          by_cases h11 : (I2 (p + 3) (4 * (t - 1) + (y6).toNat)) = (-1)
          · refine yi_D_if2 true rfl (yi_eq_t h11) ?_
            refine yi_D_run 2 (63, [(5, .inl 0), (6, .inl y6), (4, .inl (4 * ((t : Int) - 1) + (x : Int))), (0, .inr (.inr (some p))), (1, .inl (x : Int)), (2, .inl e), (3, .inl (n : Int))], [], (I2, L, R, Y), 0, 0) (fun _ => rfl) ?_
            refine yi_D_iinc [(6, .inl (y6 + 1)), (5, .inl 0), (4, .inl (4 * ((t : Int) - 1) + (x : Int))), (0, .inr (.inr (some p))), (1, .inl (x : Int)), (2, .inl e), (3, .inl (n : Int))] rfl rfl rfl (by rw [show yi_w (y6 + 1) = y6 + 1 from (yi_wn (by omega) (by omega)).trans (by omega)]; rfl) ?_
            refine yi_D_run 1 (31, [(6, .inl (y6 + 1)), (5, .inl 0), (4, .inl (4 * ((t : Int) - 1) + (x : Int))), (0, .inr (.inr (some p))), (1, .inl (x : Int)), (2, .inl e), (3, .inl (n : Int))], [], (I2, L, R, Y), 0, 0) (fun _ => rfl) ?_
            exact yi_D_mono (ih31 (by omega) (y6 + 1) 0 (by omega) (Or.inr ⟨rfl, fun h => by rcases hz with ⟨h5, h6⟩ | ⟨h5, h6⟩; (first | (exact absurd (by assumption) (h y6.toNat (by omega))) | (exfalso; omega)); (first | exact h6 (fun j hj => h j (by omega)) | (exfalso; omega))⟩)) (by omega)
          · refine yi_D_if2 false rfl (yi_eq_f h11) ?_
            refine yi_D_run 3 (63, [(5, .inl 1), (6, .inl y6), (4, .inl (4 * ((t : Int) - 1) + (x : Int))), (0, .inr (.inr (some p))), (1, .inl (x : Int)), (2, .inl e), (3, .inl (n : Int))], [], (I2, L, R, Y), 0, 0) (fun _ => rfl) ?_
            refine yi_D_iinc [(6, .inl (y6 + 1)), (5, .inl 1), (4, .inl (4 * ((t : Int) - 1) + (x : Int))), (0, .inr (.inr (some p))), (1, .inl (x : Int)), (2, .inl e), (3, .inl (n : Int))] rfl rfl rfl (by rw [show yi_w (y6 + 1) = y6 + 1 from (yi_wn (by omega) (by omega)).trans (by omega)]; rfl) ?_
            refine yi_D_run 1 (31, [(6, .inl (y6 + 1)), (5, .inl 1), (4, .inl (4 * ((t : Int) - 1) + (x : Int))), (0, .inr (.inr (some p))), (1, .inl (x : Int)), (2, .inl e), (3, .inl (n : Int))], [], (I2, L, R, Y), 0, 0) (fun _ => rfl) ?_
            exact yi_D_mono (ih31 (by omega) (y6 + 1) 1 (by omega) (Or.inl ⟨rfl, fun j hj => by rcases hz with ⟨h5, h6⟩ | ⟨h5, h6⟩; by_cases e : (j : Int) = y6; obtain rfl : j = y6.toNat := (by omega); assumption; exact h6 j (by omega); exfalso; omega⟩)) (by omega)
    exact pt31 k (Nat.le_refl _) 0 1 (by omega) (Or.inl ⟨rfl, fun j hj => absurd hj (by omega)⟩)
theorem p_fillI {d : Nat} {I L : Nat → Nat → Int} {R : Nat → Nat → Option Nat} {Y : (Nat → Nat) × (Nat → Nat) × Nat} {c : Nat} {v : Int} (hc : 10 ≤ c ∧ Y.2.1 c ≤ 1000000) : yi_P zi_Ms d 331 [.inr (.inr (some c)), .inl v] (I, L, R, Y) (fun r => ∃ I', r = (none, (I', L, R, Y), 0, 0) ∧ (∀ k, k < Y.2.1 c → I' c k = v) ∧ (∀ q k, ¬ (q = c ∧ k < Y.2.1 c) → I' q k = I q k)) := by
  refine yi_P_of (M := zi_m331) rfl (fun d k => ?_)
  show yi_D zi_Ms d zi_m331 k (0, [(0, .inr (.inr (some c))), (1, .inl v)], [], (I, L, R, Y), 0, 0) _
  refine yi_D_run 3 (3, [(2, .inl 0), (0, .inr (.inr (some c))), (1, .inl v)], [.inr (.inr (some c))], (I, L, R, Y), 0, 0) (fun _ => rfl) ?_
  refine yi_D_len (v := (Y.2.1 c : Int)) rfl (Nat.ble_eq_true_of_le (by omega)) rfl ?_
  refine yi_D_run 1 (5, [(3, .inl (Y.2.1 c : Int)), (2, .inl 0), (0, .inr (.inr (some c))), (1, .inl v)], [], (I, L, R, Y), 0, 0) (fun _ => rfl) ?_
  have pt5 : ∀ j5, j5 ≤ k → ∀ (y3 : Int) (G1 : Nat → Nat → Int), (0 ≤ y3 ∧ y3 ≤ (Y.2.1 c : Int)) → (G1 = cf_w I c y3.toNat (fun _ => v)) → yi_D zi_Ms d zi_m331 j5 (5, [(3, .inl (Y.2.1 c : Int)), (2, .inl y3), (0, .inr (.inr (some c))), (1, .inl v)], [], (G1, L, R, Y), 0, 0) (fun r => ∃ I', r = (none, (I', L, R, Y), 0, 0) ∧ (∀ k, k < Y.2.1 c → I' c k = v) ∧ (∀ q k, ¬ (q = c ∧ k < Y.2.1 c) → I' q k = I q k)) := by
    intro j5
    induction j5 with
    | zero => intros; exact yi_D_0
    | succ j5 ih5 =>
    intro hk5 y3 G1 hy hG
    refine yi_D_run1 1 (7, [(3, .inl (Y.2.1 c : Int)), (2, .inl y3), (0, .inr (.inr (some c))), (1, .inl v)], [.inl (Y.2.1 c : Int), .inl y3], (G1, L, R, Y), 0, 0) (fun _ => rfl) ?_
    by_cases h1 : (Y.2.1 c : Int) ≤ y3
    · refine yi_D_if2 true rfl (yi_ge_t h1) ?_
      refine yi_D_retv rfl ?_
      have hn2 : y3.toNat = Y.2.1 c := by omega
      exact ⟨_, rfl, fun k hk => by rw [hG, hn2]; exact cf_w_i _ _ hk, fun q k h => by rw [hG, hn2]; exact cf_w_o _ _ h⟩
    · refine yi_D_if2 false rfl (yi_ge_f h1) ?_
      refine yi_D_run 3 (13, [(3, .inl (Y.2.1 c : Int)), (2, .inl y3), (0, .inr (.inr (some c))), (1, .inl v)], [.inl v, .inl y3, .inr (.inr (some c))], (G1, L, R, Y), 0, 0) (fun _ => rfl) ?_
      refine yi_D_is rfl (fun _ _ => ?_)
      generalize w3 : yi_u G1 c (y3.toNat) v = I2
      refine yi_D_iinc [(2, .inl (y3 + 1)), (3, .inl (Y.2.1 c : Int)), (0, .inr (.inr (some c))), (1, .inl v)] rfl rfl rfl (by rw [show yi_w (y3 + 1) = y3 + 1 from (yi_wn (by omega) (by omega)).trans (by omega)]; rfl) ?_
      refine yi_D_run 1 (5, [(2, .inl (y3 + 1)), (3, .inl (Y.2.1 c : Int)), (0, .inr (.inr (some c))), (1, .inl v)], [], (I2, L, R, Y), 0, 0) (fun _ => rfl) ?_
      refine yi_D_al (al := [(3, .inl (Y.2.1 c : Int)), (2, .inl (y3 + 1)), (0, .inr (.inr (some c))), (1, .inl v)]) (show ([3, 2, 0, 1] : List Nat).Nodup by decide) (show ([2, 3, 0, 1] : List Nat).Nodup by decide) (yi_mc (List.mem_of_getElem? (i := 1) rfl) (yi_mc (List.mem_of_getElem? (i := 0) rfl) (yi_mc (List.mem_of_getElem? (i := 2) rfl) (yi_mc (List.mem_of_getElem? (i := 3) rfl) yi_mn)))) ?_
      exact yi_D_mono (ih5 (by omega) (y3 + 1) I2 (by omega) (by rw [← w3, hG, show (y3 + 1).toNat = y3.toNat + 1 by omega]; exact cf_w_s rfl)) (by omega)
  exact pt5 k (Nat.le_refl _) 0 I (by omega) (cf_w_0 _ _ _).symm
theorem p_initStory {d : Nat} {I L : Nat → Nat → Int} {R : Nat → Nat → Option Nat} {Y : (Nat → Nat) × (Nat → Nat) × Nat} {p : Nat} (hp : 10 ≤ p) (hY : Y.2.2 = p + 1) (h9 : Y.1 p = 9) : yi_P zi_Ms d 274 [.inr (.inr (some p))] (I, L, R, Y) (fun r => ∃ I' L' R' Y' nc ns, r = (none, (I', L', R', Y'), nc, ns) ∧ sy_T R' Y' p ∧ (∀ q k, q < p → I' q k = I q k ∧ L' q k = L q k ∧ R' q k = R q k) ∧ Y'.2.2 = p + 6 ∧ (∀ q, q < p → Y'.1 q = Y.1 q ∧ Y'.2.1 q = Y.2.1 q) ∧ (∀ q k x, p < q → q < Y'.2.2 → R' q k = some x → False)) := by
  refine yi_P_of (M := zi_m274) rfl (fun d k => ?_)
  show yi_D zi_Ms d zi_m274 k (0, [(0, .inr (.inr (some p)))], [], (I, L, R, Y), 0, 0) _
  refine yi_D_run 4 (7, [(0, .inr (.inr (some p)))], [.inl 12, .inr (.inr (some p))], (I, L, R, Y), 0, 0) (fun _ => rfl) ?_
  refine yi_D_nwb3 rfl (fun q1 I2 L3 R4 Y5 m6 mk7 mn8 ml9 my10 => ?_)
  obtain ⟨k11, k12, k13, k14, k15, k16⟩ := mk7
  have q1q : q1 = Y.2.2 := k11
  have q1n := k16
  refine yi_D_prw rfl (fun _ => ?_)
  generalize w18 : cl_u R4 p 0 (some q1) = R17
  refine yi_D_run 2 (15, [(0, .inr (.inr (some p)))], [.inl 5, .inr (.inr (some p))], (I2, L3, R17, Y5), (0 + 1), m6) (fun _ => rfl) ?_
  refine yi_D_nwa3 rfl (fun q19 I20 L21 R22 Y23 m24 mk25 mn26 ml27 my28 => ?_)
  obtain ⟨k29, k30, k31, k32, k33, k34⟩ := mk25
  have q19q : q19 = Y5.2.2 := k29
  have q19n := k34
  refine yi_D_prw rfl (fun _ => ?_)
  generalize w36 : cl_u R22 p 1 (some q19) = R35
  refine yi_D_run 2 (23, [(0, .inr (.inr (some p)))], [.inl 24, .inr (.inr (some p))], (I20, L21, R35, Y23), ((0 + 1) + 1), m24) (fun _ => rfl) ?_
  refine yi_D_nwa3 rfl (fun q37 I38 L39 R40 Y41 m42 mk43 mn44 ml45 my46 => ?_)
  obtain ⟨k47, k48, k49, k50, k51, k52⟩ := mk43
  have q37q : q37 = Y23.2.2 := k47
  have q37n := k52
  refine yi_D_prw rfl (fun _ => ?_)
  generalize w54 : cl_u R40 p 2 (some q37) = R53
  refine yi_D_run 2 (31, [(0, .inr (.inr (some p)))], [.inl 20, .inr (.inr (some p))], (I38, L39, R53, Y41), (((0 + 1) + 1) + 1), m42) (fun _ => rfl) ?_
  refine yi_D_nwa3 rfl (fun q55 I56 L57 R58 Y59 m60 mk61 mn62 ml63 my64 => ?_)
  obtain ⟨k65, k66, k67, k68, k69, k70⟩ := mk61
  have q55q : q55 = Y41.2.2 := k65
  have q55n := k70
  refine yi_D_prw rfl (fun _ => ?_)
  generalize w72 : cl_u R58 p 3 (some q55) = R71
  refine yi_D_run 2 (39, [(0, .inr (.inr (some p)))], [.inl 20, .inr (.inr (some p))], (I56, L57, R71, Y59), ((((0 + 1) + 1) + 1) + 1), m60) (fun _ => rfl) ?_
  refine yi_D_nwa3 rfl (fun q73 I74 L75 R76 Y77 m78 mk79 mn80 ml81 my82 => ?_)
  obtain ⟨k83, k84, k85, k86, k87, k88⟩ := mk79
  have q73q : q73 = Y59.2.2 := k83
  have q73n := k88
  refine yi_D_prw rfl (fun _ => ?_)
  generalize w90 : cl_u R76 p 4 (some q73) = R89
  refine yi_D_run 2 (46, [(0, .inr (.inr (some p)))], [.inl 1, .inr (.inr (some p))], (I74, L75, R89, Y77), (((((0 + 1) + 1) + 1) + 1) + 1), m78) (fun _ => rfl) ?_
  refine yi_D_pi rfl (fun _ => ?_)
  generalize w92 : yi_u I74 p 7 1 = I91
  refine yi_D_run 1 (50, [(0, .inr (.inr (some p)))], [.inr (.inr (some p))], (I91, L75, R89, Y77), (((((0 + 1) + 1) + 1) + 1) + 1), m78) (fun _ => rfl) ?_
  have r93 : R89 p 2 = some q37 := by rw [← w90, cl_u_ne _ _ (by omega), (fun p k hp => (k84 p k hp).2.2) p 2 (by omega), ← w72, cl_u_ne _ _ (by omega), (fun p k hp => (k66 p k hp).2.2) p 2 (by omega), ← w54, cl_u_eq]
  refine yi_D_gr (v := some q37) rfl rfl (Nat.ble_eq_true_of_le (by omega)) r93 (fun _ => ?_)
  refine yi_D_run 1 (54, [(0, .inr (.inr (some p)))], [.inl (-1), .inr (.inr (some q37))], (I91, L75, R89, Y77), (((((0 + 1) + 1) + 1) + 1) + 1), m78) (fun _ => rfl) ?_
  have hl24 : Y77.2.1 q37 = 24 := by rw [((fun p hp => k86 p hp) q37 (by omega)).2, ((fun p hp => k68 p hp) q37 (by omega)).2, k51]; rfl
  refine yi_D_calls rfl (p_fillI ⟨by omega, by omega⟩) ?_
  rintro _ ⟨I94, rfl, hv95, hf96⟩
  show yi_D zi_Ms d zi_m274 k (57, [(0, .inr (.inr (some p)))], [], (I94, L75, R89, Y77), (((((0 + 1) + 1) + 1) + 1) + 1), m78) _
  refine yi_D_retv rfl ?_
  have hq0 : q1 = p + 1 := by omega
  have hq1 : q19 = p + 2 := by omega
  have hq2 : q37 = p + 3 := by omega
  have hq3 : q55 = p + 4 := by omega
  have hq4 : q73 = p + 5 := by omega
  refine ⟨_, _, _, _, _, _, rfl, ⟨⟨by omega, by omega, by rw [((fun p hp => k86 p hp) p (by omega)).1, ((fun p hp => k68 p hp) p (by omega)).1, ((fun p hp => k50 p hp) p (by omega)).1, ((fun p hp => k32 p hp) p (by omega)).1, ((fun p hp => k14 p hp) p (by omega)).1]; exact h9, by have e := my10; rw [← hq0, ((fun p hp => k86 p hp) q1 (by omega)).1, ((fun p hp => k68 p hp) q1 (by omega)).1, ((fun p hp => k50 p hp) q1 (by omega)).1, ((fun p hp => k32 p hp) q1 (by omega)).1]; exact e, by have e := my28; rw [← hq1, ((fun p hp => k86 p hp) q19 (by omega)).1, ((fun p hp => k68 p hp) q19 (by omega)).1, ((fun p hp => k50 p hp) q19 (by omega)).1]; exact e, by have e := my46; rw [← hq2, ((fun p hp => k86 p hp) q37 (by omega)).1, ((fun p hp => k68 p hp) q37 (by omega)).1]; exact e, by have e := my64; rw [← hq3, ((fun p hp => k86 p hp) q55 (by omega)).1]; exact e, by have e := my82; rw [← hq4]; exact e⟩, ⟨by rw [← w90, cl_u_ne _ _ (by omega), (fun p k hp => (k84 p k hp).2.2) p 0 (by omega), ← w72, cl_u_ne _ _ (by omega), (fun p k hp => (k66 p k hp).2.2) p 0 (by omega), ← w54, cl_u_ne _ _ (by omega), (fun p k hp => (k48 p k hp).2.2) p 0 (by omega), ← w36, cl_u_ne _ _ (by omega), (fun p k hp => (k30 p k hp).2.2) p 0 (by omega), ← w18, cl_u_eq, hq0], by rw [← w90, cl_u_ne _ _ (by omega), (fun p k hp => (k84 p k hp).2.2) p 1 (by omega), ← w72, cl_u_ne _ _ (by omega), (fun p k hp => (k66 p k hp).2.2) p 1 (by omega), ← w54, cl_u_ne _ _ (by omega), (fun p k hp => (k48 p k hp).2.2) p 1 (by omega), ← w36, cl_u_eq, hq1], by rw [← w90, cl_u_ne _ _ (by omega), (fun p k hp => (k84 p k hp).2.2) p 2 (by omega), ← w72, cl_u_ne _ _ (by omega), (fun p k hp => (k66 p k hp).2.2) p 2 (by omega), ← w54, cl_u_eq, hq2], by rw [← w90, cl_u_ne _ _ (by omega), (fun p k hp => (k84 p k hp).2.2) p 3 (by omega), ← w72, cl_u_eq, hq3], by rw [← w90, cl_u_eq, hq4]⟩, by have e := k15; rw [← hq0, ((fun p hp => k86 p hp) q1 (by omega)).2, ((fun p hp => k68 p hp) q1 (by omega)).2, ((fun p hp => k50 p hp) q1 (by omega)).2, ((fun p hp => k32 p hp) q1 (by omega)).2]; exact e, by have e := k33; rw [← hq1, ((fun p hp => k86 p hp) q19 (by omega)).2, ((fun p hp => k68 p hp) q19 (by omega)).2, ((fun p hp => k50 p hp) q19 (by omega)).2]; exact e, by have e := k51; rw [← hq2, ((fun p hp => k86 p hp) q37 (by omega)).2, ((fun p hp => k68 p hp) q37 (by omega)).2]; exact e, by have e := k69; rw [← hq3, ((fun p hp => k86 p hp) q55 (by omega)).2]; exact e, by have e := k87; rw [← hq4]; exact e⟩, fun q k hq => ⟨by rw [hf96 q k (by omega), ← w92, yi_u_ne _ _ (by omega), (fun p k hp => (k84 p k hp).1) q k (by omega), (fun p k hp => (k66 p k hp).1) q k (by omega), (fun p k hp => (k48 p k hp).1) q k (by omega), (fun p k hp => (k30 p k hp).1) q k (by omega), (fun p k hp => (k12 p k hp).1) q k (by omega)], by rw [(fun p k hp => (k84 p k hp).2.1) q k (by omega), (fun p k hp => (k66 p k hp).2.1) q k (by omega), (fun p k hp => (k48 p k hp).2.1) q k (by omega), (fun p k hp => (k30 p k hp).2.1) q k (by omega), (fun p k hp => (k12 p k hp).2.1) q k (by omega)], by rw [← w90, cl_u_ne _ _ (by omega), (fun p k hp => (k84 p k hp).2.2) q k (by omega), ← w72, cl_u_ne _ _ (by omega), (fun p k hp => (k66 p k hp).2.2) q k (by omega), ← w54, cl_u_ne _ _ (by omega), (fun p k hp => (k48 p k hp).2.2) q k (by omega), ← w36, cl_u_ne _ _ (by omega), (fun p k hp => (k30 p k hp).2.2) q k (by omega), ← w18, cl_u_ne _ _ (by omega), (fun p k hp => (k12 p k hp).2.2) q k (by omega)]⟩, by omega, fun q hq => ⟨by rw [((fun p hp => k86 p hp) q (by omega)).1, ((fun p hp => k68 p hp) q (by omega)).1, ((fun p hp => k50 p hp) q (by omega)).1, ((fun p hp => k32 p hp) q (by omega)).1, ((fun p hp => k14 p hp) q (by omega)).1], by rw [((fun p hp => k86 p hp) q (by omega)).2, ((fun p hp => k68 p hp) q (by omega)).2, ((fun p hp => k50 p hp) q (by omega)).2, ((fun p hp => k32 p hp) q (by omega)).2, ((fun p hp => k14 p hp) q (by omega)).2]⟩, fun q k x h1 h2 e => ?_⟩
  exfalso
  have hc : q = q1 ∨ q = q19 ∨ q = q37 ∨ q = q55 ∨ q = q73 := by omega
  rcases hc with hc | hc | hc | hc | hc
  · rw [← w90, cl_u_ne _ _ (by omega), (fun p k hp => (k84 p k hp).2.2) q k (by omega), ← w72, cl_u_ne _ _ (by omega), (fun p k hp => (k66 p k hp).2.2) q k (by omega), ← w54, cl_u_ne _ _ (by omega), (fun p k hp => (k48 p k hp).2.2) q k (by omega), ← w36, cl_u_ne _ _ (by omega), (fun p k hp => (k30 p k hp).2.2) q k (by omega), ← w18, cl_u_ne _ _ (by omega), hc, mn8 k] at e; cases e
  · rw [← w90, cl_u_ne _ _ (by omega), (fun p k hp => (k84 p k hp).2.2) q k (by omega), ← w72, cl_u_ne _ _ (by omega), (fun p k hp => (k66 p k hp).2.2) q k (by omega), ← w54, cl_u_ne _ _ (by omega), (fun p k hp => (k48 p k hp).2.2) q k (by omega), ← w36, cl_u_ne _ _ (by omega), hc, mn26 k] at e; cases e
  · rw [← w90, cl_u_ne _ _ (by omega), (fun p k hp => (k84 p k hp).2.2) q k (by omega), ← w72, cl_u_ne _ _ (by omega), (fun p k hp => (k66 p k hp).2.2) q k (by omega), ← w54, cl_u_ne _ _ (by omega), hc, mn44 k] at e; cases e
  · rw [← w90, cl_u_ne _ _ (by omega), (fun p k hp => (k84 p k hp).2.2) q k (by omega), ← w72, cl_u_ne _ _ (by omega), hc, mn62 k] at e; cases e
  · rw [← w90, cl_u_ne _ _ (by omega), hc, mn80 k] at e; cases e
