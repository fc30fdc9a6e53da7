/-! The check: what a clause says of a future. -/
/-- who has what on a day -/
def hb (h : Nat → Int) (pe ev : Nat) (p : Nat) (e : Int) (d : Nat) : Bool := decide (0 < ev ∧ h (pe * (d - 1) + p) = e)
/-- on one of so many days from a day -/
def dur (g : Nat → Bool) (lo : Nat) : Nat → Bool
  | 0 => false
  | k + 1 => dur g lo k || g (lo + k)
/-- on how many of the first days -/
def cnt (g : Nat → Bool) : Nat → Nat
  | 0 => 0
  | k + 1 => cnt g k + (if g (k + 1) then 1 else 0)
/-- one of two, ahead of the other -/
def prA (g g' : Nat → Bool) : Nat → Bool
  | 0 => false
  | k + 1 => prA g g' k || (g (k + 1) && !dur g' 1 (k + 1))
/-- two together -/
def prT (g g' : Nat → Bool) : Nat → Bool
  | 0 => false
  | k + 1 => prT g g' k || (g (k + 1) && g' (k + 1))
theorem dur_i {g : Nat → Bool} {lo : Nat} : ∀ k, dur g lo k = true ↔ ∃ d, lo ≤ d ∧ d < lo + k ∧ g d = true
  | 0 => ⟨(fun h => by cases h), fun ⟨d, h1, h2, _⟩ => absurd h1 (by omega)⟩
  | k + 1 => by
    show (dur g lo k || g (lo + k)) = true ↔ _
    rw [Bool.or_eq_true, dur_i k]
    constructor
    · rintro (⟨d, h1, h2, h3⟩ | h)
      · exact ⟨d, h1, by omega, h3⟩
      · exact ⟨lo + k, by omega, by omega, h⟩
    · rintro ⟨d, h1, h2, h3⟩
      by_cases c : d = lo + k
      · subst c; exact Or.inr h3
      · exact Or.inl ⟨d, h1, by omega, h3⟩
theorem cnt_0 {g : Nat → Bool} : ∀ k, (0 < cnt g k ↔ dur g 1 k = true) ∧ cnt g k ≤ k
  | 0 => ⟨⟨(fun h => absurd h (by show ¬ 0 < 0; omega)), (fun h => by cases h)⟩, Nat.le_refl _⟩
  | k + 1 => by
    have z := cnt_0 (g := g) k
    show (0 < cnt g k + (if g (k + 1) then 1 else 0) ↔ (dur g 1 k || g (1 + k)) = true) ∧ cnt g k + (if g (k + 1) then 1 else 0) ≤ k + 1
    rw [Bool.or_eq_true, ← z.1, show 1 + k = k + 1 by omega]
    by_cases c : g (k + 1) = true
    · rw [if_pos c]; exact ⟨⟨fun _ => Or.inr c, fun _ => by omega⟩, by omega⟩
    · rw [if_neg c]; exact ⟨⟨fun h => Or.inl h, fun h => h.elim id (fun x => absurd x c)⟩, by omega⟩
/-- what one person has -/
def ho (g : Nat → Bool) (da : Nat) (vg : Prop) [Decidable vg] (w n : Nat) : Bool := if w = 0 then (if vg then dur g 1 n else g n) else if w = 1 then dur g 1 n else if w = 2 then dur g n (da + 1 - n) else if w = 3 then dur g 1 da else if w = 4 then !dur g 1 da else if w = 5 then decide (cnt g da = n) else decide (cnt g da ≤ n)
theorem q_hasOn {d : Nat} {I L : Nat → Nat → Int} {R : Nat → Nat → Option Nat} {Y : (Nat → Nat) × (Nat → Nat) × Nat} (hS : ym_S (R, Y)) {pe ev da : Nat} {x y : Int} (hda : I 88 0 = (da : Int)) (hpe : I 88 1 = (pe : Int)) (hev : I 88 2 = (ev : Int)) (bld : da ≤ 6 ∧ pe ≤ 4 ∧ ev ≤ 4) (hx : 0 ≤ x ∧ x < pe) {z : Int} (hz : 1 ≤ z ∧ z ≤ da) : yi_P zi_Ms d 38 [.inr (.inr (some 82)), .inl x, .inl y, .inl z] (I, L, R, Y) (fun r => ((hb (I 99) pe ev x.toNat y z.toNat = true) ∧ r = (some (.inl 1), (I, L, R, Y), 0, 0)) ∨ (¬ (hb (I 99) pe ev x.toNat y z.toNat = true) ∧ r = (some (.inl 0), (I, L, R, Y), 0, 0))) := by
  refine yi_P_of (M := zi_m38) rfl (fun d k => ?_)
  have hm24 : pe * (z.toNat - 1) ≤ 4 * 5 := Nat.mul_le_mul bld.2.1 (by omega)
  show yi_D zi_Ms d zi_m38 k (0, [(0, .inr (.inr (some 82))), (1, .inl x), (2, .inl y), (3, .inl z)], [], (I, L, R, Y), 0, 0) _
  refine yi_D_run 1 (1, [(0, .inr (.inr (some 82))), (1, .inl x), (2, .inl y), (3, .inl z)], [.inr (.inr (some 82))], (I, L, R, Y), 0, 0) (fun _ => rfl) ?_
  refine yi_D_callv rfl (q_events hS hev) ?_
  rintro _ rfl
  show yi_D zi_Ms d zi_m38 k (4, [(0, .inr (.inr (some 82))), (1, .inl x), (2, .inl y), (3, .inl z)], [.inl (ev : Int)], (I, L, R, Y), 0, 0) _
  by_cases h1 : (ev : Int) ≤ 0
  · refine yi_D_if1 true rfl (yi_le_t h1) ?_
    refine yi_D_run 1 (31, [(0, .inr (.inr (some 82))), (1, .inl x), (2, .inl y), (3, .inl z)], [.inl 0], (I, L, R, Y), 0, 0) (fun _ => rfl) ?_
    refine yi_D_reti rfl ?_
    refine Or.inr ⟨fun h => ?_, rfl⟩
    have h := of_decide_eq_true h
    omega
  · refine yi_D_if1 false rfl (yi_le_f h1) ?_
    refine yi_D_run 1 (8, [(0, .inr (.inr (some 82))), (1, .inl x), (2, .inl y), (3, .inl z)], [.inr (.inr (some 82))], (I, L, R, Y), 0, 0) (fun _ => rfl) ?_
    refine yi_D_gr (v := some 99) rfl rfl rfl (ym_S_at hS (j := 16) rfl).1 (fun _ => ?_)
    refine yi_D_run 1 (12, [(0, .inr (.inr (some 82))), (1, .inl x), (2, .inl y), (3, .inl z)], [.inr (.inr (some 82)), .inr (.inr (some 99))], (I, L, R, Y), 0, 0) (fun _ => rfl) ?_
    refine yi_D_callv rfl (q_people hS hpe) ?_
    rintro _ rfl
    show yi_D zi_Ms d zi_m38 k (15, [(0, .inr (.inr (some 82))), (1, .inl x), (2, .inl y), (3, .inl z)], [.inl (pe : Int), .inr (.inr (some 99))], (I, L, R, Y), 0, 0) _
    refine yi_D_run 2 (17, [(0, .inr (.inr (some 82))), (1, .inl x), (2, .inl y), (3, .inl z)], [.inl 1, .inl z, .inl (pe : Int), .inr (.inr (some 99))], (I, L, R, Y), 0, 0) (fun _ => rfl) ?_
    refine yi_D_isub rfl (z - 1) (yi_wn (by omega) (by omega)) ?_
    refine yi_D_imul rfl (((pe * (z.toNat - 1) : Nat) : Int)) (by rw [show (pe : Int) * (z - 1) = ((pe * (z.toNat - 1) : Nat) : Int) by rw [Int.natCast_mul, show ((z.toNat - 1 : Nat) : Int) = z - 1 by omega]]; exact yi_wn (by omega) (by omega)) ?_
    refine yi_D_run 1 (20, [(0, .inr (.inr (some 82))), (1, .inl x), (2, .inl y), (3, .inl z)], [.inl x, .inl ((pe * (z.toNat - 1) : Nat) : Int), .inr (.inr (some 99))], (I, L, R, Y), 0, 0) (fun _ => rfl) ?_
    refine yi_D_iadd rfl (((pe * (z.toNat - 1) : Nat) : Int) + x) (yi_wn (by omega) (by omega)) ?_
    have hri : I 99 ((((pe * (z.toNat - 1) : Nat) : Int) + x).toNat) = I 99 (pe * (z.toNat - 1) + x.toNat) := congrArg (I 99) (by omega)
    refine yi_D_il (v := I 99 (pe * (z.toNat - 1) + x.toNat)) rfl rfl hri (fun _ _ => ?_)
    refine yi_D_run 1 (23, [(0, .inr (.inr (some 82))), (1, .inl x), (2, .inl y), (3, .inl z)], [.inl y, .inl (I 99 (pe * (z.toNat - 1) + x.toNat))], (I, L, R, Y), 0, 0) (fun _ => rfl) ?_
    by_cases h2 : (I 99 (pe * (z.toNat - 1) + x.toNat)) = y
    · refine yi_D_if2 false rfl (yi_ne_f h2) ?_
      refine yi_D_run 2 (31, [(0, .inr (.inr (some 82))), (1, .inl x), (2, .inl y), (3, .inl z)], [.inl 1], (I, L, R, Y), 0, 0) (fun _ => rfl) ?_
      refine yi_D_reti rfl ?_
      exact Or.inl ⟨decide_eq_true ⟨by omega, by assumption⟩, rfl⟩
    · refine yi_D_if2 true rfl (yi_ne_t h2) ?_
      refine yi_D_run 1 (31, [(0, .inr (.inr (some 82))), (1, .inl x), (2, .inl y), (3, .inl z)], [.inl 0], (I, L, R, Y), 0, 0) (fun _ => rfl) ?_
      refine yi_D_reti rfl ?_
      refine Or.inr ⟨fun h => ?_, rfl⟩
      have h := of_decide_eq_true h
      omega
theorem q_firstDay {d : Nat} {I L : Nat → Nat → Int} {R : Nat → Nat → Option Nat} {Y : (Nat → Nat) × (Nat → Nat) × Nat} (hS : ym_S (R, Y)) {pe ev da : Nat} {x y : Int} (hda : I 88 0 = (da : Int)) (hpe : I 88 1 = (pe : Int)) (hev : I 88 2 = (ev : Int)) (bld : da ≤ 6 ∧ pe ≤ 4 ∧ ev ≤ 4) (hx : 0 ≤ x ∧ x < pe) : yi_P zi_Ms d 35 [.inr (.inr (some 82)), .inl x, .inl y] (I, L, R, Y) (fun r => ∃ z : Nat, r = (some (.inl (z : Int)), (I, L, R, Y), 0, 0) ∧ (1 ≤ z ∧ z ≤ da + 1) ∧ (∀ j, 1 ≤ j → j < z → ¬ hb (I 99) pe ev x.toNat y j = true) ∧ (z ≤ da → hb (I 99) pe ev x.toNat y z = true)) := by
  refine yi_P_of (M := zi_m35) rfl (fun d k => ?_)
  show yi_D zi_Ms d zi_m35 k (0, [(0, .inr (.inr (some 82))), (1, .inl x), (2, .inl y)], [], (I, L, R, Y), 0, 0) _
  refine yi_D_run 2 (2, [(3, .inl 1), (0, .inr (.inr (some 82))), (1, .inl x), (2, .inl y)], [], (I, L, R, Y), 0, 0) (fun _ => rfl) ?_
  have pt2 : ∀ j2, j2 ≤ k → ∀ (y3 : Int), (1 ≤ y3 ∧ y3 ≤ (da : Int) + 1) → (∀ j : Nat, 1 ≤ j → (j : Int) < y3 → ¬ hb (I 99) pe ev x.toNat y j = true) → yi_D zi_Ms d zi_m35 j2 (2, [(3, .inl y3), (0, .inr (.inr (some 82))), (1, .inl x), (2, .inl y)], [], (I, L, R, Y), 0, 0) (fun r => ∃ z : Nat, r = (some (.inl (z : Int)), (I, L, R, Y), 0, 0) ∧ (1 ≤ z ∧ z ≤ da + 1) ∧ (∀ j, 1 ≤ j → j < z → ¬ hb (I 99) pe ev x.toNat y j = true) ∧ (z ≤ da → hb (I 99) pe ev x.toNat y z = true)) := by
    intro j2
    induction j2 with
    | zero => intros; exact yi_D_0
    | succ j2 ih2 =>
    intro hk2 y3 hy3 hf
    refine yi_D_run1 1 (4, [(3, .inl y3), (0, .inr (.inr (some 82))), (1, .inl x), (2, .inl y)], [.inr (.inr (some 82)), .inl y3], (I, L, R, Y), 0, 0) (fun _ => rfl) ?_
    refine yi_D_callv rfl (q_days hS hda) ?_
    rintro _ rfl
    show yi_D zi_Ms d zi_m35 j2 (7, [(3, .inl y3), (0, .inr (.inr (some 82))), (1, .inl x), (2, .inl y)], [.inl (da : Int), .inl y3], (I, L, R, Y), 0, 0) _
    by_cases h1 : (da : Int) < y3
    · refine yi_D_if2 true rfl (yi_gt_t h1) ?_
      refine yi_D_run 1 (27, [(3, .inl y3), (0, .inr (.inr (some 82))), (1, .inl x), (2, .inl y)], [.inl y3], (I, L, R, Y), 0, 0) (fun _ => rfl) ?_
      refine yi_D_reti rfl ?_
      refine ⟨y3.toNat, by rw [show ((y3.toNat : Nat) : Int) = y3 by omega], by omega, fun j h1 h2 => hf j h1 (by omega), fun h => ?_⟩
      first
      | (exfalso; omega)
      | assumption
    · refine yi_D_if2 false rfl (yi_gt_f h1) ?_
      refine yi_D_run 4 (14, [(3, .inl y3), (0, .inr (.inr (some 82))), (1, .inl x), (2, .inl y)], [.inl y3, .inl y, .inl x, .inr (.inr (some 82))], (I, L, R, Y), 0, 0) (fun _ => rfl) ?_
      refine yi_D_callv rfl (q_hasOn hS hda hpe hev bld hx (by omega)) ?_
      rintro _ (⟨hb2, rfl⟩ | ⟨hb3, rfl⟩)
      · show yi_D zi_Ms d zi_m35 j2 (17, [(3, .inl y3), (0, .inr (.inr (some 82))), (1, .inl x), (2, .inl y)], [.inl 1], (I, L, R, Y), 0, 0) _
        refine yi_D_if1 true rfl (by decide) ?_
        refine yi_D_run 1 (27, [(3, .inl y3), (0, .inr (.inr (some 82))), (1, .inl x), (2, .inl y)], [.inl y3], (I, L, R, Y), 0, 0) (fun _ => rfl) ?_
        refine yi_D_reti rfl ?_
        refine ⟨y3.toNat, by rw [show ((y3.toNat : Nat) : Int) = y3 by omega], by omega, fun j h1 h2 => hf j h1 (by omega), fun h => ?_⟩
        first
        | (exfalso; omega)
        | assumption
      · show yi_D zi_Ms d zi_m35 j2 (17, [(3, .inl y3), (0, .inr (.inr (some 82))), (1, .inl x), (2, .inl y)], [.inl 0], (I, L, R, Y), 0, 0) _
        refine yi_D_if1 false rfl (by decide) ?_
        refine yi_D_iinc [(3, .inl (y3 + 1)), (0, .inr (.inr (some 82))), (1, .inl x), (2, .inl y)] rfl rfl rfl (by rw [show yi_w (y3 + 1) = y3 + 1 from (yi_wn (by omega) (by omega)).trans (by omega)]; rfl) ?_
        refine yi_D_run 1 (2, [(3, .inl (y3 + 1)), (0, .inr (.inr (some 82))), (1, .inl x), (2, .inl y)], [], (I, L, R, Y), 0, 0) (fun _ => rfl) ?_
        exact yi_D_mono (ih2 (by omega) (y3 + 1) (by omega) (fun j h1 h2 => by by_cases e : (j : Int) = y3; rw [show j = y3.toNat by omega]; assumption; exact hf j h1 (by omega))) (by omega)
  exact pt2 k (Nat.le_refl _) 1 (by omega) (fun j h1 h2 => absurd h2 (by omega))
theorem fd_le {g : Nat → Bool} {z da n : Nat} (h1 : 1 ≤ z ∧ z ≤ da + 1) (h2 : ∀ j, 1 ≤ j → j < z → ¬ g j = true) (h3 : z ≤ da → g z = true) (hn : n ≤ da) : z ≤ n ↔ dur g 1 n = true := by
  rw [dur_i]
  constructor
  · exact fun h => ⟨z, h1.1, by omega, h3 (by omega)⟩
  · rintro ⟨d, d1, d2, d3⟩
    by_cases c : d < z
    · exact absurd d3 (h2 d d1 c)
    · omega
theorem q_holdsOf {d : Nat} {I L : Nat → Nat → Int} {R : Nat → Nat → Option Nat} {Y : (Nat → Nat) × (Nat → Nat) × Nat} (hS : ym_S (R, Y)) {pe ev da : Nat} {x y : Int} (hda : I 88 0 = (da : Int)) (hpe : I 88 1 = (pe : Int)) (hev : I 88 2 = (ev : Int)) (bld : da ≤ 6 ∧ pe ≤ 4 ∧ ev ≤ 4) (hx : 0 ≤ x ∧ x < pe) {w n : Nat} (hw : w ≤ 6) (hn : w ≤ 2 → 1 ≤ n ∧ n ≤ da) (hn7 : n ≤ 7) : yi_P zi_Ms d 43 [.inr (.inr (some 82)), .inl x, .inl y, .inl (w : Int), .inl (n : Int)] (I, L, R, Y) (fun r => ((ho (hb (I 99) pe ev x.toNat y) da (¬ I 82 28 = 0) w n = true) ∧ r = (some (.inl 1), (I, L, R, Y), 0, 0)) ∨ (¬ (ho (hb (I 99) pe ev x.toNat y) da (¬ I 82 28 = 0) w n = true) ∧ r = (some (.inl 0), (I, L, R, Y), 0, 0))) := by
  refine yi_P_of (M := zi_m43) rfl (fun d k => ?_)
  show yi_D zi_Ms d zi_m43 k (0, [(0, .inr (.inr (some 82))), (1, .inl x), (2, .inl y), (3, .inl (w : Int)), (4, .inl (n : Int))], [], (I, L, R, Y), 0, 0) _
  refine yi_D_run 4 (6, [(6, .inl 1), (5, .inl 0), (0, .inr (.inr (some 82))), (1, .inl x), (2, .inl y), (3, .inl (w : Int)), (4, .inl (n : Int))], [], (I, L, R, Y), 0, 0) (fun _ => rfl) ?_
  have pt6 : ∀ j6, j6 ≤ k → ∀ (y6 : Int) (y5 : Int), (1 ≤ y6 ∧ y6 ≤ (da : Int) + 1) → (y5 = ((cnt (hb (I 99) pe ev x.toNat y) (y6 - 1).toNat : Nat) : Int)) → yi_D zi_Ms d zi_m43 j6 (6, [(6, .inl y6), (5, .inl y5), (0, .inr (.inr (some 82))), (1, .inl x), (2, .inl y), (3, .inl (w : Int)), (4, .inl (n : Int))], [], (I, L, R, Y), 0, 0) (fun r => ((ho (hb (I 99) pe ev x.toNat y) da (¬ I 82 28 = 0) w n = true) ∧ r = (some (.inl 1), (I, L, R, Y), 0, 0)) ∨ (¬ (ho (hb (I 99) pe ev x.toNat y) da (¬ I 82 28 = 0) w n = true) ∧ r = (some (.inl 0), (I, L, R, Y), 0, 0))) := by
    intro j6
    induction j6 with
    | zero => intros; exact yi_D_0
    | succ j6 ih6 =>
    intro hk6 y6 y5 hy6 hc
    have hcl := (cnt_0 (g := hb (I 99) pe ev x.toNat y) (y6 - 1).toNat).2
    refine yi_D_run1 1 (9, [(6, .inl y6), (5, .inl y5), (0, .inr (.inr (some 82))), (1, .inl x), (2, .inl y), (3, .inl (w : Int)), (4, .inl (n : Int))], [.inr (.inr (some 82)), .inl y6], (I, L, R, Y), 0, 0) (fun _ => rfl) ?_
    refine yi_D_callv rfl (q_days hS hda) ?_
    rintro _ rfl
    show yi_D zi_Ms d zi_m43 j6 (12, [(6, .inl y6), (5, .inl y5), (0, .inr (.inr (some 82))), (1, .inl x), (2, .inl y), (3, .inl (w : Int)), (4, .inl (n : Int))], [.inl (da : Int), .inl y6], (I, L, R, Y), 0, 0) _
    by_cases h1 : (da : Int) < y6
    · refine yi_D_if2 true rfl (yi_gt_t h1) ?_
      refine yi_D_run 1 (43, [(6, .inl y6), (5, .inl y5), (0, .inr (.inr (some 82))), (1, .inl x), (2, .inl y), (3, .inl (w : Int)), (4, .inl (n : Int))], [.inl (w : Int)], (I, L, R, Y), 0, 0) (fun _ => rfl) ?_
      by_cases h2 : (w : Int) = 0
      · refine yi_D_tsi 0 rfl (by omega) (by decide) rfl ?_
        refine yi_D_run 1 (81, [(6, .inl y6), (5, .inl y5), (0, .inr (.inr (some 82))), (1, .inl x), (2, .inl y), (3, .inl (w : Int)), (4, .inl (n : Int))], [.inr (.inr (some 82))], (I, L, R, Y), 0, 0) (fun _ => rfl) ?_
        refine yi_D_gi (v := I 82 28) rfl rfl rfl rfl (fun _ => ?_)
        by_cases h3 : (I 82 28) = 0
        · refine yi_D_if1 true rfl (yi_eq_t h3) ?_
          refine yi_D_run 4 (111, [(6, .inl y6), (5, .inl y5), (0, .inr (.inr (some 82))), (1, .inl x), (2, .inl y), (3, .inl (w : Int)), (4, .inl (n : Int))], [.inl (n : Int), .inl y, .inl x, .inr (.inr (some 82))], (I, L, R, Y), 0, 0) (fun _ => rfl) ?_
          refine yi_D_callv rfl (q_hasOn hS hda hpe hev bld hx (by omega)) ?_
          rintro _ (⟨hb4, rfl⟩ | ⟨hb5, rfl⟩)
          · show yi_D zi_Ms d zi_m43 j6 (114, [(6, .inl y6), (5, .inl y5), (0, .inr (.inr (some 82))), (1, .inl x), (2, .inl y), (3, .inl (w : Int)), (4, .inl (n : Int))], [.inl 1], (I, L, R, Y), 0, 0) _
            refine yi_D_reti rfl ?_
            have hn5 : (y6 - 1).toNat = da := by omega
            rw [hn5] at hc
            have c0 := cnt_0 (g := hb (I 99) pe ev x.toNat y) da
            exact Or.inl ⟨by unfold ho; rw [if_pos (show w = 0 by omega), if_neg (by omega)]; assumption, rfl⟩
          · show yi_D zi_Ms d zi_m43 j6 (114, [(6, .inl y6), (5, .inl y5), (0, .inr (.inr (some 82))), (1, .inl x), (2, .inl y), (3, .inl (w : Int)), (4, .inl (n : Int))], [.inl 0], (I, L, R, Y), 0, 0) _
            refine yi_D_reti rfl ?_
            have hn5 : (y6 - 1).toNat = da := by omega
            rw [hn5] at hc
            have c0 := cnt_0 (g := hb (I 99) pe ev x.toNat y) da
            exact Or.inr ⟨fun h => by revert h; unfold ho; rw [if_pos (show w = 0 by omega), if_neg (by omega)]; assumption, rfl⟩
        · refine yi_D_if1 false rfl (yi_eq_f h3) ?_
          refine yi_D_run 3 (90, [(6, .inl y6), (5, .inl y5), (0, .inr (.inr (some 82))), (1, .inl x), (2, .inl y), (3, .inl (w : Int)), (4, .inl (n : Int))], [.inl y, .inl x, .inr (.inr (some 82))], (I, L, R, Y), 0, 0) (fun _ => rfl) ?_
          refine yi_D_callv rfl (q_firstDay hS hda hpe hev bld hx) ?_
          rintro _ ⟨z6, rfl, z17, z28, z39⟩
          have zz10 := fd_le z17 z28 z39 (n := n) (by omega)
          show yi_D zi_Ms d zi_m43 j6 (93, [(6, .inl y6), (5, .inl y5), (0, .inr (.inr (some 82))), (1, .inl x), (2, .inl y), (3, .inl (w : Int)), (4, .inl (n : Int))], [.inl (z6 : Int)], (I, L, R, Y), 0, 0) _
          refine yi_D_run 1 (95, [(6, .inl y6), (5, .inl y5), (0, .inr (.inr (some 82))), (1, .inl x), (2, .inl y), (3, .inl (w : Int)), (4, .inl (n : Int))], [.inl (n : Int), .inl (z6 : Int)], (I, L, R, Y), 0, 0) (fun _ => rfl) ?_
          by_cases h11 : (n : Int) < (z6 : Int)
          · refine yi_D_if2 true rfl (yi_gt_t h11) ?_
            refine yi_D_run 2 (114, [(6, .inl y6), (5, .inl y5), (0, .inr (.inr (some 82))), (1, .inl x), (2, .inl y), (3, .inl (w : Int)), (4, .inl (n : Int))], [.inl 0], (I, L, R, Y), 0, 0) (fun _ => rfl) ?_
            refine yi_D_reti rfl ?_
            have hn5 : (y6 - 1).toNat = da := by omega
            rw [hn5] at hc
            have c0 := cnt_0 (g := hb (I 99) pe ev x.toNat y) da
            exact Or.inr ⟨fun h => by revert h; unfold ho; rw [if_pos (show w = 0 by omega), if_pos (by assumption)]; exact fun h => absurd (zz10.2 h) (by omega), rfl⟩
          · refine yi_D_if2 false rfl (yi_gt_f h11) ?_
            refine yi_D_run 2 (114, [(6, .inl y6), (5, .inl y5), (0, .inr (.inr (some 82))), (1, .inl x), (2, .inl y), (3, .inl (w : Int)), (4, .inl (n : Int))], [.inl 1], (I, L, R, Y), 0, 0) (fun _ => rfl) ?_
            refine yi_D_reti rfl ?_
            have hn5 : (y6 - 1).toNat = da := by omega
            rw [hn5] at hc
            have c0 := cnt_0 (g := hb (I 99) pe ev x.toNat y) da
            exact Or.inl ⟨by unfold ho; rw [if_pos (show w = 0 by omega), if_pos (by assumption)]; exact zz10.1 (by omega), rfl⟩
      by_cases h12 : (w : Int) = 1
      · refine yi_D_tsi 1 rfl (by omega) (by decide) rfl ?_
        refine yi_D_run 3 (118, [(6, .inl y6), (5, .inl y5), (0, .inr (.inr (some 82))), (1, .inl x), (2, .inl y), (3, .inl (w : Int)), (4, .inl (n : Int))], [.inl y, .inl x, .inr (.inr (some 82))], (I, L, R, Y), 0, 0) (fun _ => rfl) ?_
        refine yi_D_callv rfl (q_firstDay hS hda hpe hev bld hx) ?_
        rintro _ ⟨z13, rfl, z114, z215, z316⟩
        have zz17 := fd_le z114 z215 z316 (n := n) (by omega)
        show yi_D zi_Ms d zi_m43 j6 (121, [(6, .inl y6), (5, .inl y5), (0, .inr (.inr (some 82))), (1, .inl x), (2, .inl y), (3, .inl (w : Int)), (4, .inl (n : Int))], [.inl (z13 : Int)], (I, L, R, Y), 0, 0) _
        refine yi_D_run 1 (123, [(6, .inl y6), (5, .inl y5), (0, .inr (.inr (some 82))), (1, .inl x), (2, .inl y), (3, .inl (w : Int)), (4, .inl (n : Int))], [.inl (n : Int), .inl (z13 : Int)], (I, L, R, Y), 0, 0) (fun _ => rfl) ?_
        by_cases h18 : (n : Int) < (z13 : Int)
        · refine yi_D_if2 true rfl (yi_gt_t h18) ?_
          refine yi_D_run 1 (131, [(6, .inl y6), (5, .inl y5), (0, .inr (.inr (some 82))), (1, .inl x), (2, .inl y), (3, .inl (w : Int)), (4, .inl (n : Int))], [.inl 0], (I, L, R, Y), 0, 0) (fun _ => rfl) ?_
          refine yi_D_reti rfl ?_
          have hn5 : (y6 - 1).toNat = da := by omega
          rw [hn5] at hc
          have c0 := cnt_0 (g := hb (I 99) pe ev x.toNat y) da
          exact Or.inr ⟨fun h => by revert h; unfold ho; rw [if_neg (show ¬ w = 0 by omega), if_pos (show w = 1 by omega)]; exact fun h => absurd (zz17.2 h) (by omega), rfl⟩
        · refine yi_D_if2 false rfl (yi_gt_f h18) ?_
          refine yi_D_run 2 (131, [(6, .inl y6), (5, .inl y5), (0, .inr (.inr (some 82))), (1, .inl x), (2, .inl y), (3, .inl (w : Int)), (4, .inl (n : Int))], [.inl 1], (I, L, R, Y), 0, 0) (fun _ => rfl) ?_
          refine yi_D_reti rfl ?_
          have hn5 : (y6 - 1).toNat = da := by omega
          rw [hn5] at hc
          have c0 := cnt_0 (g := hb (I 99) pe ev x.toNat y) da
          exact Or.inl ⟨by unfold ho; rw [if_neg (show ¬ w = 0 by omega), if_pos (show w = 1 by omega)]; exact zz17.1 (by omega), rfl⟩
      by_cases h19 : (w : Int) = 2
      · refine yi_D_tsi 2 rfl (by omega) (by decide) rfl ?_
        refine yi_D_run 4 (139, [(7, .inl (n : Int)), (6, .inl 0), (5, .inl y5), (0, .inr (.inr (some 82))), (1, .inl x), (2, .inl y), (3, .inl (w : Int)), (4, .inl (n : Int))], [], (I, L, R, Y), 0, 0) (fun _ => rfl) ?_
        have pt139 : ∀ j139, j139 ≤ j6 → ∀ (y7 : Int) (z6 : Int), ((n : Int) ≤ y7 ∧ y7 ≤ (da : Int) + 1) → ((z6 = 1 ∧ dur (hb (I 99) pe ev x.toNat y) n (y7 - n).toNat = true) ∨ (z6 = 0 ∧ ¬ dur (hb (I 99) pe ev x.toNat y) n (y7 - n).toNat = true)) → yi_D zi_Ms d zi_m43 j139 (139, [(7, .inl y7), (6, .inl z6), (5, .inl y5), (0, .inr (.inr (some 82))), (1, .inl x), (2, .inl y), (3, .inl (w : Int)), (4, .inl (n : Int))], [], (I, L, R, Y), 0, 0) (fun r => ((ho (hb (I 99) pe ev x.toNat y) da (¬ I 82 28 = 0) w n = true) ∧ r = (some (.inl 1), (I, L, R, Y), 0, 0)) ∨ (¬ (ho (hb (I 99) pe ev x.toNat y) da (¬ I 82 28 = 0) w n = true) ∧ r = (some (.inl 0), (I, L, R, Y), 0, 0))) := by
          intro j139
          induction j139 with
          | zero => intros; exact yi_D_0
          | succ j139 ih139 =>
          intro hk139 y7 z6 hy7 hd
          refine yi_D_run1 1 (142, [(7, .inl y7), (6, .inl z6), (5, .inl y5), (0, .inr (.inr (some 82))), (1, .inl x), (2, .inl y), (3, .inl (w : Int)), (4, .inl (n : Int))], [.inr (.inr (some 82)), .inl y7], (I, L, R, Y), 0, 0) (fun _ => rfl) ?_
          refine yi_D_callv rfl (q_days hS hda) ?_
          rintro _ rfl
          show yi_D zi_Ms d zi_m43 j139 (145, [(7, .inl y7), (6, .inl z6), (5, .inl y5), (0, .inr (.inr (some 82))), (1, .inl x), (2, .inl y), (3, .inl (w : Int)), (4, .inl (n : Int))], [.inl (da : Int), .inl y7], (I, L, R, Y), 0, 0) _
          by_cases h20 : (da : Int) < y7
          · refine yi_D_if2 true rfl (yi_gt_t h20) ?_
            refine yi_D_run 1 (179, [(7, .inl y7), (6, .inl z6), (5, .inl y5), (0, .inr (.inr (some 82))), (1, .inl x), (2, .inl y), (3, .inl (w : Int)), (4, .inl (n : Int))], [.inl z6], (I, L, R, Y), 0, 0) (fun _ => rfl) ?_
            refine yi_D_reti rfl ?_
            have hn5 : (y6 - 1).toNat = da := by omega
            rw [hn5] at hc
            have c0 := cnt_0 (g := hb (I 99) pe ev x.toNat y) da
            have hn7 : (y7 - n).toNat = da + 1 - n := by omega
            rw [hn7] at hd
            rcases hd with ⟨h5, h6⟩ | ⟨h5, h6⟩
            · exact Or.inl ⟨by unfold ho; rw [if_neg (show ¬ w = 0 by omega), if_neg (show ¬ w = 1 by omega), if_pos (show w = 2 by omega)]; exact h6, by rw [h5]⟩
            · exact Or.inr ⟨by unfold ho; rw [if_neg (show ¬ w = 0 by omega), if_neg (show ¬ w = 1 by omega), if_pos (show w = 2 by omega)]; exact h6, by rw [h5]⟩
          · refine yi_D_if2 false rfl (yi_gt_f h20) ?_
            refine yi_D_run 1 (150, [(7, .inl y7), (6, .inl z6), (5, .inl y5), (0, .inr (.inr (some 82))), (1, .inl x), (2, .inl y), (3, .inl (w : Int)), (4, .inl (n : Int))], [.inl z6], (I, L, R, Y), 0, 0) (fun _ => rfl) ?_
            by_cases h21 : z6 = 0
            · refine yi_D_if1 false rfl (yi_ne_f h21) ?_
              refine yi_D_run 4 (158, [(7, .inl y7), (6, .inl z6), (5, .inl y5), (0, .inr (.inr (some 82))), (1, .inl x), (2, .inl y), (3, .inl (w : Int)), (4, .inl (n : Int))], [.inl y7, .inl y, .inl x, .inr (.inr (some 82))], (I, L, R, Y), 0, 0) (fun _ => rfl) ?_
              refine yi_D_callv rfl (q_hasOn hS hda hpe hev bld hx (by omega)) ?_
              rintro _ (⟨hb22, rfl⟩ | ⟨hb23, rfl⟩)
              · show yi_D zi_Ms d zi_m43 j139 (161, [(7, .inl y7), (6, .inl z6), (5, .inl y5), (0, .inr (.inr (some 82))), (1, .inl x), (2, .inl y), (3, .inl (w : Int)), (4, .inl (n : Int))], [.inl 1], (I, L, R, Y), 0, 0) _
                refine yi_D_if1 false rfl (by decide) ?_
                refine yi_D_run 3 (171, [(6, .inl 1), (7, .inl y7), (5, .inl y5), (0, .inr (.inr (some 82))), (1, .inl x), (2, .inl y), (3, .inl (w : Int)), (4, .inl (n : Int))], [], (I, L, R, Y), 0, 0) (fun _ => rfl) ?_
                refine yi_D_iinc [(7, .inl (y7 + 1)), (6, .inl 1), (5, .inl y5), (0, .inr (.inr (some 82))), (1, .inl x), (2, .inl y), (3, .inl (w : Int)), (4, .inl (n : Int))] rfl rfl rfl (by rw [show yi_w (y7 + 1) = y7 + 1 from (yi_wn (by omega) (by omega)).trans (by omega)]; rfl) ?_
                refine yi_D_run 1 (139, [(7, .inl (y7 + 1)), (6, .inl 1), (5, .inl y5), (0, .inr (.inr (some 82))), (1, .inl x), (2, .inl y), (3, .inl (w : Int)), (4, .inl (n : Int))], [], (I, L, R, Y), 0, 0) (fun _ => rfl) ?_
                exact yi_D_mono (ih139 (by omega) (y7 + 1) 1 (by omega) (by rw [show (y7 + 1 - n).toNat = (y7 - n).toNat + 1 by omega]; show (_ ∧ (dur (hb (I 99) pe ev x.toNat y) n (y7 - n).toNat || hb (I 99) pe ev x.toNat y (n + (y7 - n).toNat)) = true) ∨ (_ ∧ ¬ (dur (hb (I 99) pe ev x.toNat y) n (y7 - n).toNat || hb (I 99) pe ev x.toNat y (n + (y7 - n).toNat)) = true); rw [Bool.or_eq_true, show n + (y7 - n).toNat = y7.toNat by omega]; first | (exact Or.inl ⟨rfl, Or.inr (by assumption)⟩) | (rcases hd with ⟨h5, h6⟩ | ⟨h5, h6⟩; exact Or.inl ⟨rfl, Or.inl h6⟩; exfalso; omega))) (by omega)
              · show yi_D zi_Ms d zi_m43 j139 (161, [(7, .inl y7), (6, .inl z6), (5, .inl y5), (0, .inr (.inr (some 82))), (1, .inl x), (2, .inl y), (3, .inl (w : Int)), (4, .inl (n : Int))], [.inl 0], (I, L, R, Y), 0, 0) _
                refine yi_D_if1 true rfl (by decide) ?_
                refine yi_D_run 2 (171, [(6, .inl 0), (7, .inl y7), (5, .inl y5), (0, .inr (.inr (some 82))), (1, .inl x), (2, .inl y), (3, .inl (w : Int)), (4, .inl (n : Int))], [], (I, L, R, Y), 0, 0) (fun _ => rfl) ?_
                refine yi_D_iinc [(7, .inl (y7 + 1)), (6, .inl 0), (5, .inl y5), (0, .inr (.inr (some 82))), (1, .inl x), (2, .inl y), (3, .inl (w : Int)), (4, .inl (n : Int))] rfl rfl rfl (by rw [show yi_w (y7 + 1) = y7 + 1 from (yi_wn (by omega) (by omega)).trans (by omega)]; rfl) ?_
                refine yi_D_run 1 (139, [(7, .inl (y7 + 1)), (6, .inl 0), (5, .inl y5), (0, .inr (.inr (some 82))), (1, .inl x), (2, .inl y), (3, .inl (w : Int)), (4, .inl (n : Int))], [], (I, L, R, Y), 0, 0) (fun _ => rfl) ?_
                exact yi_D_mono (ih139 (by omega) (y7 + 1) 0 (by omega) (by rw [show (y7 + 1 - n).toNat = (y7 - n).toNat + 1 by omega]; show (_ ∧ (dur (hb (I 99) pe ev x.toNat y) n (y7 - n).toNat || hb (I 99) pe ev x.toNat y (n + (y7 - n).toNat)) = true) ∨ (_ ∧ ¬ (dur (hb (I 99) pe ev x.toNat y) n (y7 - n).toNat || hb (I 99) pe ev x.toNat y (n + (y7 - n).toNat)) = true); rw [Bool.or_eq_true, show n + (y7 - n).toNat = y7.toNat by omega]; rcases hd with ⟨h5, h6⟩ | ⟨h5, h6⟩; exfalso; omega; exact Or.inr ⟨rfl, fun h => h.elim h6 (by assumption)⟩)) (by omega)
            · refine yi_D_if1 true rfl (yi_ne_t h21) ?_
              refine yi_D_run 3 (171, [(6, .inl 1), (7, .inl y7), (5, .inl y5), (0, .inr (.inr (some 82))), (1, .inl x), (2, .inl y), (3, .inl (w : Int)), (4, .inl (n : Int))], [], (I, L, R, Y), 0, 0) (fun _ => rfl) ?_
              refine yi_D_iinc [(7, .inl (y7 + 1)), (6, .inl 1), (5, .inl y5), (0, .inr (.inr (some 82))), (1, .inl x), (2, .inl y), (3, .inl (w : Int)), (4, .inl (n : Int))] rfl rfl rfl (by rw [show yi_w (y7 + 1) = y7 + 1 from (yi_wn (by omega) (by omega)).trans (by omega)]; rfl) ?_
              refine yi_D_run 1 (139, [(7, .inl (y7 + 1)), (6, .inl 1), (5, .inl y5), (0, .inr (.inr (some 82))), (1, .inl x), (2, .inl y), (3, .inl (w : Int)), (4, .inl (n : Int))], [], (I, L, R, Y), 0, 0) (fun _ => rfl) ?_
              exact yi_D_mono (ih139 (by omega) (y7 + 1) 1 (by omega) (by rw [show (y7 + 1 - n).toNat = (y7 - n).toNat + 1 by omega]; show (_ ∧ (dur (hb (I 99) pe ev x.toNat y) n (y7 - n).toNat || hb (I 99) pe ev x.toNat y (n + (y7 - n).toNat)) = true) ∨ (_ ∧ ¬ (dur (hb (I 99) pe ev x.toNat y) n (y7 - n).toNat || hb (I 99) pe ev x.toNat y (n + (y7 - n).toNat)) = true); rw [Bool.or_eq_true, show n + (y7 - n).toNat = y7.toNat by omega]; first | (exact Or.inl ⟨rfl, Or.inr (by assumption)⟩) | (rcases hd with ⟨h5, h6⟩ | ⟨h5, h6⟩; exact Or.inl ⟨rfl, Or.inl h6⟩; exfalso; omega))) (by omega)
        exact pt139 j6 (Nat.le_refl _) (n : Int) 0 (by omega) (by rw [show ((n : Int) - n).toNat = 0 by omega]; exact Or.inr ⟨rfl, fun h => by cases h⟩)
      by_cases h24 : (w : Int) = 3
      · refine yi_D_tsi 3 rfl (by omega) (by decide) rfl ?_
        refine yi_D_run 1 (182, [(6, .inl y6), (5, .inl y5), (0, .inr (.inr (some 82))), (1, .inl x), (2, .inl y), (3, .inl (w : Int)), (4, .inl (n : Int))], [.inl y5], (I, L, R, Y), 0, 0) (fun _ => rfl) ?_
        by_cases h25 : y5 ≤ 0
        · refine yi_D_if1 true rfl (yi_le_t h25) ?_
          refine yi_D_run 1 (190, [(6, .inl y6), (5, .inl y5), (0, .inr (.inr (some 82))), (1, .inl x), (2, .inl y), (3, .inl (w : Int)), (4, .inl (n : Int))], [.inl 0], (I, L, R, Y), 0, 0) (fun _ => rfl) ?_
          refine yi_D_reti rfl ?_
          have hn5 : (y6 - 1).toNat = da := by omega
          rw [hn5] at hc
          have c0 := cnt_0 (g := hb (I 99) pe ev x.toNat y) da
          exact Or.inr ⟨fun h => by revert h; unfold ho; rw [if_neg (show ¬ w = 0 by omega), if_neg (show ¬ w = 1 by omega), if_neg (show ¬ w = 2 by omega), if_pos (show w = 3 by omega)]; exact fun h => absurd (c0.1.2 h) (by omega), rfl⟩
        · refine yi_D_if1 false rfl (yi_le_f h25) ?_
          refine yi_D_run 2 (190, [(6, .inl y6), (5, .inl y5), (0, .inr (.inr (some 82))), (1, .inl x), (2, .inl y), (3, .inl (w : Int)), (4, .inl (n : Int))], [.inl 1], (I, L, R, Y), 0, 0) (fun _ => rfl) ?_
          refine yi_D_reti rfl ?_
          have hn5 : (y6 - 1).toNat = da := by omega
          rw [hn5] at hc
          have c0 := cnt_0 (g := hb (I 99) pe ev x.toNat y) da
          exact Or.inl ⟨by unfold ho; rw [if_neg (show ¬ w = 0 by omega), if_neg (show ¬ w = 1 by omega), if_neg (show ¬ w = 2 by omega), if_pos (show w = 3 by omega)]; exact c0.1.1 (by omega), rfl⟩
      by_cases h26 : (w : Int) = 4
      · refine yi_D_tsi 4 rfl (by omega) (by decide) rfl ?_
        refine yi_D_run 1 (193, [(6, .inl y6), (5, .inl y5), (0, .inr (.inr (some 82))), (1, .inl x), (2, .inl y), (3, .inl (w : Int)), (4, .inl (n : Int))], [.inl y5], (I, L, R, Y), 0, 0) (fun _ => rfl) ?_
        by_cases h27 : y5 = 0
        · refine yi_D_if1 false rfl (yi_ne_f h27) ?_
          refine yi_D_run 2 (201, [(6, .inl y6), (5, .inl y5), (0, .inr (.inr (some 82))), (1, .inl x), (2, .inl y), (3, .inl (w : Int)), (4, .inl (n : Int))], [.inl 1], (I, L, R, Y), 0, 0) (fun _ => rfl) ?_
          refine yi_D_reti rfl ?_
          have hn5 : (y6 - 1).toNat = da := by omega
          rw [hn5] at hc
          have c0 := cnt_0 (g := hb (I 99) pe ev x.toNat y) da
          exact Or.inl ⟨by unfold ho; rw [if_neg (show ¬ w = 0 by omega), if_neg (show ¬ w = 1 by omega), if_neg (show ¬ w = 2 by omega), if_neg (show ¬ w = 3 by omega), if_pos (show w = 4 by omega)]; rw [Bool.not_eq_true', ← Bool.not_eq_true]; exact fun h => absurd (c0.1.2 h) (by omega), rfl⟩
        · refine yi_D_if1 true rfl (yi_ne_t h27) ?_
          refine yi_D_run 1 (201, [(6, .inl y6), (5, .inl y5), (0, .inr (.inr (some 82))), (1, .inl x), (2, .inl y), (3, .inl (w : Int)), (4, .inl (n : Int))], [.inl 0], (I, L, R, Y), 0, 0) (fun _ => rfl) ?_
          refine yi_D_reti rfl ?_
          have hn5 : (y6 - 1).toNat = da := by omega
          rw [hn5] at hc
          have c0 := cnt_0 (g := hb (I 99) pe ev x.toNat y) da
          exact Or.inr ⟨fun h => by revert h; unfold ho; rw [if_neg (show ¬ w = 0 by omega), if_neg (show ¬ w = 1 by omega), if_neg (show ¬ w = 2 by omega), if_neg (show ¬ w = 3 by omega), if_pos (show w = 4 by omega)]; rw [Bool.not_eq_true', ← Bool.not_eq_true]; exact fun h => h (c0.1.1 (by omega)), rfl⟩
      by_cases h28 : (w : Int) = 5
      · refine yi_D_tsi 5 rfl (by omega) (by decide) rfl ?_
        refine yi_D_run 2 (206, [(6, .inl y6), (5, .inl y5), (0, .inr (.inr (some 82))), (1, .inl x), (2, .inl y), (3, .inl (w : Int)), (4, .inl (n : Int))], [.inl (n : Int), .inl y5], (I, L, R, Y), 0, 0) (fun _ => rfl) ?_
        by_cases h29 : y5 = (n : Int)
        · refine yi_D_if2 false rfl (yi_ne_f h29) ?_
          refine yi_D_run 2 (214, [(6, .inl y6), (5, .inl y5), (0, .inr (.inr (some 82))), (1, .inl x), (2, .inl y), (3, .inl (w : Int)), (4, .inl (n : Int))], [.inl 1], (I, L, R, Y), 0, 0) (fun _ => rfl) ?_
          refine yi_D_reti rfl ?_
          have hn5 : (y6 - 1).toNat = da := by omega
          rw [hn5] at hc
          have c0 := cnt_0 (g := hb (I 99) pe ev x.toNat y) da
          exact Or.inl ⟨by unfold ho; rw [if_neg (show ¬ w = 0 by omega), if_neg (show ¬ w = 1 by omega), if_neg (show ¬ w = 2 by omega), if_neg (show ¬ w = 3 by omega), if_neg (show ¬ w = 4 by omega), if_pos (show w = 5 by omega)]; exact decide_eq_true (by omega), rfl⟩
        · refine yi_D_if2 true rfl (yi_ne_t h29) ?_
          refine yi_D_run 1 (214, [(6, .inl y6), (5, .inl y5), (0, .inr (.inr (some 82))), (1, .inl x), (2, .inl y), (3, .inl (w : Int)), (4, .inl (n : Int))], [.inl 0], (I, L, R, Y), 0, 0) (fun _ => rfl) ?_
          refine yi_D_reti rfl ?_
          have hn5 : (y6 - 1).toNat = da := by omega
          rw [hn5] at hc
          have c0 := cnt_0 (g := hb (I 99) pe ev x.toNat y) da
          exact Or.inr ⟨fun h => by revert h; unfold ho; rw [if_neg (show ¬ w = 0 by omega), if_neg (show ¬ w = 1 by omega), if_neg (show ¬ w = 2 by omega), if_neg (show ¬ w = 3 by omega), if_neg (show ¬ w = 4 by omega), if_pos (show w = 5 by omega)]; exact fun h => absurd (of_decide_eq_true h) (by omega), rfl⟩
      refine yi_D_tso rfl (by omega) ?_
      refine yi_D_run 2 (219, [(6, .inl y6), (5, .inl y5), (0, .inr (.inr (some 82))), (1, .inl x), (2, .inl y), (3, .inl (w : Int)), (4, .inl (n : Int))], [.inl (n : Int), .inl y5], (I, L, R, Y), 0, 0) (fun _ => rfl) ?_
      skip
      by_cases h30 : (n : Int) < y5
      · refine yi_D_if2 true rfl (yi_gt_t h30) ?_
        refine yi_D_run 1 (227, [(6, .inl y6), (5, .inl y5), (0, .inr (.inr (some 82))), (1, .inl x), (2, .inl y), (3, .inl (w : Int)), (4, .inl (n : Int))], [.inl 0], (I, L, R, Y), 0, 0) (fun _ => rfl) ?_
        refine yi_D_reti rfl ?_
        have hn5 : (y6 - 1).toNat = da := by omega
        rw [hn5] at hc
        have c0 := cnt_0 (g := hb (I 99) pe ev x.toNat y) da
        exact Or.inr ⟨fun h => by revert h; unfold ho; rw [if_neg (show ¬ w = 0 by omega), if_neg (show ¬ w = 1 by omega), if_neg (show ¬ w = 2 by omega), if_neg (show ¬ w = 3 by omega), if_neg (show ¬ w = 4 by omega), if_neg (show ¬ w = 5 by omega)]; exact fun h => absurd (of_decide_eq_true h) (by omega), rfl⟩
      · refine yi_D_if2 false rfl (yi_gt_f h30) ?_
        refine yi_D_run 2 (227, [(6, .inl y6), (5, .inl y5), (0, .inr (.inr (some 82))), (1, .inl x), (2, .inl y), (3, .inl (w : Int)), (4, .inl (n : Int))], [.inl 1], (I, L, R, Y), 0, 0) (fun _ => rfl) ?_
        refine yi_D_reti rfl ?_
        have hn5 : (y6 - 1).toNat = da := by omega
        rw [hn5] at hc
        have c0 := cnt_0 (g := hb (I 99) pe ev x.toNat y) da
        exact Or.inl ⟨by unfold ho; rw [if_neg (show ¬ w = 0 by omega), if_neg (show ¬ w = 1 by omega), if_neg (show ¬ w = 2 by omega), if_neg (show ¬ w = 3 by omega), if_neg (show ¬ w = 4 by omega), if_neg (show ¬ w = 5 by omega)]; exact decide_eq_true (by omega), rfl⟩
    · refine yi_D_if2 false rfl (yi_gt_f h1) ?_
      refine yi_D_run 5 (22, [(6, .inl y6), (5, .inl y5), (0, .inr (.inr (some 82))), (1, .inl x), (2, .inl y), (3, .inl (w : Int)), (4, .inl (n : Int))], [.inl y6, .inl y, .inl x, .inr (.inr (some 82)), .inl y5], (I, L, R, Y), 0, 0) (fun _ => rfl) ?_
      refine yi_D_callv rfl (q_hasOn hS hda hpe hev bld hx (by omega)) ?_
      rintro _ (⟨hb31, rfl⟩ | ⟨hb32, rfl⟩)
      · show yi_D zi_Ms d zi_m43 j6 (25, [(6, .inl y6), (5, .inl y5), (0, .inr (.inr (some 82))), (1, .inl x), (2, .inl y), (3, .inl (w : Int)), (4, .inl (n : Int))], [.inl 1, .inl y5], (I, L, R, Y), 0, 0) _
        refine yi_D_if1 false rfl (by decide) ?_
        refine yi_D_run 2 (33, [(6, .inl y6), (5, .inl y5), (0, .inr (.inr (some 82))), (1, .inl x), (2, .inl y), (3, .inl (w : Int)), (4, .inl (n : Int))], [.inl 1, .inl y5], (I, L, R, Y), 0, 0) (fun _ => rfl) ?_
        refine yi_D_iadd rfl (y5 + 1) (yi_wn (by omega) (by omega)) ?_
        refine yi_D_run 1 (36, [(5, .inl (y5 + 1)), (6, .inl y6), (0, .inr (.inr (some 82))), (1, .inl x), (2, .inl y), (3, .inl (w : Int)), (4, .inl (n : Int))], [], (I, L, R, Y), 0, 0) (fun _ => rfl) ?_
        refine yi_D_iinc [(6, .inl (y6 + 1)), (5, .inl (y5 + 1)), (0, .inr (.inr (some 82))), (1, .inl x), (2, .inl y), (3, .inl (w : Int)), (4, .inl (n : Int))] rfl rfl rfl (by rw [show yi_w (y6 + 1) = y6 + 1 from (yi_wn (by omega) (by omega)).trans (by omega)]; rfl) ?_
        refine yi_D_run 1 (6, [(6, .inl (y6 + 1)), (5, .inl (y5 + 1)), (0, .inr (.inr (some 82))), (1, .inl x), (2, .inl y), (3, .inl (w : Int)), (4, .inl (n : Int))], [], (I, L, R, Y), 0, 0) (fun _ => rfl) ?_
        exact yi_D_mono (ih6 (by omega) (y6 + 1) (y5 + 1) (by omega) (by rw [show (y6 + 1 - 1).toNat = (y6 - 1).toNat + 1 by omega]; show _ = ((cnt (hb (I 99) pe ev x.toNat y) (y6 - 1).toNat + (if hb (I 99) pe ev x.toNat y ((y6 - 1).toNat + 1) then 1 else 0) : Nat) : Int); rw [show (y6 - 1).toNat + 1 = y6.toNat by omega, if_pos (by assumption)]; omega)) (by omega)
      · show yi_D zi_Ms d zi_m43 j6 (25, [(6, .inl y6), (5, .inl y5), (0, .inr (.inr (some 82))), (1, .inl x), (2, .inl y), (3, .inl (w : Int)), (4, .inl (n : Int))], [.inl 0, .inl y5], (I, L, R, Y), 0, 0) _
        refine yi_D_if1 true rfl (by decide) ?_
        refine yi_D_run 1 (33, [(6, .inl y6), (5, .inl y5), (0, .inr (.inr (some 82))), (1, .inl x), (2, .inl y), (3, .inl (w : Int)), (4, .inl (n : Int))], [.inl 0, .inl y5], (I, L, R, Y), 0, 0) (fun _ => rfl) ?_
        refine yi_D_iadd rfl (y5 + 0) (yi_wn (by omega) (by omega)) ?_
        refine yi_D_run 1 (36, [(5, .inl (y5 + 0)), (6, .inl y6), (0, .inr (.inr (some 82))), (1, .inl x), (2, .inl y), (3, .inl (w : Int)), (4, .inl (n : Int))], [], (I, L, R, Y), 0, 0) (fun _ => rfl) ?_
        refine yi_D_iinc [(6, .inl (y6 + 1)), (5, .inl (y5 + 0)), (0, .inr (.inr (some 82))), (1, .inl x), (2, .inl y), (3, .inl (w : Int)), (4, .inl (n : Int))] rfl rfl rfl (by rw [show yi_w (y6 + 1) = y6 + 1 from (yi_wn (by omega) (by omega)).trans (by omega)]; rfl) ?_
        refine yi_D_run 1 (6, [(6, .inl (y6 + 1)), (5, .inl (y5 + 0)), (0, .inr (.inr (some 82))), (1, .inl x), (2, .inl y), (3, .inl (w : Int)), (4, .inl (n : Int))], [], (I, L, R, Y), 0, 0) (fun _ => rfl) ?_
        exact yi_D_mono (ih6 (by omega) (y6 + 1) (y5 + 0) (by omega) (by rw [show (y6 + 1 - 1).toNat = (y6 - 1).toNat + 1 by omega]; show _ = ((cnt (hb (I 99) pe ev x.toNat y) (y6 - 1).toNat + (if hb (I 99) pe ev x.toNat y ((y6 - 1).toNat + 1) then 1 else 0) : Nat) : Int); rw [show (y6 - 1).toNat + 1 = y6.toNat by omega, if_neg (by assumption)]; omega)) (by omega)
  exact pt6 k (Nat.le_refl _) 1 0 (by omega) rfl
