/-! tall. -/
theorem p_isPerson {d : Nat} {I L : Nat → Nat → Int} {R : Nat → Nat → Option Nat} {Y : (Nat → Nat) × (Nat → Nat) × Nat} {q : Nat} {x n1 : Int} (hq : 10 ≤ q) (h : I q 15 = n1) (h4 : n1 ≤ 4) : yi_P zi_Ms d 230 [.inr (.inr (some q)), .inl x] (I, L, R, Y) (fun r => (0 ≤ x ∧ x < n1 → r = (some (.inl 1), (I, L, R, Y), 0, 0)) ∧ (¬ (0 ≤ x ∧ x < n1) → r = (some (.inl 0), (I, L, R, Y), 0, 0))) := by
  refine yi_P_of (M := zi_m230) rfl (fun d k => ?_)
  show yi_D zi_Ms d zi_m230 k (0, [(0, .inr (.inr (some q))), (1, .inl x)], [], (I, L, R, Y), 0, 0) _
  refine yi_D_run 1 (1, [(0, .inr (.inr (some q))), (1, .inl x)], [.inl x], (I, L, R, Y), 0, 0) (fun _ => rfl) ?_
  by_cases h1 : x < 0
  · refine yi_D_if1 true rfl (yi_lt_t h1) ?_
    refine yi_D_run 1 (22, [(0, .inr (.inr (some q))), (1, .inl x)], [.inl 0], (I, L, R, Y), 0, 0) (fun _ => rfl) ?_
    refine yi_D_reti rfl ?_
    exact ⟨fun h => absurd h (by omega), fun _ => rfl⟩
  · refine yi_D_if1 false rfl (yi_lt_f h1) ?_
    refine yi_D_run 2 (6, [(0, .inr (.inr (some q))), (1, .inl x)], [.inr (.inr (some q)), .inl x], (I, L, R, Y), 0, 0) (fun _ => rfl) ?_
    refine yi_D_gi (v := n1) rfl rfl (Nat.ble_eq_true_of_le hq) h (fun _ => ?_)
    by_cases h2 : n1 ≤ x
    · refine yi_D_if2 true rfl (yi_ge_t h2) ?_
      refine yi_D_run 1 (22, [(0, .inr (.inr (some q))), (1, .inl x)], [.inl 0], (I, L, R, Y), 0, 0) (fun _ => rfl) ?_
      refine yi_D_reti rfl ?_
      exact ⟨fun h => absurd h (by omega), fun _ => rfl⟩
    · refine yi_D_if2 false rfl (yi_ge_f h2) ?_
      refine yi_D_run 2 (14, [(0, .inr (.inr (some q))), (1, .inl x)], [.inl 4, .inl x], (I, L, R, Y), 0, 0) (fun _ => rfl) ?_
      refine yi_D_if2 false rfl (yi_ge_f (by omega)) ?_
      refine yi_D_run 2 (22, [(0, .inr (.inr (some q))), (1, .inl x)], [.inl 1], (I, L, R, Y), 0, 0) (fun _ => rfl) ?_
      refine yi_D_reti rfl ?_
      exact ⟨fun _ => rfl, fun h => absurd (show 0 ≤ x ∧ x < n1 by omega) h⟩
theorem q_people {d : Nat} {I L : Nat → Nat → Int} {R : Nat → Nat → Option Nat} {Y : (Nat → Nat) × (Nat → Nat) × Nat} {n1 : Int} (hS : ym_S (R, Y)) (h : I 88 1 = n1) : yi_P zi_Ms d 88 [.inr (.inr (some 82))] (I, L, R, Y) (fun r => r = (some (.inl n1), (I, L, R, Y), 0, 0)) := by
  refine yi_P_of (M := zi_m88) rfl (fun d k => ?_)
  show yi_D zi_Ms d zi_m88 k (0, [(0, .inr (.inr (some 82)))], [], (I, L, R, Y), 0, 0) _
  refine yi_D_run 1 (1, [(0, .inr (.inr (some 82)))], [.inr (.inr (some 82))], (I, L, R, Y), 0, 0) (fun _ => rfl) ?_
  refine yi_D_gr (v := some 88) rfl rfl rfl (ym_S_at hS (j := 5) rfl).1 (fun _ => ?_)
  refine yi_D_run 1 (5, [(0, .inr (.inr (some 82)))], [.inl 1, .inr (.inr (some 88))], (I, L, R, Y), 0, 0) (fun _ => rfl) ?_
  refine yi_D_il (v := n1) rfl rfl h (fun _ _ => ?_)
  refine yi_D_reti rfl ?_
  rfl
theorem q_isPerson {d : Nat} {I L : Nat → Nat → Int} {R : Nat → Nat → Option Nat} {Y : (Nat → Nat) × (Nat → Nat) × Nat} {x n1 : Int} (hS : ym_S (R, Y)) (h : I 88 1 = n1) : yi_P zi_Ms d 58 [.inr (.inr (some 82)), .inl x] (I, L, R, Y) (fun r => (0 ≤ x ∧ x < n1 → r = (some (.inl 1), (I, L, R, Y), 0, 0)) ∧ (¬ (0 ≤ x ∧ x < n1) → r = (some (.inl 0), (I, L, R, Y), 0, 0))) := by
  refine yi_P_of (M := zi_m58) rfl (fun d k => ?_)
  show yi_D zi_Ms d zi_m58 k (0, [(0, .inr (.inr (some 82))), (1, .inl x)], [], (I, L, R, Y), 0, 0) _
  refine yi_D_run 1 (1, [(0, .inr (.inr (some 82))), (1, .inl x)], [.inl x], (I, L, R, Y), 0, 0) (fun _ => rfl) ?_
  by_cases h1 : x < 0
  · refine yi_D_if1 true rfl (yi_lt_t h1) ?_
    refine yi_D_run 1 (17, [(0, .inr (.inr (some 82))), (1, .inl x)], [.inl 0], (I, L, R, Y), 0, 0) (fun _ => rfl) ?_
    refine yi_D_reti rfl ?_
    exact ⟨fun h => absurd h (by omega), fun _ => rfl⟩
  · refine yi_D_if1 false rfl (yi_lt_f h1) ?_
    refine yi_D_run 2 (6, [(0, .inr (.inr (some 82))), (1, .inl x)], [.inr (.inr (some 82)), .inl x], (I, L, R, Y), 0, 0) (fun _ => rfl) ?_
    refine yi_D_callv rfl (q_people hS h) ?_
    rintro _ rfl
    show yi_D zi_Ms d zi_m58 k (9, [(0, .inr (.inr (some 82))), (1, .inl x)], [.inl n1, .inl x], (I, L, R, Y), 0, 0) _
    by_cases h2 : n1 ≤ x
    · refine yi_D_if2 true rfl (yi_ge_t h2) ?_
      refine yi_D_run 1 (17, [(0, .inr (.inr (some 82))), (1, .inl x)], [.inl 0], (I, L, R, Y), 0, 0) (fun _ => rfl) ?_
      refine yi_D_reti rfl ?_
      exact ⟨fun h => absurd h (by omega), fun _ => rfl⟩
    · refine yi_D_if2 false rfl (yi_ge_f h2) ?_
      refine yi_D_run 2 (17, [(0, .inr (.inr (some 82))), (1, .inl x)], [.inl 1], (I, L, R, Y), 0, 0) (fun _ => rfl) ?_
      refine yi_D_reti rfl ?_
      exact ⟨fun _ => rfl, fun h => absurd (show 0 ≤ x ∧ x < n1 by omega) h⟩
theorem p_tallOf {d : Nat} {I L : Nat → Nat → Int} {R : Nat → Nat → Option Nat} {Y : (Nat → Nat) × (Nat → Nat) × Nat} {q : Nat} {x n1 : Int} {f : Nat → Int} (hq : 10 ≤ q) (h : I q 15 = n1) (h4 : n1 ≤ 4) (hr : R q 3 = some (q + 4)) (ht : ∀ i : Nat, (i : Int) < n1 → I (q + 4) i = f i) : yi_P zi_Ms d 238 [.inr (.inr (some q)), .inl x] (I, L, R, Y) (fun r => r = (some (.inl (if 0 ≤ x ∧ x < n1 then f x.toNat else -1)), (I, L, R, Y), 0, 0)) := by
  refine yi_P_of (M := zi_m238) rfl (fun d k => ?_)
  show yi_D zi_Ms d zi_m238 k (0, [(0, .inr (.inr (some q))), (1, .inl x)], [], (I, L, R, Y), 0, 0) _
  refine yi_D_run 2 (2, [(0, .inr (.inr (some q))), (1, .inl x)], [.inl x, .inr (.inr (some q))], (I, L, R, Y), 0, 0) (fun _ => rfl) ?_
  refine yi_D_callv rfl (p_isPerson hq h h4) ?_
  rintro r ⟨hy, hn⟩
  by_cases c : 0 ≤ x ∧ x < n1
  · rw [hy c, if_pos c]
    show yi_D zi_Ms d zi_m238 k (5, [(0, .inr (.inr (some q))), (1, .inl x)], [.inl 1], (I, L, R, Y), 0, 0) _
    refine yi_D_if1 false rfl (by decide) ?_
    refine yi_D_run 1 (9, [(0, .inr (.inr (some q))), (1, .inl x)], [.inr (.inr (some q))], (I, L, R, Y), 0, 0) (fun _ => rfl) ?_
    refine yi_D_gr (v := some (q + 4)) rfl rfl (Nat.ble_eq_true_of_le hq) hr (fun _ => ?_)
    refine yi_D_run 1 (13, [(0, .inr (.inr (some q))), (1, .inl x)], [.inl x, .inr (.inr (some (q + 4)))], (I, L, R, Y), 0, 0) (fun _ => rfl) ?_
    refine yi_D_il (v := f x.toNat) rfl (Nat.ble_eq_true_of_le (by omega)) (ht _ (by omega)) (fun _ _ => ?_)
    refine yi_D_run 1 (18, [(0, .inr (.inr (some q))), (1, .inl x)], [.inl (f x.toNat)], (I, L, R, Y), 0, 0) (fun _ => rfl) ?_
    refine yi_D_reti rfl ?_
    rfl
  · rw [hn c, if_neg c]
    show yi_D zi_Ms d zi_m238 k (5, [(0, .inr (.inr (some q))), (1, .inl x)], [.inl 0], (I, L, R, Y), 0, 0) _
    refine yi_D_if1 true rfl (by decide) ?_
    refine yi_D_run 1 (18, [(0, .inr (.inr (some q))), (1, .inl x)], [.inl (-1)], (I, L, R, Y), 0, 0) (fun _ => rfl) ?_
    refine yi_D_reti rfl ?_
    rfl
theorem p_tall {d : Nat} {I L : Nat → Nat → Int} {R : Nat → Nat → Option Nat} {Y : (Nat → Nat) × (Nat → Nat) × Nat} {q : Nat} {ld : Nat → Int} {nm : Int → Int} {x : Int} (h : lq_R q ld nm I L R Y) : yi_P zi_Ms d 179 [.inr (.inr (some 10)), .inl x] (I, L, R, Y) (fun r => r = (some (.inl (if 0 ≤ x ∧ x < ld 1 then ld (7 + x.toNat) else -1)), (I, L, R, Y), 0, 0)) := by
  obtain ⟨⟨h1, h2, h3, h4, h5⟩, h6, ⟨R2, e, ⟨⟨h20, _, hr, _⟩, ⟨i1, i2, i3, i4, i5, i6⟩, hb, hp, hv, hn, ht, hw⟩⟩⟩ := h
  refine yi_P_of (M := zi_m179) rfl (fun d k => ?_)
  show yi_D zi_Ms d zi_m179 k (0, [(0, .inr (.inr (some 10))), (1, .inl x)], [], (I, L, R, Y), 0, 0) _
  refine yi_D_run 1 (1, [(0, .inr (.inr (some 10))), (1, .inl x)], [.inr (.inr (some 10))], (I, L, R, Y), 0, 0) (fun _ => rfl) ?_
  refine yi_D_gr (v := some q) rfl rfl rfl h3 (fun _ => ?_)
  refine yi_D_run 1 (5, [(0, .inr (.inr (some 10))), (1, .inl x)], [.inl x, .inr (.inr (some q))], (I, L, R, Y), 0, 0) (fun _ => rfl) ?_
  refine yi_D_callv rfl (p_tallOf (f := fun i => ld (7 + i)) (by omega) i2 (by omega) (by rw [← e q 3 (by omega)]; exact hr 3 (by omega)) ht) ?_
  rintro _ rfl
  show yi_D zi_Ms d zi_m179 k (8, [(0, .inr (.inr (some 10))), (1, .inl x)], [.inl (if 0 ≤ x ∧ x < ld 1 then ld (7 + x.toNat) else -1)], (I, L, R, Y), 0, 0) _
  refine yi_D_reti rfl ?_
  rfl
theorem q_tall2 {d : Nat} {I L : Nat → Nat → Int} {R : Nat → Nat → Option Nat} {Y : (Nat → Nat) × (Nat → Nat) × Nat} {ld : Nat → Int} {nm : Int → Int} {x : Int} (hS : ym_S (R, Y)) (h : lm_R ld nm I L) : yi_P zi_Ms d 121 [.inr (.inr (some 82)), .inl x] (I, L, R, Y) (fun r => ∃ I', r = (some (.inl (if 0 ≤ x ∧ x < ld 1 then ld (7 + x.toNat) else -1)), (I', L, R, Y), 0, 0)) := by
  obtain ⟨e1, e2, e3, e4, e5⟩ := h
  refine yi_P_of (M := zi_m121) rfl (fun d k => ?_)
  show yi_D zi_Ms d zi_m121 k (0, [(0, .inr (.inr (some 82))), (1, .inl x)], [], (I, L, R, Y), 0, 0) _
  refine yi_D_run 2 (2, [(0, .inr (.inr (some 82))), (1, .inl x)], [.inl 0, .inr (.inr (some 82))], (I, L, R, Y), 0, 0) (fun _ => rfl) ?_
  refine yi_D_pi rfl (fun _ => ?_)
  have w1 : yi_u I 82 0 0 88 1 = ld 1 := by rw [yi_u_ne _ _ (by omega)]; exact e1 1 (by omega)
  have w7 : ∀ j, 7 ≤ j → j < 21 → yi_u I 82 0 0 88 j = ld j := fun j a b => by rw [yi_u_ne _ _ (by omega)]; exact e3 j a b
  generalize yi_u I 82 0 0 = I1 at w1 w7
  refine yi_D_run 2 (7, [(0, .inr (.inr (some 82))), (1, .inl x)], [.inl x, .inr (.inr (some 82))], (I1, L, R, Y), 0, 0) (fun _ => rfl) ?_
  refine yi_D_callv rfl (q_isPerson hS w1) ?_
  rintro r ⟨hy, hn⟩
  by_cases c : 0 ≤ x ∧ x < ld 1
  · rw [hy c, if_pos c]
    show yi_D zi_Ms d zi_m121 k (10, [(0, .inr (.inr (some 82))), (1, .inl x)], [.inl 1], (I1, L, R, Y), 0, 0) _
    refine yi_D_if1 false rfl (by decide) ?_
    refine yi_D_run 1 (14, [(0, .inr (.inr (some 82))), (1, .inl x)], [.inr (.inr (some 82))], (I1, L, R, Y), 0, 0) (fun _ => rfl) ?_
    refine yi_D_gr (v := some 88) rfl rfl rfl (ym_S_at hS (j := 5) rfl).1 (fun _ => ?_)
    refine yi_D_run 2 (20, [(0, .inr (.inr (some 82))), (1, .inl x)], [.inl x, .inl 7, .inr (.inr (some 88))], (I1, L, R, Y), 0, 0) (fun _ => rfl) ?_
    refine yi_D_iadd rfl (7 + x) (yi_wn (by omega) (by omega)) ?_
    refine yi_D_il (v := ld (7 + x.toNat)) rfl rfl (by rw [show (7 + x).toNat = 7 + x.toNat by omega]; exact w7 _ (by omega) (by omega)) (fun _ _ => ?_)
    refine yi_D_run 1 (26, [(0, .inr (.inr (some 82))), (1, .inl x)], [.inl (ld (7 + x.toNat))], (I1, L, R, Y), 0, 0) (fun _ => rfl) ?_
    refine yi_D_reti rfl ?_
    exact ⟨_, rfl⟩
  · rw [hn c, if_neg c]
    show yi_D zi_Ms d zi_m121 k (10, [(0, .inr (.inr (some 82))), (1, .inl x)], [.inl 0], (I1, L, R, Y), 0, 0) _
    refine yi_D_if1 true rfl (by decide) ?_
    refine yi_D_run 1 (26, [(0, .inr (.inr (some 82))), (1, .inl x)], [.inl (-1)], (I1, L, R, Y), 0, 0) (fun _ => rfl) ?_
    refine yi_D_reti rfl ?_
    exact ⟨_, rfl⟩
