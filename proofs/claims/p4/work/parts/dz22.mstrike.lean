/-! The check: struck, promised, undone. -/
/-- what a call that changes the story leaves: block 0, what is kept, and all else -/
def q_S (I L I' L' : Nat → Nat → Int) (n P pr : Nat) (S : ss_T) (u : Nat) (U : Nat → ss_T) : Prop := sm_B I' L' n P pr 0 S ∧ I' 82 30 = (u : Int) ∧ (∀ j, j < u → sm_B I' L' n P pr (5 + j) (U j)) ∧ (∀ p i, ¬ (p = 100 ∧ (i < 110 ∨ 550 ≤ i)) ∧ ¬ (p = 82 ∧ (i = 0 ∨ i = 30)) → I' p i = I p i) ∧ (∀ p i, ¬ (p = 97 ∧ ((512 * 39 ≤ i ∧ i < 512 * 40) ∨ (512 * 60 ≤ i ∧ i < 512 * 72) ∨ 512 * 120 ≤ i)) → L' p i = L p i)
/-- a saying is out -/
def ss_rm (S : ss_T) (x : Nat) : ss_T := ((S.1.1 - 1, S.1.2.1, S.1.2.2), fun i => if i < x then S.2.1 i else S.2.1 (i + 1), fun i => if i < x then S.2.2.1 i else S.2.2.1 (i + 1), S.2.2.2.1, S.2.2.2.2.1, S.2.2.2.2.2)
/-- one promise more -/
def ss_pm (S : ss_T) (x y : Int) : ss_T := ((S.1.1, S.1.2.1, S.1.2.2 + 1), S.2.1, S.2.2.1, S.2.2.2.1, S.2.2.2.2.1, fun i => if i = S.1.2.2 then (x, y) else S.2.2.2.2.2 i)
theorem sm_B_rm {I L I' L' : Nat → Nat → Int} {n P pr x : Nat} {S : ss_T} (h : sm_B I L n P pr 0 S) (hb : P ≤ 24 ∧ pr ≤ 5 ∧ S.1.1 ≤ 12 ∧ S.1.2.2 ≤ 20 ∧ n ≤ 512) (hx : x < S.1.1) (h0 : I' 100 0 = (S.1.1 : Int) - 1) (h1 : ∀ i e, x ≤ i → i + 1 < S.1.1 → e < 3 → I' 100 (8 + 3 * i + e) = I 100 (8 + 3 * (i + 1) + e)) (h2 : ∀ i, ¬ i = 0 → ¬ (8 + 3 * x ≤ i ∧ i < 44) → I' 100 i = I 100 i) (l1 : ∀ i k, x ≤ i → i + 1 < S.1.1 → k < n → L' 97 (512 * (60 + i) + k) = L 97 (512 * (60 + (i + 1)) + k)) (l2 : ∀ i k, i < x → k < n → L' 97 (512 * (60 + i) + k) = L 97 (512 * (60 + i) + k)) : sm_B I' L' n P pr 0 (ss_rm S x) := by
  obtain ⟨⟨a1, a2, a3⟩, a4, a5, a6, a7, a8⟩ := h
  refine ⟨⟨?_, (h2 1 (by omega) (by omega)).trans a2, (h2 2 (by omega) (by omega)).trans a3⟩, fun p hp => (h2 _ (by omega) (by omega)).trans (a4 p hp), fun i hi => ?_, fun i k hi hk => ?_, fun k hk => (h2 _ (by omega) (by omega)).trans (a7 k hk), fun i hi => ?_⟩
  · show I' 100 0 = ((S.1.1 - 1 : Nat) : Int)
    rw [h0]
    omega
  · have hi : i < S.1.1 - 1 := hi
    show I' 100 (110 * 0 + 8 + 3 * i) = ((if i < x then S.2.1 i else S.2.1 (i + 1))).1 ∧ I' 100 (110 * 0 + 9 + 3 * i) = ((if i < x then S.2.1 i else S.2.1 (i + 1))).2.1 ∧ I' 100 (110 * 0 + 10 + 3 * i) = ((if i < x then S.2.1 i else S.2.1 (i + 1))).2.2
    by_cases c : i < x
    · rw [if_pos c]
      have z := a5 i (by omega)
      exact ⟨(h2 _ (by omega) (by omega)).trans z.1, (h2 _ (by omega) (by omega)).trans z.2.1, (h2 _ (by omega) (by omega)).trans z.2.2⟩
    · rw [if_neg c]
      have z := a5 (i + 1) (by omega)
      have e0 := h1 i 0 (by omega) (by omega) (by omega)
      have e1 := h1 i 1 (by omega) (by omega) (by omega)
      have e2 := h1 i 2 (by omega) (by omega) (by omega)
      rw [show 110 * 0 + 8 + 3 * i = 8 + 3 * i + 0 by omega, show 110 * 0 + 9 + 3 * i = 8 + 3 * i + 1 by omega, show 110 * 0 + 10 + 3 * i = 8 + 3 * i + 2 by omega, e0, e1, e2]
      rw [show 110 * 0 + 8 + 3 * (i + 1) = 8 + 3 * (i + 1) + 0 by omega, show 110 * 0 + 9 + 3 * (i + 1) = 8 + 3 * (i + 1) + 1 by omega, show 110 * 0 + 10 + 3 * (i + 1) = 8 + 3 * (i + 1) + 2 by omega] at z
      exact z
  · have hi : i < S.1.1 - 1 := hi
    show L' 97 (512 * (60 + 12 * 0 + i) + k) = (if i < x then S.2.2.1 i else S.2.2.1 (i + 1)) k
    rw [show 60 + 12 * 0 + i = 60 + i by omega]
    by_cases c : i < x
    · rw [if_pos c, l2 i k c hk]
      have z := a6 i k (by omega) hk
      rw [show 60 + 12 * 0 + i = 60 + i by omega] at z
      exact z
    · rw [if_neg c, l1 i k (by omega) (by omega) hk]
      have z := a6 (i + 1) k (by omega) hk
      rw [show 60 + 12 * 0 + (i + 1) = 60 + (i + 1) by omega] at z
      exact z
  · have z := a8 i hi
    exact ⟨(h2 _ (by omega) (by omega)).trans z.1, (h2 _ (by omega) (by omega)).trans z.2⟩
theorem sm_B_pm {I L I' L' : Nat → Nat → Int} {n P pr : Nat} {S : ss_T} {x y : Int} (h : sm_B I L n P pr 0 S) (hb : P ≤ 24 ∧ pr ≤ 5 ∧ S.1.1 ≤ 12 ∧ S.1.2.2 < 20 ∧ n ≤ 512) (h0 : I' 100 2 = (S.1.2.2 : Int) + 1) (h1 : I' 100 (68 + 2 * S.1.2.2) = x) (h3 : I' 100 (69 + 2 * S.1.2.2) = y) (h2 : ∀ i, ¬ i = 2 → ¬ i = 68 + 2 * S.1.2.2 → ¬ i = 69 + 2 * S.1.2.2 → I' 100 i = I 100 i) (l : ∀ i, L' 97 i = L 97 i) : sm_B I' L' n P pr 0 (ss_pm S x y) := by
  obtain ⟨⟨a1, a2, a3⟩, a4, a5, a6, a7, a8⟩ := h
  refine ⟨⟨(h2 0 (by omega) (by omega) (by omega)).trans a1, (h2 1 (by omega) (by omega) (by omega)).trans a2, h0⟩, fun p hp => (h2 _ (by omega) (by omega) (by omega)).trans (a4 p hp), fun i hi => ?_, fun i k hi hk => (l _).trans (a6 i k hi hk), fun k hk => (h2 _ (by omega) (by omega) (by omega)).trans (a7 k hk), fun i hi => ?_⟩
  · have hi : i < S.1.1 := hi
    have z := a5 i hi
    exact ⟨(h2 _ (by omega) (by omega) (by omega)).trans z.1, (h2 _ (by omega) (by omega) (by omega)).trans z.2.1, (h2 _ (by omega) (by omega) (by omega)).trans z.2.2⟩
  · have hi : i < S.1.2.2 + 1 := hi
    show I' 100 (110 * 0 + 68 + 2 * i) = (if i = S.1.2.2 then (x, y) else S.2.2.2.2.2 i).1 ∧ I' 100 (110 * 0 + 69 + 2 * i) = (if i = S.1.2.2 then (x, y) else S.2.2.2.2.2 i).2
    by_cases c : i = S.1.2.2
    · rw [if_pos c, c]
      exact ⟨(congrArg (I' 100) (by omega)).trans h1, (congrArg (I' 100) (by omega)).trans h3⟩
    · rw [if_neg c]
      have z := a8 i (by omega)
      exact ⟨(h2 _ (by omega) (by omega) (by omega)).trans z.1, (h2 _ (by omega) (by omega) (by omega)).trans z.2⟩
theorem q_isSaying {d : Nat} {I L : Nat → Nat → Int} {R : Nat → Nat → Option Nat} {Y : (Nat → Nat) × (Nat → Nat) × Nat} (hS : ym_S (R, Y)) {x t : Int} (ht : I 100 0 = t) : yi_P zi_Ms d 60 [.inr (.inr (some 82)), .inl x] (I, L, R, Y) (fun r => ((0 ≤ x ∧ x < t) ∧ r = (some (.inl 1), (I, L, R, Y), 0, 0)) ∨ (¬ (0 ≤ x ∧ x < t) ∧ r = (some (.inl 0), (I, L, R, Y), 0, 0))) := by
  refine yi_P_of (M := zi_m60) rfl (fun d k => ?_)
  show yi_D zi_Ms d zi_m60 k (0, [(0, .inr (.inr (some 82))), (1, .inl x)], [], (I, L, R, Y), 0, 0) _
  refine yi_D_run 1 (1, [(0, .inr (.inr (some 82))), (1, .inl x)], [.inl x], (I, L, R, Y), 0, 0) (fun _ => rfl) ?_
  by_cases h1 : x < 0
  · refine yi_D_if1 true rfl (yi_lt_t h1) ?_
    refine yi_D_run 1 (19, [(0, .inr (.inr (some 82))), (1, .inl x)], [.inl 0], (I, L, R, Y), 0, 0) (fun _ => rfl) ?_
    refine yi_D_reti rfl ?_
    exact Or.inr ⟨by omega, rfl⟩
  · refine yi_D_if1 false rfl (yi_lt_f h1) ?_
    refine yi_D_run 2 (6, [(0, .inr (.inr (some 82))), (1, .inl x)], [.inr (.inr (some 82)), .inl x], (I, L, R, Y), 0, 0) (fun _ => rfl) ?_
    refine yi_D_gr (v := some 100) rfl rfl rfl (ym_S_at hS (j := 17) rfl).1 (fun _ => ?_)
    refine yi_D_run 1 (10, [(0, .inr (.inr (some 82))), (1, .inl x)], [.inl 0, .inr (.inr (some 100)), .inl x], (I, L, R, Y), 0, 0) (fun _ => rfl) ?_
    refine yi_D_il (v := t) rfl rfl ht (fun _ _ => ?_)
    by_cases h2 : t ≤ x
    · refine yi_D_if2 true rfl (yi_ge_t h2) ?_
      refine yi_D_run 1 (19, [(0, .inr (.inr (some 82))), (1, .inl x)], [.inl 0], (I, L, R, Y), 0, 0) (fun _ => rfl) ?_
      refine yi_D_reti rfl ?_
      exact Or.inr ⟨by omega, rfl⟩
    · refine yi_D_if2 false rfl (yi_ge_f h2) ?_
      refine yi_D_run 2 (19, [(0, .inr (.inr (some 82))), (1, .inl x)], [.inl 1], (I, L, R, Y), 0, 0) (fun _ => rfl) ?_
      refine yi_D_reti rfl ?_
      exact Or.inl ⟨by omega, rfl⟩
theorem q_kindOf {d : Nat} {I L : Nat → Nat → Int} {R : Nat → Nat → Option Nat} {Y : (Nat → Nat) × (Nat → Nat) × Nat} (hS : ym_S (R, Y)) {x v : Int} {w : Nat} (hx : x = (w : Int)) (hw : w ≤ 4) (hv : I 88 (11 + 2 * w) = v) : yi_P zi_Ms d 70 [.inr (.inr (some 82)), .inl x] (I, L, R, Y) (fun r => r = (some (.inl v), (I, L, R, Y), 0, 0)) := by
  refine yi_P_of (M := zi_m70) rfl (fun d k => ?_)
  show yi_D zi_Ms d zi_m70 k (0, [(0, .inr (.inr (some 82))), (1, .inl x)], [], (I, L, R, Y), 0, 0) _
  refine yi_D_run 1 (1, [(0, .inr (.inr (some 82))), (1, .inl x)], [.inr (.inr (some 82))], (I, L, R, Y), 0, 0) (fun _ => rfl) ?_
  refine yi_D_gr (v := some 88) rfl rfl rfl (ym_S_at hS (j := 5) rfl).1 (fun _ => ?_)
  refine yi_D_run 3 (8, [(0, .inr (.inr (some 82))), (1, .inl x)], [.inl x, .inl 2, .inl 11, .inr (.inr (some 88))], (I, L, R, Y), 0, 0) (fun _ => rfl) ?_
  refine yi_D_imul rfl (2 * x) (yi_wn (by omega) (by omega)) ?_
  refine yi_D_iadd rfl (11 + (2 * x)) (yi_wn (by omega) (by omega)) ?_
  have hvi : I 88 (11 + 2 * x).toNat = v := by rw [show (11 + 2 * x).toNat = 11 + 2 * w by omega]; exact hv
  refine yi_D_il (v := v) rfl rfl hvi (fun _ _ => ?_)
  refine yi_D_reti rfl ?_
  rfl
theorem q_isGrand {d : Nat} {I L : Nat → Nat → Int} {R : Nat → Nat → Option Nat} {Y : (Nat → Nat) × (Nat → Nat) × Nat} (hS : ym_S (R, Y)) {x v : Int} {i w : Nat} (hx : x = (i : Int)) (hi : i < 12) (h1 : I 100 (8 + 3 * i) = (w : Int)) (hw : w ≤ 4) (hv : I 88 (11 + 2 * w) = v) : yi_P zi_Ms d 52 [.inr (.inr (some 82)), .inl x] (I, L, R, Y) (fun r => ((v = 3) ∧ r = (some (.inl 1), (I, L, R, Y), 0, 0)) ∨ (¬ (v = 3) ∧ r = (some (.inl 0), (I, L, R, Y), 0, 0))) := by
  refine yi_P_of (M := zi_m52) rfl (fun d k => ?_)
  show yi_D zi_Ms d zi_m52 k (0, [(0, .inr (.inr (some 82))), (1, .inl x)], [], (I, L, R, Y), 0, 0) _
  refine yi_D_run 2 (2, [(0, .inr (.inr (some 82))), (1, .inl x)], [.inr (.inr (some 82)), .inr (.inr (some 82))], (I, L, R, Y), 0, 0) (fun _ => rfl) ?_
  refine yi_D_gr (v := some 100) rfl rfl rfl (ym_S_at hS (j := 17) rfl).1 (fun _ => ?_)
  refine yi_D_run 3 (9, [(0, .inr (.inr (some 82))), (1, .inl x)], [.inl x, .inl 3, .inl 8, .inr (.inr (some 100)), .inr (.inr (some 82))], (I, L, R, Y), 0, 0) (fun _ => rfl) ?_
  refine yi_D_imul rfl (3 * x) (yi_wn (by omega) (by omega)) ?_
  refine yi_D_iadd rfl (8 + (3 * x)) (yi_wn (by omega) (by omega)) ?_
  have hvi : I 100 (8 + 3 * x).toNat = (w : Int) := by rw [show (8 + 3 * x).toNat = 8 + 3 * i by omega]; exact h1
  refine yi_D_il (v := (w : Int)) rfl rfl hvi (fun _ _ => ?_)
  refine yi_D_callv rfl (q_kindOf hS rfl hw hv) ?_
  rintro _ rfl
  show yi_D zi_Ms d zi_m52 k (15, [(0, .inr (.inr (some 82))), (1, .inl x)], [.inl v], (I, L, R, Y), 0, 0) _
  refine yi_D_run 1 (16, [(0, .inr (.inr (some 82))), (1, .inl x)], [.inl 3, .inl v], (I, L, R, Y), 0, 0) (fun _ => rfl) ?_
  by_cases h1 : v = 3
  · refine yi_D_if2 false rfl (yi_ne_f h1) ?_
    refine yi_D_run 2 (24, [(0, .inr (.inr (some 82))), (1, .inl x)], [.inl 1], (I, L, R, Y), 0, 0) (fun _ => rfl) ?_
    refine yi_D_reti rfl ?_
    exact Or.inl ⟨by omega, rfl⟩
  · refine yi_D_if2 true rfl (yi_ne_t h1) ?_
    refine yi_D_run 1 (24, [(0, .inr (.inr (some 82))), (1, .inl x)], [.inl 0], (I, L, R, Y), 0, 0) (fun _ => rfl) ?_
    refine yi_D_reti rfl ?_
    exact Or.inr ⟨by omega, rfl⟩
theorem us_ok {u : Nat} {S : ss_T} {U : Nat → ss_T} (hu : u ≤ 16) (hS : S.1.1 ≤ 12 ∧ S.1.2.2 ≤ 20) (hU : ∀ j, j < u → (U j).1.1 ≤ 12 ∧ (U j).1.2.2 ≤ 20) (j : Nat) (hj : j < us_n u) : (us_p u U S j).1.1 ≤ 12 ∧ (us_p u U S j).1.2.2 ≤ 20 := by
  unfold us_n at hj
  unfold us_p
  by_cases c : u < 16
  · rw [if_pos c] at hj ⊢
    by_cases e : j = u
    · rw [if_pos e]; exact hS
    · rw [if_neg e]; exact hU j (by omega)
  · rw [if_neg c] at hj ⊢
    by_cases e : j < 15
    · rw [if_pos e]; exact hU _ (by omega)
    · rw [if_neg e]; exact hS
theorem q_isPerson3 {d : Nat} {I L : Nat → Nat → Int} {R : Nat → Nat → Option Nat} {Y : (Nat → Nat) × (Nat → Nat) × Nat} {x n1 : Int} (hS : ym_S (R, Y)) (h : I 88 1 = n1) : yi_P zi_Ms d 58 [.inr (.inr (some 82)), .inl x] (I, L, R, Y) (fun r => ((0 ≤ x ∧ x < n1) ∧ r = (some (.inl 1), (I, L, R, Y), 0, 0)) ∨ (¬ (0 ≤ x ∧ x < n1) ∧ r = (some (.inl 0), (I, L, R, Y), 0, 0))) := (q_isPerson hS h).imp (fun r h => by
  by_cases c : 0 ≤ x ∧ x < n1
  · exact Or.inl ⟨c, h.1 c⟩
  · exact Or.inr ⟨c, h.2 c⟩)
theorem q_promise {d : Nat} {I L : Nat → Nat → Int} {R : Nat → Nat → Option Nat} {Y : (Nat → Nat) × (Nat → Nat) × Nat} (hS : ym_S (R, Y)) {n P pr u : Nat} {S : ss_T} {U : Nat → ss_T} (h25 : I 82 25 = (n : Int)) (hn5 : n ≤ 512) (hP24 : P ≤ 24) (hpr : pr ≤ 5) (h30 : I 82 30 = (u : Int)) (hu : u ≤ 16) (hB0 : sm_B I L n P pr 0 S) (hoS : S.1.1 ≤ 12 ∧ S.1.2.2 ≤ 20) (hBu : ∀ j, j < u → sm_B I L n P pr (5 + j) (U j)) (hok0 : ∀ j, j < u → (U j).1.1 ≤ 12 ∧ (U j).1.2.2 ≤ 20) {x y pe : Int} (hpe : I 88 1 = pe) : yi_P zi_Ms d 90 [.inr (.inr (some 82)), .inl x, .inl y] (I, L, R, Y) (fun r => (¬ ((0 ≤ x ∧ x < pe) ∧ (0 ≤ y ∧ y ≤ 99) ∧ S.1.2.2 < 20) ∧ (∃ I', r = (some (.inl (-1)), (I', L, R, Y), 0, 0) ∧ ∀ p i, ¬ (p = 82 ∧ i = 0) → I' p i = I p i)) ∨ (((0 ≤ x ∧ x < pe) ∧ (0 ≤ y ∧ y ≤ 99) ∧ S.1.2.2 < 20) ∧ ∃ I' L', r = (some (.inl ((S.1.2.2 : Int) + 1)), (I', L', R, Y), 0, 0) ∧ q_S I L I' L' n P pr (ss_pm S x y) (us_n u) (us_p u U S))) := by
  refine yi_P_of (M := zi_m90) rfl (fun d k => ?_)
  show yi_D zi_Ms d zi_m90 k (0, [(0, .inr (.inr (some 82))), (1, .inl x), (2, .inl y)], [], (I, L, R, Y), 0, 0) _
  refine yi_D_run 2 (2, [(0, .inr (.inr (some 82))), (1, .inl x), (2, .inl y)], [.inl 0, .inr (.inr (some 82))], (I, L, R, Y), 0, 0) (fun _ => rfl) ?_
  refine yi_D_pi rfl (fun _ => ?_)
  generalize w2 : yi_u I 82 0 0 = I1
  refine yi_D_run 2 (7, [(0, .inr (.inr (some 82))), (1, .inl x), (2, .inl y)], [.inl x, .inr (.inr (some 82))], (I1, L, R, Y), 0, 0) (fun _ => rfl) ?_
  refine yi_D_callv rfl (q_isPerson3 hS (n1 := pe) (by rw [← w2, yi_u_ne _ _ (by omega)]; exact hpe)) ?_
  rintro _ (⟨hb3, rfl⟩ | ⟨hb4, rfl⟩)
  · show yi_D zi_Ms d zi_m90 k (10, [(0, .inr (.inr (some 82))), (1, .inl x), (2, .inl y)], [.inl 1], (I1, L, R, Y), 0, 0) _
    refine yi_D_if1 false rfl (by decide) ?_
    refine yi_D_run 3 (17, [(0, .inr (.inr (some 82))), (1, .inl x), (2, .inl y)], [.inl 99, .inl 0, .inl y], (I1, L, R, Y), 0, 0) (fun _ => rfl) ?_
    refine yi_D_calls rfl (q_within) ?_
    rintro _ (⟨hb5, rfl⟩ | ⟨hb6, rfl⟩)
    · show yi_D zi_Ms d zi_m90 k (20, [(0, .inr (.inr (some 82))), (1, .inl x), (2, .inl y)], [.inl 1], (I1, L, R, Y), 0, 0) _
      refine yi_D_if1 false rfl (by decide) ?_
      refine yi_D_run 1 (24, [(0, .inr (.inr (some 82))), (1, .inl x), (2, .inl y)], [.inr (.inr (some 82))], (I1, L, R, Y), 0, 0) (fun _ => rfl) ?_
      refine yi_D_gr (v := some 100) rfl rfl rfl (ym_S_at hS (j := 17) rfl).1 (fun _ => ?_)
      refine yi_D_run 1 (28, [(0, .inr (.inr (some 82))), (1, .inl x), (2, .inl y)], [.inl 2, .inr (.inr (some 100))], (I1, L, R, Y), 0, 0) (fun _ => rfl) ?_
      have r2I1 : I1 100 2 = (S.1.2.2 : Int) := by rw [← w2, yi_u_ne _ _ (by omega)]; exact hB0.1.2.2
      refine yi_D_il (v := (S.1.2.2 : Int)) rfl rfl r2I1 (fun _ _ => ?_)
      refine yi_D_run 1 (31, [(0, .inr (.inr (some 82))), (1, .inl x), (2, .inl y)], [.inl 20, .inl (S.1.2.2 : Int)], (I1, L, R, Y), 0, 0) (fun _ => rfl) ?_
      by_cases h7 : (S.1.2.2 : Int) = 20
      · refine yi_D_if2 false rfl (yi_ne_f h7) ?_
        refine yi_D_run 1 (35, [(0, .inr (.inr (some 82))), (1, .inl x), (2, .inl y)], [.inl (-1)], (I1, L, R, Y), 0, 0) (fun _ => rfl) ?_
        refine yi_D_reti rfl ?_
        exact Or.inl ⟨by omega, ⟨_, rfl, fun p i h => by rw [← w2, yi_u_ne _ _ h]⟩⟩
      · refine yi_D_if2 true rfl (yi_ne_t h7) ?_
        refine yi_D_run 1 (37, [(0, .inr (.inr (some 82))), (1, .inl x), (2, .inl y)], [.inr (.inr (some 82))], (I1, L, R, Y), 0, 0) (fun _ => rfl) ?_
        have t25 : I1 82 25 = (n : Int) := by rw [← w2, yi_u_ne _ _ (by omega)]; exact h25
        have t30 : I1 82 30 = (u : Int) := by rw [← w2, yi_u_ne _ _ (by omega)]; exact h30
        have tB0 : sm_B I1 L n P pr 0 S := sm_B_c hB0 ⟨hP24, hpr, hoS.1, hoS.2, hn5⟩ (fun k hk => by rw [← w2, yi_u_ne _ _ (by omega)]) (fun _ _ _ _ => rfl)
        have tBu : ∀ j, j < u → sm_B I1 L n P pr (5 + j) (U j) := fun j hj => sm_B_c (hBu j hj) ⟨hP24, hpr, (hok0 j hj).1, (hok0 j hj).2, hn5⟩ (fun k hk => by rw [← w2, yi_u_ne _ _ (by omega)]) (fun _ _ _ _ => rfl)
        refine yi_D_callv rfl (q_keeps hS t25 hn5 hP24 hpr t30 hu tB0 hoS tBu hok0) ?_
        rintro _ ⟨I8, L9, rfl, e110, e211, e312, e413⟩
        have k3 : ∀ p i, ¬ (p = 100 ∧ 550 ≤ i) ∧ ¬ (p = 82 ∧ (i = 0 ∨ i = 30)) → I8 p i = I p i := fun p i h => by rw [e312 p i (by omega), ← w2, yi_u_ne _ _ (by omega)]
        have kB0 : sm_B I8 L9 n P pr 0 S := sm_B_c hB0 ⟨hP24, hpr, hoS.1, hoS.2, hn5⟩ (fun k hk => k3 100 _ (by omega)) (fun i k hi hk => e413 97 _ (by omega))
        show yi_D zi_Ms d zi_m90 k (40, [(0, .inr (.inr (some 82))), (1, .inl x), (2, .inl y)], [], (I8, L9, R, Y), 0, 0) _
        refine yi_D_run 1 (41, [(0, .inr (.inr (some 82))), (1, .inl x), (2, .inl y)], [.inr (.inr (some 82))], (I8, L9, R, Y), 0, 0) (fun _ => rfl) ?_
        refine yi_D_gr (v := some 100) rfl rfl rfl (ym_S_at hS (j := 17) rfl).1 (fun _ => ?_)
        refine yi_D_run 3 (48, [(0, .inr (.inr (some 82))), (1, .inl x), (2, .inl y)], [.inr (.inr (some 82)), .inl 2, .inl 68, .inr (.inr (some 100))], (I8, L9, R, Y), 0, 0) (fun _ => rfl) ?_
        refine yi_D_gr (v := some 100) rfl rfl rfl (ym_S_at hS (j := 17) rfl).1 (fun _ => ?_)
        refine yi_D_run 1 (52, [(0, .inr (.inr (some 82))), (1, .inl x), (2, .inl y)], [.inl 2, .inr (.inr (some 100)), .inl 2, .inl 68, .inr (.inr (some 100))], (I8, L9, R, Y), 0, 0) (fun _ => rfl) ?_
        have r2I8 : I8 100 2 = (S.1.2.2 : Int) := by exact kB0.1.2.2
        refine yi_D_il (v := (S.1.2.2 : Int)) rfl rfl r2I8 (fun _ _ => ?_)
        refine yi_D_imul rfl (2 * (S.1.2.2 : Int)) (yi_wn (by omega) (by omega)) ?_
        refine yi_D_iadd rfl (68 + (2 * (S.1.2.2 : Int))) (yi_wn (by omega) (by omega)) ?_
        refine yi_D_run 1 (56, [(0, .inr (.inr (some 82))), (1, .inl x), (2, .inl y)], [.inl x, .inl (68 + (2 * (S.1.2.2 : Int))), .inr (.inr (some 100))], (I8, L9, R, Y), 0, 0) (fun _ => rfl) ?_
        refine yi_D_is rfl (fun _ _ => ?_)
        generalize w15 : yi_u I8 100 ((68 + (2 * (S.1.2.2 : Int))).toNat) x = I14
        refine yi_D_run 1 (58, [(0, .inr (.inr (some 82))), (1, .inl x), (2, .inl y)], [.inr (.inr (some 82))], (I14, L9, R, Y), 0, 0) (fun _ => rfl) ?_
        refine yi_D_gr (v := some 100) rfl rfl rfl (ym_S_at hS (j := 17) rfl).1 (fun _ => ?_)
        refine yi_D_run 3 (65, [(0, .inr (.inr (some 82))), (1, .inl x), (2, .inl y)], [.inr (.inr (some 82)), .inl 2, .inl 68, .inr (.inr (some 100))], (I14, L9, R, Y), 0, 0) (fun _ => rfl) ?_
        refine yi_D_gr (v := some 100) rfl rfl rfl (ym_S_at hS (j := 17) rfl).1 (fun _ => ?_)
        refine yi_D_run 1 (69, [(0, .inr (.inr (some 82))), (1, .inl x), (2, .inl y)], [.inl 2, .inr (.inr (some 100)), .inl 2, .inl 68, .inr (.inr (some 100))], (I14, L9, R, Y), 0, 0) (fun _ => rfl) ?_
        have r2I14 : I14 100 2 = (S.1.2.2 : Int) := by rw [← w15, yi_u_ne _ _ (by omega)]; exact kB0.1.2.2
        refine yi_D_il (v := (S.1.2.2 : Int)) rfl rfl r2I14 (fun _ _ => ?_)
        refine yi_D_imul rfl (2 * (S.1.2.2 : Int)) (yi_wn (by omega) (by omega)) ?_
        refine yi_D_iadd rfl (68 + (2 * (S.1.2.2 : Int))) (yi_wn (by omega) (by omega)) ?_
        refine yi_D_run 1 (73, [(0, .inr (.inr (some 82))), (1, .inl x), (2, .inl y)], [.inl 1, .inl (68 + (2 * (S.1.2.2 : Int))), .inr (.inr (some 100))], (I14, L9, R, Y), 0, 0) (fun _ => rfl) ?_
        refine yi_D_iadd rfl ((68 + (2 * (S.1.2.2 : Int))) + 1) (yi_wn (by omega) (by omega)) ?_
        refine yi_D_run 1 (75, [(0, .inr (.inr (some 82))), (1, .inl x), (2, .inl y)], [.inl y, .inl ((68 + (2 * (S.1.2.2 : Int))) + 1), .inr (.inr (some 100))], (I14, L9, R, Y), 0, 0) (fun _ => rfl) ?_
        refine yi_D_is rfl (fun _ _ => ?_)
        generalize w17 : yi_u I14 100 (((68 + (2 * (S.1.2.2 : Int))) + 1).toNat) y = I16
        refine yi_D_run 1 (77, [(0, .inr (.inr (some 82))), (1, .inl x), (2, .inl y)], [.inr (.inr (some 82))], (I16, L9, R, Y), 0, 0) (fun _ => rfl) ?_
        refine yi_D_gr (v := some 100) rfl rfl rfl (ym_S_at hS (j := 17) rfl).1 (fun _ => ?_)
        refine yi_D_run 2 (82, [(0, .inr (.inr (some 82))), (1, .inl x), (2, .inl y)], [.inl 2, .inr (.inr (some 100)), .inl 2, .inr (.inr (some 100))], (I16, L9, R, Y), 0, 0) (fun _ => rfl) ?_
        have r2I16 : I16 100 2 = (S.1.2.2 : Int) := by rw [← w17, yi_u_ne _ _ (by omega), ← w15, yi_u_ne _ _ (by omega)]; exact kB0.1.2.2
        refine yi_D_il (v := (S.1.2.2 : Int)) rfl rfl r2I16 (fun _ _ => ?_)
        refine yi_D_run 1 (84, [(0, .inr (.inr (some 82))), (1, .inl x), (2, .inl y)], [.inl 1, .inl (S.1.2.2 : Int), .inl 2, .inr (.inr (some 100))], (I16, L9, R, Y), 0, 0) (fun _ => rfl) ?_
        refine yi_D_iadd rfl ((S.1.2.2 : Int) + 1) (yi_wn (by omega) (by omega)) ?_
        refine yi_D_is rfl (fun _ _ => ?_)
        show yi_D zi_Ms d zi_m90 k (86, [(0, .inr (.inr (some 82))), (1, .inl x), (2, .inl y)], [], ((yi_u I16 100 2 ((S.1.2.2 : Int) + 1)), L9, R, Y), 0, 0) _
        generalize w19 : yi_u I16 100 2 ((S.1.2.2 : Int) + 1) = I18
        refine yi_D_run 1 (87, [(0, .inr (.inr (some 82))), (1, .inl x), (2, .inl y)], [.inr (.inr (some 82))], (I18, L9, R, Y), 0, 0) (fun _ => rfl) ?_
        refine yi_D_gr (v := some 100) rfl rfl rfl (ym_S_at hS (j := 17) rfl).1 (fun _ => ?_)
        refine yi_D_run 1 (91, [(0, .inr (.inr (some 82))), (1, .inl x), (2, .inl y)], [.inl 2, .inr (.inr (some 100))], (I18, L9, R, Y), 0, 0) (fun _ => rfl) ?_
        have r20 : I18 100 2 = (S.1.2.2 : Int) + 1 := by rw [← w19, yi_u_eq]
        refine yi_D_il (v := (S.1.2.2 : Int) + 1) rfl rfl r20 (fun _ _ => ?_)
        refine yi_D_reti rfl ?_
        refine Or.inr ⟨by omega, _, _, rfl, sm_B_pm kB0 ⟨hP24, hpr, hoS.1, by omega, hn5⟩ (by rw [← w19, yi_u_eq]) (by rw [← w19, yi_u_ne _ _ (by omega), ← w17, yi_u_ne _ _ (by omega), show 68 + 2 * S.1.2.2 = (68 + 2 * (S.1.2.2 : Int)).toNat by omega, ← w15, yi_u_eq]) (by rw [← w19, yi_u_ne _ _ (by omega), show 69 + 2 * S.1.2.2 = (68 + 2 * (S.1.2.2 : Int) + 1).toNat by omega, ← w17, yi_u_eq]) (fun i a1 a2 a3 => by rw [← w19, yi_u_ne _ _ (by omega), ← w17, yi_u_ne _ _ (by omega), ← w15, yi_u_ne _ _ (by omega)]) (fun _ => rfl), by rw [← w19, yi_u_ne _ _ (by omega), ← w17, yi_u_ne _ _ (by omega), ← w15, yi_u_ne _ _ (by omega)]; exact e110, fun j hj => sm_B_c (e211 j hj) ⟨hP24, hpr, ?_, ?_, hn5⟩ (fun k hk => by rw [← w19, yi_u_ne _ _ (by omega), ← w17, yi_u_ne _ _ (by omega), ← w15, yi_u_ne _ _ (by omega)]) (fun _ _ _ _ => rfl), fun p i h => by rw [← w19, yi_u_ne _ _ (by omega), ← w17, yi_u_ne _ _ (by omega), ← w15, yi_u_ne _ _ (by omega)]; exact k3 p i (by omega), fun p i h => e413 p i (by omega)⟩
        · exact (us_ok hu hoS hok0 j hj).1
        · exact (us_ok hu hoS hok0 j hj).2
    · show yi_D zi_Ms d zi_m90 k (20, [(0, .inr (.inr (some 82))), (1, .inl x), (2, .inl y)], [.inl 0], (I1, L, R, Y), 0, 0) _
      refine yi_D_if1 true rfl (by decide) ?_
      refine yi_D_run 1 (35, [(0, .inr (.inr (some 82))), (1, .inl x), (2, .inl y)], [.inl (-1)], (I1, L, R, Y), 0, 0) (fun _ => rfl) ?_
      refine yi_D_reti rfl ?_
      exact Or.inl ⟨by omega, ⟨_, rfl, fun p i h => by rw [← w2, yi_u_ne _ _ h]⟩⟩
  · show yi_D zi_Ms d zi_m90 k (10, [(0, .inr (.inr (some 82))), (1, .inl x), (2, .inl y)], [.inl 0], (I1, L, R, Y), 0, 0) _
    refine yi_D_if1 true rfl (by decide) ?_
    refine yi_D_run 1 (35, [(0, .inr (.inr (some 82))), (1, .inl x), (2, .inl y)], [.inl (-1)], (I1, L, R, Y), 0, 0) (fun _ => rfl) ?_
    refine yi_D_reti rfl ?_
    exact Or.inl ⟨by omega, ⟨_, rfl, fun p i h => by rw [← w2, yi_u_ne _ _ h]⟩⟩
theorem q_strike {d : Nat} {I L : Nat → Nat → Int} {R : Nat → Nat → Option Nat} {Y : (Nat → Nat) × (Nat → Nat) × Nat} (hS : ym_S (R, Y)) {n P pr u : Nat} {S : ss_T} {U : Nat → ss_T} (h25 : I 82 25 = (n : Int)) (hn5 : n ≤ 512) (hP24 : P ≤ 24) (hpr : pr ≤ 5) (h30 : I 82 30 = (u : Int)) (hu : u ≤ 16) (hB0 : sm_B I L n P pr 0 S) (hoS : S.1.1 ≤ 12 ∧ S.1.2.2 ≤ 20) (hBu : ∀ j, j < u → sm_B I L n P pr (5 + j) (U j)) (hok0 : ∀ j, j < u → (U j).1.1 ≤ 12 ∧ (U j).1.2.2 ≤ 20) {x : Int} {kd : Nat → Int} (hkd : ∀ p, p < pr → I 88 (11 + 2 * p) = kd p) (hwho : ∀ i, i < S.1.1 → 0 ≤ (S.2.1 i).1 ∧ (S.2.1 i).1 < pr) : yi_P zi_Ms d 112 [.inr (.inr (some 82)), .inl x] (I, L, R, Y) (fun r => (¬ ((0 ≤ x ∧ x < S.1.1) ∧ ¬ kd (S.2.1 x.toNat).1.toNat = 3) ∧ (∃ I', r = (some (.inl 0), (I', L, R, Y), 0, 0) ∧ ∀ p i, ¬ (p = 82 ∧ i = 0) → I' p i = I p i)) ∨ (((0 ≤ x ∧ x < S.1.1) ∧ ¬ kd (S.2.1 x.toNat).1.toNat = 3) ∧ ∃ I' L', r = (some (.inl 1), (I', L', R, Y), 0, 0) ∧ q_S I L I' L' n P pr (ss_rm S x.toNat) (us_n u) (us_p u U S))) := by
  refine yi_P_of (M := zi_m112) rfl (fun d k => ?_)
  show yi_D zi_Ms d zi_m112 k (0, [(0, .inr (.inr (some 82))), (1, .inl x)], [], (I, L, R, Y), 0, 0) _
  refine yi_D_run 2 (2, [(0, .inr (.inr (some 82))), (1, .inl x)], [.inl 0, .inr (.inr (some 82))], (I, L, R, Y), 0, 0) (fun _ => rfl) ?_
  refine yi_D_pi rfl (fun _ => ?_)
  generalize w2 : yi_u I 82 0 0 = I1
  refine yi_D_run 2 (7, [(0, .inr (.inr (some 82))), (1, .inl x)], [.inl x, .inr (.inr (some 82))], (I1, L, R, Y), 0, 0) (fun _ => rfl) ?_
  refine yi_D_callv rfl (q_isSaying hS (t := (S.1.1 : Int)) (by rw [← w2, yi_u_ne _ _ (by omega)]; exact hB0.1.1)) ?_
  rintro _ (⟨hb3, rfl⟩ | ⟨hb4, rfl⟩)
  · show yi_D zi_Ms d zi_m112 k (10, [(0, .inr (.inr (some 82))), (1, .inl x)], [.inl 1], (I1, L, R, Y), 0, 0) _
    refine yi_D_if1 false rfl (by decide) ?_
    refine yi_D_run 2 (15, [(0, .inr (.inr (some 82))), (1, .inl x)], [.inl x, .inr (.inr (some 82))], (I1, L, R, Y), 0, 0) (fun _ => rfl) ?_
    have hwb := hwho x.toNat (by omega)
    have hk1 : I1 100 (8 + 3 * x.toNat) = ((S.2.1 x.toNat).1.toNat : Int) := by rw [← w2, yi_u_ne _ _ (by omega), show 8 + 3 * x.toNat = 110 * 0 + 8 + 3 * x.toNat by omega, (hB0.2.2.1 x.toNat (by omega)).1]; omega
    have hk2 : I1 88 (11 + 2 * (S.2.1 x.toNat).1.toNat) = kd (S.2.1 x.toNat).1.toNat := by rw [← w2, yi_u_ne _ _ (by omega)]; exact hkd _ (by omega)
    refine yi_D_callv rfl (q_isGrand hS (i := x.toNat) (by omega) (by omega) hk1 (by omega) hk2) ?_
    rintro _ (⟨hb5, rfl⟩ | ⟨hb6, rfl⟩)
    · show yi_D zi_Ms d zi_m112 k (18, [(0, .inr (.inr (some 82))), (1, .inl x)], [.inl 1], (I1, L, R, Y), 0, 0) _
      refine yi_D_if1 false rfl (by decide) ?_
      refine yi_D_run 1 (22, [(0, .inr (.inr (some 82))), (1, .inl x)], [.inl 0], (I1, L, R, Y), 0, 0) (fun _ => rfl) ?_
      refine yi_D_reti rfl ?_
      refine Or.inl ⟨?_, ⟨_, rfl, fun p i h => by rw [← w2, yi_u_ne _ _ h]⟩⟩
      first
      | (intro h; omega)
      | (rintro ⟨h1, h2⟩; omega)
      | (rintro ⟨h1, h2⟩; exact h2 (by assumption))
    · show yi_D zi_Ms d zi_m112 k (18, [(0, .inr (.inr (some 82))), (1, .inl x)], [.inl 0], (I1, L, R, Y), 0, 0) _
      refine yi_D_if1 true rfl (by decide) ?_
      refine yi_D_run 1 (24, [(0, .inr (.inr (some 82))), (1, .inl x)], [.inr (.inr (some 82))], (I1, L, R, Y), 0, 0) (fun _ => rfl) ?_
      have t25 : I1 82 25 = (n : Int) := by rw [← w2, yi_u_ne _ _ (by omega)]; exact h25
      have t30 : I1 82 30 = (u : Int) := by rw [← w2, yi_u_ne _ _ (by omega)]; exact h30
      have tB0 : sm_B I1 L n P pr 0 S := sm_B_c hB0 ⟨hP24, hpr, hoS.1, hoS.2, hn5⟩ (fun k hk => by rw [← w2, yi_u_ne _ _ (by omega)]) (fun _ _ _ _ => rfl)
      have tBu : ∀ j, j < u → sm_B I1 L n P pr (5 + j) (U j) := fun j hj => sm_B_c (hBu j hj) ⟨hP24, hpr, (hok0 j hj).1, (hok0 j hj).2, hn5⟩ (fun k hk => by rw [← w2, yi_u_ne _ _ (by omega)]) (fun _ _ _ _ => rfl)
      refine yi_D_callv rfl (q_keeps hS t25 hn5 hP24 hpr t30 hu tB0 hoS tBu hok0) ?_
      rintro _ ⟨I7, L8, rfl, e19, e210, e311, e412⟩
      have k3 : ∀ p i, ¬ (p = 100 ∧ 550 ≤ i) ∧ ¬ (p = 82 ∧ (i = 0 ∨ i = 30)) → I7 p i = I p i := fun p i h => by rw [e311 p i (by omega), ← w2, yi_u_ne _ _ (by omega)]
      have kB0 : sm_B I7 L8 n P pr 0 S := sm_B_c hB0 ⟨hP24, hpr, hoS.1, hoS.2, hn5⟩ (fun k hk => k3 100 _ (by omega)) (fun i k hi hk => e412 97 _ (by omega))
      show yi_D zi_Ms d zi_m112 k (27, [(0, .inr (.inr (some 82))), (1, .inl x)], [], (I7, L8, R, Y), 0, 0) _
      refine yi_D_run 2 (29, [(0, .inr (.inr (some 82))), (1, .inl x)], [.inl 1, .inl x], (I7, L8, R, Y), 0, 0) (fun _ => rfl) ?_
      refine yi_D_iadd rfl (x + 1) (yi_wn (by omega) (by omega)) ?_
      refine yi_D_run 1 (31, [(2, .inl (x + 1)), (0, .inr (.inr (some 82))), (1, .inl x)], [], (I7, L8, R, Y), 0, 0) (fun _ => rfl) ?_
      have pt31 : ∀ j31, j31 ≤ k → ∀ (y2 : Int) (z3 : Int) (J1 : Nat → Nat → Int) (G1 : Nat → Nat → Int), (x + 1 ≤ y2 ∧ y2 ≤ (S.1.1 : Int)) → (∀ i e : Nat, x.toNat ≤ i → (i : Int) + 1 < y2 → e < 3 → J1 100 (8 + 3 * i + e) = I7 100 (8 + 3 * (i + 1) + e)) → (∀ p i : Nat, ¬ (p = 100 ∧ 8 + 3 * x ≤ (i : Int) ∧ (i : Int) < 8 + 3 * (y2 - 1)) → J1 p i = I7 p i) → (∀ i k : Nat, x.toNat ≤ i → (i : Int) + 1 < y2 → k < n → G1 97 (512 * (60 + i) + k) = L8 97 (512 * (60 + (i + 1)) + k)) → (∀ p i : Nat, ¬ (p = 97 ∧ 512 * (60 + x.toNat) ≤ i ∧ (i : Int) < 512 * (60 + (y2 - 1))) → G1 p i = L8 p i) → yi_D zi_Ms d zi_m112 j31 (31, [(2, .inl y2), (0, .inr (.inr (some 82))), (1, .inl x), (3, .inl z3)], [], (J1, G1, R, Y), 0, 0) (fun r => (¬ ((0 ≤ x ∧ x < S.1.1) ∧ ¬ kd (S.2.1 x.toNat).1.toNat = 3) ∧ (∃ I', r = (some (.inl 0), (I', L, R, Y), 0, 0) ∧ ∀ p i, ¬ (p = 82 ∧ i = 0) → I' p i = I p i)) ∨ (((0 ≤ x ∧ x < S.1.1) ∧ ¬ kd (S.2.1 x.toNat).1.toNat = 3) ∧ ∃ I' L', r = (some (.inl 1), (I', L', R, Y), 0, 0) ∧ q_S I L I' L' n P pr (ss_rm S x.toNat) (us_n u) (us_p u U S))) := by
        intro j31
        induction j31 with
        | zero => intros; exact yi_D_0
        | succ j31 ih31 =>
        intro hk31 y2 z3 J1 G1 hy2 hm1 hf1 hg1 hg2
        refine yi_D_run1 1 (33, [(2, .inl y2), (0, .inr (.inr (some 82))), (1, .inl x), (3, .inl z3)], [.inr (.inr (some 82)), .inl y2], (J1, G1, R, Y), 0, 0) (fun _ => rfl) ?_
        refine yi_D_gr (v := some 100) rfl rfl rfl (ym_S_at hS (j := 17) rfl).1 (fun _ => ?_)
        refine yi_D_run 1 (37, [(2, .inl y2), (0, .inr (.inr (some 82))), (1, .inl x), (3, .inl z3)], [.inl 0, .inr (.inr (some 100)), .inl y2], (J1, G1, R, Y), 0, 0) (fun _ => rfl) ?_
        have rtJ1 : J1 100 0 = (S.1.1 : Int) := (hf1 100 0 (by omega)).trans kB0.1.1
        refine yi_D_il (v := (S.1.1 : Int)) rfl rfl rtJ1 (fun _ _ => ?_)
        by_cases h13 : (S.1.1 : Int) ≤ y2
        · refine yi_D_if2 true rfl (yi_ge_t h13) ?_
          refine yi_D_run 1 (103, [(2, .inl y2), (0, .inr (.inr (some 82))), (1, .inl x), (3, .inl z3)], [.inr (.inr (some 82))], (J1, G1, R, Y), 0, 0) (fun _ => rfl) ?_
          refine yi_D_gr (v := some 100) rfl rfl rfl (ym_S_at hS (j := 17) rfl).1 (fun _ => ?_)
          refine yi_D_run 2 (108, [(2, .inl y2), (0, .inr (.inr (some 82))), (1, .inl x), (3, .inl z3)], [.inl 0, .inr (.inr (some 100)), .inl 0, .inr (.inr (some 100))], (J1, G1, R, Y), 0, 0) (fun _ => rfl) ?_
          have rtJ1 : J1 100 0 = (S.1.1 : Int) := (hf1 100 0 (by omega)).trans kB0.1.1
          refine yi_D_il (v := (S.1.1 : Int)) rfl rfl rtJ1 (fun _ _ => ?_)
          refine yi_D_run 1 (110, [(2, .inl y2), (0, .inr (.inr (some 82))), (1, .inl x), (3, .inl z3)], [.inl 1, .inl (S.1.1 : Int), .inl 0, .inr (.inr (some 100))], (J1, G1, R, Y), 0, 0) (fun _ => rfl) ?_
          refine yi_D_isub rfl ((S.1.1 : Int) - 1) (yi_wn (by omega) (by omega)) ?_
          refine yi_D_is rfl (fun _ _ => ?_)
          show yi_D zi_Ms d zi_m112 j31 (112, [(2, .inl y2), (0, .inr (.inr (some 82))), (1, .inl x), (3, .inl z3)], [], ((yi_u J1 100 0 ((S.1.1 : Int) - 1)), G1, R, Y), 0, 0) _
          generalize w15 : yi_u J1 100 0 ((S.1.1 : Int) - 1) = I14
          refine yi_D_run 1 (113, [(2, .inl y2), (0, .inr (.inr (some 82))), (1, .inl x), (3, .inl z3)], [.inl 1], (I14, G1, R, Y), 0, 0) (fun _ => rfl) ?_
          refine yi_D_reti rfl ?_
          refine Or.inr ⟨⟨by omega, by assumption⟩, _, _, rfl, sm_B_rm kB0 ⟨hP24, hpr, hoS.1, hoS.2, hn5⟩ (by omega) (by rw [← w15, yi_u_eq]) (fun i e h1 h2 he => by rw [← w15, yi_u_ne _ _ (by omega)]; exact hm1 i e h1 (by omega) he) (fun i h1 h2 => by rw [← w15, yi_u_ne _ _ (by omega)]; exact hf1 100 i (by omega)) (fun i k h1 h2 hk => hg1 i k h1 (by omega) hk) (fun i k h1 hk => hg2 97 _ (by omega)), by rw [← w15, yi_u_ne _ _ (by omega), hf1 82 30 (by omega)]; exact e19, fun j hj => sm_B_c (e210 j hj) ⟨hP24, hpr, (us_ok hu hoS hok0 j hj).1, (us_ok hu hoS hok0 j hj).2, hn5⟩ (fun k hk => by rw [← w15, yi_u_ne _ _ (by omega)]; exact hf1 100 _ (by omega)) (fun i k hi hk => hg2 97 _ (by omega)), fun p i h => by rw [← w15, yi_u_ne _ _ (by omega), hf1 p i (by omega)]; exact k3 p i (by omega), fun p i h => by rw [hg2 p i (by omega)]; exact e412 p i (by omega)⟩
        · refine yi_D_if2 false rfl (yi_ge_f h13) ?_
          refine yi_D_run 3 (45, [(2, .inl y2), (0, .inr (.inr (some 82))), (1, .inl x), (3, .inl z3)], [.inl y2, .inl 60, .inr (.inr (some 82))], (J1, G1, R, Y), 0, 0) (fun _ => rfl) ?_
          refine yi_D_iadd rfl (60 + y2) (yi_wn (by omega) (by omega)) ?_
          refine yi_D_run 2 (49, [(2, .inl y2), (0, .inr (.inr (some 82))), (1, .inl x), (3, .inl z3)], [.inl y2, .inl 60, .inl (60 + y2), .inr (.inr (some 82))], (J1, G1, R, Y), 0, 0) (fun _ => rfl) ?_
          refine yi_D_iadd rfl (60 + y2) (yi_wn (by omega) (by omega)) ?_
          refine yi_D_run 1 (51, [(2, .inl y2), (0, .inr (.inr (some 82))), (1, .inl x), (3, .inl z3)], [.inl 1, .inl (60 + y2), .inl (60 + y2), .inr (.inr (some 82))], (J1, G1, R, Y), 0, 0) (fun _ => rfl) ?_
          refine yi_D_isub rfl ((60 + y2) - 1) (yi_wn (by omega) (by omega)) ?_
          refine yi_D_callv rfl (q_copiesRow (a := 60 + y2.toNat) (b := 60 + (y2.toNat - 1)) hS (by omega) (by omega) (by omega) (by omega) (by rw [hf1 82 25 (by omega), e311 82 25 (by omega)]; exact t25) hn5) ?_
          rintro _ ⟨L16, rfl, k117, k218⟩
          have hg3 : ∀ i k : Nat, x.toNat ≤ i → (i : Int) + 1 < y2 + 1 → k < n → L16 97 (512 * (60 + i) + k) = L8 97 (512 * (60 + (i + 1)) + k) := fun i k h1 h2 hk => by by_cases e : (i : Int) + 1 = y2; rw [show i = y2.toNat - 1 by omega, k117 k hk, show y2.toNat - 1 + 1 = y2.toNat by omega]; exact hg2 97 _ (by omega); rw [k218 97 _ (by omega)]; exact hg1 i k h1 (by omega) hk
          have hg4 : ∀ p i : Nat, ¬ (p = 97 ∧ 512 * (60 + x.toNat) ≤ i ∧ (i : Int) < 512 * (60 + (y2 + 1 - 1))) → L16 p i = L8 p i := fun p i h => by rw [k218 p i (by omega)]; exact hg2 p i (by omega)
          show yi_D zi_Ms d zi_m112 j31 (55, [(2, .inl y2), (0, .inr (.inr (some 82))), (1, .inl x), (3, .inl z3)], [], (J1, L16, R, Y), 0, 0) _
          refine yi_D_run 4 (59, [(3, .inl 0), (2, .inl y2), (0, .inr (.inr (some 82))), (1, .inl x)], [.inl 3, .inl 0], (J1, L16, R, Y), 0, 0) (fun _ => rfl) ?_
          refine yi_D_if2 false rfl (by decide) ?_
          refine yi_D_run 1 (63, [(3, .inl 0), (2, .inl y2), (0, .inr (.inr (some 82))), (1, .inl x)], [.inr (.inr (some 82))], (J1, L16, R, Y), 0, 0) (fun _ => rfl) ?_
          refine yi_D_gr (v := some 100) rfl rfl rfl (ym_S_at hS (j := 17) rfl).1 (fun _ => ?_)
          refine yi_D_run 3 (70, [(3, .inl 0), (2, .inl y2), (0, .inr (.inr (some 82))), (1, .inl x)], [.inl y2, .inl 3, .inl 8, .inr (.inr (some 100))], (J1, L16, R, Y), 0, 0) (fun _ => rfl) ?_
          refine yi_D_imul rfl (3 * y2) (yi_wn (by omega) (by omega)) ?_
          refine yi_D_iadd rfl (8 + (3 * y2)) (yi_wn (by omega) (by omega)) ?_
          refine yi_D_run 1 (73, [(3, .inl 0), (2, .inl y2), (0, .inr (.inr (some 82))), (1, .inl x)], [.inl 3, .inl (8 + (3 * y2)), .inr (.inr (some 100))], (J1, L16, R, Y), 0, 0) (fun _ => rfl) ?_
          refine yi_D_isub rfl ((8 + (3 * y2)) - 3) (yi_wn (by omega) (by omega)) ?_
          refine yi_D_run 1 (75, [(3, .inl 0), (2, .inl y2), (0, .inr (.inr (some 82))), (1, .inl x)], [.inl 0, .inl ((8 + (3 * y2)) - 3), .inr (.inr (some 100))], (J1, L16, R, Y), 0, 0) (fun _ => rfl) ?_
          refine yi_D_iadd rfl (((8 + (3 * y2)) - 3) + 0) (yi_wn (by omega) (by omega)) ?_
          refine yi_D_run 1 (77, [(3, .inl 0), (2, .inl y2), (0, .inr (.inr (some 82))), (1, .inl x)], [.inr (.inr (some 82)), .inl (((8 + (3 * y2)) - 3) + 0), .inr (.inr (some 100))], (J1, L16, R, Y), 0, 0) (fun _ => rfl) ?_
          refine yi_D_gr (v := some 100) rfl rfl rfl (ym_S_at hS (j := 17) rfl).1 (fun _ => ?_)
          refine yi_D_run 3 (84, [(3, .inl 0), (2, .inl y2), (0, .inr (.inr (some 82))), (1, .inl x)], [.inl y2, .inl 3, .inl 8, .inr (.inr (some 100)), .inl (((8 + (3 * y2)) - 3) + 0), .inr (.inr (some 100))], (J1, L16, R, Y), 0, 0) (fun _ => rfl) ?_
          refine yi_D_imul rfl (3 * y2) (yi_wn (by omega) (by omega)) ?_
          refine yi_D_iadd rfl (8 + (3 * y2)) (yi_wn (by omega) (by omega)) ?_
          refine yi_D_run 1 (87, [(3, .inl 0), (2, .inl y2), (0, .inr (.inr (some 82))), (1, .inl x)], [.inl 0, .inl (8 + (3 * y2)), .inr (.inr (some 100)), .inl (((8 + (3 * y2)) - 3) + 0), .inr (.inr (some 100))], (J1, L16, R, Y), 0, 0) (fun _ => rfl) ?_
          refine yi_D_iadd rfl ((8 + (3 * y2)) + 0) (yi_wn (by omega) (by omega)) ?_
          have hr19 : J1 100 (((8 + (3 * y2)) + 0).toNat) = I7 100 (8 + 3 * y2.toNat + 0) := by rw [show ((8 + (3 * y2)) + 0).toNat = 8 + 3 * y2.toNat + 0 by omega]; exact hf1 100 _ (by omega)
          refine yi_D_il (v := I7 100 (8 + 3 * y2.toNat + 0)) rfl rfl hr19 (fun _ _ => ?_)
          refine yi_D_is rfl (fun _ _ => ?_)
          generalize w21 : yi_u J1 100 ((((8 + (3 * y2)) - 3) + 0).toNat) (I7 100 (8 + 3 * y2.toNat + 0)) = I20
          refine yi_D_iinc [(3, .inl 1), (2, .inl y2), (0, .inr (.inr (some 82))), (1, .inl x)] rfl rfl rfl (by rw [show yi_w (0 + 1) = 1 from (yi_wn (by omega) (by omega)).trans (by omega)]; rfl) ?_
          refine yi_D_run 3 (59, [(3, .inl 1), (2, .inl y2), (0, .inr (.inr (some 82))), (1, .inl x)], [.inl 3, .inl 1], (I20, L16, R, Y), 0, 0) (fun _ => rfl) ?_
          refine yi_D_if2 false rfl (by decide) ?_
          refine yi_D_run 1 (63, [(3, .inl 1), (2, .inl y2), (0, .inr (.inr (some 82))), (1, .inl x)], [.inr (.inr (some 82))], (I20, L16, R, Y), 0, 0) (fun _ => rfl) ?_
          refine yi_D_gr (v := some 100) rfl rfl rfl (ym_S_at hS (j := 17) rfl).1 (fun _ => ?_)
          refine yi_D_run 3 (70, [(3, .inl 1), (2, .inl y2), (0, .inr (.inr (some 82))), (1, .inl x)], [.inl y2, .inl 3, .inl 8, .inr (.inr (some 100))], (I20, L16, R, Y), 0, 0) (fun _ => rfl) ?_
          refine yi_D_imul rfl (3 * y2) (yi_wn (by omega) (by omega)) ?_
          refine yi_D_iadd rfl (8 + (3 * y2)) (yi_wn (by omega) (by omega)) ?_
          refine yi_D_run 1 (73, [(3, .inl 1), (2, .inl y2), (0, .inr (.inr (some 82))), (1, .inl x)], [.inl 3, .inl (8 + (3 * y2)), .inr (.inr (some 100))], (I20, L16, R, Y), 0, 0) (fun _ => rfl) ?_
          refine yi_D_isub rfl ((8 + (3 * y2)) - 3) (yi_wn (by omega) (by omega)) ?_
          refine yi_D_run 1 (75, [(3, .inl 1), (2, .inl y2), (0, .inr (.inr (some 82))), (1, .inl x)], [.inl 1, .inl ((8 + (3 * y2)) - 3), .inr (.inr (some 100))], (I20, L16, R, Y), 0, 0) (fun _ => rfl) ?_
          refine yi_D_iadd rfl (((8 + (3 * y2)) - 3) + 1) (yi_wn (by omega) (by omega)) ?_
          refine yi_D_run 1 (77, [(3, .inl 1), (2, .inl y2), (0, .inr (.inr (some 82))), (1, .inl x)], [.inr (.inr (some 82)), .inl (((8 + (3 * y2)) - 3) + 1), .inr (.inr (some 100))], (I20, L16, R, Y), 0, 0) (fun _ => rfl) ?_
          refine yi_D_gr (v := some 100) rfl rfl rfl (ym_S_at hS (j := 17) rfl).1 (fun _ => ?_)
          refine yi_D_run 3 (84, [(3, .inl 1), (2, .inl y2), (0, .inr (.inr (some 82))), (1, .inl x)], [.inl y2, .inl 3, .inl 8, .inr (.inr (some 100)), .inl (((8 + (3 * y2)) - 3) + 1), .inr (.inr (some 100))], (I20, L16, R, Y), 0, 0) (fun _ => rfl) ?_
          refine yi_D_imul rfl (3 * y2) (yi_wn (by omega) (by omega)) ?_
          refine yi_D_iadd rfl (8 + (3 * y2)) (yi_wn (by omega) (by omega)) ?_
          refine yi_D_run 1 (87, [(3, .inl 1), (2, .inl y2), (0, .inr (.inr (some 82))), (1, .inl x)], [.inl 1, .inl (8 + (3 * y2)), .inr (.inr (some 100)), .inl (((8 + (3 * y2)) - 3) + 1), .inr (.inr (some 100))], (I20, L16, R, Y), 0, 0) (fun _ => rfl) ?_
          refine yi_D_iadd rfl ((8 + (3 * y2)) + 1) (yi_wn (by omega) (by omega)) ?_
          have hr22 : I20 100 (((8 + (3 * y2)) + 1).toNat) = I7 100 (8 + 3 * y2.toNat + 1) := by rw [show ((8 + (3 * y2)) + 1).toNat = 8 + 3 * y2.toNat + 1 by omega, ← w21, yi_u_ne _ _ (by omega)]; exact hf1 100 _ (by omega)
          refine yi_D_il (v := I7 100 (8 + 3 * y2.toNat + 1)) rfl rfl hr22 (fun _ _ => ?_)
          refine yi_D_is rfl (fun _ _ => ?_)
          generalize w24 : yi_u I20 100 ((((8 + (3 * y2)) - 3) + 1).toNat) (I7 100 (8 + 3 * y2.toNat + 1)) = I23
          refine yi_D_iinc [(3, .inl 2), (2, .inl y2), (0, .inr (.inr (some 82))), (1, .inl x)] rfl rfl rfl (by rw [show yi_w (1 + 1) = 2 from (yi_wn (by omega) (by omega)).trans (by omega)]; rfl) ?_
          refine yi_D_run 3 (59, [(3, .inl 2), (2, .inl y2), (0, .inr (.inr (some 82))), (1, .inl x)], [.inl 3, .inl 2], (I23, L16, R, Y), 0, 0) (fun _ => rfl) ?_
          refine yi_D_if2 false rfl (by decide) ?_
          refine yi_D_run 1 (63, [(3, .inl 2), (2, .inl y2), (0, .inr (.inr (some 82))), (1, .inl x)], [.inr (.inr (some 82))], (I23, L16, R, Y), 0, 0) (fun _ => rfl) ?_
          refine yi_D_gr (v := some 100) rfl rfl rfl (ym_S_at hS (j := 17) rfl).1 (fun _ => ?_)
          refine yi_D_run 3 (70, [(3, .inl 2), (2, .inl y2), (0, .inr (.inr (some 82))), (1, .inl x)], [.inl y2, .inl 3, .inl 8, .inr (.inr (some 100))], (I23, L16, R, Y), 0, 0) (fun _ => rfl) ?_
          refine yi_D_imul rfl (3 * y2) (yi_wn (by omega) (by omega)) ?_
          refine yi_D_iadd rfl (8 + (3 * y2)) (yi_wn (by omega) (by omega)) ?_
          refine yi_D_run 1 (73, [(3, .inl 2), (2, .inl y2), (0, .inr (.inr (some 82))), (1, .inl x)], [.inl 3, .inl (8 + (3 * y2)), .inr (.inr (some 100))], (I23, L16, R, Y), 0, 0) (fun _ => rfl) ?_
          refine yi_D_isub rfl ((8 + (3 * y2)) - 3) (yi_wn (by omega) (by omega)) ?_
          refine yi_D_run 1 (75, [(3, .inl 2), (2, .inl y2), (0, .inr (.inr (some 82))), (1, .inl x)], [.inl 2, .inl ((8 + (3 * y2)) - 3), .inr (.inr (some 100))], (I23, L16, R, Y), 0, 0) (fun _ => rfl) ?_
          refine yi_D_iadd rfl (((8 + (3 * y2)) - 3) + 2) (yi_wn (by omega) (by omega)) ?_
          refine yi_D_run 1 (77, [(3, .inl 2), (2, .inl y2), (0, .inr (.inr (some 82))), (1, .inl x)], [.inr (.inr (some 82)), .inl (((8 + (3 * y2)) - 3) + 2), .inr (.inr (some 100))], (I23, L16, R, Y), 0, 0) (fun _ => rfl) ?_
          refine yi_D_gr (v := some 100) rfl rfl rfl (ym_S_at hS (j := 17) rfl).1 (fun _ => ?_)
          refine yi_D_run 3 (84, [(3, .inl 2), (2, .inl y2), (0, .inr (.inr (some 82))), (1, .inl x)], [.inl y2, .inl 3, .inl 8, .inr (.inr (some 100)), .inl (((8 + (3 * y2)) - 3) + 2), .inr (.inr (some 100))], (I23, L16, R, Y), 0, 0) (fun _ => rfl) ?_
          refine yi_D_imul rfl (3 * y2) (yi_wn (by omega) (by omega)) ?_
          refine yi_D_iadd rfl (8 + (3 * y2)) (yi_wn (by omega) (by omega)) ?_
          refine yi_D_run 1 (87, [(3, .inl 2), (2, .inl y2), (0, .inr (.inr (some 82))), (1, .inl x)], [.inl 2, .inl (8 + (3 * y2)), .inr (.inr (some 100)), .inl (((8 + (3 * y2)) - 3) + 2), .inr (.inr (some 100))], (I23, L16, R, Y), 0, 0) (fun _ => rfl) ?_
          refine yi_D_iadd rfl ((8 + (3 * y2)) + 2) (yi_wn (by omega) (by omega)) ?_
          have hr25 : I23 100 (((8 + (3 * y2)) + 2).toNat) = I7 100 (8 + 3 * y2.toNat + 2) := by rw [show ((8 + (3 * y2)) + 2).toNat = 8 + 3 * y2.toNat + 2 by omega, ← w24, yi_u_ne _ _ (by omega), ← w21, yi_u_ne _ _ (by omega)]; exact hf1 100 _ (by omega)
          refine yi_D_il (v := I7 100 (8 + 3 * y2.toNat + 2)) rfl rfl hr25 (fun _ _ => ?_)
          refine yi_D_is rfl (fun _ _ => ?_)
          generalize w27 : yi_u I23 100 ((((8 + (3 * y2)) - 3) + 2).toNat) (I7 100 (8 + 3 * y2.toNat + 2)) = I26
          refine yi_D_iinc [(3, .inl 3), (2, .inl y2), (0, .inr (.inr (some 82))), (1, .inl x)] rfl rfl rfl (by rw [show yi_w (2 + 1) = 3 from (yi_wn (by omega) (by omega)).trans (by omega)]; rfl) ?_
          refine yi_D_run 3 (59, [(3, .inl 3), (2, .inl y2), (0, .inr (.inr (some 82))), (1, .inl x)], [.inl 3, .inl 3], (I26, L16, R, Y), 0, 0) (fun _ => rfl) ?_
          refine yi_D_if2 true rfl (by decide) ?_
          refine yi_D_iinc [(2, .inl (y2 + 1)), (3, .inl 3), (0, .inr (.inr (some 82))), (1, .inl x)] rfl rfl rfl (by rw [show yi_w (y2 + 1) = y2 + 1 from (yi_wn (by omega) (by omega)).trans (by omega)]; rfl) ?_
          refine yi_D_run 1 (31, [(2, .inl (y2 + 1)), (3, .inl 3), (0, .inr (.inr (some 82))), (1, .inl x)], [], (I26, L16, R, Y), 0, 0) (fun _ => rfl) ?_
          refine yi_D_al (al := [(2, .inl (y2 + 1)), (0, .inr (.inr (some 82))), (1, .inl x), (3, .inl 3)]) (show ([2, 0, 1, 3] : List Nat).Nodup by decide) (show ([2, 3, 0, 1] : List Nat).Nodup by decide) (yi_mc (List.mem_of_getElem? (i := 0) rfl) (yi_mc (List.mem_of_getElem? (i := 3) rfl) (yi_mc (List.mem_of_getElem? (i := 1) rfl) (yi_mc (List.mem_of_getElem? (i := 2) rfl) yi_mn)))) ?_
          exact yi_D_mono (ih31 (by omega) (y2 + 1) 3 I26 L16 (by omega) (fun i e h1 h2 he => by by_cases c : (i : Int) + 1 = y2; rcases (show e = 0 ∨ e = 1 ∨ e = 2 by omega) with rfl | rfl | rfl; rw [show 8 + 3 * i + 0 = (((8 + (3 * y2)) - 3) + 0).toNat by omega, ← w27, yi_u_ne _ _ (by omega), ← w24, yi_u_ne _ _ (by omega), ← w21, yi_u_eq, show i + 1 = y2.toNat by omega]; rw [show 8 + 3 * i + 1 = (((8 + (3 * y2)) - 3) + 1).toNat by omega, ← w27, yi_u_ne _ _ (by omega), ← w24, yi_u_eq, show i + 1 = y2.toNat by omega]; rw [show 8 + 3 * i + 2 = (((8 + (3 * y2)) - 3) + 2).toNat by omega, ← w27, yi_u_eq, show i + 1 = y2.toNat by omega]; rw [← w27, yi_u_ne _ _ (by omega), ← w24, yi_u_ne _ _ (by omega), ← w21, yi_u_ne _ _ (by omega)]; exact hm1 i e h1 (by omega) he) (fun p i h => by rw [← w27, yi_u_ne _ _ (by omega), ← w24, yi_u_ne _ _ (by omega), ← w21, yi_u_ne _ _ (by omega)]; exact hf1 p i (by omega)) hg3 hg4) (by omega)
      refine yi_D_al (al := [(2, .inl (x + 1)), (0, .inr (.inr (some 82))), (1, .inl x), (3, .inl 0)]) (show ([2, 0, 1, 3] : List Nat).Nodup by decide) (show ([2, 0, 1] : List Nat).Nodup by decide) (yi_mc (List.mem_of_getElem? (i := 0) rfl) (yi_mc (List.mem_of_getElem? (i := 1) rfl) (yi_mc (List.mem_of_getElem? (i := 2) rfl) yi_mn))) ?_
      exact pt31 k (Nat.le_refl _) (x + 1) 0 I7 L8 (by omega) (fun i e h1 h2 _ => absurd h2 (by omega)) (fun _ _ _ => rfl) (fun i k h1 h2 _ => absurd h2 (by omega)) (fun _ _ _ => rfl)
  · show yi_D zi_Ms d zi_m112 k (10, [(0, .inr (.inr (some 82))), (1, .inl x)], [.inl 0], (I1, L, R, Y), 0, 0) _
    refine yi_D_if1 true rfl (by decide) ?_
    refine yi_D_run 1 (22, [(0, .inr (.inr (some 82))), (1, .inl x)], [.inl 0], (I1, L, R, Y), 0, 0) (fun _ => rfl) ?_
    refine yi_D_reti rfl ?_
    refine Or.inl ⟨?_, ⟨_, rfl, fun p i h => by rw [← w2, yi_u_ne _ _ h]⟩⟩
    first
    | (intro h; omega)
    | (rintro ⟨h1, h2⟩; omega)
    | (rintro ⟨h1, h2⟩; exact h2 (by assumption))
theorem q_undo {d : Nat} {I L : Nat → Nat → Int} {R : Nat → Nat → Option Nat} {Y : (Nat → Nat) × (Nat → Nat) × Nat} (hS : ym_S (R, Y)) {n P pr u : Nat} {S : ss_T} {U : Nat → ss_T} (h25 : I 82 25 = (n : Int)) (hn5 : n ≤ 512) (hP24 : P ≤ 24) (hpr : pr ≤ 5) (h30 : I 82 30 = (u : Int)) (hu : u ≤ 16) (hB0 : sm_B I L n P pr 0 S) (hoS : S.1.1 ≤ 12 ∧ S.1.2.2 ≤ 20) (hBu : ∀ j, j < u → sm_B I L n P pr (5 + j) (U j)) (hok0 : ∀ j, j < u → (U j).1.1 ≤ 12 ∧ (U j).1.2.2 ≤ 20) : yi_P zi_Ms d 124 [.inr (.inr (some 82))] (I, L, R, Y) (fun r => (u = 0 ∧ (∃ I', r = (some (.inl 0), (I', L, R, Y), 0, 0) ∧ ∀ p i, ¬ (p = 82 ∧ i = 0) → I' p i = I p i)) ∨ (¬ u = 0 ∧ ∃ I' L', r = (some (.inl 1), (I', L', R, Y), 0, 0) ∧ q_S I L I' L' n P pr (U (u - 1)) (u - 1) U)) := by
  refine yi_P_of (M := zi_m124) rfl (fun d k => ?_)
  show yi_D zi_Ms d zi_m124 k (0, [(0, .inr (.inr (some 82)))], [], (I, L, R, Y), 0, 0) _
  refine yi_D_run 2 (2, [(0, .inr (.inr (some 82)))], [.inl 0, .inr (.inr (some 82))], (I, L, R, Y), 0, 0) (fun _ => rfl) ?_
  refine yi_D_pi rfl (fun _ => ?_)
  generalize w2 : yi_u I 82 0 0 = I1
  refine yi_D_run 1 (6, [(0, .inr (.inr (some 82)))], [.inr (.inr (some 82))], (I1, L, R, Y), 0, 0) (fun _ => rfl) ?_
  have r3 : I1 82 30 = (u : Int) := by rw [← w2, yi_u_ne _ _ (by omega), h30]
  refine yi_D_gi (v := (u : Int)) rfl rfl rfl r3 (fun _ => ?_)
  by_cases h4 : (u : Int) = 0
  · refine yi_D_if1 false rfl (yi_ne_f h4) ?_
    refine yi_D_run 1 (13, [(0, .inr (.inr (some 82)))], [.inl 0], (I1, L, R, Y), 0, 0) (fun _ => rfl) ?_
    refine yi_D_reti rfl ?_
    exact Or.inl ⟨by omega, ⟨_, rfl, fun p i h => by rw [← w2, yi_u_ne _ _ h]⟩⟩
  · refine yi_D_if1 true rfl (yi_ne_t h4) ?_
    refine yi_D_run 2 (16, [(0, .inr (.inr (some 82)))], [.inr (.inr (some 82)), .inr (.inr (some 82))], (I1, L, R, Y), 0, 0) (fun _ => rfl) ?_
    have r5 : I1 82 30 = (u : Int) := by rw [← w2, yi_u_ne _ _ (by omega), h30]
    refine yi_D_gi (v := (u : Int)) rfl rfl rfl r5 (fun _ => ?_)
    refine yi_D_run 1 (20, [(0, .inr (.inr (some 82)))], [.inl 1, .inl (u : Int), .inr (.inr (some 82))], (I1, L, R, Y), 0, 0) (fun _ => rfl) ?_
    refine yi_D_isub rfl ((u : Int) - 1) (yi_wn (by omega) (by omega)) ?_
    refine yi_D_pi rfl (fun _ => ?_)
    generalize w7 : yi_u I1 82 30 ((u : Int) - 1) = I6
    refine yi_D_run 3 (27, [(0, .inr (.inr (some 82)))], [.inr (.inr (some 82)), .inl 5, .inr (.inr (some 82))], (I6, L, R, Y), 0, 0) (fun _ => rfl) ?_
    have r8 : I6 82 30 = (u : Int) - 1 := by rw [← w7, yi_u_eq]
    refine yi_D_gi (v := (u : Int) - 1) rfl rfl rfl r8 (fun _ => ?_)
    refine yi_D_iadd rfl (5 + ((u : Int) - 1)) (yi_wn (by omega) (by omega)) ?_
    refine yi_D_run 1 (32, [(0, .inr (.inr (some 82)))], [.inl 0, .inl (5 + ((u : Int) - 1)), .inr (.inr (some 82))], (I6, L, R, Y), 0, 0) (fun _ => rfl) ?_
    have uB : ∀ j, j < u → sm_B I6 L n P pr (5 + j) (U j) := fun j hj => sm_B_c (hBu j hj) ⟨hP24, hpr, (hok0 j hj).1, (hok0 j hj).2, hn5⟩ (fun k hk => by rw [← w7, yi_u_ne _ _ (by omega), ← w2, yi_u_ne _ _ (by omega)]) (fun _ _ _ _ => rfl)
    have uC := uB (u - 1) (by omega)
    refine yi_D_callv rfl (q_copies (a := 5 + (u - 1)) (b := 0) hS (by rw [← w7, yi_u_ne _ _ (by omega), ← w2, yi_u_ne _ _ (by omega)]; exact h25) hn5 (by omega) rfl (by omega) (by omega) (by omega) uC.1.1 (hok0 (u - 1) (by omega)).1) ?_
    rintro _ ⟨I9, L10, rfl, c111, c212, c313, c414⟩
    show yi_D zi_Ms d zi_m124 k (35, [(0, .inr (.inr (some 82)))], [], (I9, L10, R, Y), 0, 0) _
    refine yi_D_run 1 (36, [(0, .inr (.inr (some 82)))], [.inl 1], (I9, L10, R, Y), 0, 0) (fun _ => rfl) ?_
    refine yi_D_reti rfl ?_
    refine Or.inr ⟨by omega, _, _, rfl, sm_B_c uC ⟨hP24, hpr, (hok0 (u - 1) (by omega)).1, (hok0 (u - 1) (by omega)).2, hn5⟩ c111 c313, by rw [c212 82 30 (by omega), ← w7, yi_u_eq]; omega, fun j hj => sm_B_o (uB j (by omega)) ⟨hP24, hpr, (hok0 j (by omega)).1, (hok0 j (by omega)).2, hn5⟩ (by omega) c212 c414, fun p i h => by rw [c212 p i (by omega), ← w7, yi_u_ne _ _ (by omega), ← w2, yi_u_ne _ _ (by omega)], fun p i h => c414 p i (by omega)⟩
theorem q_mark0 {d : Nat} {I L : Nat → Nat → Int} {R : Nat → Nat → Option Nat} {Y : (Nat → Nat) × (Nat → Nat) × Nat} (hS : ym_S (R, Y)) {n t : Nat} {x : Int} (h25 : I 82 25 = (n : Int)) (hn5 : n ≤ 512) (ht : 0 ≤ x → I 100 (110 * 0) = (t : Int)) (ht2 : t ≤ 12) : yi_P zi_Ms d 82 [.inr (.inr (some 82)), .inl x, .inl 0] (I, L, R, Y) (fun r => (¬ (0 ≤ x ∧ x ≤ 3) ∧ (∃ I', r = (some (.inl 0), (I', L, R, Y), 0, 0) ∧ ∀ p i, ¬ (p = 82 ∧ i = 0) → I' p i = I p i)) ∨ ((0 ≤ x ∧ x ≤ 3) ∧ ∃ I' L', r = (some (.inl 1), (I', L', R, Y), 0, 0) ∧ (∀ k, k < 110 → I' 100 (110 * (x.toNat + 1) + k) = I 100 (110 * 0 + k)) ∧ (∀ i k, i < t → k < n → L' 97 (512 * (60 + 12 * (x.toNat + 1) + i) + k) = L 97 (512 * (60 + 12 * 0 + i) + k)) ∧ I' 102 (x.toNat + 1) = I 102 0 ∧ (∀ k, k < n → L' 97 (512 * (33 + (x.toNat + 1)) + k) = L 97 (512 * (33 + 0) + k)) ∧ I' 101 x.toNat = 1 ∧ I' 82 30 = I 82 30 ∧ (∀ p i, ¬ (p = 100 ∧ 110 * (x.toNat + 1) ≤ i ∧ i < 110 * (x.toNat + 1) + 110) ∧ ¬ (p = 101 ∧ i = x.toNat) ∧ ¬ (p = 102 ∧ i = (x.toNat + 1)) ∧ ¬ (p = 82 ∧ (i = 0 ∨ i = 30)) → I' p i = I p i) ∧ (∀ p i, ¬ (p = 97 ∧ ((512 * (60 + 12 * (x.toNat + 1)) ≤ i ∧ i < 512 * (72 + 12 * (x.toNat + 1))) ∨ (512 * (33 + (x.toNat + 1)) ≤ i ∧ i < 512 * (34 + (x.toNat + 1))))) → L' p i = L p i))) := by
  refine yi_P_of (M := zi_m82) rfl (fun d k => ?_)
  show yi_D zi_Ms d zi_m82 k (0, [(0, .inr (.inr (some 82))), (1, .inl x), (2, .inl 0)], [], (I, L, R, Y), 0, 0) _
  refine yi_D_run 2 (2, [(0, .inr (.inr (some 82))), (1, .inl x), (2, .inl 0)], [.inl 0, .inr (.inr (some 82))], (I, L, R, Y), 0, 0) (fun _ => rfl) ?_
  refine yi_D_pi rfl (fun _ => ?_)
  generalize w2 : yi_u I 82 0 0 = I1
  refine yi_D_run 3 (8, [(0, .inr (.inr (some 82))), (1, .inl x), (2, .inl 0)], [.inl 3, .inl 0, .inl x], (I1, L, R, Y), 0, 0) (fun _ => rfl) ?_
  refine yi_D_calls rfl (q_within) ?_
  rintro _ (⟨hb3, rfl⟩ | ⟨hb4, rfl⟩)
  · show yi_D zi_Ms d zi_m82 k (11, [(0, .inr (.inr (some 82))), (1, .inl x), (2, .inl 0)], [.inl 1], (I1, L, R, Y), 0, 0) _
    refine yi_D_if1 false rfl (by decide) ?_
    refine yi_D_run 1 (15, [(0, .inr (.inr (some 82))), (1, .inl x), (2, .inl 0)], [.inl 0], (I1, L, R, Y), 0, 0) (fun _ => rfl) ?_
    refine yi_D_if1 true rfl (by decide) ?_
    refine yi_D_run 1 (30, [(0, .inr (.inr (some 82))), (1, .inl x), (2, .inl 0)], [.inl 0], (I1, L, R, Y), 0, 0) (fun _ => rfl) ?_
    refine yi_D_if1 true rfl (by decide) ?_
    refine yi_D_run 3 (42, [(3, .inl 0), (0, .inr (.inr (some 82))), (1, .inl x), (2, .inl 0)], [.inl 0], (I1, L, R, Y), 0, 0) (fun _ => rfl) ?_
    refine yi_D_if1 true rfl (by decide) ?_
    refine yi_D_run 2 (51, [(3, .inl 0), (0, .inr (.inr (some 82))), (1, .inl x), (2, .inl 0)], [.inl x, .inl 1], (I1, L, R, Y), 0, 0) (fun _ => rfl) ?_
    refine yi_D_iadd rfl (1 + x) (yi_wn (by omega) (by omega)) ?_
    refine yi_D_run 4 (58, [(4, .inl (1 + x)), (3, .inl 0), (0, .inr (.inr (some 82))), (1, .inl x), (2, .inl 0)], [.inl (1 + x), .inl 0, .inr (.inr (some 82))], (I1, L, R, Y), 0, 0) (fun _ => rfl) ?_
    refine yi_D_callv rfl (q_copies (a := 0) (b := (x.toNat + 1)) hS (by rw [← w2, yi_u_ne _ _ (by omega)]; exact h25) hn5 (by omega) (by omega) (by omega) (by omega) (by omega) (by rw [← w2, yi_u_ne _ _ (by omega)]; exact ht (by omega)) ht2) ?_
    rintro _ ⟨I5, L6, rfl, c17, c28, c39, c410⟩
    show yi_D zi_Ms d zi_m82 k (61, [(4, .inl (1 + x)), (3, .inl 0), (0, .inr (.inr (some 82))), (1, .inl x), (2, .inl 0)], [], (I5, L6, R, Y), 0, 0) _
    refine yi_D_run 3 (65, [(4, .inl (1 + x)), (3, .inl 0), (0, .inr (.inr (some 82))), (1, .inl x), (2, .inl 0)], [.inl 0, .inl 33, .inr (.inr (some 82))], (I5, L6, R, Y), 0, 0) (fun _ => rfl) ?_
    refine yi_D_iadd rfl (33) (by decide) ?_
    refine yi_D_run 2 (70, [(4, .inl (1 + x)), (3, .inl 0), (0, .inr (.inr (some 82))), (1, .inl x), (2, .inl 0)], [.inl (1 + x), .inl 33, .inl 33, .inr (.inr (some 82))], (I5, L6, R, Y), 0, 0) (fun _ => rfl) ?_
    refine yi_D_iadd rfl (33 + (1 + x)) (yi_wn (by omega) (by omega)) ?_
    refine yi_D_callv rfl (q_copiesRow (a := 33 + 0) (b := 33 + (x.toNat + 1)) hS (by omega) (by omega) (by omega) (by omega) (by rw [c28 82 25 (by omega), ← w2, yi_u_ne _ _ (by omega)]; exact h25) hn5) ?_
    rintro _ ⟨L11, rfl, k112, k213⟩
    show yi_D zi_Ms d zi_m82 k (74, [(4, .inl (1 + x)), (3, .inl 0), (0, .inr (.inr (some 82))), (1, .inl x), (2, .inl 0)], [], (I5, L11, R, Y), 0, 0) _
    refine yi_D_run 1 (75, [(4, .inl (1 + x)), (3, .inl 0), (0, .inr (.inr (some 82))), (1, .inl x), (2, .inl 0)], [.inr (.inr (some 82))], (I5, L11, R, Y), 0, 0) (fun _ => rfl) ?_
    refine yi_D_gr (v := some 102) rfl rfl rfl (ym_S_at hS (j := 19) rfl).1 (fun _ => ?_)
    refine yi_D_run 2 (81, [(4, .inl (1 + x)), (3, .inl 0), (0, .inr (.inr (some 82))), (1, .inl x), (2, .inl 0)], [.inr (.inr (some 82)), .inl (1 + x), .inr (.inr (some 102))], (I5, L11, R, Y), 0, 0) (fun _ => rfl) ?_
    refine yi_D_gr (v := some 102) rfl rfl rfl (ym_S_at hS (j := 19) rfl).1 (fun _ => ?_)
    refine yi_D_run 1 (85, [(4, .inl (1 + x)), (3, .inl 0), (0, .inr (.inr (some 82))), (1, .inl x), (2, .inl 0)], [.inl 0, .inr (.inr (some 102)), .inl (1 + x), .inr (.inr (some 102))], (I5, L11, R, Y), 0, 0) (fun _ => rfl) ?_
    have ha14 : I5 102 0 = I 102 0 := by rw [c28 102 _ (by omega), ← w2, yi_u_ne _ _ (by omega)]
    refine yi_D_bl (v := I 102 0) rfl rfl ha14 (fun _ _ => ?_)
    refine yi_D_bs rfl (fun _ _ => ?_)
    generalize w16 : yi_u I5 102 ((1 + x).toNat) (I 102 0) = I15
    refine yi_D_run 1 (88, [(4, .inl (1 + x)), (3, .inl 0), (0, .inr (.inr (some 82))), (1, .inl x), (2, .inl 0)], [.inr (.inr (some 82))], (I15, L11, R, Y), 0, 0) (fun _ => rfl) ?_
    refine yi_D_gr (v := some 101) rfl rfl rfl (ym_S_at hS (j := 18) rfl).1 (fun _ => ?_)
    refine yi_D_run 2 (93, [(4, .inl (1 + x)), (3, .inl 0), (0, .inr (.inr (some 82))), (1, .inl x), (2, .inl 0)], [.inl 1, .inl x, .inr (.inr (some 101))], (I15, L11, R, Y), 0, 0) (fun _ => rfl) ?_
    refine yi_D_bs rfl (fun _ _ => ?_)
    generalize w18 : yi_u I15 101 (x.toNat) 1 = I17
    refine yi_D_run 2 (96, [(4, .inl (1 + x)), (3, .inl 0), (0, .inr (.inr (some 82))), (1, .inl x), (2, .inl 0)], [.inl 0, .inr (.inr (some 82))], (I17, L11, R, Y), 0, 0) (fun _ => rfl) ?_
    refine yi_D_if1 true rfl (by decide) ?_
    refine yi_D_run 1 (104, [(4, .inl (1 + x)), (3, .inl 0), (0, .inr (.inr (some 82))), (1, .inl x), (2, .inl 0)], [.inr (.inr (some 82)), .inr (.inr (some 82))], (I17, L11, R, Y), 0, 0) (fun _ => rfl) ?_
    have r19 : I17 82 30 = I 82 30 := by rw [← w18, yi_u_ne _ _ (by omega), ← w16, yi_u_ne _ _ (by omega), c28 82 30 (by omega), ← w2, yi_u_ne _ _ (by omega)]
    refine yi_D_gi (v := I 82 30) rfl rfl rfl r19 (fun _ => ?_)
    refine yi_D_pi rfl (fun _ => ?_)
    generalize w21 : yi_u I17 82 30 (I 82 30) = I20
    refine yi_D_run 1 (111, [(4, .inl (1 + x)), (3, .inl 0), (0, .inr (.inr (some 82))), (1, .inl x), (2, .inl 0)], [.inl 1], (I20, L11, R, Y), 0, 0) (fun _ => rfl) ?_
    refine yi_D_reti rfl ?_
    refine Or.inr ⟨by first | omega | exact ⟨by omega, by omega⟩, _, _, rfl, fun k hk => by rw [← w21, yi_u_ne _ _ (by omega), ← w18, yi_u_ne _ _ (by omega), ← w16, yi_u_ne _ _ (by omega), c17 k hk, ← w2, yi_u_ne _ _ (by omega)], fun i k hi hk => by rw [k213 97 _ (by omega)]; exact c39 i k hi hk, by rw [← w21, yi_u_ne _ _ (by omega), ← w18, yi_u_ne _ _ (by omega), show (x.toNat + 1) = (1 + x).toNat by omega, ← w16, yi_u_eq], fun k hk => by rw [k112 k hk]; exact c410 97 _ (by omega), by rw [← w21, yi_u_ne _ _ (by omega), ← w18, yi_u_eq], by rw [← w21, yi_u_eq], fun p i h => by rw [← w21, yi_u_ne _ _ (by omega), ← w18, yi_u_ne _ _ (by omega), ← w16, yi_u_ne _ _ (by omega), c28 p i (by omega), ← w2, yi_u_ne _ _ (by omega)], fun p i h => by rw [k213 p i (by omega)]; exact c410 p i (by omega)⟩
  · show yi_D zi_Ms d zi_m82 k (11, [(0, .inr (.inr (some 82))), (1, .inl x), (2, .inl 0)], [.inl 0], (I1, L, R, Y), 0, 0) _
    refine yi_D_if1 true rfl (by decide) ?_
    refine yi_D_run 1 (28, [(0, .inr (.inr (some 82))), (1, .inl x), (2, .inl 0)], [.inl 0], (I1, L, R, Y), 0, 0) (fun _ => rfl) ?_
    refine yi_D_reti rfl ?_
    refine Or.inl ⟨?_, ⟨_, rfl, fun p i h => by rw [← w2, yi_u_ne _ _ h]⟩⟩
    first
    | (intro h; omega)
    | (rintro ⟨h1, h2⟩; omega)
theorem q_mark1 {d : Nat} {I L : Nat → Nat → Int} {R : Nat → Nat → Option Nat} {Y : (Nat → Nat) × (Nat → Nat) × Nat} (hS : ym_S (R, Y)) {n t : Nat} {x : Int} (h25 : I 82 25 = (n : Int)) (hn5 : n ≤ 512) (ht : (0 ≤ x ∧ x ≤ 3) ∧ ¬ I 101 x.toNat = 0 → I 100 (110 * (x.toNat + 1)) = (t : Int)) (ht2 : t ≤ 12) : yi_P zi_Ms d 82 [.inr (.inr (some 82)), .inl x, .inl 1] (I, L, R, Y) (fun r => (¬ ((0 ≤ x ∧ x ≤ 3) ∧ ¬ I 101 x.toNat = 0) ∧ (∃ I', r = (some (.inl 0), (I', L, R, Y), 0, 0) ∧ ∀ p i, ¬ (p = 82 ∧ i = 0) → I' p i = I p i)) ∨ (((0 ≤ x ∧ x ≤ 3) ∧ ¬ I 101 x.toNat = 0) ∧ ∃ I' L', r = (some (.inl 1), (I', L', R, Y), 0, 0) ∧ (∀ k, k < 110 → I' 100 (110 * 0 + k) = I 100 (110 * (x.toNat + 1) + k)) ∧ (∀ i k, i < t → k < n → L' 97 (512 * (60 + 12 * 0 + i) + k) = L 97 (512 * (60 + 12 * (x.toNat + 1) + i) + k)) ∧ I' 102 0 = I 102 (x.toNat + 1) ∧ (∀ k, k < n → L' 97 (512 * (33 + 0) + k) = L 97 (512 * (33 + (x.toNat + 1)) + k)) ∧ I' 101 x.toNat = 1 ∧ I' 82 30 = 0 ∧ (∀ p i, ¬ (p = 100 ∧ 110 * 0 ≤ i ∧ i < 110 * 0 + 110) ∧ ¬ (p = 101 ∧ i = x.toNat) ∧ ¬ (p = 102 ∧ i = 0) ∧ ¬ (p = 82 ∧ (i = 0 ∨ i = 30)) → I' p i = I p i) ∧ (∀ p i, ¬ (p = 97 ∧ ((512 * (60 + 12 * 0) ≤ i ∧ i < 512 * (72 + 12 * 0)) ∨ (512 * (33 + 0) ≤ i ∧ i < 512 * (34 + 0)))) → L' p i = L p i))) := by
  refine yi_P_of (M := zi_m82) rfl (fun d k => ?_)
  show yi_D zi_Ms d zi_m82 k (0, [(0, .inr (.inr (some 82))), (1, .inl x), (2, .inl 1)], [], (I, L, R, Y), 0, 0) _
  refine yi_D_run 2 (2, [(0, .inr (.inr (some 82))), (1, .inl x), (2, .inl 1)], [.inl 0, .inr (.inr (some 82))], (I, L, R, Y), 0, 0) (fun _ => rfl) ?_
  refine yi_D_pi rfl (fun _ => ?_)
  generalize w2 : yi_u I 82 0 0 = I1
  refine yi_D_run 3 (8, [(0, .inr (.inr (some 82))), (1, .inl x), (2, .inl 1)], [.inl 3, .inl 0, .inl x], (I1, L, R, Y), 0, 0) (fun _ => rfl) ?_
  refine yi_D_calls rfl (q_within) ?_
  rintro _ (⟨hb3, rfl⟩ | ⟨hb4, rfl⟩)
  · show yi_D zi_Ms d zi_m82 k (11, [(0, .inr (.inr (some 82))), (1, .inl x), (2, .inl 1)], [.inl 1], (I1, L, R, Y), 0, 0) _
    refine yi_D_if1 false rfl (by decide) ?_
    refine yi_D_run 1 (15, [(0, .inr (.inr (some 82))), (1, .inl x), (2, .inl 1)], [.inl 1], (I1, L, R, Y), 0, 0) (fun _ => rfl) ?_
    refine yi_D_if1 false rfl (by decide) ?_
    refine yi_D_run 1 (19, [(0, .inr (.inr (some 82))), (1, .inl x), (2, .inl 1)], [.inr (.inr (some 82))], (I1, L, R, Y), 0, 0) (fun _ => rfl) ?_
    refine yi_D_gr (v := some 101) rfl rfl rfl (ym_S_at hS (j := 18) rfl).1 (fun _ => ?_)
    refine yi_D_run 1 (23, [(0, .inr (.inr (some 82))), (1, .inl x), (2, .inl 1)], [.inl x, .inr (.inr (some 101))], (I1, L, R, Y), 0, 0) (fun _ => rfl) ?_
    have hm1 : I1 101 (x.toNat) = I 101 x.toNat := by rw [← w2, yi_u_ne _ _ (by omega)]
    refine yi_D_bl (v := I 101 x.toNat) rfl rfl hm1 (fun _ _ => ?_)
    by_cases h5 : (I 101 x.toNat) = 0
    · refine yi_D_if1 false rfl (yi_ne_f h5) ?_
      refine yi_D_run 1 (28, [(0, .inr (.inr (some 82))), (1, .inl x), (2, .inl 1)], [.inl 0], (I1, L, R, Y), 0, 0) (fun _ => rfl) ?_
      refine yi_D_reti rfl ?_
      refine Or.inl ⟨?_, ⟨_, rfl, fun p i h => by rw [← w2, yi_u_ne _ _ h]⟩⟩
      first
      | (intro h; omega)
      | (rintro ⟨h1, h2⟩; omega)
    · refine yi_D_if1 true rfl (yi_ne_t h5) ?_
      refine yi_D_run 1 (30, [(0, .inr (.inr (some 82))), (1, .inl x), (2, .inl 1)], [.inl 1], (I1, L, R, Y), 0, 0) (fun _ => rfl) ?_
      refine yi_D_if1 false rfl (by decide) ?_
      refine yi_D_run 2 (35, [(0, .inr (.inr (some 82))), (1, .inl x), (2, .inl 1)], [.inl x, .inl 1], (I1, L, R, Y), 0, 0) (fun _ => rfl) ?_
      refine yi_D_iadd rfl (1 + x) (yi_wn (by omega) (by omega)) ?_
      refine yi_D_run 3 (42, [(3, .inl (1 + x)), (0, .inr (.inr (some 82))), (1, .inl x), (2, .inl 1)], [.inl 1], (I1, L, R, Y), 0, 0) (fun _ => rfl) ?_
      refine yi_D_if1 false rfl (by decide) ?_
      refine yi_D_run 6 (58, [(4, .inl 0), (3, .inl (1 + x)), (0, .inr (.inr (some 82))), (1, .inl x), (2, .inl 1)], [.inl 0, .inl (1 + x), .inr (.inr (some 82))], (I1, L, R, Y), 0, 0) (fun _ => rfl) ?_
      refine yi_D_callv rfl (q_copies (a := (x.toNat + 1)) (b := 0) hS (by rw [← w2, yi_u_ne _ _ (by omega)]; exact h25) hn5 (by omega) (by omega) (by omega) (by omega) (by omega) (by rw [← w2, yi_u_ne _ _ (by omega)]; exact ht (by omega)) ht2) ?_
      rintro _ ⟨I6, L7, rfl, c18, c29, c310, c411⟩
      show yi_D zi_Ms d zi_m82 k (61, [(4, .inl 0), (3, .inl (1 + x)), (0, .inr (.inr (some 82))), (1, .inl x), (2, .inl 1)], [], (I6, L7, R, Y), 0, 0) _
      refine yi_D_run 3 (65, [(4, .inl 0), (3, .inl (1 + x)), (0, .inr (.inr (some 82))), (1, .inl x), (2, .inl 1)], [.inl (1 + x), .inl 33, .inr (.inr (some 82))], (I6, L7, R, Y), 0, 0) (fun _ => rfl) ?_
      refine yi_D_iadd rfl (33 + (1 + x)) (yi_wn (by omega) (by omega)) ?_
      refine yi_D_run 2 (70, [(4, .inl 0), (3, .inl (1 + x)), (0, .inr (.inr (some 82))), (1, .inl x), (2, .inl 1)], [.inl 0, .inl 33, .inl (33 + (1 + x)), .inr (.inr (some 82))], (I6, L7, R, Y), 0, 0) (fun _ => rfl) ?_
      refine yi_D_iadd rfl (33) (by decide) ?_
      refine yi_D_callv rfl (q_copiesRow (a := 33 + (x.toNat + 1)) (b := 33 + 0) hS (by omega) (by omega) (by omega) (by omega) (by rw [c29 82 25 (by omega), ← w2, yi_u_ne _ _ (by omega)]; exact h25) hn5) ?_
      rintro _ ⟨L12, rfl, k113, k214⟩
      show yi_D zi_Ms d zi_m82 k (74, [(4, .inl 0), (3, .inl (1 + x)), (0, .inr (.inr (some 82))), (1, .inl x), (2, .inl 1)], [], (I6, L12, R, Y), 0, 0) _
      refine yi_D_run 1 (75, [(4, .inl 0), (3, .inl (1 + x)), (0, .inr (.inr (some 82))), (1, .inl x), (2, .inl 1)], [.inr (.inr (some 82))], (I6, L12, R, Y), 0, 0) (fun _ => rfl) ?_
      refine yi_D_gr (v := some 102) rfl rfl rfl (ym_S_at hS (j := 19) rfl).1 (fun _ => ?_)
      refine yi_D_run 2 (81, [(4, .inl 0), (3, .inl (1 + x)), (0, .inr (.inr (some 82))), (1, .inl x), (2, .inl 1)], [.inr (.inr (some 82)), .inl 0, .inr (.inr (some 102))], (I6, L12, R, Y), 0, 0) (fun _ => rfl) ?_
      refine yi_D_gr (v := some 102) rfl rfl rfl (ym_S_at hS (j := 19) rfl).1 (fun _ => ?_)
      refine yi_D_run 1 (85, [(4, .inl 0), (3, .inl (1 + x)), (0, .inr (.inr (some 82))), (1, .inl x), (2, .inl 1)], [.inl (1 + x), .inr (.inr (some 102)), .inl 0, .inr (.inr (some 102))], (I6, L12, R, Y), 0, 0) (fun _ => rfl) ?_
      have ha15 : I6 102 ((1 + x).toNat) = I 102 (x.toNat + 1) := by rw [show (1 + x).toNat = (x.toNat + 1) by omega, c29 102 _ (by omega), ← w2, yi_u_ne _ _ (by omega)]
      refine yi_D_bl (v := I 102 (x.toNat + 1)) rfl rfl ha15 (fun _ _ => ?_)
      refine yi_D_bs rfl (fun _ _ => ?_)
      show yi_D zi_Ms d zi_m82 k (87, [(4, .inl 0), (3, .inl (1 + x)), (0, .inr (.inr (some 82))), (1, .inl x), (2, .inl 1)], [], ((yi_u I6 102 0 (I 102 (x.toNat + 1))), L12, R, Y), 0, 0) _
      generalize w17 : yi_u I6 102 0 (I 102 (x.toNat + 1)) = I16
      refine yi_D_run 1 (88, [(4, .inl 0), (3, .inl (1 + x)), (0, .inr (.inr (some 82))), (1, .inl x), (2, .inl 1)], [.inr (.inr (some 82))], (I16, L12, R, Y), 0, 0) (fun _ => rfl) ?_
      refine yi_D_gr (v := some 101) rfl rfl rfl (ym_S_at hS (j := 18) rfl).1 (fun _ => ?_)
      refine yi_D_run 2 (93, [(4, .inl 0), (3, .inl (1 + x)), (0, .inr (.inr (some 82))), (1, .inl x), (2, .inl 1)], [.inl 1, .inl x, .inr (.inr (some 101))], (I16, L12, R, Y), 0, 0) (fun _ => rfl) ?_
      refine yi_D_bs rfl (fun _ _ => ?_)
      generalize w19 : yi_u I16 101 (x.toNat) 1 = I18
      refine yi_D_run 2 (96, [(4, .inl 0), (3, .inl (1 + x)), (0, .inr (.inr (some 82))), (1, .inl x), (2, .inl 1)], [.inl 1, .inr (.inr (some 82))], (I18, L12, R, Y), 0, 0) (fun _ => rfl) ?_
      refine yi_D_if1 false rfl (by decide) ?_
      refine yi_D_run 2 (107, [(4, .inl 0), (3, .inl (1 + x)), (0, .inr (.inr (some 82))), (1, .inl x), (2, .inl 1)], [.inl 0, .inr (.inr (some 82))], (I18, L12, R, Y), 0, 0) (fun _ => rfl) ?_
      refine yi_D_pi rfl (fun _ => ?_)
      generalize w21 : yi_u I18 82 30 0 = I20
      refine yi_D_run 1 (111, [(4, .inl 0), (3, .inl (1 + x)), (0, .inr (.inr (some 82))), (1, .inl x), (2, .inl 1)], [.inl 1], (I20, L12, R, Y), 0, 0) (fun _ => rfl) ?_
      refine yi_D_reti rfl ?_
      refine Or.inr ⟨by first | omega | exact ⟨by omega, by omega⟩, _, _, rfl, fun k hk => by rw [← w21, yi_u_ne _ _ (by omega), ← w19, yi_u_ne _ _ (by omega), ← w17, yi_u_ne _ _ (by omega), c18 k hk, ← w2, yi_u_ne _ _ (by omega)], fun i k hi hk => by rw [k214 97 _ (by omega)]; exact c310 i k hi hk, by rw [← w21, yi_u_ne _ _ (by omega), ← w19, yi_u_ne _ _ (by omega), ← w17]; exact yi_u_eq .., fun k hk => by rw [k113 k hk]; exact c411 97 _ (by omega), by rw [← w21, yi_u_ne _ _ (by omega), ← w19, yi_u_eq], by rw [← w21, yi_u_eq], fun p i h => by rw [← w21, yi_u_ne _ _ (by omega), ← w19, yi_u_ne _ _ (by omega), ← w17, yi_u_ne _ _ (by omega), c29 p i (by omega), ← w2, yi_u_ne _ _ (by omega)], fun p i h => by rw [k214 p i (by omega)]; exact c411 p i (by omega)⟩
  · show yi_D zi_Ms d zi_m82 k (11, [(0, .inr (.inr (some 82))), (1, .inl x), (2, .inl 1)], [.inl 0], (I1, L, R, Y), 0, 0) _
    refine yi_D_if1 true rfl (by decide) ?_
    refine yi_D_run 1 (28, [(0, .inr (.inr (some 82))), (1, .inl x), (2, .inl 1)], [.inl 0], (I1, L, R, Y), 0, 0) (fun _ => rfl) ?_
    refine yi_D_reti rfl ?_
    refine Or.inl ⟨?_, ⟨_, rfl, fun p i h => by rw [← w2, yi_u_ne _ _ h]⟩⟩
    first
    | (intro h; omega)
    | (rintro ⟨h1, h2⟩; omega)
