/-! The check reader: names, clauses. -/
theorem q_takeAfter_z {d : Nat} {I L : Nat → Nat → Int} {R : Nat → Nat → Option Nat} {Y : (Nat → Nat) × (Nat → Nat) × Nat} {c lo hi : Int} (w0 : 0 ≤ c) (w1 : c < 29) {K P V : Nat → Int} {te b a : Nat} {ld : Nat → Int} {nm : Int → Int} (hW : mt_W I L R Y K P V te b ld nm) (hf : I 82 8 = 0) (hA : mt_A I te a) : yi_P zi_Ms d 115 [.inr (.inr (some 82)), .inl c, .inl lo, .inl hi] (I, L, R, Y) (fun r => (K a = 4 + c ∧ K (a + 1) = 2 ∧ (lo ≤ V (a + 1) ∧ V (a + 1) ≤ hi) ∧ ∃ I', r = (some (.inl (V (a + 1))), (I', L, R, Y), 0, 0) ∧ mt_G I I' ∧ I' 82 8 = 0 ∧ mt_A I' te (a + 2)) ∨ (¬ K a = 4 + c ∧ ∃ z I', r = (some (.inl z), (I', L, R, Y), 0, 0) ∧ mt_G I I' ∧ I' 82 8 = sp_f P a 1) ∨ ((K a = 4 + c ∧ ¬ K (a + 1) = 2) ∧ ∃ z I', r = (some (.inl z), (I', L, R, Y), 0, 0) ∧ mt_G I I' ∧ I' 82 8 = sp_f P (a + 1) 1) ∨ ((K a = 4 + c ∧ K (a + 1) = 2 ∧ (V (a + 1) < lo ∨ hi < V (a + 1))) ∧ ∃ z I', r = (some (.inl z), (I', L, R, Y), 0, 0) ∧ mt_G I I' ∧ I' 82 8 = sp_f P (a + 1) 4)) := by
  refine yi_P_of (M := zi_m115) rfl (fun d k => ?_)
  have hS := hW.1
  have ht := hW.2.1.1
  have ha := hA.2
  have hp := hW.2.1.2.1 a hA.2
  show yi_D zi_Ms d zi_m115 k (0, [(0, .inr (.inr (some 82))), (1, .inl c), (2, .inl lo), (3, .inl hi)], [], (I, L, R, Y), 0, 0) _
  refine yi_D_run 2 (2, [(0, .inr (.inr (some 82))), (1, .inl c), (2, .inl lo), (3, .inl hi)], [.inl c, .inr (.inr (some 82))], (I, L, R, Y), 0, 0) (fun _ => rfl) ?_
  refine yi_D_callv rfl (q_takeWord_z (by omega) (by omega) hW hf hA) ?_
  rintro _ (⟨c1, I2, rfl, hGa3, hf4, hA5⟩ | ⟨c6, I7, rfl, hGa8, he9⟩)
  · have hA5 : mt_A I2 te (a + 1) := hA5
    have hW10 := mt_W_t hW (mt_G_F hGa3)
    have hF11 := (mt_G_F hGa3)
    have hG12 := hGa3
    show yi_D zi_Ms d zi_m115 k (5, [(0, .inr (.inr (some 82))), (1, .inl c), (2, .inl lo), (3, .inl hi)], [], (I2, L, R, Y), 0, 0) _
    refine yi_D_run 3 (8, [(0, .inr (.inr (some 82))), (1, .inl c), (2, .inl lo), (3, .inl hi)], [.inl hi, .inl lo, .inr (.inr (some 82))], (I2, L, R, Y), 0, 0) (fun _ => rfl) ?_
    refine yi_D_callv rfl (q_takeNumber_z (lo := lo) (hi := hi) hW10 hf4 hA5) ?_
    rintro _ (⟨c13, c14, I15, rfl, hGa16, hf17, hA18⟩ | ⟨c19, z23, I20, rfl, hGa21, he22⟩ | ⟨c24, z28, I25, rfl, hGa26, he27⟩)
    · have hA18 : mt_A I15 te (a + 2) := hA18
      have hW29 := mt_W_t hW10 (mt_G_F hGa16)
      have hF30 := mt_F_t hF11 (mt_G_F hGa16)
      have hG31 := mt_G_t hG12 hGa16
      show yi_D zi_Ms d zi_m115 k (11, [(0, .inr (.inr (some 82))), (1, .inl c), (2, .inl lo), (3, .inl hi)], [.inl (V (a + 1))], (I15, L, R, Y), 0, 0) _
      refine yi_D_reti rfl ?_
      exact Or.inl ⟨by omega, by omega, ⟨by omega, by omega⟩, _, rfl, hG31, hf17, hA18⟩
    · have hW32 := mt_W_t hW10 (mt_G_F hGa21)
      have hF33 := mt_F_t hF11 (mt_G_F hGa21)
      have hG34 := mt_G_t hG12 hGa21
      have hz35 : 0 < sp_f P (a + 1) 1 := mt_f_ne hW10 hA5.2 (by omega)
      have hn36 : 0 < I20 82 8 := by rw [he22]; exact hz35
      show yi_D zi_Ms d zi_m115 k (11, [(0, .inr (.inr (some 82))), (1, .inl c), (2, .inl lo), (3, .inl hi)], [.inl z23], (I20, L, R, Y), 0, 0) _
      refine yi_D_reti rfl ?_
      first
      | exact Or.inr (Or.inl ⟨by omega, _, _, rfl, hG34, he22⟩)
      | exact Or.inr (Or.inr (Or.inl ⟨⟨by omega, by omega⟩, _, _, rfl, hG34, he22⟩))
      | exact Or.inr (Or.inr (Or.inr ⟨⟨by omega, by omega, by omega⟩, _, _, rfl, hG34, he22⟩))
    · have hW37 := mt_W_t hW10 (mt_G_F hGa26)
      have hF38 := mt_F_t hF11 (mt_G_F hGa26)
      have hG39 := mt_G_t hG12 hGa26
      have hz40 : 0 < sp_f P (a + 1) 4 := mt_f_ne hW10 hA5.2 (by omega)
      have hn41 : 0 < I25 82 8 := by rw [he27]; exact hz40
      show yi_D zi_Ms d zi_m115 k (11, [(0, .inr (.inr (some 82))), (1, .inl c), (2, .inl lo), (3, .inl hi)], [.inl z28], (I25, L, R, Y), 0, 0) _
      refine yi_D_reti rfl ?_
      first
      | exact Or.inr (Or.inl ⟨by omega, _, _, rfl, hG39, he27⟩)
      | exact Or.inr (Or.inr (Or.inl ⟨⟨by omega, by omega⟩, _, _, rfl, hG39, he27⟩))
      | exact Or.inr (Or.inr (Or.inr ⟨⟨by omega, by omega, by omega⟩, _, _, rfl, hG39, he27⟩))
  · have hW42 := mt_W_t hW (mt_G_F hGa8)
    have hF43 := (mt_G_F hGa8)
    have hG44 := hGa8
    have hz45 : 0 < sp_f P a 1 := mt_f_ne hW hA.2 (by omega)
    have hn46 : 0 < I7 82 8 := by rw [he9]; exact hz45
    show yi_D zi_Ms d zi_m115 k (5, [(0, .inr (.inr (some 82))), (1, .inl c), (2, .inl lo), (3, .inl hi)], [], (I7, L, R, Y), 0, 0) _
    refine yi_D_run 3 (8, [(0, .inr (.inr (some 82))), (1, .inl c), (2, .inl lo), (3, .inl hi)], [.inl hi, .inl lo, .inr (.inr (some 82))], (I7, L, R, Y), 0, 0) (fun _ => rfl) ?_
    refine yi_D_callv rfl (q_takeNumber_f hW42 hn46) ?_
    rintro _ ⟨z47, rfl⟩
    show yi_D zi_Ms d zi_m115 k (11, [(0, .inr (.inr (some 82))), (1, .inl c), (2, .inl lo), (3, .inl hi)], [.inl z47], (I7, L, R, Y), 0, 0) _
    refine yi_D_reti rfl ?_
    first
    | exact Or.inr (Or.inl ⟨by omega, _, _, rfl, hG44, he9⟩)
    | exact Or.inr (Or.inr (Or.inl ⟨⟨by omega, by omega⟩, _, _, rfl, hG44, he9⟩))
    | exact Or.inr (Or.inr (Or.inr ⟨⟨by omega, by omega, by omega⟩, _, _, rfl, hG44, he9⟩))
theorem q_takeAfter_f {d : Nat} {I L : Nat → Nat → Int} {R : Nat → Nat → Option Nat} {Y : (Nat → Nat) × (Nat → Nat) × Nat} {c lo hi : Int} {K P V : Nat → Int} {te b : Nat} {ld : Nat → Int} {nm : Int → Int} (hW : mt_W I L R Y K P V te b ld nm) (hf : 0 < I 82 8) : yi_P zi_Ms d 115 [.inr (.inr (some 82)), .inl c, .inl lo, .inl hi] (I, L, R, Y) (fun r => ∃ z I', r = (some (.inl z), (I', L, R, Y), 0, 0) ∧ mt_G I I' ∧ I' 82 8 = I 82 8) := by
  refine yi_P_of (M := zi_m115) rfl (fun d k => ?_)
  have hS := hW.1
  show yi_D zi_Ms d zi_m115 k (0, [(0, .inr (.inr (some 82))), (1, .inl c), (2, .inl lo), (3, .inl hi)], [], (I, L, R, Y), 0, 0) _
  refine yi_D_run 2 (2, [(0, .inr (.inr (some 82))), (1, .inl c), (2, .inl lo), (3, .inl hi)], [.inl c, .inr (.inr (some 82))], (I, L, R, Y), 0, 0) (fun _ => rfl) ?_
  refine yi_D_callv rfl (q_takeWord_f hW hf) ?_
  rintro _ ⟨I1, rfl, hGa2, hq3⟩
  have hW4 := mt_W_t hW (mt_G_F hGa2)
  have hF5 := (mt_G_F hGa2)
  have hG6 := hGa2
  have hf7 : 0 < I1 82 8 := by rw [hq3]; exact hf
  show yi_D zi_Ms d zi_m115 k (5, [(0, .inr (.inr (some 82))), (1, .inl c), (2, .inl lo), (3, .inl hi)], [], (I1, L, R, Y), 0, 0) _
  refine yi_D_run 3 (8, [(0, .inr (.inr (some 82))), (1, .inl c), (2, .inl lo), (3, .inl hi)], [.inl hi, .inl lo, .inr (.inr (some 82))], (I1, L, R, Y), 0, 0) (fun _ => rfl) ?_
  refine yi_D_callv rfl (q_takeNumber_f hW4 hf7) ?_
  rintro _ ⟨z8, rfl⟩
  show yi_D zi_Ms d zi_m115 k (11, [(0, .inr (.inr (some 82))), (1, .inl c), (2, .inl lo), (3, .inl hi)], [.inl z8], (I1, L, R, Y), 0, 0) _
  refine yi_D_reti rfl ?_
  exact ⟨_, _, rfl, hG6, by rw [hq3]⟩
theorem q_wordHere_z {d : Nat} {I L : Nat → Nat → Int} {R : Nat → Nat → Option Nat} {Y : (Nat → Nat) × (Nat → Nat) × Nat} {w m : Int} (w0 : 0 ≤ w) (m0 : 0 ≤ m) (w1 : w + m ≤ 29) {K P V : Nat → Int} {te b a : Nat} {ld : Nat → Int} {nm : Int → Int} (hW : mt_W I L R Y K P V te b ld nm) (hf : I 82 8 = 0) (hA : mt_A I te a) : yi_P zi_Ms d 134 [.inr (.inr (some 82)), .inl w, .inl m] (I, L, R, Y) (fun r => ∃ z, r = (some (.inl z), (I, L, R, Y), 0, 0) ∧ ((z = K a - 4 - w ∧ 0 ≤ z ∧ z < m) ∨ (z = -1 ∧ ¬ (0 ≤ K a - 4 - w ∧ K a - 4 - w < m)))) := by
  refine yi_P_of (M := zi_m134) rfl (fun d k => ?_)
  have hS := hW.1
  have ht := hW.2.1.1
  have ha := hA.2
  have hp := hW.2.1.2.1 a hA.2
  show yi_D zi_Ms d zi_m134 k (0, [(0, .inr (.inr (some 82))), (1, .inl w), (2, .inl m)], [], (I, L, R, Y), 0, 0) _
  refine yi_D_run 4 (5, [(4, .inl 0), (3, .inl (-1)), (0, .inr (.inr (some 82))), (1, .inl w), (2, .inl m)], [], (I, L, R, Y), 0, 0) (fun _ => rfl) ?_
  have pt5 : ∀ j5, j5 ≤ k → ∀ (y4 : Int) (y3 : Int), (0 ≤ y4 ∧ y4 ≤ m) → (((y3 = K a - 4 - w ∧ 0 ≤ K a - 4 - w ∧ K a - 4 - w < y4) ∨ (y3 = -1 ∧ ¬ (0 ≤ K a - 4 - w ∧ K a - 4 - w < y4)))) → yi_D zi_Ms d zi_m134 j5 (5, [(4, .inl y4), (3, .inl y3), (0, .inr (.inr (some 82))), (1, .inl w), (2, .inl m)], [], (I, L, R, Y), 0, 0) (fun r => ∃ z, r = (some (.inl z), (I, L, R, Y), 0, 0) ∧ ((z = K a - 4 - w ∧ 0 ≤ z ∧ z < m) ∨ (z = -1 ∧ ¬ (0 ≤ K a - 4 - w ∧ K a - 4 - w < m)))) := by
    intro j5
    induction j5 with
    | zero => intros; exact yi_D_0
    | succ j5 ih5 =>
    intro hk5 y4 y3 h4 hwh
    refine yi_D_run1 1 (8, [(4, .inl y4), (3, .inl y3), (0, .inr (.inr (some 82))), (1, .inl w), (2, .inl m)], [.inl m, .inl y4], (I, L, R, Y), 0, 0) (fun _ => rfl) ?_
    by_cases h1 : m ≤ y4
    · refine yi_D_if2 true rfl (yi_ge_t h1) ?_
      refine yi_D_run 1 (36, [(4, .inl y4), (3, .inl y3), (0, .inr (.inr (some 82))), (1, .inl w), (2, .inl m)], [.inl y3], (I, L, R, Y), 0, 0) (fun _ => rfl) ?_
      refine yi_D_reti rfl ?_
      exact ⟨_, rfl, by omega⟩
    · refine yi_D_if2 false rfl (yi_ge_f h1) ?_
      refine yi_D_run 3 (15, [(4, .inl y4), (3, .inl y3), (0, .inr (.inr (some 82))), (1, .inl w), (2, .inl m)], [.inl y4, .inl w, .inr (.inr (some 82))], (I, L, R, Y), 0, 0) (fun _ => rfl) ?_
      refine yi_D_iadd rfl (w + y4) (yi_wn (by omega) (by omega)) ?_
      refine yi_D_callv rfl (q_isWord_z (by omega) (by omega) hW hf hA) ?_
      rintro _ (⟨c2, rfl⟩ | ⟨c2, rfl⟩)
      · show yi_D zi_Ms d zi_m134 j5 (19, [(4, .inl y4), (3, .inl y3), (0, .inr (.inr (some 82))), (1, .inl w), (2, .inl m)], [.inl 1], (I, L, R, Y), 0, 0) _
        refine yi_D_if1 false rfl (by decide) ?_
        refine yi_D_run 3 (29, [(3, .inl y4), (4, .inl y4), (0, .inr (.inr (some 82))), (1, .inl w), (2, .inl m)], [], (I, L, R, Y), 0, 0) (fun _ => rfl) ?_
        refine yi_D_iinc [(4, .inl (y4 + 1)), (3, .inl y4), (0, .inr (.inr (some 82))), (1, .inl w), (2, .inl m)] rfl rfl rfl (by rw [show yi_w (y4 + 1) = y4 + 1 from (yi_wn (by omega) (by omega)).trans (by omega)]; rfl) ?_
        refine yi_D_run 1 (5, [(4, .inl (y4 + 1)), (3, .inl y4), (0, .inr (.inr (some 82))), (1, .inl w), (2, .inl m)], [], (I, L, R, Y), 0, 0) (fun _ => rfl) ?_
        exact yi_D_mono (ih5 (by omega) (y4 + 1) y4 (by omega) (by omega)) (by omega)
      · show yi_D zi_Ms d zi_m134 j5 (19, [(4, .inl y4), (3, .inl y3), (0, .inr (.inr (some 82))), (1, .inl w), (2, .inl m)], [.inl 0], (I, L, R, Y), 0, 0) _
        refine yi_D_if1 true rfl (by decide) ?_
        refine yi_D_run 2 (29, [(3, .inl y3), (4, .inl y4), (0, .inr (.inr (some 82))), (1, .inl w), (2, .inl m)], [], (I, L, R, Y), 0, 0) (fun _ => rfl) ?_
        refine yi_D_iinc [(4, .inl (y4 + 1)), (3, .inl y3), (0, .inr (.inr (some 82))), (1, .inl w), (2, .inl m)] rfl rfl rfl (by rw [show yi_w (y4 + 1) = y4 + 1 from (yi_wn (by omega) (by omega)).trans (by omega)]; rfl) ?_
        refine yi_D_run 1 (5, [(4, .inl (y4 + 1)), (3, .inl y3), (0, .inr (.inr (some 82))), (1, .inl w), (2, .inl m)], [], (I, L, R, Y), 0, 0) (fun _ => rfl) ?_
        exact yi_D_mono (ih5 (by omega) (y4 + 1) y3 (by omega) (by omega)) (by omega)
  exact pt5 k (Nat.le_refl _) 0 (-1) (by omega) (by omega)
theorem q_wordHere_f {d : Nat} {I L : Nat → Nat → Int} {R : Nat → Nat → Option Nat} {Y : (Nat → Nat) × (Nat → Nat) × Nat} {w m : Int} (w0 : 0 ≤ w ∧ w ≤ 100) (m0 : 0 ≤ m ∧ m ≤ 100) {K P V : Nat → Int} {te b : Nat} {ld : Nat → Int} {nm : Int → Int} (hW : mt_W I L R Y K P V te b ld nm) (hf : 0 < I 82 8) : yi_P zi_Ms d 134 [.inr (.inr (some 82)), .inl w, .inl m] (I, L, R, Y) (fun r => r = (some (.inl (-1)), (I, L, R, Y), 0, 0)) := by
  refine yi_P_of (M := zi_m134) rfl (fun d k => ?_)
  have hS := hW.1
  show yi_D zi_Ms d zi_m134 k (0, [(0, .inr (.inr (some 82))), (1, .inl w), (2, .inl m)], [], (I, L, R, Y), 0, 0) _
  refine yi_D_run 4 (5, [(4, .inl 0), (3, .inl (-1)), (0, .inr (.inr (some 82))), (1, .inl w), (2, .inl m)], [], (I, L, R, Y), 0, 0) (fun _ => rfl) ?_
  have pt5 : ∀ j5, j5 ≤ k → ∀ (y4 : Int), (0 ≤ y4 ∧ y4 ≤ m) → yi_D zi_Ms d zi_m134 j5 (5, [(4, .inl y4), (3, .inl (-1)), (0, .inr (.inr (some 82))), (1, .inl w), (2, .inl m)], [], (I, L, R, Y), 0, 0) (fun r => r = (some (.inl (-1)), (I, L, R, Y), 0, 0)) := by
    intro j5
    induction j5 with
    | zero => intros; exact yi_D_0
    | succ j5 ih5 =>
    intro hk5 y4 h4
    refine yi_D_run1 1 (8, [(4, .inl y4), (3, .inl (-1)), (0, .inr (.inr (some 82))), (1, .inl w), (2, .inl m)], [.inl m, .inl y4], (I, L, R, Y), 0, 0) (fun _ => rfl) ?_
    by_cases h1 : m ≤ y4
    · refine yi_D_if2 true rfl (yi_ge_t h1) ?_
      refine yi_D_run 1 (36, [(4, .inl y4), (3, .inl (-1)), (0, .inr (.inr (some 82))), (1, .inl w), (2, .inl m)], [.inl (-1)], (I, L, R, Y), 0, 0) (fun _ => rfl) ?_
      refine yi_D_reti rfl ?_
      rfl
    · refine yi_D_if2 false rfl (yi_ge_f h1) ?_
      refine yi_D_run 4 (16, [(4, .inl y4), (3, .inl (-1)), (0, .inr (.inr (some 82))), (1, .inl w), (2, .inl m)], [.inl (yi_w (w + y4)), .inr (.inr (some 82))], (I, L, R, Y), 0, 0) (fun _ => rfl) ?_
      refine yi_D_callv rfl (q_isWord_f hW hf) ?_
      rintro _ rfl
      show yi_D zi_Ms d zi_m134 j5 (19, [(4, .inl y4), (3, .inl (-1)), (0, .inr (.inr (some 82))), (1, .inl w), (2, .inl m)], [.inl 0], (I, L, R, Y), 0, 0) _
      refine yi_D_if1 true rfl (by decide) ?_
      refine yi_D_run 2 (29, [(3, .inl (-1)), (4, .inl y4), (0, .inr (.inr (some 82))), (1, .inl w), (2, .inl m)], [], (I, L, R, Y), 0, 0) (fun _ => rfl) ?_
      refine yi_D_iinc [(4, .inl (y4 + 1)), (3, .inl (-1)), (0, .inr (.inr (some 82))), (1, .inl w), (2, .inl m)] rfl rfl rfl (by rw [show yi_w (y4 + 1) = y4 + 1 from (yi_wn (by omega) (by omega)).trans (by omega)]; rfl) ?_
      refine yi_D_run 1 (5, [(4, .inl (y4 + 1)), (3, .inl (-1)), (0, .inr (.inr (some 82))), (1, .inl w), (2, .inl m)], [], (I, L, R, Y), 0, 0) (fun _ => rfl) ?_
      exact yi_D_mono (ih5 (by omega) (y4 + 1) (by first | omega | exact ⟨by omega, by omega⟩)) (by omega)
  exact pt5 k (Nat.le_refl _) 0 (by first | omega | exact ⟨by omega, by omega⟩)
theorem q_isName_z {d : Nat} {I L : Nat → Nat → Int} {R : Nat → Nat → Option Nat} {Y : (Nat → Nat) × (Nat → Nat) × Nat} {K P V : Nat → Int} {te b a : Nat} {ld : Nat → Int} {nm : Int → Int} (hW : mt_W I L R Y K P V te b ld nm) (hf : I 82 8 = 0) (hA : mt_A I te a) : yi_P zi_Ms d 55 [.inr (.inr (some 82))] (I, L, R, Y) (fun r => ((K a = 3) ∧ r = (some (.inl 1), (I, L, R, Y), 0, 0)) ∨ (¬ (K a = 3) ∧ r = (some (.inl 0), (I, L, R, Y), 0, 0))) := by
  refine yi_P_of (M := zi_m55) rfl (fun d k => ?_)
  have hS := hW.1
  have ht := hW.2.1.1
  have ha := hA.2
  have hp := hW.2.1.2.1 a hA.2
  have hsg := mt_w1 hW.2.1 hA.2
  show yi_D zi_Ms d zi_m55 k (0, [(0, .inr (.inr (some 82)))], [], (I, L, R, Y), 0, 0) _
  refine yi_D_run 1 (1, [(0, .inr (.inr (some 82)))], [.inr (.inr (some 82))], (I, L, R, Y), 0, 0) (fun _ => rfl) ?_
  refine yi_D_gi (v := 0) rfl rfl rfl hf (fun _ => ?_)
  refine yi_D_if1 false rfl (by decide) ?_
  refine yi_D_run 1 (8, [(0, .inr (.inr (some 82)))], [.inr (.inr (some 82))], (I, L, R, Y), 0, 0) (fun _ => rfl) ?_
  refine yi_D_gr (v := some 84) rfl rfl rfl (ym_S_at hS (j := 1) rfl).1 (fun _ => ?_)
  refine yi_D_run 1 (12, [(0, .inr (.inr (some 82)))], [.inr (.inr (some 82)), .inr (.inr (some 84))], (I, L, R, Y), 0, 0) (fun _ => rfl) ?_
  refine yi_D_gi (v := (a : Int)) rfl rfl rfl hA.1 (fun _ => ?_)
  refine yi_D_il (v := I 84 a) rfl rfl rfl (fun _ _ => ?_)
  refine yi_D_run 1 (17, [(0, .inr (.inr (some 82)))], [.inl 1, .inl (I 84 a)], (I, L, R, Y), 0, 0) (fun _ => rfl) ?_
  by_cases h1 : (I 84 a) = 1
  · refine yi_D_if2 false rfl (yi_ne_f h1) ?_
    refine yi_D_run 3 (24, [(0, .inr (.inr (some 82)))], [.inl 29, .inl 0, .inr (.inr (some 82))], (I, L, R, Y), 0, 0) (fun _ => rfl) ?_
    refine yi_D_callv rfl (q_wordHere_z (by omega) (by omega) (by omega) hW hf hA) ?_
    rintro _ ⟨z2, rfl, hz3⟩
    show yi_D zi_Ms d zi_m55 k (27, [(0, .inr (.inr (some 82)))], [.inl z2], (I, L, R, Y), 0, 0) _
    by_cases h4 : 0 ≤ z2
    · refine yi_D_if1 true rfl (yi_ge_t h4) ?_
      refine yi_D_run 1 (35, [(0, .inr (.inr (some 82)))], [.inl 0], (I, L, R, Y), 0, 0) (fun _ => rfl) ?_
      refine yi_D_reti rfl ?_
      exact Or.inr ⟨by omega, rfl⟩
    · refine yi_D_if1 false rfl (yi_ge_f h4) ?_
      refine yi_D_run 2 (35, [(0, .inr (.inr (some 82)))], [.inl 1], (I, L, R, Y), 0, 0) (fun _ => rfl) ?_
      refine yi_D_reti rfl ?_
      exact Or.inl ⟨by omega, rfl⟩
  · refine yi_D_if2 true rfl (yi_ne_t h1) ?_
    refine yi_D_run 1 (35, [(0, .inr (.inr (some 82)))], [.inl 0], (I, L, R, Y), 0, 0) (fun _ => rfl) ?_
    refine yi_D_reti rfl ?_
    exact Or.inr ⟨by omega, rfl⟩
theorem q_isName_f {d : Nat} {I L : Nat → Nat → Int} {R : Nat → Nat → Option Nat} {Y : (Nat → Nat) × (Nat → Nat) × Nat} {K P V : Nat → Int} {te b : Nat} {ld : Nat → Int} {nm : Int → Int} (hW : mt_W I L R Y K P V te b ld nm) (hf : 0 < I 82 8) : yi_P zi_Ms d 55 [.inr (.inr (some 82))] (I, L, R, Y) (fun r => r = (some (.inl 0), (I, L, R, Y), 0, 0)) := by
  refine yi_P_of (M := zi_m55) rfl (fun d k => ?_)
  have hS := hW.1
  show yi_D zi_Ms d zi_m55 k (0, [(0, .inr (.inr (some 82)))], [], (I, L, R, Y), 0, 0) _
  refine yi_D_run 1 (1, [(0, .inr (.inr (some 82)))], [.inr (.inr (some 82))], (I, L, R, Y), 0, 0) (fun _ => rfl) ?_
  refine yi_D_gi (v := I 82 8) rfl rfl rfl rfl (fun _ => ?_)
  have h1 : ¬ ((I 82 8) = 0) := by omega
  refine yi_D_if1 true rfl (yi_ne_t h1) ?_
  refine yi_D_run 1 (35, [(0, .inr (.inr (some 82)))], [.inl 0], (I, L, R, Y), 0, 0) (fun _ => rfl) ?_
  refine yi_D_reti rfl ?_
  rfl
theorem q_find_50 {d : Nat} {I L : Nat → Nat → Int} {R : Nat → Nat → Option Nat} {Y : (Nat → Nat) × (Nat → Nat) × Nat} {K P V : Nat → Int} {te a : Nat} {ld : Nat → Int} {nm : Int → Int} (hW : mt_W I L R Y K P V te 50 ld nm) (hf : I 82 8 = 0) (hA : mt_A I te a) (hk : K a = 3) : yi_P zi_Ms d 26 [.inr (.inr (some 82))] (I, L, R, Y) (fun r => r = (some (.inl (nm (V a))), (I, L, R, Y), 0, 0)) := by
  refine yi_P_of (M := zi_m26) rfl (fun d k => ?_)
  have hS := hW.1
  have ht := hW.2.1.1
  have ha := hA.2
  have hp := hW.2.1.2.1 a hA.2
  have hb20 := hW.2.2.1.1
  have hNb : mt_N I L 92 94 (I 82 19) nm := by
    rcases hW.2.2.1.2 with z | z
    · exact z.2
    · exact absurd z.1 (by decide)
  have hv3 := hp.2.2.2.2.1 hk
  have hm := hNb.1
  show yi_D zi_Ms d zi_m26 k (0, [(0, .inr (.inr (some 82)))], [], (I, L, R, Y), 0, 0) _
  refine yi_D_run 2 (2, [(1, .inl 0), (0, .inr (.inr (some 82)))], [], (I, L, R, Y), 0, 0) (fun _ => rfl) ?_
  have pt2 : ∀ j2, j2 ≤ k → ∀ (y1 : Int), (0 ≤ y1 ∧ y1 ≤ I 82 19) → (∀ j : Nat, (j : Int) < y1 → ¬ L 92 j = V a) → yi_D zi_Ms d zi_m26 j2 (2, [(1, .inl y1), (0, .inr (.inr (some 82)))], [], (I, L, R, Y), 0, 0) (fun r => r = (some (.inl (nm (V a))), (I, L, R, Y), 0, 0)) := by
    intro j2
    induction j2 with
    | zero => intros; exact yi_D_0
    | succ j2 ih2 =>
    intro hk2 y1 hy hn
    refine yi_D_run1 1 (4, [(1, .inl y1), (0, .inr (.inr (some 82)))], [.inr (.inr (some 82)), .inl y1], (I, L, R, Y), 0, 0) (fun _ => rfl) ?_
    refine yi_D_gi (v := 50) rfl rfl rfl hb20 (fun _ => ?_)
    refine yi_D_if1 true rfl (by decide) ?_
    refine yi_D_run 1 (18, [(1, .inl y1), (0, .inr (.inr (some 82)))], [.inr (.inr (some 82)), .inl y1], (I, L, R, Y), 0, 0) (fun _ => rfl) ?_
    refine yi_D_gi (v := I 82 19) rfl rfl rfl rfl (fun _ => ?_)
    by_cases h1 : (I 82 19) ≤ y1
    · refine yi_D_if2 true rfl (yi_ge_t h1) ?_
      refine yi_D_run 1 (89, [(1, .inl y1), (0, .inr (.inr (some 82)))], [.inl (-1)], (I, L, R, Y), 0, 0) (fun _ => rfl) ?_
      refine yi_D_reti rfl ?_
      have hz : nm (V a) = -1 := hNb.2.2 (V a) (fun k hk => hn k (by omega))
      rw [hz]
    · refine yi_D_if2 false rfl (yi_ge_f h1) ?_
      refine yi_D_run 1 (25, [(1, .inl y1), (0, .inr (.inr (some 82)))], [.inr (.inr (some 82))], (I, L, R, Y), 0, 0) (fun _ => rfl) ?_
      refine yi_D_gi (v := 50) rfl rfl rfl hb20 (fun _ => ?_)
      refine yi_D_if1 true rfl (by decide) ?_
      refine yi_D_run 1 (41, [(1, .inl y1), (0, .inr (.inr (some 82)))], [.inr (.inr (some 82))], (I, L, R, Y), 0, 0) (fun _ => rfl) ?_
      refine yi_D_gr (v := some 92) rfl rfl rfl (ym_S_at hS (j := 9) rfl).1 (fun _ => ?_)
      refine yi_D_run 1 (45, [(1, .inl y1), (0, .inr (.inr (some 82)))], [.inl y1, .inr (.inr (some 92))], (I, L, R, Y), 0, 0) (fun _ => rfl) ?_
      refine yi_D_ll (v := L 92 (y1.toNat)) rfl rfl rfl (fun _ _ => ?_)
      refine yi_D_run 1 (47, [(1, .inl y1), (0, .inr (.inr (some 82)))], [.inr (.inr (some 82)), .inr (.inl (L 92 (y1.toNat)))], (I, L, R, Y), 0, 0) (fun _ => rfl) ?_
      refine yi_D_gr (v := some 86) rfl rfl rfl (ym_S_at hS (j := 3) rfl).1 (fun _ => ?_)
      refine yi_D_run 1 (51, [(1, .inl y1), (0, .inr (.inr (some 82)))], [.inr (.inr (some 82)), .inr (.inr (some 86)), .inr (.inl (L 92 (y1.toNat)))], (I, L, R, Y), 0, 0) (fun _ => rfl) ?_
      refine yi_D_gi (v := (a : Int)) rfl rfl rfl hA.1 (fun _ => ?_)
      refine yi_D_ll (v := L 86 a) rfl rfl rfl (fun _ _ => ?_)
      refine yi_D_run 1 (56, [(1, .inl y1), (0, .inr (.inr (some 82)))], [.inl (yi_lcmp (L 92 (y1.toNat)) (L 86 a))], (I, L, R, Y), 0, 0) (fun _ => rfl) ?_
      by_cases h2 : (L 92 (y1.toNat)) = (L 86 a)
      · refine yi_D_if1 false rfl (yi_Lne_f h2) ?_
        refine yi_D_run 1 (60, [(1, .inl y1), (0, .inr (.inr (some 82)))], [.inr (.inr (some 82))], (I, L, R, Y), 0, 0) (fun _ => rfl) ?_
        refine yi_D_gi (v := 50) rfl rfl rfl hb20 (fun _ => ?_)
        refine yi_D_if1 true rfl (by decide) ?_
        refine yi_D_run 1 (76, [(1, .inl y1), (0, .inr (.inr (some 82)))], [.inr (.inr (some 82))], (I, L, R, Y), 0, 0) (fun _ => rfl) ?_
        refine yi_D_gr (v := some 94) rfl rfl rfl (ym_S_at hS (j := 11) rfl).1 (fun _ => ?_)
        refine yi_D_run 1 (80, [(1, .inl y1), (0, .inr (.inr (some 82)))], [.inl y1, .inr (.inr (some 94))], (I, L, R, Y), 0, 0) (fun _ => rfl) ?_
        refine yi_D_il (v := I 94 (y1.toNat)) rfl rfl rfl (fun _ _ => ?_)
        refine yi_D_reti rfl ?_
        have hz := (hNb.2.1 y1.toNat (by omega)).1
        rw [show L 92 y1.toNat = V a by omega] at hz
        rw [hz]
      · refine yi_D_if1 true rfl (yi_Lne_t h2) ?_
        refine yi_D_iinc [(1, .inl (y1 + 1)), (0, .inr (.inr (some 82)))] rfl rfl rfl (by rw [show yi_w (y1 + 1) = y1 + 1 from (yi_wn (by omega) (by omega)).trans (by omega)]; rfl) ?_
        refine yi_D_run 1 (2, [(1, .inl (y1 + 1)), (0, .inr (.inr (some 82)))], [], (I, L, R, Y), 0, 0) (fun _ => rfl) ?_
        exact yi_D_mono (ih2 (by omega) (y1 + 1) (by omega) (fun j hj => by by_cases e : (j : Int) = y1; exact (by rw [show j = y1.toNat by omega]; omega); exact hn j (by omega))) (by omega)
  exact pt2 k (Nat.le_refl _) 0 (by omega) (fun j hj => by omega)
theorem q_find_0 {d : Nat} {I L : Nat → Nat → Int} {R : Nat → Nat → Option Nat} {Y : (Nat → Nat) × (Nat → Nat) × Nat} {K P V : Nat → Int} {te a : Nat} {ld : Nat → Int} {nm : Int → Int} (hW : mt_W I L R Y K P V te 0 ld nm) (hf : I 82 8 = 0) (hA : mt_A I te a) (hk : K a = 3) : yi_P zi_Ms d 26 [.inr (.inr (some 82))] (I, L, R, Y) (fun r => r = (some (.inl (nm (V a))), (I, L, R, Y), 0, 0)) := by
  refine yi_P_of (M := zi_m26) rfl (fun d k => ?_)
  have hS := hW.1
  have ht := hW.2.1.1
  have ha := hA.2
  have hp := hW.2.1.2.1 a hA.2
  have hb20 := hW.2.2.1.1
  have hNb : mt_N I L 91 93 (I 82 18) nm := by
    rcases hW.2.2.1.2 with z | z
    · exact absurd z.1 (by decide)
    · exact z.2
  have hv3 := hp.2.2.2.2.1 hk
  have hm := hNb.1
  show yi_D zi_Ms d zi_m26 k (0, [(0, .inr (.inr (some 82)))], [], (I, L, R, Y), 0, 0) _
  refine yi_D_run 2 (2, [(1, .inl 0), (0, .inr (.inr (some 82)))], [], (I, L, R, Y), 0, 0) (fun _ => rfl) ?_
  have pt2 : ∀ j2, j2 ≤ k → ∀ (y1 : Int), (0 ≤ y1 ∧ y1 ≤ I 82 18) → (∀ j : Nat, (j : Int) < y1 → ¬ L 91 j = V a) → yi_D zi_Ms d zi_m26 j2 (2, [(1, .inl y1), (0, .inr (.inr (some 82)))], [], (I, L, R, Y), 0, 0) (fun r => r = (some (.inl (nm (V a))), (I, L, R, Y), 0, 0)) := by
    intro j2
    induction j2 with
    | zero => intros; exact yi_D_0
    | succ j2 ih2 =>
    intro hk2 y1 hy hn
    refine yi_D_run1 1 (4, [(1, .inl y1), (0, .inr (.inr (some 82)))], [.inr (.inr (some 82)), .inl y1], (I, L, R, Y), 0, 0) (fun _ => rfl) ?_
    refine yi_D_gi (v := 0) rfl rfl rfl hb20 (fun _ => ?_)
    refine yi_D_if1 false rfl (by decide) ?_
    refine yi_D_run 1 (11, [(1, .inl y1), (0, .inr (.inr (some 82)))], [.inr (.inr (some 82)), .inl y1], (I, L, R, Y), 0, 0) (fun _ => rfl) ?_
    refine yi_D_gi (v := I 82 18) rfl rfl rfl rfl (fun _ => ?_)
    refine yi_D_run 1 (21, [(1, .inl y1), (0, .inr (.inr (some 82)))], [.inl (I 82 18), .inl y1], (I, L, R, Y), 0, 0) (fun _ => rfl) ?_
    by_cases h1 : (I 82 18) ≤ y1
    · refine yi_D_if2 true rfl (yi_ge_t h1) ?_
      refine yi_D_run 1 (89, [(1, .inl y1), (0, .inr (.inr (some 82)))], [.inl (-1)], (I, L, R, Y), 0, 0) (fun _ => rfl) ?_
      refine yi_D_reti rfl ?_
      have hz : nm (V a) = -1 := hNb.2.2 (V a) (fun k hk => hn k (by omega))
      rw [hz]
    · refine yi_D_if2 false rfl (yi_ge_f h1) ?_
      refine yi_D_run 1 (25, [(1, .inl y1), (0, .inr (.inr (some 82)))], [.inr (.inr (some 82))], (I, L, R, Y), 0, 0) (fun _ => rfl) ?_
      refine yi_D_gi (v := 0) rfl rfl rfl hb20 (fun _ => ?_)
      refine yi_D_if1 false rfl (by decide) ?_
      refine yi_D_run 1 (32, [(1, .inl y1), (0, .inr (.inr (some 82)))], [.inr (.inr (some 82))], (I, L, R, Y), 0, 0) (fun _ => rfl) ?_
      refine yi_D_gr (v := some 91) rfl rfl rfl (ym_S_at hS (j := 8) rfl).1 (fun _ => ?_)
      refine yi_D_run 1 (36, [(1, .inl y1), (0, .inr (.inr (some 82)))], [.inl y1, .inr (.inr (some 91))], (I, L, R, Y), 0, 0) (fun _ => rfl) ?_
      refine yi_D_ll (v := L 91 (y1.toNat)) rfl rfl rfl (fun _ _ => ?_)
      refine yi_D_run 2 (47, [(1, .inl y1), (0, .inr (.inr (some 82)))], [.inr (.inr (some 82)), .inr (.inl (L 91 (y1.toNat)))], (I, L, R, Y), 0, 0) (fun _ => rfl) ?_
      refine yi_D_gr (v := some 86) rfl rfl rfl (ym_S_at hS (j := 3) rfl).1 (fun _ => ?_)
      refine yi_D_run 1 (51, [(1, .inl y1), (0, .inr (.inr (some 82)))], [.inr (.inr (some 82)), .inr (.inr (some 86)), .inr (.inl (L 91 (y1.toNat)))], (I, L, R, Y), 0, 0) (fun _ => rfl) ?_
      refine yi_D_gi (v := (a : Int)) rfl rfl rfl hA.1 (fun _ => ?_)
      refine yi_D_ll (v := L 86 a) rfl rfl rfl (fun _ _ => ?_)
      refine yi_D_run 1 (56, [(1, .inl y1), (0, .inr (.inr (some 82)))], [.inl (yi_lcmp (L 91 (y1.toNat)) (L 86 a))], (I, L, R, Y), 0, 0) (fun _ => rfl) ?_
      by_cases h2 : (L 91 (y1.toNat)) = (L 86 a)
      · refine yi_D_if1 false rfl (yi_Lne_f h2) ?_
        refine yi_D_run 1 (60, [(1, .inl y1), (0, .inr (.inr (some 82)))], [.inr (.inr (some 82))], (I, L, R, Y), 0, 0) (fun _ => rfl) ?_
        refine yi_D_gi (v := 0) rfl rfl rfl hb20 (fun _ => ?_)
        refine yi_D_if1 false rfl (by decide) ?_
        refine yi_D_run 1 (67, [(1, .inl y1), (0, .inr (.inr (some 82)))], [.inr (.inr (some 82))], (I, L, R, Y), 0, 0) (fun _ => rfl) ?_
        refine yi_D_gr (v := some 93) rfl rfl rfl (ym_S_at hS (j := 10) rfl).1 (fun _ => ?_)
        refine yi_D_run 1 (71, [(1, .inl y1), (0, .inr (.inr (some 82)))], [.inl y1, .inr (.inr (some 93))], (I, L, R, Y), 0, 0) (fun _ => rfl) ?_
        refine yi_D_il (v := I 93 (y1.toNat)) rfl rfl rfl (fun _ _ => ?_)
        refine yi_D_run 1 (81, [(1, .inl y1), (0, .inr (.inr (some 82)))], [.inl (I 93 (y1.toNat))], (I, L, R, Y), 0, 0) (fun _ => rfl) ?_
        refine yi_D_reti rfl ?_
        have hz := (hNb.2.1 y1.toNat (by omega)).1
        rw [show L 91 y1.toNat = V a by omega] at hz
        rw [hz]
      · refine yi_D_if1 true rfl (yi_Lne_t h2) ?_
        refine yi_D_iinc [(1, .inl (y1 + 1)), (0, .inr (.inr (some 82)))] rfl rfl rfl (by rw [show yi_w (y1 + 1) = y1 + 1 from (yi_wn (by omega) (by omega)).trans (by omega)]; rfl) ?_
        refine yi_D_run 1 (2, [(1, .inl (y1 + 1)), (0, .inr (.inr (some 82)))], [], (I, L, R, Y), 0, 0) (fun _ => rfl) ?_
        exact yi_D_mono (ih2 (by omega) (y1 + 1) (by omega) (fun j hj => by by_cases e : (j : Int) = y1; exact (by rw [show j = y1.toNat by omega]; omega); exact hn j (by omega))) (by omega)
  exact pt2 k (Nat.le_refl _) 0 (by omega) (fun j hj => by omega)
