/-! Formulas read. -/
theorem c_readTerm_of {X : ym_X} (hS : ym_S X) {m : Nat} {dep : Int} (m0 : 6 ≤ m) (hIt : ym_RC X 97 m dep) : ym_RC X 104 (m + 1) dep := by
  intro D hD I L te n hT a0 f0 n0 n1 hDY hn k0
  obtain ⟨d, rfl⟩ : ∃ d, D = d + 1 := ⟨D - 1, by omega⟩
  refine yi_E_of (M := zi_m104) rfl rfl ?_
  obtain ⟨te0, te1, te2⟩ := id hT
  show yi_G zi_Ms d zi_m104 (0, [(0, .inr (.inr (some 82))), (1, .inl dep)], [], (I, L, X), 0, 0) _
  have pt5 : ∀ (m : Nat) (Ja : Nat → Nat → Int), (∀ p k, ¬ (p = 82 ∧ k = 7) ∧ ¬ (p = 82 ∧ k = 8) ∧ ¬ (p = 82 ∧ k = 13) ∧ p ≠ 89 ∧ p ≠ 90 → Ja p k = I p k) → (I 82 7 ≤ Ja 82 7 ∧ Ja 82 7 ≤ te) → (0 ≤ Ja 82 8) → (n ≤ Ja 82 13 ∧ Ja 82 13 - n ≤ Ja 82 7 - I 82 7 + 1) → (Ja 82 8 = 0 → I 82 8 = 0 ∧ Ja 82 13 - n ≤ Ja 82 7 - I 82 7) → (ym_LW I Ja n) → (Ja 82 8 = 0 → ym_SG Ja n (Ja 82 13) 0 1) → (te - Ja 82 7).toNat = m → yi_G zi_Ms d zi_m104 (5, [(0, .inr (.inr (some 82))), (1, .inl dep)], [], (Ja, L, X), 0, 0) (ym_RQ I L X te n) := by
    intro m5
    induction m5 using Nat.strongRecOn with
    | _ m5 ih5 =>
    intro Ja fJa pa pf pk pz plw psg hm5
    refine yi_G_run 2 (8, [(0, .inr (.inr (some 82))), (1, .inl dep)], [.inl 27, .inr (.inr (some 82))], (Ja, L, X), 0, 0) (fun _ => rfl) ?_
    have r1 : Ja 84 ((Ja 82 7).toNat) = I 84 ((Ja 82 7).toNat) := by rw [fJa 84 ((Ja 82 7).toNat) (by omega)]
    refine yi_G_callv rfl rfl (ym_rcv hS) rfl (c_hasWord d (by omega) hS ⟨by omega, by omega⟩ rfl rfl r1 rfl ⟨by omega, by omega⟩) ?_
    rintro _ (⟨c4, I2, rfl, f3, c4b⟩ | ⟨c4, I2, rfl, f3, c4b⟩)
    · have lt5 : Ja 82 7 < te := ym_TK_lt hT (by omega) (by omega)
      show yi_G zi_Ms d zi_m104 (11, [(0, .inr (.inr (some 82))), (1, .inl dep)], [.inl 1], (I2, L, X), 0, 0) _
      refine yi_G_if1 false rfl (by decide) ?_
      refine yi_G_run 2 (16, [(0, .inr (.inr (some 82))), (1, .inl dep)], [.inl dep, .inr (.inr (some 82))], (I2, L, X), 0, 0) (fun _ => rfl) ?_
      have r6 : I2 82 13 = Ja 82 13 := by rw [f3 82 (13) (by omega)]
      have r7 : I2 82 18 = I 82 18 := by rw [f3 82 (18) (by omega), fJa 82 (18) (by omega)]
      have r8 : I2 82 19 = I 82 19 := by rw [f3 82 (19) (by omega), fJa 82 (19) (by omega)]
      have r9 : I2 82 8 = Ja 82 8 := by rw [f3 82 (8) (by omega)]
      have r10 : I2 82 20 = I 82 20 := by rw [f3 82 (20) (by omega), fJa 82 (20) (by omega)]
      refine yi_G_callv rfl rfl (ym_rcv hS) rfl (hIt d (by omega) I2 L te (Ja 82 13) (ym_TK_t (fun k => by rw [f3 84 k (by omega), fJa 84 k (by omega)]) (fun k => by rw [f3 85 k (by omega), fJa 85 k (by omega)]) hT) ⟨by omega, by omega⟩ (by omega) ⟨(by rw [r7]; omega), (by rw [r7]; omega)⟩ ⟨(by rw [r8]; omega), (by rw [r8]; omega)⟩ (ym_DY_t r10 (fun k => by rw [f3 88 k (by omega), fJa 88 k (by omega)]) hDY) r6 ⟨by omega, by omega⟩) ?_
      rintro _ ⟨I11, rfl, f12, h13a, h13b, h13c, h13d, lwI11, sgI11⟩
      show yi_G zi_Ms d zi_m104 (19, [(0, .inr (.inr (some 82))), (1, .inl dep)], [], (I11, L, X), 0, 0) _
      refine yi_G_run 3 (23, [(0, .inr (.inr (some 82))), (1, .inl dep)], [.inl 0, .inl 9, .inr (.inr (some 82))], (I11, L, X), 0, 0) (fun _ => rfl) ?_
      refine yi_G_callv rfl rfl (ym_rcv hS) rfl (c_emit d (by omega) hS rfl ⟨by omega, by omega⟩) ?_
      rintro _ ⟨I14, rfl, f15, eI14, emI14⟩
      show yi_G zi_Ms d zi_m104 (26, [(0, .inr (.inr (some 82))), (1, .inl dep)], [], (I14, L, X), 0, 0) _
      refine yi_G_run 1 (5, [(0, .inr (.inr (some 82))), (1, .inl dep)], [], (I14, L, X), 0, 0) (fun _ => rfl) ?_
      have r16 : I14 82 7 = I11 82 7 := by rw [f15 82 (7) (by omega)]
      have r17 : I14 82 8 = I11 82 8 := by rw [f15 82 (8) (by omega)]
      exact ih5 _ (by omega) I14 (fun p k hp => by rw [f15 p k (by omega), f12 p k (by omega), f3 p k (by omega), fJa p k (by omega)]) (by omega) (by omega) (by omega) (by omega) (ym_LW_t (ym_LW_t plw (ym_LW_g lwI11 (fun k => by rw [f3 89 k (by omega)]) (fun k => by rw [f3 90 k (by omega)])) (by omega)) (ym_LW_e (n := n) emI14 (by omega) (by omega)) (Int.le_refl _)) (fun zz => by rw [eI14]; exact ym_SG_bin (psg (by omega)) (ym_LW_g lwI11 (fun k => by rw [f3 89 k (by omega)]) (fun k => by rw [f3 90 k (by omega)])) (sgI11 (by omega)) emI14 (by omega) (by omega)) rfl
    · show yi_G zi_Ms d zi_m104 (11, [(0, .inr (.inr (some 82))), (1, .inl dep)], [.inl 0], (I2, L, X), 0, 0) _
      refine yi_G_if1 true rfl (by decide) ?_
      have r18 : I2 82 8 = Ja 82 8 := by rw [f3 82 (8) (by omega)]
      have r19 : I2 82 13 = Ja 82 13 := by rw [f3 82 (13) (by omega)]
      have r20 : I2 82 13 = Ja 82 13 := by rw [f3 82 (13) (by omega)]
      exact yi_G_retv rfl rfl (⟨_, rfl, (fun p k hp => by rw [f3 p k (by omega), fJa p k (by omega)]), ⟨by omega, by omega⟩, by omega, ⟨by omega, by omega⟩, by omega, (ym_LW_f plw (fun k => by rw [f3 89 k (by omega)]) (fun k => by rw [f3 90 k (by omega)])), (fun zz => by rw [r20]; exact ym_SG_t (psg (by omega)) (ym_LW_f (ym_LW_r _ _) (fun k => by rw [f3 89 k (by omega)]) (fun k => by rw [f3 90 k (by omega)])))⟩)
  refine yi_G_run 2 (2, [(0, .inr (.inr (some 82))), (1, .inl dep)], [.inl dep, .inr (.inr (some 82))], (I, L, X), 0, 0) (fun _ => rfl) ?_
  refine yi_G_callv rfl rfl (ym_rcv hS) rfl (hIt d (by omega) I L te (I 82 13) hT ⟨by omega, by omega⟩ (by omega) ⟨(by omega), (by omega)⟩ ⟨(by omega), (by omega)⟩ hDY rfl ⟨by omega, by omega⟩) ?_
  rintro _ ⟨I21, rfl, f22, h23a, h23b, h23c, h23d, lwI21, sgI21⟩
  show yi_G zi_Ms d zi_m104 (5, [(0, .inr (.inr (some 82))), (1, .inl dep)], [], (I21, L, X), 0, 0) _
  exact pt5 _ I21 (fun p k hp => by rw [f22 p k (by omega)]) (by omega) (by omega) (by omega) (by omega) lwI21 sgI21 rfl
theorem c_readFormula_of {X : ym_X} (hS : ym_S X) {m : Nat} {dep : Int} (m0 : 6 ≤ m) (hIt : ym_RC X 104 m dep) : ym_RC X 96 (m + 1) dep := by
  intro D hD I L te n hT a0 f0 n0 n1 hDY hn k0
  obtain ⟨d, rfl⟩ : ∃ d, D = d + 1 := ⟨D - 1, by omega⟩
  refine yi_E_of (M := zi_m96) rfl rfl ?_
  obtain ⟨te0, te1, te2⟩ := id hT
  show yi_G zi_Ms d zi_m96 (0, [(0, .inr (.inr (some 82))), (1, .inl dep)], [], (I, L, X), 0, 0) _
  have pt5 : ∀ (m : Nat) (Ja : Nat → Nat → Int), (∀ p k, ¬ (p = 82 ∧ k = 7) ∧ ¬ (p = 82 ∧ k = 8) ∧ ¬ (p = 82 ∧ k = 13) ∧ p ≠ 89 ∧ p ≠ 90 → Ja p k = I p k) → (I 82 7 ≤ Ja 82 7 ∧ Ja 82 7 ≤ te) → (0 ≤ Ja 82 8) → (n ≤ Ja 82 13 ∧ Ja 82 13 - n ≤ Ja 82 7 - I 82 7 + 1) → (Ja 82 8 = 0 → I 82 8 = 0 ∧ Ja 82 13 - n ≤ Ja 82 7 - I 82 7) → (ym_LW I Ja n) → (Ja 82 8 = 0 → ym_SG Ja n (Ja 82 13) 0 1) → (te - Ja 82 7).toNat = m → yi_G zi_Ms d zi_m96 (5, [(0, .inr (.inr (some 82))), (1, .inl dep)], [], (Ja, L, X), 0, 0) (ym_RQ I L X te n) := by
    intro m5
    induction m5 using Nat.strongRecOn with
    | _ m5 ih5 =>
    intro Ja fJa pa pf pk pz plw psg hm5
    refine yi_G_run 2 (8, [(0, .inr (.inr (some 82))), (1, .inl dep)], [.inl 28, .inr (.inr (some 82))], (Ja, L, X), 0, 0) (fun _ => rfl) ?_
    have r1 : Ja 84 ((Ja 82 7).toNat) = I 84 ((Ja 82 7).toNat) := by rw [fJa 84 ((Ja 82 7).toNat) (by omega)]
    refine yi_G_callv rfl rfl (ym_rcv hS) rfl (c_hasWord d (by omega) hS ⟨by omega, by omega⟩ rfl rfl r1 rfl ⟨by omega, by omega⟩) ?_
    rintro _ (⟨c4, I2, rfl, f3, c4b⟩ | ⟨c4, I2, rfl, f3, c4b⟩)
    · have lt5 : Ja 82 7 < te := ym_TK_lt hT (by omega) (by omega)
      show yi_G zi_Ms d zi_m96 (11, [(0, .inr (.inr (some 82))), (1, .inl dep)], [.inl 1], (I2, L, X), 0, 0) _
      refine yi_G_if1 false rfl (by decide) ?_
      refine yi_G_run 2 (16, [(0, .inr (.inr (some 82))), (1, .inl dep)], [.inl dep, .inr (.inr (some 82))], (I2, L, X), 0, 0) (fun _ => rfl) ?_
      have r6 : I2 82 13 = Ja 82 13 := by rw [f3 82 (13) (by omega)]
      have r7 : I2 82 18 = I 82 18 := by rw [f3 82 (18) (by omega), fJa 82 (18) (by omega)]
      have r8 : I2 82 19 = I 82 19 := by rw [f3 82 (19) (by omega), fJa 82 (19) (by omega)]
      have r9 : I2 82 8 = Ja 82 8 := by rw [f3 82 (8) (by omega)]
      have r10 : I2 82 20 = I 82 20 := by rw [f3 82 (20) (by omega), fJa 82 (20) (by omega)]
      refine yi_G_callv rfl rfl (ym_rcv hS) rfl (hIt d (by omega) I2 L te (Ja 82 13) (ym_TK_t (fun k => by rw [f3 84 k (by omega), fJa 84 k (by omega)]) (fun k => by rw [f3 85 k (by omega), fJa 85 k (by omega)]) hT) ⟨by omega, by omega⟩ (by omega) ⟨(by rw [r7]; omega), (by rw [r7]; omega)⟩ ⟨(by rw [r8]; omega), (by rw [r8]; omega)⟩ (ym_DY_t r10 (fun k => by rw [f3 88 k (by omega), fJa 88 k (by omega)]) hDY) r6 ⟨by omega, by omega⟩) ?_
      rintro _ ⟨I11, rfl, f12, h13a, h13b, h13c, h13d, lwI11, sgI11⟩
      show yi_G zi_Ms d zi_m96 (19, [(0, .inr (.inr (some 82))), (1, .inl dep)], [], (I11, L, X), 0, 0) _
      refine yi_G_run 3 (23, [(0, .inr (.inr (some 82))), (1, .inl dep)], [.inl 0, .inl 10, .inr (.inr (some 82))], (I11, L, X), 0, 0) (fun _ => rfl) ?_
      refine yi_G_callv rfl rfl (ym_rcv hS) rfl (c_emit d (by omega) hS rfl ⟨by omega, by omega⟩) ?_
      rintro _ ⟨I14, rfl, f15, eI14, emI14⟩
      show yi_G zi_Ms d zi_m96 (26, [(0, .inr (.inr (some 82))), (1, .inl dep)], [], (I14, L, X), 0, 0) _
      refine yi_G_run 1 (5, [(0, .inr (.inr (some 82))), (1, .inl dep)], [], (I14, L, X), 0, 0) (fun _ => rfl) ?_
      have r16 : I14 82 7 = I11 82 7 := by rw [f15 82 (7) (by omega)]
      have r17 : I14 82 8 = I11 82 8 := by rw [f15 82 (8) (by omega)]
      exact ih5 _ (by omega) I14 (fun p k hp => by rw [f15 p k (by omega), f12 p k (by omega), f3 p k (by omega), fJa p k (by omega)]) (by omega) (by omega) (by omega) (by omega) (ym_LW_t (ym_LW_t plw (ym_LW_g lwI11 (fun k => by rw [f3 89 k (by omega)]) (fun k => by rw [f3 90 k (by omega)])) (by omega)) (ym_LW_e (n := n) emI14 (by omega) (by omega)) (Int.le_refl _)) (fun zz => by rw [eI14]; exact ym_SG_bin (psg (by omega)) (ym_LW_g lwI11 (fun k => by rw [f3 89 k (by omega)]) (fun k => by rw [f3 90 k (by omega)])) (sgI11 (by omega)) emI14 (by omega) (by omega)) rfl
    · show yi_G zi_Ms d zi_m96 (11, [(0, .inr (.inr (some 82))), (1, .inl dep)], [.inl 0], (I2, L, X), 0, 0) _
      refine yi_G_if1 true rfl (by decide) ?_
      have r18 : I2 82 8 = Ja 82 8 := by rw [f3 82 (8) (by omega)]
      have r19 : I2 82 13 = Ja 82 13 := by rw [f3 82 (13) (by omega)]
      have r20 : I2 82 13 = Ja 82 13 := by rw [f3 82 (13) (by omega)]
      exact yi_G_retv rfl rfl (⟨_, rfl, (fun p k hp => by rw [f3 p k (by omega), fJa p k (by omega)]), ⟨by omega, by omega⟩, by omega, ⟨by omega, by omega⟩, by omega, (ym_LW_f plw (fun k => by rw [f3 89 k (by omega)]) (fun k => by rw [f3 90 k (by omega)])), (fun zz => by rw [r20]; exact ym_SG_t (psg (by omega)) (ym_LW_f (ym_LW_r _ _) (fun k => by rw [f3 89 k (by omega)]) (fun k => by rw [f3 90 k (by omega)])))⟩)
  refine yi_G_run 2 (2, [(0, .inr (.inr (some 82))), (1, .inl dep)], [.inl dep, .inr (.inr (some 82))], (I, L, X), 0, 0) (fun _ => rfl) ?_
  refine yi_G_callv rfl rfl (ym_rcv hS) rfl (hIt d (by omega) I L te (I 82 13) hT ⟨by omega, by omega⟩ (by omega) ⟨(by omega), (by omega)⟩ ⟨(by omega), (by omega)⟩ hDY rfl ⟨by omega, by omega⟩) ?_
  rintro _ ⟨I21, rfl, f22, h23a, h23b, h23c, h23d, lwI21, sgI21⟩
  show yi_G zi_Ms d zi_m96 (5, [(0, .inr (.inr (some 82))), (1, .inl dep)], [], (I21, L, X), 0, 0) _
  exact pt5 _ I21 (fun p k hp => by rw [f22 p k (by omega)]) (by omega) (by omega) (by omega) (by omega) lwI21 sgI21 rfl
theorem c_products_of {X : ym_X} (hS : ym_S X) {m : Nat} {dep : Int} (m0 : 6 ≤ m) (hIt : ym_RC X 117 m dep) : ym_RC X 89 (m + 1) dep := by
  intro D hD I L te n hT a0 f0 n0 n1 hDY hn k0
  obtain ⟨d, rfl⟩ : ∃ d, D = d + 1 := ⟨D - 1, by omega⟩
  refine yi_E_of (M := zi_m89) rfl rfl ?_
  obtain ⟨te0, te1, te2⟩ := id hT
  show yi_G zi_Ms d zi_m89 (0, [(0, .inr (.inr (some 82))), (1, .inl dep)], [], (I, L, X), 0, 0) _
  have pt5 : ∀ (m : Nat) (Ja : Nat → Nat → Int), (∀ p k, ¬ (p = 82 ∧ k = 7) ∧ ¬ (p = 82 ∧ k = 8) ∧ ¬ (p = 82 ∧ k = 13) ∧ p ≠ 89 ∧ p ≠ 90 → Ja p k = I p k) → (I 82 7 ≤ Ja 82 7 ∧ Ja 82 7 ≤ te) → (0 ≤ Ja 82 8) → (n ≤ Ja 82 13 ∧ Ja 82 13 - n ≤ Ja 82 7 - I 82 7 + 1) → (Ja 82 8 = 0 → I 82 8 = 0 ∧ Ja 82 13 - n ≤ Ja 82 7 - I 82 7) → (ym_LW I Ja n) → (Ja 82 8 = 0 → ym_SG Ja n (Ja 82 13) 0 1) → (te - Ja 82 7).toNat = m → yi_G zi_Ms d zi_m89 (5, [(0, .inr (.inr (some 82))), (1, .inl dep)], [], (Ja, L, X), 0, 0) (ym_RQ I L X te n) := by
    intro m5
    induction m5 using Nat.strongRecOn with
    | _ m5 ih5 =>
    intro Ja fJa pa pf pk pz plw psg hm5
    refine yi_G_run 2 (8, [(0, .inr (.inr (some 82))), (1, .inl dep)], [.inl 42, .inr (.inr (some 82))], (Ja, L, X), 0, 0) (fun _ => rfl) ?_
    have r1 : Ja 84 ((Ja 82 7).toNat) = I 84 ((Ja 82 7).toNat) := by rw [fJa 84 ((Ja 82 7).toNat) (by omega)]
    refine yi_G_callv rfl rfl (ym_rcv hS) rfl (c_hasSign d (by omega) hS rfl rfl r1 rfl ⟨by omega, by omega⟩) ?_
    rintro _ (⟨c4, I2, rfl, f3, c4b⟩ | ⟨c4, I2, rfl, f3, c4b⟩)
    · have lt5 : Ja 82 7 < te := ym_TK_lt hT (by omega) (by omega)
      show yi_G zi_Ms d zi_m89 (11, [(0, .inr (.inr (some 82))), (1, .inl dep)], [.inl 1], (I2, L, X), 0, 0) _
      refine yi_G_if1 false rfl (by decide) ?_
      refine yi_G_run 2 (16, [(0, .inr (.inr (some 82))), (1, .inl dep)], [.inl dep, .inr (.inr (some 82))], (I2, L, X), 0, 0) (fun _ => rfl) ?_
      have r6 : I2 82 13 = Ja 82 13 := by rw [f3 82 (13) (by omega)]
      have r7 : I2 82 18 = I 82 18 := by rw [f3 82 (18) (by omega), fJa 82 (18) (by omega)]
      have r8 : I2 82 19 = I 82 19 := by rw [f3 82 (19) (by omega), fJa 82 (19) (by omega)]
      have r9 : I2 82 8 = Ja 82 8 := by rw [f3 82 (8) (by omega)]
      have r10 : I2 82 20 = I 82 20 := by rw [f3 82 (20) (by omega), fJa 82 (20) (by omega)]
      refine yi_G_callv rfl rfl (ym_rcv hS) rfl (hIt d (by omega) I2 L te (Ja 82 13) (ym_TK_t (fun k => by rw [f3 84 k (by omega), fJa 84 k (by omega)]) (fun k => by rw [f3 85 k (by omega), fJa 85 k (by omega)]) hT) ⟨by omega, by omega⟩ (by omega) ⟨(by rw [r7]; omega), (by rw [r7]; omega)⟩ ⟨(by rw [r8]; omega), (by rw [r8]; omega)⟩ (ym_DY_t r10 (fun k => by rw [f3 88 k (by omega), fJa 88 k (by omega)]) hDY) r6 ⟨by omega, by omega⟩) ?_
      rintro _ ⟨I11, rfl, f12, h13a, h13b, h13c, h13d, lwI11, sgI11⟩
      show yi_G zi_Ms d zi_m89 (19, [(0, .inr (.inr (some 82))), (1, .inl dep)], [], (I11, L, X), 0, 0) _
      refine yi_G_run 3 (23, [(0, .inr (.inr (some 82))), (1, .inl dep)], [.inl 0, .inl 6, .inr (.inr (some 82))], (I11, L, X), 0, 0) (fun _ => rfl) ?_
      refine yi_G_callv rfl rfl (ym_rcv hS) rfl (c_emit d (by omega) hS rfl ⟨by omega, by omega⟩) ?_
      rintro _ ⟨I14, rfl, f15, eI14, emI14⟩
      show yi_G zi_Ms d zi_m89 (26, [(0, .inr (.inr (some 82))), (1, .inl dep)], [], (I14, L, X), 0, 0) _
      refine yi_G_run 1 (5, [(0, .inr (.inr (some 82))), (1, .inl dep)], [], (I14, L, X), 0, 0) (fun _ => rfl) ?_
      have r16 : I14 82 7 = I11 82 7 := by rw [f15 82 (7) (by omega)]
      have r17 : I14 82 8 = I11 82 8 := by rw [f15 82 (8) (by omega)]
      exact ih5 _ (by omega) I14 (fun p k hp => by rw [f15 p k (by omega), f12 p k (by omega), f3 p k (by omega), fJa p k (by omega)]) (by omega) (by omega) (by omega) (by omega) (ym_LW_t (ym_LW_t plw (ym_LW_g lwI11 (fun k => by rw [f3 89 k (by omega)]) (fun k => by rw [f3 90 k (by omega)])) (by omega)) (ym_LW_e (n := n) emI14 (by omega) (by omega)) (Int.le_refl _)) (fun zz => by rw [eI14]; exact ym_SG_bin (psg (by omega)) (ym_LW_g lwI11 (fun k => by rw [f3 89 k (by omega)]) (fun k => by rw [f3 90 k (by omega)])) (sgI11 (by omega)) emI14 (by omega) (by omega)) rfl
    · show yi_G zi_Ms d zi_m89 (11, [(0, .inr (.inr (some 82))), (1, .inl dep)], [.inl 0], (I2, L, X), 0, 0) _
      refine yi_G_if1 true rfl (by decide) ?_
      have r18 : I2 82 8 = Ja 82 8 := by rw [f3 82 (8) (by omega)]
      have r19 : I2 82 13 = Ja 82 13 := by rw [f3 82 (13) (by omega)]
      have r20 : I2 82 13 = Ja 82 13 := by rw [f3 82 (13) (by omega)]
      exact yi_G_retv rfl rfl (⟨_, rfl, (fun p k hp => by rw [f3 p k (by omega), fJa p k (by omega)]), ⟨by omega, by omega⟩, by omega, ⟨by omega, by omega⟩, by omega, (ym_LW_f plw (fun k => by rw [f3 89 k (by omega)]) (fun k => by rw [f3 90 k (by omega)])), (fun zz => by rw [r20]; exact ym_SG_t (psg (by omega)) (ym_LW_f (ym_LW_r _ _) (fun k => by rw [f3 89 k (by omega)]) (fun k => by rw [f3 90 k (by omega)])))⟩)
  refine yi_G_run 2 (2, [(0, .inr (.inr (some 82))), (1, .inl dep)], [.inl dep, .inr (.inr (some 82))], (I, L, X), 0, 0) (fun _ => rfl) ?_
  refine yi_G_callv rfl rfl (ym_rcv hS) rfl (hIt d (by omega) I L te (I 82 13) hT ⟨by omega, by omega⟩ (by omega) ⟨(by omega), (by omega)⟩ ⟨(by omega), (by omega)⟩ hDY rfl ⟨by omega, by omega⟩) ?_
  rintro _ ⟨I21, rfl, f22, h23a, h23b, h23c, h23d, lwI21, sgI21⟩
  show yi_G zi_Ms d zi_m89 (5, [(0, .inr (.inr (some 82))), (1, .inl dep)], [], (I21, L, X), 0, 0) _
  exact pt5 _ I21 (fun p k hp => by rw [f22 p k (by omega)]) (by omega) (by omega) (by omega) (by omega) lwI21 sgI21 rfl
theorem c_sums_of {X : ym_X} (hS : ym_S X) {m : Nat} {dep : Int} (m0 : 6 ≤ m) (hIt : ym_RC X 89 m dep) : ym_RC X 114 (m + 1) dep := by
  intro D hD I L te n hT a0 f0 n0 n1 hDY hn k0
  obtain ⟨d, rfl⟩ : ∃ d, D = d + 1 := ⟨D - 1, by omega⟩
  refine yi_E_of (M := zi_m114) rfl rfl ?_
  obtain ⟨te0, te1, te2⟩ := id hT
  show yi_G zi_Ms d zi_m114 (0, [(0, .inr (.inr (some 82))), (1, .inl dep)], [], (I, L, X), 0, 0) _
  have pt5 : ∀ (m : Nat) (Ja : Nat → Nat → Int), (∀ p k, ¬ (p = 82 ∧ k = 7) ∧ ¬ (p = 82 ∧ k = 8) ∧ ¬ (p = 82 ∧ k = 13) ∧ p ≠ 89 ∧ p ≠ 90 → Ja p k = I p k) → (I 82 7 ≤ Ja 82 7 ∧ Ja 82 7 ≤ te) → (0 ≤ Ja 82 8) → (n ≤ Ja 82 13 ∧ Ja 82 13 - n ≤ Ja 82 7 - I 82 7 + 1) → (Ja 82 8 = 0 → I 82 8 = 0 ∧ Ja 82 13 - n ≤ Ja 82 7 - I 82 7) → (ym_LW I Ja n) → (Ja 82 8 = 0 → ym_SG Ja n (Ja 82 13) 0 1) → (te - Ja 82 7).toNat = m → yi_G zi_Ms d zi_m114 (5, [(0, .inr (.inr (some 82))), (1, .inl dep)], [], (Ja, L, X), 0, 0) (ym_RQ I L X te n) := by
    intro m5
    induction m5 using Nat.strongRecOn with
    | _ m5 ih5 =>
    intro Ja fJa pa pf pk pz plw psg hm5
    refine yi_G_run 2 (8, [(0, .inr (.inr (some 82))), (1, .inl dep)], [.inl 43, .inr (.inr (some 82))], (Ja, L, X), 0, 0) (fun _ => rfl) ?_
    have r2 : Ja 84 ((Ja 82 7).toNat) = I 84 ((Ja 82 7).toNat) := by rw [fJa 84 ((Ja 82 7).toNat) (by omega)]
    refine yi_G_callv rfl rfl (ym_rcv hS) rfl (c_isSign d (by omega) hS rfl rfl r2 rfl ⟨by omega, by omega⟩) ?_
    rintro _ (⟨c1, rfl⟩ | ⟨c1, rfl⟩)
    · have lt3 : Ja 82 7 < te := ym_TK_lt hT (by omega) (by omega)
      show yi_G zi_Ms d zi_m114 (11, [(0, .inr (.inr (some 82))), (1, .inl dep)], [.inl 1], (Ja, L, X), 0, 0) _
      refine yi_G_if1 true rfl (by decide) ?_
      refine yi_G_run 2 (26, [(0, .inr (.inr (some 82))), (1, .inl dep)], [.inl 43, .inr (.inr (some 82))], (Ja, L, X), 0, 0) (fun _ => rfl) ?_
      have r5 : Ja 84 ((Ja 82 7).toNat) = I 84 ((Ja 82 7).toNat) := by rw [fJa 84 ((Ja 82 7).toNat) (by omega)]
      refine yi_G_callv rfl rfl (ym_rcv hS) rfl (c_isSign d (by omega) hS rfl rfl r5 rfl ⟨by omega, by omega⟩) ?_
      rintro _ (⟨c4, rfl⟩ | ⟨c4, rfl⟩)
      · have lt6 : Ja 82 7 < te := ym_TK_lt hT (by omega) (by omega)
        show yi_G zi_Ms d zi_m114 (29, [(0, .inr (.inr (some 82))), (1, .inl dep)], [.inl 1], (Ja, L, X), 0, 0) _
        refine yi_G_run 3 (32, [(2, .inl 1), (0, .inr (.inr (some 82))), (1, .inl dep)], [.inr (.inr (some 82)), .inr (.inr (some 82))], (Ja, L, X), 0, 0) (fun _ => rfl) ?_
        refine yi_G_get (35, [(2, .inl 1), (0, .inr (.inr (some 82))), (1, .inl dep)], [.inl (Ja 82 7), .inr (.inr (some 82))], (Ja, L, X), 0, 0) rfl (ym_gi hS rfl rfl rfl) ?_
        refine yi_G_run 1 (36, [(2, .inl 1), (0, .inr (.inr (some 82))), (1, .inl dep)], [.inl 1, .inl (Ja 82 7), .inr (.inr (some 82))], (Ja, L, X), 0, 0) (fun _ => rfl) ?_
        refine yi_G_iadd rfl ((Ja 82 7) + 1) (yi_wn (by omega) (by omega)) ?_
        refine yi_G_put (40, [(2, .inl 1), (0, .inr (.inr (some 82))), (1, .inl dep)], [], ((yi_u Ja 82 7 ((Ja 82 7) + 1)), L, X), 0, 0) rfl (ym_pi hS rfl rfl) ?_
        generalize w8 : yi_u Ja 82 7 ((Ja 82 7) + 1) = I7
        refine yi_G_run 2 (42, [(2, .inl 1), (0, .inr (.inr (some 82))), (1, .inl dep)], [.inl dep, .inr (.inr (some 82))], (I7, L, X), 0, 0) (fun _ => rfl) ?_
        have r9 : I7 82 13 = Ja 82 13 := by rw [← w8, yi_u_ne _ _ (by omega)]
        have r10 : I7 82 18 = I 82 18 := by rw [← w8, yi_u_ne _ _ (by omega), fJa 82 (18) (by omega)]
        have r11 : I7 82 19 = I 82 19 := by rw [← w8, yi_u_ne _ _ (by omega), fJa 82 (19) (by omega)]
        have r12 : I7 82 7 = (Ja 82 7) + 1 := by rw [← w8, yi_u_eq]
        have r13 : I7 82 8 = Ja 82 8 := by rw [← w8, yi_u_ne _ _ (by omega)]
        have r14 : I7 82 20 = I 82 20 := by rw [← w8, yi_u_ne _ _ (by omega), fJa 82 (20) (by omega)]
        refine yi_G_callv rfl rfl (ym_rcv hS) rfl (hIt d (by omega) I7 L te (Ja 82 13) (ym_TK_t (fun k => by rw [← w8, yi_u_ne _ _ (fun z => absurd z.1 (by decide)), fJa 84 k (by omega)]) (fun k => by rw [← w8, yi_u_ne _ _ (fun z => absurd z.1 (by decide)), fJa 85 k (by omega)]) hT) ⟨by omega, by omega⟩ (by omega) ⟨(by rw [r10]; omega), (by rw [r10]; omega)⟩ ⟨(by rw [r11]; omega), (by rw [r11]; omega)⟩ (ym_DY_t r14 (fun k => by rw [← w8, yi_u_ne _ _ (fun z => absurd z.1 (by decide)), fJa 88 k (by omega)]) hDY) r9 ⟨by omega, by omega⟩) ?_
        rintro _ ⟨I15, rfl, f16, h17a, h17b, h17c, h17d, lwI15, sgI15⟩
        show yi_G zi_Ms d zi_m114 (45, [(2, .inl 1), (0, .inr (.inr (some 82))), (1, .inl dep)], [], (I15, L, X), 0, 0) _
        refine yi_G_run 2 (47, [(2, .inl 1), (0, .inr (.inr (some 82))), (1, .inl dep)], [.inl 1, .inr (.inr (some 82))], (I15, L, X), 0, 0) (fun _ => rfl) ?_
        refine yi_G_if1 false rfl (by decide) ?_
        refine yi_G_run 3 (56, [(2, .inl 1), (0, .inr (.inr (some 82))), (1, .inl dep)], [.inl 0, .inl 4, .inr (.inr (some 82))], (I15, L, X), 0, 0) (fun _ => rfl) ?_
        refine yi_G_callv rfl rfl (ym_rcv hS) rfl (c_emit d (by omega) hS rfl ⟨by omega, by omega⟩) ?_
        rintro _ ⟨I18, rfl, f19, eI18, emI18⟩
        show yi_G zi_Ms d zi_m114 (59, [(2, .inl 1), (0, .inr (.inr (some 82))), (1, .inl dep)], [], (I18, L, X), 0, 0) _
        refine yi_G_run 1 (5, [(2, .inl 1), (0, .inr (.inr (some 82))), (1, .inl dep)], [], (I18, L, X), 0, 0) (fun _ => rfl) ?_
        refine yi_G_al (al := [(0, .inr (.inr (some 82))), (1, .inl dep)]) (show ([0, 1] : List Nat).Nodup by decide) (show ([2, 0, 1] : List Nat).Nodup by decide) (yi_mc (List.mem_of_getElem? (i := 1) rfl) (yi_mc (List.mem_of_getElem? (i := 2) rfl) yi_mn)) ?_
        have r20 : I18 82 7 = I15 82 7 := by rw [f19 82 (7) (by omega)]
        have r21 : I18 82 8 = I15 82 8 := by rw [f19 82 (8) (by omega)]
        exact ih5 _ (by omega) I18 (fun p k hp => by rw [f19 p k (by omega), f16 p k (by omega), ← w8, yi_u_ne _ _ (fun z => by omega), fJa p k (by omega)]) (by omega) (by omega) (by omega) (by omega) (ym_LW_t (ym_LW_t plw (ym_LW_g lwI15 (fun k => by rw [← w8, yi_u_ne _ _ (fun z => absurd z.1 (by decide))]) (fun k => by rw [← w8, yi_u_ne _ _ (fun z => absurd z.1 (by decide))])) (by omega)) (ym_LW_e (n := n) emI18 (by omega) (by omega)) (Int.le_refl _)) (fun zz => by rw [eI18]; exact ym_SG_bin (psg (by omega)) (ym_LW_g lwI15 (fun k => by rw [← w8, yi_u_ne _ _ (fun z => absurd z.1 (by decide))]) (fun k => by rw [← w8, yi_u_ne _ _ (fun z => absurd z.1 (by decide))])) (sgI15 (by omega)) emI18 (by omega) (by omega)) rfl
      · show yi_G zi_Ms d zi_m114 (29, [(0, .inr (.inr (some 82))), (1, .inl dep)], [.inl 0], (Ja, L, X), 0, 0) _
        refine yi_G_run 3 (32, [(2, .inl 0), (0, .inr (.inr (some 82))), (1, .inl dep)], [.inr (.inr (some 82)), .inr (.inr (some 82))], (Ja, L, X), 0, 0) (fun _ => rfl) ?_
        refine yi_G_get (35, [(2, .inl 0), (0, .inr (.inr (some 82))), (1, .inl dep)], [.inl (Ja 82 7), .inr (.inr (some 82))], (Ja, L, X), 0, 0) rfl (ym_gi hS rfl rfl rfl) ?_
        refine yi_G_run 1 (36, [(2, .inl 0), (0, .inr (.inr (some 82))), (1, .inl dep)], [.inl 1, .inl (Ja 82 7), .inr (.inr (some 82))], (Ja, L, X), 0, 0) (fun _ => rfl) ?_
        refine yi_G_iadd rfl ((Ja 82 7) + 1) (yi_wn (by omega) (by omega)) ?_
        refine yi_G_put (40, [(2, .inl 0), (0, .inr (.inr (some 82))), (1, .inl dep)], [], ((yi_u Ja 82 7 ((Ja 82 7) + 1)), L, X), 0, 0) rfl (ym_pi hS rfl rfl) ?_
        generalize w23 : yi_u Ja 82 7 ((Ja 82 7) + 1) = I22
        refine yi_G_run 2 (42, [(2, .inl 0), (0, .inr (.inr (some 82))), (1, .inl dep)], [.inl dep, .inr (.inr (some 82))], (I22, L, X), 0, 0) (fun _ => rfl) ?_
        have r24 : I22 82 13 = Ja 82 13 := by rw [← w23, yi_u_ne _ _ (by omega)]
        have r25 : I22 82 18 = I 82 18 := by rw [← w23, yi_u_ne _ _ (by omega), fJa 82 (18) (by omega)]
        have r26 : I22 82 19 = I 82 19 := by rw [← w23, yi_u_ne _ _ (by omega), fJa 82 (19) (by omega)]
        have r27 : I22 82 7 = (Ja 82 7) + 1 := by rw [← w23, yi_u_eq]
        have r28 : I22 82 8 = Ja 82 8 := by rw [← w23, yi_u_ne _ _ (by omega)]
        have r29 : I22 82 20 = I 82 20 := by rw [← w23, yi_u_ne _ _ (by omega), fJa 82 (20) (by omega)]
        refine yi_G_callv rfl rfl (ym_rcv hS) rfl (hIt d (by omega) I22 L te (Ja 82 13) (ym_TK_t (fun k => by rw [← w23, yi_u_ne _ _ (fun z => absurd z.1 (by decide)), fJa 84 k (by omega)]) (fun k => by rw [← w23, yi_u_ne _ _ (fun z => absurd z.1 (by decide)), fJa 85 k (by omega)]) hT) ⟨by omega, by omega⟩ (by omega) ⟨(by rw [r25]; omega), (by rw [r25]; omega)⟩ ⟨(by rw [r26]; omega), (by rw [r26]; omega)⟩ (ym_DY_t r29 (fun k => by rw [← w23, yi_u_ne _ _ (fun z => absurd z.1 (by decide)), fJa 88 k (by omega)]) hDY) r24 ⟨by omega, by omega⟩) ?_
        rintro _ ⟨I30, rfl, f31, h32a, h32b, h32c, h32d, lwI30, sgI30⟩
        show yi_G zi_Ms d zi_m114 (45, [(2, .inl 0), (0, .inr (.inr (some 82))), (1, .inl dep)], [], (I30, L, X), 0, 0) _
        refine yi_G_run 2 (47, [(2, .inl 0), (0, .inr (.inr (some 82))), (1, .inl dep)], [.inl 0, .inr (.inr (some 82))], (I30, L, X), 0, 0) (fun _ => rfl) ?_
        refine yi_G_if1 true rfl (by decide) ?_
        refine yi_G_run 2 (56, [(2, .inl 0), (0, .inr (.inr (some 82))), (1, .inl dep)], [.inl 0, .inl 5, .inr (.inr (some 82))], (I30, L, X), 0, 0) (fun _ => rfl) ?_
        refine yi_G_callv rfl rfl (ym_rcv hS) rfl (c_emit d (by omega) hS rfl ⟨by omega, by omega⟩) ?_
        rintro _ ⟨I33, rfl, f34, eI33, emI33⟩
        show yi_G zi_Ms d zi_m114 (59, [(2, .inl 0), (0, .inr (.inr (some 82))), (1, .inl dep)], [], (I33, L, X), 0, 0) _
        refine yi_G_run 1 (5, [(2, .inl 0), (0, .inr (.inr (some 82))), (1, .inl dep)], [], (I33, L, X), 0, 0) (fun _ => rfl) ?_
        refine yi_G_al (al := [(0, .inr (.inr (some 82))), (1, .inl dep)]) (show ([0, 1] : List Nat).Nodup by decide) (show ([2, 0, 1] : List Nat).Nodup by decide) (yi_mc (List.mem_of_getElem? (i := 1) rfl) (yi_mc (List.mem_of_getElem? (i := 2) rfl) yi_mn)) ?_
        have r35 : I33 82 7 = I30 82 7 := by rw [f34 82 (7) (by omega)]
        have r36 : I33 82 8 = I30 82 8 := by rw [f34 82 (8) (by omega)]
        exact ih5 _ (by omega) I33 (fun p k hp => by rw [f34 p k (by omega), f31 p k (by omega), ← w23, yi_u_ne _ _ (fun z => by omega), fJa p k (by omega)]) (by omega) (by omega) (by omega) (by omega) (ym_LW_t (ym_LW_t plw (ym_LW_g lwI30 (fun k => by rw [← w23, yi_u_ne _ _ (fun z => absurd z.1 (by decide))]) (fun k => by rw [← w23, yi_u_ne _ _ (fun z => absurd z.1 (by decide))])) (by omega)) (ym_LW_e (n := n) emI33 (by omega) (by omega)) (Int.le_refl _)) (fun zz => by rw [eI33]; exact ym_SG_bin (psg (by omega)) (ym_LW_g lwI30 (fun k => by rw [← w23, yi_u_ne _ _ (fun z => absurd z.1 (by decide))]) (fun k => by rw [← w23, yi_u_ne _ _ (fun z => absurd z.1 (by decide))])) (sgI30 (by omega)) emI33 (by omega) (by omega)) rfl
    · show yi_G zi_Ms d zi_m114 (11, [(0, .inr (.inr (some 82))), (1, .inl dep)], [.inl 0], (Ja, L, X), 0, 0) _
      refine yi_G_if1 false rfl (by decide) ?_
      refine yi_G_run 2 (17, [(0, .inr (.inr (some 82))), (1, .inl dep)], [.inl 45, .inr (.inr (some 82))], (Ja, L, X), 0, 0) (fun _ => rfl) ?_
      have r38 : Ja 84 ((Ja 82 7).toNat) = I 84 ((Ja 82 7).toNat) := by rw [fJa 84 ((Ja 82 7).toNat) (by omega)]
      refine yi_G_callv rfl rfl (ym_rcv hS) rfl (c_isSign d (by omega) hS rfl rfl r38 rfl ⟨by omega, by omega⟩) ?_
      rintro _ (⟨c37, rfl⟩ | ⟨c37, rfl⟩)
      · have lt39 : Ja 82 7 < te := ym_TK_lt hT (by omega) (by omega)
        show yi_G zi_Ms d zi_m114 (20, [(0, .inr (.inr (some 82))), (1, .inl dep)], [.inl 1], (Ja, L, X), 0, 0) _
        refine yi_G_if1 false rfl (by decide) ?_
        refine yi_G_run 2 (26, [(0, .inr (.inr (some 82))), (1, .inl dep)], [.inl 43, .inr (.inr (some 82))], (Ja, L, X), 0, 0) (fun _ => rfl) ?_
        have r41 : Ja 84 ((Ja 82 7).toNat) = I 84 ((Ja 82 7).toNat) := by rw [fJa 84 ((Ja 82 7).toNat) (by omega)]
        refine yi_G_callv rfl rfl (ym_rcv hS) rfl (c_isSign d (by omega) hS rfl rfl r41 rfl ⟨by omega, by omega⟩) ?_
        rintro _ (⟨c40, rfl⟩ | ⟨c40, rfl⟩)
        · have lt42 : Ja 82 7 < te := ym_TK_lt hT (by omega) (by omega)
          show yi_G zi_Ms d zi_m114 (29, [(0, .inr (.inr (some 82))), (1, .inl dep)], [.inl 1], (Ja, L, X), 0, 0) _
          refine yi_G_run 3 (32, [(2, .inl 1), (0, .inr (.inr (some 82))), (1, .inl dep)], [.inr (.inr (some 82)), .inr (.inr (some 82))], (Ja, L, X), 0, 0) (fun _ => rfl) ?_
          refine yi_G_get (35, [(2, .inl 1), (0, .inr (.inr (some 82))), (1, .inl dep)], [.inl (Ja 82 7), .inr (.inr (some 82))], (Ja, L, X), 0, 0) rfl (ym_gi hS rfl rfl rfl) ?_
          refine yi_G_run 1 (36, [(2, .inl 1), (0, .inr (.inr (some 82))), (1, .inl dep)], [.inl 1, .inl (Ja 82 7), .inr (.inr (some 82))], (Ja, L, X), 0, 0) (fun _ => rfl) ?_
          refine yi_G_iadd rfl ((Ja 82 7) + 1) (yi_wn (by omega) (by omega)) ?_
          refine yi_G_put (40, [(2, .inl 1), (0, .inr (.inr (some 82))), (1, .inl dep)], [], ((yi_u Ja 82 7 ((Ja 82 7) + 1)), L, X), 0, 0) rfl (ym_pi hS rfl rfl) ?_
          generalize w44 : yi_u Ja 82 7 ((Ja 82 7) + 1) = I43
          refine yi_G_run 2 (42, [(2, .inl 1), (0, .inr (.inr (some 82))), (1, .inl dep)], [.inl dep, .inr (.inr (some 82))], (I43, L, X), 0, 0) (fun _ => rfl) ?_
          have r45 : I43 82 13 = Ja 82 13 := by rw [← w44, yi_u_ne _ _ (by omega)]
          have r46 : I43 82 18 = I 82 18 := by rw [← w44, yi_u_ne _ _ (by omega), fJa 82 (18) (by omega)]
          have r47 : I43 82 19 = I 82 19 := by rw [← w44, yi_u_ne _ _ (by omega), fJa 82 (19) (by omega)]
          have r48 : I43 82 7 = (Ja 82 7) + 1 := by rw [← w44, yi_u_eq]
          have r49 : I43 82 8 = Ja 82 8 := by rw [← w44, yi_u_ne _ _ (by omega)]
          have r50 : I43 82 20 = I 82 20 := by rw [← w44, yi_u_ne _ _ (by omega), fJa 82 (20) (by omega)]
          refine yi_G_callv rfl rfl (ym_rcv hS) rfl (hIt d (by omega) I43 L te (Ja 82 13) (ym_TK_t (fun k => by rw [← w44, yi_u_ne _ _ (fun z => absurd z.1 (by decide)), fJa 84 k (by omega)]) (fun k => by rw [← w44, yi_u_ne _ _ (fun z => absurd z.1 (by decide)), fJa 85 k (by omega)]) hT) ⟨by omega, by omega⟩ (by omega) ⟨(by rw [r46]; omega), (by rw [r46]; omega)⟩ ⟨(by rw [r47]; omega), (by rw [r47]; omega)⟩ (ym_DY_t r50 (fun k => by rw [← w44, yi_u_ne _ _ (fun z => absurd z.1 (by decide)), fJa 88 k (by omega)]) hDY) r45 ⟨by omega, by omega⟩) ?_
          rintro _ ⟨I51, rfl, f52, h53a, h53b, h53c, h53d, lwI51, sgI51⟩
          show yi_G zi_Ms d zi_m114 (45, [(2, .inl 1), (0, .inr (.inr (some 82))), (1, .inl dep)], [], (I51, L, X), 0, 0) _
          refine yi_G_run 2 (47, [(2, .inl 1), (0, .inr (.inr (some 82))), (1, .inl dep)], [.inl 1, .inr (.inr (some 82))], (I51, L, X), 0, 0) (fun _ => rfl) ?_
          refine yi_G_if1 false rfl (by decide) ?_
          refine yi_G_run 3 (56, [(2, .inl 1), (0, .inr (.inr (some 82))), (1, .inl dep)], [.inl 0, .inl 4, .inr (.inr (some 82))], (I51, L, X), 0, 0) (fun _ => rfl) ?_
          refine yi_G_callv rfl rfl (ym_rcv hS) rfl (c_emit d (by omega) hS rfl ⟨by omega, by omega⟩) ?_
          rintro _ ⟨I54, rfl, f55, eI54, emI54⟩
          show yi_G zi_Ms d zi_m114 (59, [(2, .inl 1), (0, .inr (.inr (some 82))), (1, .inl dep)], [], (I54, L, X), 0, 0) _
          refine yi_G_run 1 (5, [(2, .inl 1), (0, .inr (.inr (some 82))), (1, .inl dep)], [], (I54, L, X), 0, 0) (fun _ => rfl) ?_
          refine yi_G_al (al := [(0, .inr (.inr (some 82))), (1, .inl dep)]) (show ([0, 1] : List Nat).Nodup by decide) (show ([2, 0, 1] : List Nat).Nodup by decide) (yi_mc (List.mem_of_getElem? (i := 1) rfl) (yi_mc (List.mem_of_getElem? (i := 2) rfl) yi_mn)) ?_
          have r56 : I54 82 7 = I51 82 7 := by rw [f55 82 (7) (by omega)]
          have r57 : I54 82 8 = I51 82 8 := by rw [f55 82 (8) (by omega)]
          exact ih5 _ (by omega) I54 (fun p k hp => by rw [f55 p k (by omega), f52 p k (by omega), ← w44, yi_u_ne _ _ (fun z => by omega), fJa p k (by omega)]) (by omega) (by omega) (by omega) (by omega) (ym_LW_t (ym_LW_t plw (ym_LW_g lwI51 (fun k => by rw [← w44, yi_u_ne _ _ (fun z => absurd z.1 (by decide))]) (fun k => by rw [← w44, yi_u_ne _ _ (fun z => absurd z.1 (by decide))])) (by omega)) (ym_LW_e (n := n) emI54 (by omega) (by omega)) (Int.le_refl _)) (fun zz => by rw [eI54]; exact ym_SG_bin (psg (by omega)) (ym_LW_g lwI51 (fun k => by rw [← w44, yi_u_ne _ _ (fun z => absurd z.1 (by decide))]) (fun k => by rw [← w44, yi_u_ne _ _ (fun z => absurd z.1 (by decide))])) (sgI51 (by omega)) emI54 (by omega) (by omega)) rfl
        · show yi_G zi_Ms d zi_m114 (29, [(0, .inr (.inr (some 82))), (1, .inl dep)], [.inl 0], (Ja, L, X), 0, 0) _
          refine yi_G_run 3 (32, [(2, .inl 0), (0, .inr (.inr (some 82))), (1, .inl dep)], [.inr (.inr (some 82)), .inr (.inr (some 82))], (Ja, L, X), 0, 0) (fun _ => rfl) ?_
          refine yi_G_get (35, [(2, .inl 0), (0, .inr (.inr (some 82))), (1, .inl dep)], [.inl (Ja 82 7), .inr (.inr (some 82))], (Ja, L, X), 0, 0) rfl (ym_gi hS rfl rfl rfl) ?_
          refine yi_G_run 1 (36, [(2, .inl 0), (0, .inr (.inr (some 82))), (1, .inl dep)], [.inl 1, .inl (Ja 82 7), .inr (.inr (some 82))], (Ja, L, X), 0, 0) (fun _ => rfl) ?_
          refine yi_G_iadd rfl ((Ja 82 7) + 1) (yi_wn (by omega) (by omega)) ?_
          refine yi_G_put (40, [(2, .inl 0), (0, .inr (.inr (some 82))), (1, .inl dep)], [], ((yi_u Ja 82 7 ((Ja 82 7) + 1)), L, X), 0, 0) rfl (ym_pi hS rfl rfl) ?_
          generalize w59 : yi_u Ja 82 7 ((Ja 82 7) + 1) = I58
          refine yi_G_run 2 (42, [(2, .inl 0), (0, .inr (.inr (some 82))), (1, .inl dep)], [.inl dep, .inr (.inr (some 82))], (I58, L, X), 0, 0) (fun _ => rfl) ?_
          have r60 : I58 82 13 = Ja 82 13 := by rw [← w59, yi_u_ne _ _ (by omega)]
          have r61 : I58 82 18 = I 82 18 := by rw [← w59, yi_u_ne _ _ (by omega), fJa 82 (18) (by omega)]
          have r62 : I58 82 19 = I 82 19 := by rw [← w59, yi_u_ne _ _ (by omega), fJa 82 (19) (by omega)]
          have r63 : I58 82 7 = (Ja 82 7) + 1 := by rw [← w59, yi_u_eq]
          have r64 : I58 82 8 = Ja 82 8 := by rw [← w59, yi_u_ne _ _ (by omega)]
          have r65 : I58 82 20 = I 82 20 := by rw [← w59, yi_u_ne _ _ (by omega), fJa 82 (20) (by omega)]
          refine yi_G_callv rfl rfl (ym_rcv hS) rfl (hIt d (by omega) I58 L te (Ja 82 13) (ym_TK_t (fun k => by rw [← w59, yi_u_ne _ _ (fun z => absurd z.1 (by decide)), fJa 84 k (by omega)]) (fun k => by rw [← w59, yi_u_ne _ _ (fun z => absurd z.1 (by decide)), fJa 85 k (by omega)]) hT) ⟨by omega, by omega⟩ (by omega) ⟨(by rw [r61]; omega), (by rw [r61]; omega)⟩ ⟨(by rw [r62]; omega), (by rw [r62]; omega)⟩ (ym_DY_t r65 (fun k => by rw [← w59, yi_u_ne _ _ (fun z => absurd z.1 (by decide)), fJa 88 k (by omega)]) hDY) r60 ⟨by omega, by omega⟩) ?_
          rintro _ ⟨I66, rfl, f67, h68a, h68b, h68c, h68d, lwI66, sgI66⟩
          show yi_G zi_Ms d zi_m114 (45, [(2, .inl 0), (0, .inr (.inr (some 82))), (1, .inl dep)], [], (I66, L, X), 0, 0) _
          refine yi_G_run 2 (47, [(2, .inl 0), (0, .inr (.inr (some 82))), (1, .inl dep)], [.inl 0, .inr (.inr (some 82))], (I66, L, X), 0, 0) (fun _ => rfl) ?_
          refine yi_G_if1 true rfl (by decide) ?_
          refine yi_G_run 2 (56, [(2, .inl 0), (0, .inr (.inr (some 82))), (1, .inl dep)], [.inl 0, .inl 5, .inr (.inr (some 82))], (I66, L, X), 0, 0) (fun _ => rfl) ?_
          refine yi_G_callv rfl rfl (ym_rcv hS) rfl (c_emit d (by omega) hS rfl ⟨by omega, by omega⟩) ?_
          rintro _ ⟨I69, rfl, f70, eI69, emI69⟩
          show yi_G zi_Ms d zi_m114 (59, [(2, .inl 0), (0, .inr (.inr (some 82))), (1, .inl dep)], [], (I69, L, X), 0, 0) _
          refine yi_G_run 1 (5, [(2, .inl 0), (0, .inr (.inr (some 82))), (1, .inl dep)], [], (I69, L, X), 0, 0) (fun _ => rfl) ?_
          refine yi_G_al (al := [(0, .inr (.inr (some 82))), (1, .inl dep)]) (show ([0, 1] : List Nat).Nodup by decide) (show ([2, 0, 1] : List Nat).Nodup by decide) (yi_mc (List.mem_of_getElem? (i := 1) rfl) (yi_mc (List.mem_of_getElem? (i := 2) rfl) yi_mn)) ?_
          have r71 : I69 82 7 = I66 82 7 := by rw [f70 82 (7) (by omega)]
          have r72 : I69 82 8 = I66 82 8 := by rw [f70 82 (8) (by omega)]
          exact ih5 _ (by omega) I69 (fun p k hp => by rw [f70 p k (by omega), f67 p k (by omega), ← w59, yi_u_ne _ _ (fun z => by omega), fJa p k (by omega)]) (by omega) (by omega) (by omega) (by omega) (ym_LW_t (ym_LW_t plw (ym_LW_g lwI66 (fun k => by rw [← w59, yi_u_ne _ _ (fun z => absurd z.1 (by decide))]) (fun k => by rw [← w59, yi_u_ne _ _ (fun z => absurd z.1 (by decide))])) (by omega)) (ym_LW_e (n := n) emI69 (by omega) (by omega)) (Int.le_refl _)) (fun zz => by rw [eI69]; exact ym_SG_bin (psg (by omega)) (ym_LW_g lwI66 (fun k => by rw [← w59, yi_u_ne _ _ (fun z => absurd z.1 (by decide))]) (fun k => by rw [← w59, yi_u_ne _ _ (fun z => absurd z.1 (by decide))])) (sgI66 (by omega)) emI69 (by omega) (by omega)) rfl
      · show yi_G zi_Ms d zi_m114 (20, [(0, .inr (.inr (some 82))), (1, .inl dep)], [.inl 0], (Ja, L, X), 0, 0) _
        refine yi_G_if1 true rfl (by decide) ?_
        exact yi_G_retv rfl rfl (⟨_, rfl, (fun p k hp => by rw [fJa p k (by omega)]), ⟨by omega, by omega⟩, by omega, ⟨by omega, by omega⟩, by omega, plw, psg⟩)
  refine yi_G_run 2 (2, [(0, .inr (.inr (some 82))), (1, .inl dep)], [.inl dep, .inr (.inr (some 82))], (I, L, X), 0, 0) (fun _ => rfl) ?_
  refine yi_G_callv rfl rfl (ym_rcv hS) rfl (hIt d (by omega) I L te (I 82 13) hT ⟨by omega, by omega⟩ (by omega) ⟨(by omega), (by omega)⟩ ⟨(by omega), (by omega)⟩ hDY rfl ⟨by omega, by omega⟩) ?_
  rintro _ ⟨I73, rfl, f74, h75a, h75b, h75c, h75d, lwI73, sgI73⟩
  show yi_G zi_Ms d zi_m114 (5, [(0, .inr (.inr (some 82))), (1, .inl dep)], [], (I73, L, X), 0, 0) _
  exact pt5 _ I73 (fun p k hp => by rw [f74 p k (by omega)]) (by omega) (by omega) (by omega) (by omega) lwI73 sgI73 rfl
theorem c_test_of {X : ym_X} (hS : ym_S X) {m : Nat} {dep : Int} (m0 : 6 ≤ m) (hIt : ym_RC X 114 m dep) : ym_RC X 123 (m + 1) dep := by
  intro D hD I L te n hT a0 f0 n0 n1 hDY hn k0
  obtain ⟨d, rfl⟩ : ∃ d, D = d + 1 := ⟨D - 1, by omega⟩
  refine yi_E_of (M := zi_m123) rfl rfl ?_
  obtain ⟨te0, te1, te2⟩ := id hT
  show yi_G zi_Ms d zi_m123 (0, [(0, .inr (.inr (some 82))), (1, .inl dep)], [], (I, L, X), 0, 0) _
  refine yi_G_run 2 (2, [(0, .inr (.inr (some 82))), (1, .inl dep)], [.inl dep, .inr (.inr (some 82))], (I, L, X), 0, 0) (fun _ => rfl) ?_
  refine yi_G_callv rfl rfl (ym_rcv hS) rfl (hIt d (by omega) I L te (I 82 13) hT ⟨by omega, by omega⟩ (by omega) ⟨(by omega), (by omega)⟩ ⟨(by omega), (by omega)⟩ hDY rfl ⟨by omega, by omega⟩) ?_
  rintro _ ⟨I1, rfl, f2, h3a, h3b, h3c, h3d, lwI1, sgI1⟩
  show yi_G zi_Ms d zi_m123 (5, [(0, .inr (.inr (some 82))), (1, .inl dep)], [], (I1, L, X), 0, 0) _
  refine yi_G_run 2 (8, [(0, .inr (.inr (some 82))), (1, .inl dep)], [.inl 60, .inr (.inr (some 82))], (I1, L, X), 0, 0) (fun _ => rfl) ?_
  skip
  have r5 : I1 84 ((I1 82 7).toNat) = I 84 ((I1 82 7).toNat) := by rw [f2 84 ((I1 82 7).toNat) (by omega)]
  refine yi_G_callv rfl rfl (ym_rcv hS) rfl (c_isSign d (by omega) hS rfl rfl r5 rfl ⟨by omega, by omega⟩) ?_
  rintro _ (⟨c4, rfl⟩ | ⟨c4, rfl⟩)
  · have lt6 : I1 82 7 < te := ym_TK_lt hT (by omega) (by omega)
    show yi_G zi_Ms d zi_m123 (11, [(0, .inr (.inr (some 82))), (1, .inl dep)], [.inl 1], (I1, L, X), 0, 0) _
    refine yi_G_run 3 (15, [(2, .inl 1), (0, .inr (.inr (some 82))), (1, .inl dep)], [.inl 60, .inr (.inr (some 82))], (I1, L, X), 0, 0) (fun _ => rfl) ?_
    have r7 : I1 84 ((I1 82 7).toNat) = I 84 ((I1 82 7).toNat) := by rw [f2 84 ((I1 82 7).toNat) (by omega)]
    refine yi_G_callv rfl rfl (ym_rcv hS) rfl (c_hasSign d (by omega) hS rfl rfl r7 rfl ⟨by omega, by omega⟩) ?_
    rintro _ (⟨c10, I8, rfl, f9, c10b⟩ | ⟨c10, I8, rfl, f9, c10b⟩)
    · have lt11 : I1 82 7 < te := ym_TK_lt hT (by omega) (by omega)
      show yi_G zi_Ms d zi_m123 (18, [(2, .inl 1), (0, .inr (.inr (some 82))), (1, .inl dep)], [.inl 1], (I8, L, X), 0, 0) _
      refine yi_G_if1 true rfl (by decide) ?_
      refine yi_G_run 2 (32, [(2, .inl 1), (0, .inr (.inr (some 82))), (1, .inl dep)], [.inl dep, .inr (.inr (some 82))], (I8, L, X), 0, 0) (fun _ => rfl) ?_
      have r12 : I8 82 13 = I1 82 13 := by rw [f9 82 (13) (by omega)]
      have r13 : I8 82 18 = I 82 18 := by rw [f9 82 (18) (by omega), f2 82 (18) (by omega)]
      have r14 : I8 82 19 = I 82 19 := by rw [f9 82 (19) (by omega), f2 82 (19) (by omega)]
      have r15 : I8 82 8 = I1 82 8 := by rw [f9 82 (8) (by omega)]
      have r16 : I8 82 20 = I 82 20 := by rw [f9 82 (20) (by omega), f2 82 (20) (by omega)]
      refine yi_G_callv rfl rfl (ym_rcv hS) rfl (hIt d (by omega) I8 L te (I1 82 13) (ym_TK_t (fun k => by rw [f9 84 k (by omega), f2 84 k (by omega)]) (fun k => by rw [f9 85 k (by omega), f2 85 k (by omega)]) hT) ⟨by omega, by omega⟩ (by omega) ⟨(by rw [r13]; omega), (by rw [r13]; omega)⟩ ⟨(by rw [r14]; omega), (by rw [r14]; omega)⟩ (ym_DY_t r16 (fun k => by rw [f9 88 k (by omega), f2 88 k (by omega)]) hDY) r12 ⟨by omega, by omega⟩) ?_
      rintro _ ⟨I17, rfl, f18, h19a, h19b, h19c, h19d, lwI17, sgI17⟩
      show yi_G zi_Ms d zi_m123 (35, [(2, .inl 1), (0, .inr (.inr (some 82))), (1, .inl dep)], [], (I17, L, X), 0, 0) _
      refine yi_G_run 2 (37, [(2, .inl 1), (0, .inr (.inr (some 82))), (1, .inl dep)], [.inl 1, .inr (.inr (some 82))], (I17, L, X), 0, 0) (fun _ => rfl) ?_
      refine yi_G_if1 false rfl (by decide) ?_
      refine yi_G_run 3 (48, [(2, .inl 1), (0, .inr (.inr (some 82))), (1, .inl dep)], [.inl 0, .inl 7, .inr (.inr (some 82))], (I17, L, X), 0, 0) (fun _ => rfl) ?_
      refine yi_G_callv rfl rfl (ym_rcv hS) rfl (c_emit d (by omega) hS rfl ⟨by omega, by omega⟩) ?_
      rintro _ ⟨I20, rfl, f21, eI20, emI20⟩
      show yi_G zi_Ms d zi_m123 (51, [(2, .inl 1), (0, .inr (.inr (some 82))), (1, .inl dep)], [], (I20, L, X), 0, 0) _
      have r22 : I20 82 7 = I17 82 7 := by rw [f21 82 (7) (by omega)]
      have r23 : I20 82 8 = I17 82 8 := by rw [f21 82 (8) (by omega)]
      exact yi_G_retv rfl rfl (⟨_, rfl, (fun p k hp => by rw [f21 p k (by omega), f18 p k (by omega), f9 p k (by omega), f2 p k (by omega)]), ⟨by omega, by omega⟩, by omega, ⟨by omega, by omega⟩, by omega, (ym_LW_t (ym_LW_t lwI1 (ym_LW_g lwI17 (fun k => by rw [f9 89 k (by omega)]) (fun k => by rw [f9 90 k (by omega)])) (by omega)) (ym_LW_e (n := n) emI20 (by omega) (by omega)) (Int.le_refl _)), (fun zz => by rw [eI20]; exact ym_SG_bin (sgI1 (by omega)) (ym_LW_g lwI17 (fun k => by rw [f9 89 k (by omega)]) (fun k => by rw [f9 90 k (by omega)])) (sgI17 (by omega)) emI20 (by omega) (by omega))⟩)
    · show yi_G zi_Ms d zi_m123 (18, [(2, .inl 1), (0, .inr (.inr (some 82))), (1, .inl dep)], [.inl 0], (I8, L, X), 0, 0) _
      refine yi_G_if1 false rfl (by decide) ?_
      refine yi_G_run 2 (24, [(2, .inl 1), (0, .inr (.inr (some 82))), (1, .inl dep)], [.inl 61, .inr (.inr (some 82))], (I8, L, X), 0, 0) (fun _ => rfl) ?_
      have r24 : I8 82 8 = I1 82 8 := by rw [f9 82 (8) (by omega)]
      have r25 : I8 84 ((I8 82 7).toNat) = I 84 ((I8 82 7).toNat) := by rw [f9 84 ((I8 82 7).toNat) (by omega), f2 84 ((I8 82 7).toNat) (by omega)]
      refine yi_G_callv rfl rfl (ym_rcv hS) rfl (c_hasSign d (by omega) hS rfl r24 r25 rfl ⟨by omega, by omega⟩) ?_
      rintro _ (⟨c28, I26, rfl, f27, c28b⟩ | ⟨c28, I26, rfl, f27, c28b⟩)
      · have lt29 : I8 82 7 < te := ym_TK_lt hT (by omega) (by omega)
        show yi_G zi_Ms d zi_m123 (27, [(2, .inl 1), (0, .inr (.inr (some 82))), (1, .inl dep)], [.inl 1], (I26, L, X), 0, 0) _
        refine yi_G_if1 false rfl (by decide) ?_
        refine yi_G_run 2 (32, [(2, .inl 1), (0, .inr (.inr (some 82))), (1, .inl dep)], [.inl dep, .inr (.inr (some 82))], (I26, L, X), 0, 0) (fun _ => rfl) ?_
        have r30 : I26 82 13 = I1 82 13 := by rw [f27 82 (13) (by omega), f9 82 (13) (by omega)]
        have r31 : I26 82 18 = I 82 18 := by rw [f27 82 (18) (by omega), f9 82 (18) (by omega), f2 82 (18) (by omega)]
        have r32 : I26 82 19 = I 82 19 := by rw [f27 82 (19) (by omega), f9 82 (19) (by omega), f2 82 (19) (by omega)]
        have r33 : I26 82 8 = I1 82 8 := by rw [f27 82 (8) (by omega), f9 82 (8) (by omega)]
        have r34 : I26 82 20 = I 82 20 := by rw [f27 82 (20) (by omega), f9 82 (20) (by omega), f2 82 (20) (by omega)]
        refine yi_G_callv rfl rfl (ym_rcv hS) rfl (hIt d (by omega) I26 L te (I1 82 13) (ym_TK_t (fun k => by rw [f27 84 k (by omega), f9 84 k (by omega), f2 84 k (by omega)]) (fun k => by rw [f27 85 k (by omega), f9 85 k (by omega), f2 85 k (by omega)]) hT) ⟨by omega, by omega⟩ (by omega) ⟨(by rw [r31]; omega), (by rw [r31]; omega)⟩ ⟨(by rw [r32]; omega), (by rw [r32]; omega)⟩ (ym_DY_t r34 (fun k => by rw [f27 88 k (by omega), f9 88 k (by omega), f2 88 k (by omega)]) hDY) r30 ⟨by omega, by omega⟩) ?_
        rintro _ ⟨I35, rfl, f36, h37a, h37b, h37c, h37d, lwI35, sgI35⟩
        show yi_G zi_Ms d zi_m123 (35, [(2, .inl 1), (0, .inr (.inr (some 82))), (1, .inl dep)], [], (I35, L, X), 0, 0) _
        refine yi_G_run 2 (37, [(2, .inl 1), (0, .inr (.inr (some 82))), (1, .inl dep)], [.inl 1, .inr (.inr (some 82))], (I35, L, X), 0, 0) (fun _ => rfl) ?_
        refine yi_G_if1 false rfl (by decide) ?_
        refine yi_G_run 3 (48, [(2, .inl 1), (0, .inr (.inr (some 82))), (1, .inl dep)], [.inl 0, .inl 7, .inr (.inr (some 82))], (I35, L, X), 0, 0) (fun _ => rfl) ?_
        refine yi_G_callv rfl rfl (ym_rcv hS) rfl (c_emit d (by omega) hS rfl ⟨by omega, by omega⟩) ?_
        rintro _ ⟨I38, rfl, f39, eI38, emI38⟩
        show yi_G zi_Ms d zi_m123 (51, [(2, .inl 1), (0, .inr (.inr (some 82))), (1, .inl dep)], [], (I38, L, X), 0, 0) _
        have r40 : I38 82 7 = I35 82 7 := by rw [f39 82 (7) (by omega)]
        have r41 : I38 82 8 = I35 82 8 := by rw [f39 82 (8) (by omega)]
        exact yi_G_retv rfl rfl (⟨_, rfl, (fun p k hp => by rw [f39 p k (by omega), f36 p k (by omega), f27 p k (by omega), f9 p k (by omega), f2 p k (by omega)]), ⟨by omega, by omega⟩, by omega, ⟨by omega, by omega⟩, by omega, (ym_LW_t (ym_LW_t lwI1 (ym_LW_g lwI35 (fun k => by rw [f27 89 k (by omega), f9 89 k (by omega)]) (fun k => by rw [f27 90 k (by omega), f9 90 k (by omega)])) (by omega)) (ym_LW_e (n := n) emI38 (by omega) (by omega)) (Int.le_refl _)), (fun zz => by rw [eI38]; exact ym_SG_bin (sgI1 (by omega)) (ym_LW_g lwI35 (fun k => by rw [f27 89 k (by omega), f9 89 k (by omega)]) (fun k => by rw [f27 90 k (by omega), f9 90 k (by omega)])) (sgI35 (by omega)) emI38 (by omega) (by omega))⟩)
      · show yi_G zi_Ms d zi_m123 (27, [(2, .inl 1), (0, .inr (.inr (some 82))), (1, .inl dep)], [.inl 0], (I26, L, X), 0, 0) _
        refine yi_G_if1 true rfl (by decide) ?_
        have r42 : I26 82 8 = I1 82 8 := by rw [f27 82 (8) (by omega), f9 82 (8) (by omega)]
        have r43 : I26 82 13 = I1 82 13 := by rw [f27 82 (13) (by omega), f9 82 (13) (by omega)]
        have r44 : I26 82 13 = I1 82 13 := by rw [f27 82 (13) (by omega), f9 82 (13) (by omega)]
        exact yi_G_retv rfl rfl (⟨_, rfl, (fun p k hp => by rw [f27 p k (by omega), f9 p k (by omega), f2 p k (by omega)]), ⟨by omega, by omega⟩, by omega, ⟨by omega, by omega⟩, by omega, (ym_LW_f lwI1 (fun k => by rw [f27 89 k (by omega), f9 89 k (by omega)]) (fun k => by rw [f27 90 k (by omega), f9 90 k (by omega)])), (fun zz => by rw [r44]; exact ym_SG_t (sgI1 (by omega)) (ym_LW_f (ym_LW_r _ _) (fun k => by rw [f27 89 k (by omega), f9 89 k (by omega)]) (fun k => by rw [f27 90 k (by omega), f9 90 k (by omega)])))⟩)
  · show yi_G zi_Ms d zi_m123 (11, [(0, .inr (.inr (some 82))), (1, .inl dep)], [.inl 0], (I1, L, X), 0, 0) _
    refine yi_G_run 3 (15, [(2, .inl 0), (0, .inr (.inr (some 82))), (1, .inl dep)], [.inl 60, .inr (.inr (some 82))], (I1, L, X), 0, 0) (fun _ => rfl) ?_
    have r45 : I1 84 ((I1 82 7).toNat) = I 84 ((I1 82 7).toNat) := by rw [f2 84 ((I1 82 7).toNat) (by omega)]
    refine yi_G_callv rfl rfl (ym_rcv hS) rfl (c_hasSign d (by omega) hS rfl rfl r45 rfl ⟨by omega, by omega⟩) ?_
    rintro _ (⟨c48, I46, rfl, f47, c48b⟩ | ⟨c48, I46, rfl, f47, c48b⟩)
    · have lt49 : I1 82 7 < te := ym_TK_lt hT (by omega) (by omega)
      show yi_G zi_Ms d zi_m123 (18, [(2, .inl 0), (0, .inr (.inr (some 82))), (1, .inl dep)], [.inl 1], (I46, L, X), 0, 0) _
      refine yi_G_if1 true rfl (by decide) ?_
      refine yi_G_run 2 (32, [(2, .inl 0), (0, .inr (.inr (some 82))), (1, .inl dep)], [.inl dep, .inr (.inr (some 82))], (I46, L, X), 0, 0) (fun _ => rfl) ?_
      have r50 : I46 82 13 = I1 82 13 := by rw [f47 82 (13) (by omega)]
      have r51 : I46 82 18 = I 82 18 := by rw [f47 82 (18) (by omega), f2 82 (18) (by omega)]
      have r52 : I46 82 19 = I 82 19 := by rw [f47 82 (19) (by omega), f2 82 (19) (by omega)]
      have r53 : I46 82 8 = I1 82 8 := by rw [f47 82 (8) (by omega)]
      have r54 : I46 82 20 = I 82 20 := by rw [f47 82 (20) (by omega), f2 82 (20) (by omega)]
      refine yi_G_callv rfl rfl (ym_rcv hS) rfl (hIt d (by omega) I46 L te (I1 82 13) (ym_TK_t (fun k => by rw [f47 84 k (by omega), f2 84 k (by omega)]) (fun k => by rw [f47 85 k (by omega), f2 85 k (by omega)]) hT) ⟨by omega, by omega⟩ (by omega) ⟨(by rw [r51]; omega), (by rw [r51]; omega)⟩ ⟨(by rw [r52]; omega), (by rw [r52]; omega)⟩ (ym_DY_t r54 (fun k => by rw [f47 88 k (by omega), f2 88 k (by omega)]) hDY) r50 ⟨by omega, by omega⟩) ?_
      rintro _ ⟨I55, rfl, f56, h57a, h57b, h57c, h57d, lwI55, sgI55⟩
      show yi_G zi_Ms d zi_m123 (35, [(2, .inl 0), (0, .inr (.inr (some 82))), (1, .inl dep)], [], (I55, L, X), 0, 0) _
      refine yi_G_run 2 (37, [(2, .inl 0), (0, .inr (.inr (some 82))), (1, .inl dep)], [.inl 0, .inr (.inr (some 82))], (I55, L, X), 0, 0) (fun _ => rfl) ?_
      refine yi_G_if1 true rfl (by decide) ?_
      refine yi_G_run 2 (48, [(2, .inl 0), (0, .inr (.inr (some 82))), (1, .inl dep)], [.inl 0, .inl 8, .inr (.inr (some 82))], (I55, L, X), 0, 0) (fun _ => rfl) ?_
      refine yi_G_callv rfl rfl (ym_rcv hS) rfl (c_emit d (by omega) hS rfl ⟨by omega, by omega⟩) ?_
      rintro _ ⟨I58, rfl, f59, eI58, emI58⟩
      show yi_G zi_Ms d zi_m123 (51, [(2, .inl 0), (0, .inr (.inr (some 82))), (1, .inl dep)], [], (I58, L, X), 0, 0) _
      have r60 : I58 82 7 = I55 82 7 := by rw [f59 82 (7) (by omega)]
      have r61 : I58 82 8 = I55 82 8 := by rw [f59 82 (8) (by omega)]
      exact yi_G_retv rfl rfl (⟨_, rfl, (fun p k hp => by rw [f59 p k (by omega), f56 p k (by omega), f47 p k (by omega), f2 p k (by omega)]), ⟨by omega, by omega⟩, by omega, ⟨by omega, by omega⟩, by omega, (ym_LW_t (ym_LW_t lwI1 (ym_LW_g lwI55 (fun k => by rw [f47 89 k (by omega)]) (fun k => by rw [f47 90 k (by omega)])) (by omega)) (ym_LW_e (n := n) emI58 (by omega) (by omega)) (Int.le_refl _)), (fun zz => by rw [eI58]; exact ym_SG_bin (sgI1 (by omega)) (ym_LW_g lwI55 (fun k => by rw [f47 89 k (by omega)]) (fun k => by rw [f47 90 k (by omega)])) (sgI55 (by omega)) emI58 (by omega) (by omega))⟩)
    · show yi_G zi_Ms d zi_m123 (18, [(2, .inl 0), (0, .inr (.inr (some 82))), (1, .inl dep)], [.inl 0], (I46, L, X), 0, 0) _
      refine yi_G_if1 false rfl (by decide) ?_
      refine yi_G_run 2 (24, [(2, .inl 0), (0, .inr (.inr (some 82))), (1, .inl dep)], [.inl 61, .inr (.inr (some 82))], (I46, L, X), 0, 0) (fun _ => rfl) ?_
      have r62 : I46 82 8 = I1 82 8 := by rw [f47 82 (8) (by omega)]
      have r63 : I46 84 ((I46 82 7).toNat) = I 84 ((I46 82 7).toNat) := by rw [f47 84 ((I46 82 7).toNat) (by omega), f2 84 ((I46 82 7).toNat) (by omega)]
      refine yi_G_callv rfl rfl (ym_rcv hS) rfl (c_hasSign d (by omega) hS rfl r62 r63 rfl ⟨by omega, by omega⟩) ?_
      rintro _ (⟨c66, I64, rfl, f65, c66b⟩ | ⟨c66, I64, rfl, f65, c66b⟩)
      · have lt67 : I46 82 7 < te := ym_TK_lt hT (by omega) (by omega)
        show yi_G zi_Ms d zi_m123 (27, [(2, .inl 0), (0, .inr (.inr (some 82))), (1, .inl dep)], [.inl 1], (I64, L, X), 0, 0) _
        refine yi_G_if1 false rfl (by decide) ?_
        refine yi_G_run 2 (32, [(2, .inl 0), (0, .inr (.inr (some 82))), (1, .inl dep)], [.inl dep, .inr (.inr (some 82))], (I64, L, X), 0, 0) (fun _ => rfl) ?_
        have r68 : I64 82 13 = I1 82 13 := by rw [f65 82 (13) (by omega), f47 82 (13) (by omega)]
        have r69 : I64 82 18 = I 82 18 := by rw [f65 82 (18) (by omega), f47 82 (18) (by omega), f2 82 (18) (by omega)]
        have r70 : I64 82 19 = I 82 19 := by rw [f65 82 (19) (by omega), f47 82 (19) (by omega), f2 82 (19) (by omega)]
        have r71 : I64 82 8 = I1 82 8 := by rw [f65 82 (8) (by omega), f47 82 (8) (by omega)]
        have r72 : I64 82 20 = I 82 20 := by rw [f65 82 (20) (by omega), f47 82 (20) (by omega), f2 82 (20) (by omega)]
        refine yi_G_callv rfl rfl (ym_rcv hS) rfl (hIt d (by omega) I64 L te (I1 82 13) (ym_TK_t (fun k => by rw [f65 84 k (by omega), f47 84 k (by omega), f2 84 k (by omega)]) (fun k => by rw [f65 85 k (by omega), f47 85 k (by omega), f2 85 k (by omega)]) hT) ⟨by omega, by omega⟩ (by omega) ⟨(by rw [r69]; omega), (by rw [r69]; omega)⟩ ⟨(by rw [r70]; omega), (by rw [r70]; omega)⟩ (ym_DY_t r72 (fun k => by rw [f65 88 k (by omega), f47 88 k (by omega), f2 88 k (by omega)]) hDY) r68 ⟨by omega, by omega⟩) ?_
        rintro _ ⟨I73, rfl, f74, h75a, h75b, h75c, h75d, lwI73, sgI73⟩
        show yi_G zi_Ms d zi_m123 (35, [(2, .inl 0), (0, .inr (.inr (some 82))), (1, .inl dep)], [], (I73, L, X), 0, 0) _
        refine yi_G_run 2 (37, [(2, .inl 0), (0, .inr (.inr (some 82))), (1, .inl dep)], [.inl 0, .inr (.inr (some 82))], (I73, L, X), 0, 0) (fun _ => rfl) ?_
        refine yi_G_if1 true rfl (by decide) ?_
        refine yi_G_run 2 (48, [(2, .inl 0), (0, .inr (.inr (some 82))), (1, .inl dep)], [.inl 0, .inl 8, .inr (.inr (some 82))], (I73, L, X), 0, 0) (fun _ => rfl) ?_
        refine yi_G_callv rfl rfl (ym_rcv hS) rfl (c_emit d (by omega) hS rfl ⟨by omega, by omega⟩) ?_
        rintro _ ⟨I76, rfl, f77, eI76, emI76⟩
        show yi_G zi_Ms d zi_m123 (51, [(2, .inl 0), (0, .inr (.inr (some 82))), (1, .inl dep)], [], (I76, L, X), 0, 0) _
        have r78 : I76 82 7 = I73 82 7 := by rw [f77 82 (7) (by omega)]
        have r79 : I76 82 8 = I73 82 8 := by rw [f77 82 (8) (by omega)]
        exact yi_G_retv rfl rfl (⟨_, rfl, (fun p k hp => by rw [f77 p k (by omega), f74 p k (by omega), f65 p k (by omega), f47 p k (by omega), f2 p k (by omega)]), ⟨by omega, by omega⟩, by omega, ⟨by omega, by omega⟩, by omega, (ym_LW_t (ym_LW_t lwI1 (ym_LW_g lwI73 (fun k => by rw [f65 89 k (by omega), f47 89 k (by omega)]) (fun k => by rw [f65 90 k (by omega), f47 90 k (by omega)])) (by omega)) (ym_LW_e (n := n) emI76 (by omega) (by omega)) (Int.le_refl _)), (fun zz => by rw [eI76]; exact ym_SG_bin (sgI1 (by omega)) (ym_LW_g lwI73 (fun k => by rw [f65 89 k (by omega), f47 89 k (by omega)]) (fun k => by rw [f65 90 k (by omega), f47 90 k (by omega)])) (sgI73 (by omega)) emI76 (by omega) (by omega))⟩)
      · show yi_G zi_Ms d zi_m123 (27, [(2, .inl 0), (0, .inr (.inr (some 82))), (1, .inl dep)], [.inl 0], (I64, L, X), 0, 0) _
        refine yi_G_if1 true rfl (by decide) ?_
        have r80 : I64 82 8 = I1 82 8 := by rw [f65 82 (8) (by omega), f47 82 (8) (by omega)]
        have r81 : I64 82 13 = I1 82 13 := by rw [f65 82 (13) (by omega), f47 82 (13) (by omega)]
        have r82 : I64 82 13 = I1 82 13 := by rw [f65 82 (13) (by omega), f47 82 (13) (by omega)]
        exact yi_G_retv rfl rfl (⟨_, rfl, (fun p k hp => by rw [f65 p k (by omega), f47 p k (by omega), f2 p k (by omega)]), ⟨by omega, by omega⟩, by omega, ⟨by omega, by omega⟩, by omega, (ym_LW_f lwI1 (fun k => by rw [f65 89 k (by omega), f47 89 k (by omega)]) (fun k => by rw [f65 90 k (by omega), f47 90 k (by omega)])), (fun zz => by rw [r82]; exact ym_SG_t (sgI1 (by omega)) (ym_LW_f (ym_LW_r _ _) (fun k => by rw [f65 89 k (by omega), f47 89 k (by omega)]) (fun k => by rw [f65 90 k (by omega), f47 90 k (by omega)])))⟩)
theorem c_ors_of {X : ym_X} (hS : ym_S X) {m : Nat} {dep : Int} (m0 : 6 ≤ m) (hIt : ym_RC X 123 m dep) : ym_RC X 87 (m + 1) dep := by
  intro D hD I L te n hT a0 f0 n0 n1 hDY hn k0
  obtain ⟨d, rfl⟩ : ∃ d, D = d + 1 := ⟨D - 1, by omega⟩
  refine yi_E_of (M := zi_m87) rfl rfl ?_
  obtain ⟨te0, te1, te2⟩ := id hT
  show yi_G zi_Ms d zi_m87 (0, [(0, .inr (.inr (some 82))), (1, .inl dep)], [], (I, L, X), 0, 0) _
  have pt5 : ∀ (m : Nat) (Ja : Nat → Nat → Int), (∀ p k, ¬ (p = 82 ∧ k = 7) ∧ ¬ (p = 82 ∧ k = 8) ∧ ¬ (p = 82 ∧ k = 13) ∧ p ≠ 89 ∧ p ≠ 90 → Ja p k = I p k) → (I 82 7 ≤ Ja 82 7 ∧ Ja 82 7 ≤ te) → (0 ≤ Ja 82 8) → (n ≤ Ja 82 13 ∧ Ja 82 13 - n ≤ Ja 82 7 - I 82 7 + 1) → (Ja 82 8 = 0 → I 82 8 = 0 ∧ Ja 82 13 - n ≤ Ja 82 7 - I 82 7) → (ym_LW I Ja n) → (Ja 82 8 = 0 → ym_SG Ja n (Ja 82 13) 0 1) → (te - Ja 82 7).toNat = m → yi_G zi_Ms d zi_m87 (5, [(0, .inr (.inr (some 82))), (1, .inl dep)], [], (Ja, L, X), 0, 0) (ym_RQ I L X te n) := by
    intro m5
    induction m5 using Nat.strongRecOn with
    | _ m5 ih5 =>
    intro Ja fJa pa pf pk pz plw psg hm5
    refine yi_G_run 2 (8, [(0, .inr (.inr (some 82))), (1, .inl dep)], [.inl 27, .inr (.inr (some 82))], (Ja, L, X), 0, 0) (fun _ => rfl) ?_
    have r2 : Ja 84 ((Ja 82 7).toNat) = I 84 ((Ja 82 7).toNat) := by rw [fJa 84 ((Ja 82 7).toNat) (by omega)]
    refine yi_G_callv rfl rfl (ym_rcv hS) rfl (c_isWord1 d (by omega) hS ⟨by omega, by omega⟩ rfl rfl r2 rfl ⟨by omega, by omega⟩) ?_
    rintro _ (⟨c1, rfl⟩ | ⟨c1, rfl⟩)
    · have lt3 : Ja 82 7 < te := ym_TK_lt hT (by omega) (by omega)
      show yi_G zi_Ms d zi_m87 (11, [(0, .inr (.inr (some 82))), (1, .inl dep)], [.inl 1], (Ja, L, X), 0, 0) _
      refine yi_G_if1 true rfl (by decide) ?_
      refine yi_G_run 2 (26, [(0, .inr (.inr (some 82))), (1, .inl dep)], [.inl 27, .inr (.inr (some 82))], (Ja, L, X), 0, 0) (fun _ => rfl) ?_
      have r5 : Ja 84 ((Ja 82 7).toNat) = I 84 ((Ja 82 7).toNat) := by rw [fJa 84 ((Ja 82 7).toNat) (by omega)]
      refine yi_G_callv rfl rfl (ym_rcv hS) rfl (c_isWord1 d (by omega) hS ⟨by omega, by omega⟩ rfl rfl r5 rfl ⟨by omega, by omega⟩) ?_
      rintro _ (⟨c4, rfl⟩ | ⟨c4, rfl⟩)
      · have lt6 : Ja 82 7 < te := ym_TK_lt hT (by omega) (by omega)
        show yi_G zi_Ms d zi_m87 (29, [(0, .inr (.inr (some 82))), (1, .inl dep)], [.inl 1], (Ja, L, X), 0, 0) _
        refine yi_G_run 3 (32, [(2, .inl 1), (0, .inr (.inr (some 82))), (1, .inl dep)], [.inr (.inr (some 82)), .inr (.inr (some 82))], (Ja, L, X), 0, 0) (fun _ => rfl) ?_
        refine yi_G_get (35, [(2, .inl 1), (0, .inr (.inr (some 82))), (1, .inl dep)], [.inl (Ja 82 7), .inr (.inr (some 82))], (Ja, L, X), 0, 0) rfl (ym_gi hS rfl rfl rfl) ?_
        refine yi_G_run 1 (36, [(2, .inl 1), (0, .inr (.inr (some 82))), (1, .inl dep)], [.inl 1, .inl (Ja 82 7), .inr (.inr (some 82))], (Ja, L, X), 0, 0) (fun _ => rfl) ?_
        refine yi_G_iadd rfl ((Ja 82 7) + 1) (yi_wn (by omega) (by omega)) ?_
        refine yi_G_put (40, [(2, .inl 1), (0, .inr (.inr (some 82))), (1, .inl dep)], [], ((yi_u Ja 82 7 ((Ja 82 7) + 1)), L, X), 0, 0) rfl (ym_pi hS rfl rfl) ?_
        generalize w8 : yi_u Ja 82 7 ((Ja 82 7) + 1) = I7
        refine yi_G_run 2 (42, [(2, .inl 1), (0, .inr (.inr (some 82))), (1, .inl dep)], [.inl dep, .inr (.inr (some 82))], (I7, L, X), 0, 0) (fun _ => rfl) ?_
        have r9 : I7 82 13 = Ja 82 13 := by rw [← w8, yi_u_ne _ _ (by omega)]
        have r10 : I7 82 18 = I 82 18 := by rw [← w8, yi_u_ne _ _ (by omega), fJa 82 (18) (by omega)]
        have r11 : I7 82 19 = I 82 19 := by rw [← w8, yi_u_ne _ _ (by omega), fJa 82 (19) (by omega)]
        have r12 : I7 82 7 = (Ja 82 7) + 1 := by rw [← w8, yi_u_eq]
        have r13 : I7 82 8 = Ja 82 8 := by rw [← w8, yi_u_ne _ _ (by omega)]
        have r14 : I7 82 20 = I 82 20 := by rw [← w8, yi_u_ne _ _ (by omega), fJa 82 (20) (by omega)]
        refine yi_G_callv rfl rfl (ym_rcv hS) rfl (hIt d (by omega) I7 L te (Ja 82 13) (ym_TK_t (fun k => by rw [← w8, yi_u_ne _ _ (fun z => absurd z.1 (by decide)), fJa 84 k (by omega)]) (fun k => by rw [← w8, yi_u_ne _ _ (fun z => absurd z.1 (by decide)), fJa 85 k (by omega)]) hT) ⟨by omega, by omega⟩ (by omega) ⟨(by rw [r10]; omega), (by rw [r10]; omega)⟩ ⟨(by rw [r11]; omega), (by rw [r11]; omega)⟩ (ym_DY_t r14 (fun k => by rw [← w8, yi_u_ne _ _ (fun z => absurd z.1 (by decide)), fJa 88 k (by omega)]) hDY) r9 ⟨by omega, by omega⟩) ?_
        rintro _ ⟨I15, rfl, f16, h17a, h17b, h17c, h17d, lwI15, sgI15⟩
        show yi_G zi_Ms d zi_m87 (45, [(2, .inl 1), (0, .inr (.inr (some 82))), (1, .inl dep)], [], (I15, L, X), 0, 0) _
        refine yi_G_run 2 (47, [(2, .inl 1), (0, .inr (.inr (some 82))), (1, .inl dep)], [.inl 1, .inr (.inr (some 82))], (I15, L, X), 0, 0) (fun _ => rfl) ?_
        refine yi_G_if1 false rfl (by decide) ?_
        refine yi_G_run 3 (58, [(2, .inl 1), (0, .inr (.inr (some 82))), (1, .inl dep)], [.inl 0, .inl 9, .inr (.inr (some 82))], (I15, L, X), 0, 0) (fun _ => rfl) ?_
        refine yi_G_callv rfl rfl (ym_rcv hS) rfl (c_emit d (by omega) hS rfl ⟨by omega, by omega⟩) ?_
        rintro _ ⟨I18, rfl, f19, eI18, emI18⟩
        show yi_G zi_Ms d zi_m87 (61, [(2, .inl 1), (0, .inr (.inr (some 82))), (1, .inl dep)], [], (I18, L, X), 0, 0) _
        refine yi_G_run 1 (5, [(2, .inl 1), (0, .inr (.inr (some 82))), (1, .inl dep)], [], (I18, L, X), 0, 0) (fun _ => rfl) ?_
        refine yi_G_al (al := [(0, .inr (.inr (some 82))), (1, .inl dep)]) (show ([0, 1] : List Nat).Nodup by decide) (show ([2, 0, 1] : List Nat).Nodup by decide) (yi_mc (List.mem_of_getElem? (i := 1) rfl) (yi_mc (List.mem_of_getElem? (i := 2) rfl) yi_mn)) ?_
        have r20 : I18 82 7 = I15 82 7 := by rw [f19 82 (7) (by omega)]
        have r21 : I18 82 8 = I15 82 8 := by rw [f19 82 (8) (by omega)]
        exact ih5 _ (by omega) I18 (fun p k hp => by rw [f19 p k (by omega), f16 p k (by omega), ← w8, yi_u_ne _ _ (fun z => by omega), fJa p k (by omega)]) (by omega) (by omega) (by omega) (by omega) (ym_LW_t (ym_LW_t plw (ym_LW_g lwI15 (fun k => by rw [← w8, yi_u_ne _ _ (fun z => absurd z.1 (by decide))]) (fun k => by rw [← w8, yi_u_ne _ _ (fun z => absurd z.1 (by decide))])) (by omega)) (ym_LW_e (n := n) emI18 (by omega) (by omega)) (Int.le_refl _)) (fun zz => by rw [eI18]; exact ym_SG_bin (psg (by omega)) (ym_LW_g lwI15 (fun k => by rw [← w8, yi_u_ne _ _ (fun z => absurd z.1 (by decide))]) (fun k => by rw [← w8, yi_u_ne _ _ (fun z => absurd z.1 (by decide))])) (sgI15 (by omega)) emI18 (by omega) (by omega)) rfl
      · show yi_G zi_Ms d zi_m87 (29, [(0, .inr (.inr (some 82))), (1, .inl dep)], [.inl 0], (Ja, L, X), 0, 0) _
        refine yi_G_run 3 (32, [(2, .inl 0), (0, .inr (.inr (some 82))), (1, .inl dep)], [.inr (.inr (some 82)), .inr (.inr (some 82))], (Ja, L, X), 0, 0) (fun _ => rfl) ?_
        refine yi_G_get (35, [(2, .inl 0), (0, .inr (.inr (some 82))), (1, .inl dep)], [.inl (Ja 82 7), .inr (.inr (some 82))], (Ja, L, X), 0, 0) rfl (ym_gi hS rfl rfl rfl) ?_
        refine yi_G_run 1 (36, [(2, .inl 0), (0, .inr (.inr (some 82))), (1, .inl dep)], [.inl 1, .inl (Ja 82 7), .inr (.inr (some 82))], (Ja, L, X), 0, 0) (fun _ => rfl) ?_
        refine yi_G_iadd rfl ((Ja 82 7) + 1) (yi_wn (by omega) (by omega)) ?_
        refine yi_G_put (40, [(2, .inl 0), (0, .inr (.inr (some 82))), (1, .inl dep)], [], ((yi_u Ja 82 7 ((Ja 82 7) + 1)), L, X), 0, 0) rfl (ym_pi hS rfl rfl) ?_
        generalize w23 : yi_u Ja 82 7 ((Ja 82 7) + 1) = I22
        refine yi_G_run 2 (42, [(2, .inl 0), (0, .inr (.inr (some 82))), (1, .inl dep)], [.inl dep, .inr (.inr (some 82))], (I22, L, X), 0, 0) (fun _ => rfl) ?_
        have r24 : I22 82 13 = Ja 82 13 := by rw [← w23, yi_u_ne _ _ (by omega)]
        have r25 : I22 82 18 = I 82 18 := by rw [← w23, yi_u_ne _ _ (by omega), fJa 82 (18) (by omega)]
        have r26 : I22 82 19 = I 82 19 := by rw [← w23, yi_u_ne _ _ (by omega), fJa 82 (19) (by omega)]
        have r27 : I22 82 7 = (Ja 82 7) + 1 := by rw [← w23, yi_u_eq]
        have r28 : I22 82 8 = Ja 82 8 := by rw [← w23, yi_u_ne _ _ (by omega)]
        have r29 : I22 82 20 = I 82 20 := by rw [← w23, yi_u_ne _ _ (by omega), fJa 82 (20) (by omega)]
        refine yi_G_callv rfl rfl (ym_rcv hS) rfl (hIt d (by omega) I22 L te (Ja 82 13) (ym_TK_t (fun k => by rw [← w23, yi_u_ne _ _ (fun z => absurd z.1 (by decide)), fJa 84 k (by omega)]) (fun k => by rw [← w23, yi_u_ne _ _ (fun z => absurd z.1 (by decide)), fJa 85 k (by omega)]) hT) ⟨by omega, by omega⟩ (by omega) ⟨(by rw [r25]; omega), (by rw [r25]; omega)⟩ ⟨(by rw [r26]; omega), (by rw [r26]; omega)⟩ (ym_DY_t r29 (fun k => by rw [← w23, yi_u_ne _ _ (fun z => absurd z.1 (by decide)), fJa 88 k (by omega)]) hDY) r24 ⟨by omega, by omega⟩) ?_
        rintro _ ⟨I30, rfl, f31, h32a, h32b, h32c, h32d, lwI30, sgI30⟩
        show yi_G zi_Ms d zi_m87 (45, [(2, .inl 0), (0, .inr (.inr (some 82))), (1, .inl dep)], [], (I30, L, X), 0, 0) _
        refine yi_G_run 2 (47, [(2, .inl 0), (0, .inr (.inr (some 82))), (1, .inl dep)], [.inl 0, .inr (.inr (some 82))], (I30, L, X), 0, 0) (fun _ => rfl) ?_
        refine yi_G_if1 true rfl (by decide) ?_
        refine yi_G_run 2 (58, [(2, .inl 0), (0, .inr (.inr (some 82))), (1, .inl dep)], [.inl 0, .inl 10, .inr (.inr (some 82))], (I30, L, X), 0, 0) (fun _ => rfl) ?_
        refine yi_G_callv rfl rfl (ym_rcv hS) rfl (c_emit d (by omega) hS rfl ⟨by omega, by omega⟩) ?_
        rintro _ ⟨I33, rfl, f34, eI33, emI33⟩
        show yi_G zi_Ms d zi_m87 (61, [(2, .inl 0), (0, .inr (.inr (some 82))), (1, .inl dep)], [], (I33, L, X), 0, 0) _
        refine yi_G_run 1 (5, [(2, .inl 0), (0, .inr (.inr (some 82))), (1, .inl dep)], [], (I33, L, X), 0, 0) (fun _ => rfl) ?_
        refine yi_G_al (al := [(0, .inr (.inr (some 82))), (1, .inl dep)]) (show ([0, 1] : List Nat).Nodup by decide) (show ([2, 0, 1] : List Nat).Nodup by decide) (yi_mc (List.mem_of_getElem? (i := 1) rfl) (yi_mc (List.mem_of_getElem? (i := 2) rfl) yi_mn)) ?_
        have r35 : I33 82 7 = I30 82 7 := by rw [f34 82 (7) (by omega)]
        have r36 : I33 82 8 = I30 82 8 := by rw [f34 82 (8) (by omega)]
        exact ih5 _ (by omega) I33 (fun p k hp => by rw [f34 p k (by omega), f31 p k (by omega), ← w23, yi_u_ne _ _ (fun z => by omega), fJa p k (by omega)]) (by omega) (by omega) (by omega) (by omega) (ym_LW_t (ym_LW_t plw (ym_LW_g lwI30 (fun k => by rw [← w23, yi_u_ne _ _ (fun z => absurd z.1 (by decide))]) (fun k => by rw [← w23, yi_u_ne _ _ (fun z => absurd z.1 (by decide))])) (by omega)) (ym_LW_e (n := n) emI33 (by omega) (by omega)) (Int.le_refl _)) (fun zz => by rw [eI33]; exact ym_SG_bin (psg (by omega)) (ym_LW_g lwI30 (fun k => by rw [← w23, yi_u_ne _ _ (fun z => absurd z.1 (by decide))]) (fun k => by rw [← w23, yi_u_ne _ _ (fun z => absurd z.1 (by decide))])) (sgI30 (by omega)) emI33 (by omega) (by omega)) rfl
    · show yi_G zi_Ms d zi_m87 (11, [(0, .inr (.inr (some 82))), (1, .inl dep)], [.inl 0], (Ja, L, X), 0, 0) _
      refine yi_G_if1 false rfl (by decide) ?_
      refine yi_G_run 2 (17, [(0, .inr (.inr (some 82))), (1, .inl dep)], [.inl 28, .inr (.inr (some 82))], (Ja, L, X), 0, 0) (fun _ => rfl) ?_
      have r38 : Ja 84 ((Ja 82 7).toNat) = I 84 ((Ja 82 7).toNat) := by rw [fJa 84 ((Ja 82 7).toNat) (by omega)]
      refine yi_G_callv rfl rfl (ym_rcv hS) rfl (c_isWord1 d (by omega) hS ⟨by omega, by omega⟩ rfl rfl r38 rfl ⟨by omega, by omega⟩) ?_
      rintro _ (⟨c37, rfl⟩ | ⟨c37, rfl⟩)
      · have lt39 : Ja 82 7 < te := ym_TK_lt hT (by omega) (by omega)
        show yi_G zi_Ms d zi_m87 (20, [(0, .inr (.inr (some 82))), (1, .inl dep)], [.inl 1], (Ja, L, X), 0, 0) _
        refine yi_G_if1 false rfl (by decide) ?_
        refine yi_G_run 2 (26, [(0, .inr (.inr (some 82))), (1, .inl dep)], [.inl 27, .inr (.inr (some 82))], (Ja, L, X), 0, 0) (fun _ => rfl) ?_
        have r41 : Ja 84 ((Ja 82 7).toNat) = I 84 ((Ja 82 7).toNat) := by rw [fJa 84 ((Ja 82 7).toNat) (by omega)]
        refine yi_G_callv rfl rfl (ym_rcv hS) rfl (c_isWord1 d (by omega) hS ⟨by omega, by omega⟩ rfl rfl r41 rfl ⟨by omega, by omega⟩) ?_
        rintro _ (⟨c40, rfl⟩ | ⟨c40, rfl⟩)
        · have lt42 : Ja 82 7 < te := ym_TK_lt hT (by omega) (by omega)
          show yi_G zi_Ms d zi_m87 (29, [(0, .inr (.inr (some 82))), (1, .inl dep)], [.inl 1], (Ja, L, X), 0, 0) _
          refine yi_G_run 3 (32, [(2, .inl 1), (0, .inr (.inr (some 82))), (1, .inl dep)], [.inr (.inr (some 82)), .inr (.inr (some 82))], (Ja, L, X), 0, 0) (fun _ => rfl) ?_
          refine yi_G_get (35, [(2, .inl 1), (0, .inr (.inr (some 82))), (1, .inl dep)], [.inl (Ja 82 7), .inr (.inr (some 82))], (Ja, L, X), 0, 0) rfl (ym_gi hS rfl rfl rfl) ?_
          refine yi_G_run 1 (36, [(2, .inl 1), (0, .inr (.inr (some 82))), (1, .inl dep)], [.inl 1, .inl (Ja 82 7), .inr (.inr (some 82))], (Ja, L, X), 0, 0) (fun _ => rfl) ?_
          refine yi_G_iadd rfl ((Ja 82 7) + 1) (yi_wn (by omega) (by omega)) ?_
          refine yi_G_put (40, [(2, .inl 1), (0, .inr (.inr (some 82))), (1, .inl dep)], [], ((yi_u Ja 82 7 ((Ja 82 7) + 1)), L, X), 0, 0) rfl (ym_pi hS rfl rfl) ?_
          generalize w44 : yi_u Ja 82 7 ((Ja 82 7) + 1) = I43
          refine yi_G_run 2 (42, [(2, .inl 1), (0, .inr (.inr (some 82))), (1, .inl dep)], [.inl dep, .inr (.inr (some 82))], (I43, L, X), 0, 0) (fun _ => rfl) ?_
          have r45 : I43 82 13 = Ja 82 13 := by rw [← w44, yi_u_ne _ _ (by omega)]
          have r46 : I43 82 18 = I 82 18 := by rw [← w44, yi_u_ne _ _ (by omega), fJa 82 (18) (by omega)]
          have r47 : I43 82 19 = I 82 19 := by rw [← w44, yi_u_ne _ _ (by omega), fJa 82 (19) (by omega)]
          have r48 : I43 82 7 = (Ja 82 7) + 1 := by rw [← w44, yi_u_eq]
          have r49 : I43 82 8 = Ja 82 8 := by rw [← w44, yi_u_ne _ _ (by omega)]
          have r50 : I43 82 20 = I 82 20 := by rw [← w44, yi_u_ne _ _ (by omega), fJa 82 (20) (by omega)]
          refine yi_G_callv rfl rfl (ym_rcv hS) rfl (hIt d (by omega) I43 L te (Ja 82 13) (ym_TK_t (fun k => by rw [← w44, yi_u_ne _ _ (fun z => absurd z.1 (by decide)), fJa 84 k (by omega)]) (fun k => by rw [← w44, yi_u_ne _ _ (fun z => absurd z.1 (by decide)), fJa 85 k (by omega)]) hT) ⟨by omega, by omega⟩ (by omega) ⟨(by rw [r46]; omega), (by rw [r46]; omega)⟩ ⟨(by rw [r47]; omega), (by rw [r47]; omega)⟩ (ym_DY_t r50 (fun k => by rw [← w44, yi_u_ne _ _ (fun z => absurd z.1 (by decide)), fJa 88 k (by omega)]) hDY) r45 ⟨by omega, by omega⟩) ?_
          rintro _ ⟨I51, rfl, f52, h53a, h53b, h53c, h53d, lwI51, sgI51⟩
          show yi_G zi_Ms d zi_m87 (45, [(2, .inl 1), (0, .inr (.inr (some 82))), (1, .inl dep)], [], (I51, L, X), 0, 0) _
          refine yi_G_run 2 (47, [(2, .inl 1), (0, .inr (.inr (some 82))), (1, .inl dep)], [.inl 1, .inr (.inr (some 82))], (I51, L, X), 0, 0) (fun _ => rfl) ?_
          refine yi_G_if1 false rfl (by decide) ?_
          refine yi_G_run 3 (58, [(2, .inl 1), (0, .inr (.inr (some 82))), (1, .inl dep)], [.inl 0, .inl 9, .inr (.inr (some 82))], (I51, L, X), 0, 0) (fun _ => rfl) ?_
          refine yi_G_callv rfl rfl (ym_rcv hS) rfl (c_emit d (by omega) hS rfl ⟨by omega, by omega⟩) ?_
          rintro _ ⟨I54, rfl, f55, eI54, emI54⟩
          show yi_G zi_Ms d zi_m87 (61, [(2, .inl 1), (0, .inr (.inr (some 82))), (1, .inl dep)], [], (I54, L, X), 0, 0) _
          refine yi_G_run 1 (5, [(2, .inl 1), (0, .inr (.inr (some 82))), (1, .inl dep)], [], (I54, L, X), 0, 0) (fun _ => rfl) ?_
          refine yi_G_al (al := [(0, .inr (.inr (some 82))), (1, .inl dep)]) (show ([0, 1] : List Nat).Nodup by decide) (show ([2, 0, 1] : List Nat).Nodup by decide) (yi_mc (List.mem_of_getElem? (i := 1) rfl) (yi_mc (List.mem_of_getElem? (i := 2) rfl) yi_mn)) ?_
          have r56 : I54 82 7 = I51 82 7 := by rw [f55 82 (7) (by omega)]
          have r57 : I54 82 8 = I51 82 8 := by rw [f55 82 (8) (by omega)]
          exact ih5 _ (by omega) I54 (fun p k hp => by rw [f55 p k (by omega), f52 p k (by omega), ← w44, yi_u_ne _ _ (fun z => by omega), fJa p k (by omega)]) (by omega) (by omega) (by omega) (by omega) (ym_LW_t (ym_LW_t plw (ym_LW_g lwI51 (fun k => by rw [← w44, yi_u_ne _ _ (fun z => absurd z.1 (by decide))]) (fun k => by rw [← w44, yi_u_ne _ _ (fun z => absurd z.1 (by decide))])) (by omega)) (ym_LW_e (n := n) emI54 (by omega) (by omega)) (Int.le_refl _)) (fun zz => by rw [eI54]; exact ym_SG_bin (psg (by omega)) (ym_LW_g lwI51 (fun k => by rw [← w44, yi_u_ne _ _ (fun z => absurd z.1 (by decide))]) (fun k => by rw [← w44, yi_u_ne _ _ (fun z => absurd z.1 (by decide))])) (sgI51 (by omega)) emI54 (by omega) (by omega)) rfl
        · show yi_G zi_Ms d zi_m87 (29, [(0, .inr (.inr (some 82))), (1, .inl dep)], [.inl 0], (Ja, L, X), 0, 0) _
          refine yi_G_run 3 (32, [(2, .inl 0), (0, .inr (.inr (some 82))), (1, .inl dep)], [.inr (.inr (some 82)), .inr (.inr (some 82))], (Ja, L, X), 0, 0) (fun _ => rfl) ?_
          refine yi_G_get (35, [(2, .inl 0), (0, .inr (.inr (some 82))), (1, .inl dep)], [.inl (Ja 82 7), .inr (.inr (some 82))], (Ja, L, X), 0, 0) rfl (ym_gi hS rfl rfl rfl) ?_
          refine yi_G_run 1 (36, [(2, .inl 0), (0, .inr (.inr (some 82))), (1, .inl dep)], [.inl 1, .inl (Ja 82 7), .inr (.inr (some 82))], (Ja, L, X), 0, 0) (fun _ => rfl) ?_
          refine yi_G_iadd rfl ((Ja 82 7) + 1) (yi_wn (by omega) (by omega)) ?_
          refine yi_G_put (40, [(2, .inl 0), (0, .inr (.inr (some 82))), (1, .inl dep)], [], ((yi_u Ja 82 7 ((Ja 82 7) + 1)), L, X), 0, 0) rfl (ym_pi hS rfl rfl) ?_
          generalize w59 : yi_u Ja 82 7 ((Ja 82 7) + 1) = I58
          refine yi_G_run 2 (42, [(2, .inl 0), (0, .inr (.inr (some 82))), (1, .inl dep)], [.inl dep, .inr (.inr (some 82))], (I58, L, X), 0, 0) (fun _ => rfl) ?_
          have r60 : I58 82 13 = Ja 82 13 := by rw [← w59, yi_u_ne _ _ (by omega)]
          have r61 : I58 82 18 = I 82 18 := by rw [← w59, yi_u_ne _ _ (by omega), fJa 82 (18) (by omega)]
          have r62 : I58 82 19 = I 82 19 := by rw [← w59, yi_u_ne _ _ (by omega), fJa 82 (19) (by omega)]
          have r63 : I58 82 7 = (Ja 82 7) + 1 := by rw [← w59, yi_u_eq]
          have r64 : I58 82 8 = Ja 82 8 := by rw [← w59, yi_u_ne _ _ (by omega)]
          have r65 : I58 82 20 = I 82 20 := by rw [← w59, yi_u_ne _ _ (by omega), fJa 82 (20) (by omega)]
          refine yi_G_callv rfl rfl (ym_rcv hS) rfl (hIt d (by omega) I58 L te (Ja 82 13) (ym_TK_t (fun k => by rw [← w59, yi_u_ne _ _ (fun z => absurd z.1 (by decide)), fJa 84 k (by omega)]) (fun k => by rw [← w59, yi_u_ne _ _ (fun z => absurd z.1 (by decide)), fJa 85 k (by omega)]) hT) ⟨by omega, by omega⟩ (by omega) ⟨(by rw [r61]; omega), (by rw [r61]; omega)⟩ ⟨(by rw [r62]; omega), (by rw [r62]; omega)⟩ (ym_DY_t r65 (fun k => by rw [← w59, yi_u_ne _ _ (fun z => absurd z.1 (by decide)), fJa 88 k (by omega)]) hDY) r60 ⟨by omega, by omega⟩) ?_
          rintro _ ⟨I66, rfl, f67, h68a, h68b, h68c, h68d, lwI66, sgI66⟩
          show yi_G zi_Ms d zi_m87 (45, [(2, .inl 0), (0, .inr (.inr (some 82))), (1, .inl dep)], [], (I66, L, X), 0, 0) _
          refine yi_G_run 2 (47, [(2, .inl 0), (0, .inr (.inr (some 82))), (1, .inl dep)], [.inl 0, .inr (.inr (some 82))], (I66, L, X), 0, 0) (fun _ => rfl) ?_
          refine yi_G_if1 true rfl (by decide) ?_
          refine yi_G_run 2 (58, [(2, .inl 0), (0, .inr (.inr (some 82))), (1, .inl dep)], [.inl 0, .inl 10, .inr (.inr (some 82))], (I66, L, X), 0, 0) (fun _ => rfl) ?_
          refine yi_G_callv rfl rfl (ym_rcv hS) rfl (c_emit d (by omega) hS rfl ⟨by omega, by omega⟩) ?_
          rintro _ ⟨I69, rfl, f70, eI69, emI69⟩
          show yi_G zi_Ms d zi_m87 (61, [(2, .inl 0), (0, .inr (.inr (some 82))), (1, .inl dep)], [], (I69, L, X), 0, 0) _
          refine yi_G_run 1 (5, [(2, .inl 0), (0, .inr (.inr (some 82))), (1, .inl dep)], [], (I69, L, X), 0, 0) (fun _ => rfl) ?_
          refine yi_G_al (al := [(0, .inr (.inr (some 82))), (1, .inl dep)]) (show ([0, 1] : List Nat).Nodup by decide) (show ([2, 0, 1] : List Nat).Nodup by decide) (yi_mc (List.mem_of_getElem? (i := 1) rfl) (yi_mc (List.mem_of_getElem? (i := 2) rfl) yi_mn)) ?_
          have r71 : I69 82 7 = I66 82 7 := by rw [f70 82 (7) (by omega)]
          have r72 : I69 82 8 = I66 82 8 := by rw [f70 82 (8) (by omega)]
          exact ih5 _ (by omega) I69 (fun p k hp => by rw [f70 p k (by omega), f67 p k (by omega), ← w59, yi_u_ne _ _ (fun z => by omega), fJa p k (by omega)]) (by omega) (by omega) (by omega) (by omega) (ym_LW_t (ym_LW_t plw (ym_LW_g lwI66 (fun k => by rw [← w59, yi_u_ne _ _ (fun z => absurd z.1 (by decide))]) (fun k => by rw [← w59, yi_u_ne _ _ (fun z => absurd z.1 (by decide))])) (by omega)) (ym_LW_e (n := n) emI69 (by omega) (by omega)) (Int.le_refl _)) (fun zz => by rw [eI69]; exact ym_SG_bin (psg (by omega)) (ym_LW_g lwI66 (fun k => by rw [← w59, yi_u_ne _ _ (fun z => absurd z.1 (by decide))]) (fun k => by rw [← w59, yi_u_ne _ _ (fun z => absurd z.1 (by decide))])) (sgI66 (by omega)) emI69 (by omega) (by omega)) rfl
      · show yi_G zi_Ms d zi_m87 (20, [(0, .inr (.inr (some 82))), (1, .inl dep)], [.inl 0], (Ja, L, X), 0, 0) _
        refine yi_G_if1 true rfl (by decide) ?_
        exact yi_G_retv rfl rfl (⟨_, rfl, (fun p k hp => by rw [fJa p k (by omega)]), ⟨by omega, by omega⟩, by omega, ⟨by omega, by omega⟩, by omega, plw, psg⟩)
  refine yi_G_run 2 (2, [(0, .inr (.inr (some 82))), (1, .inl dep)], [.inl dep, .inr (.inr (some 82))], (I, L, X), 0, 0) (fun _ => rfl) ?_
  refine yi_G_callv rfl rfl (ym_rcv hS) rfl (hIt d (by omega) I L te (I 82 13) hT ⟨by omega, by omega⟩ (by omega) ⟨(by omega), (by omega)⟩ ⟨(by omega), (by omega)⟩ hDY rfl ⟨by omega, by omega⟩) ?_
  rintro _ ⟨I73, rfl, f74, h75a, h75b, h75c, h75d, lwI73, sgI73⟩
  show yi_G zi_Ms d zi_m87 (5, [(0, .inr (.inr (some 82))), (1, .inl dep)], [], (I73, L, X), 0, 0) _
  exact pt5 _ I73 (fun p k hp => by rw [f74 p k (by omega)]) (by omega) (by omega) (by omega) (by omega) lwI73 sgI73 rfl
theorem c_readItem_of {X : ym_X} (hS : ym_S X) {m : Nat} {dep : Int} (m0 : 6 ≤ m) (d0 : 0 ≤ dep ∧ dep ≤ 5) (hIt : dep ≤ 4 → ym_RC X 97 m (dep + 1)) (hFo : dep ≤ 4 → ym_RC X 96 m (dep + 1)) : ym_RC X 97 (m + 1) dep := by
  intro D hD I L te n hT a0 f0 n0 n1 hDY hn k0
  obtain ⟨d, rfl⟩ : ∃ d, D = d + 1 := ⟨D - 1, by omega⟩
  refine yi_E_of (M := zi_m97) rfl rfl ?_
  obtain ⟨te0, te1, te2⟩ := id hT
  show yi_G zi_Ms d zi_m97 (0, [(0, .inr (.inr (some 82))), (1, .inl dep)], [], (I, L, X), 0, 0) _
  refine yi_G_run 1 (1, [(0, .inr (.inr (some 82))), (1, .inl dep)], [.inr (.inr (some 82))], (I, L, X), 0, 0) (fun _ => rfl) ?_
  skip
  refine yi_G_get (4, [(0, .inr (.inr (some 82))), (1, .inl dep)], [.inl (I 82 8)], (I, L, X), 0, 0) rfl (ym_gi hS rfl rfl rfl) ?_
  by_cases h1 : (I 82 8) ≤ 0
  · refine yi_G_if1 true rfl (yi_le_t h1) ?_
    have pt69 : (I 82 8 = 0 ∧ I 82 7 < te) → yi_G zi_Ms d zi_m97 (69, [(0, .inr (.inr (some 82))), (1, .inl dep)], [], (I, L, X), 0, 0) (ym_RQ I L X te n) := by
      intro  q69 
      refine yi_G_run 3 (75, [(2, .inl 1), (0, .inr (.inr (some 82))), (1, .inl dep)], [], (I, L, X), 0, 0) (fun _ => rfl) ?_
      have pt124 : ∀ (Ja : Nat → Nat → Int), (∀ p k, ¬ (p = 82 ∧ k = 8) → Ja p k = I p k) → (0 ≤ Ja 82 8) → (Ja 82 8 = 0 → dep ≤ 4 ∧ I 82 8 = 0) → yi_G zi_Ms d zi_m97 (124, [(2, .inl 1), (0, .inr (.inr (some 82))), (1, .inl dep)], [], (Ja, L, X), 0, 0) (ym_RQ I L X te n) := by
        intro Ja fJa j0 j1 
        refine yi_G_run 1 (125, [(2, .inl 1), (0, .inr (.inr (some 82))), (1, .inl dep)], [.inr (.inr (some 82))], (Ja, L, X), 0, 0) (fun _ => rfl) ?_
        skip
        refine yi_G_get (128, [(2, .inl 1), (0, .inr (.inr (some 82))), (1, .inl dep)], [.inl (Ja 82 8)], (Ja, L, X), 0, 0) rfl (ym_gi hS rfl rfl rfl) ?_
        by_cases h2 : (Ja 82 8) ≤ 0
        · refine yi_G_if1 true rfl (yi_le_t h2) ?_
          refine yi_G_run 2 (135, [(2, .inl 1), (0, .inr (.inr (some 82))), (1, .inl dep)], [.inl 26, .inr (.inr (some 82))], (Ja, L, X), 0, 0) (fun _ => rfl) ?_
          have r3 : Ja 82 7 = I 82 7 := by rw [fJa 82 (7) (by omega)]
          have r4 : Ja 84 ((I 82 7).toNat) = I 84 ((I 82 7).toNat) := by rw [fJa 84 ((I 82 7).toNat) (by omega)]
          refine yi_G_callv rfl rfl (ym_rcv hS) rfl (c_hasWord d (by omega) hS ⟨by omega, by omega⟩ r3 rfl r4 rfl ⟨by omega, by omega⟩) ?_
          rintro _ (⟨c7, I5, rfl, f6, c7b⟩ | ⟨c7, I5, rfl, f6, c7b⟩)
          · have lt8 : I 82 7 < te := ym_TK_lt hT (by omega) (by omega)
            show yi_G zi_Ms d zi_m97 (138, [(2, .inl 1), (0, .inr (.inr (some 82))), (1, .inl dep)], [.inl 1], (I5, L, X), 0, 0) _
            refine yi_G_if1 false rfl (by decide) ?_
            refine yi_G_run 3 (144, [(2, .inl 1), (0, .inr (.inr (some 82))), (1, .inl dep)], [.inl 1, .inl dep, .inr (.inr (some 82))], (I5, L, X), 0, 0) (fun _ => rfl) ?_
            refine yi_G_iadd rfl (dep + 1) (yi_wn (by omega) (by omega)) ?_
            skip
            have r9 : I5 82 13 = I 82 13 := by rw [f6 82 (13) (by omega), fJa 82 (13) (by omega)]
            have r10 : I5 82 18 = I 82 18 := by rw [f6 82 (18) (by omega), fJa 82 (18) (by omega)]
            have r11 : I5 82 19 = I 82 19 := by rw [f6 82 (19) (by omega), fJa 82 (19) (by omega)]
            have r12 : I5 82 8 = Ja 82 8 := by rw [f6 82 (8) (by omega)]
            have r13 : I5 82 20 = I 82 20 := by rw [f6 82 (20) (by omega), fJa 82 (20) (by omega)]
            refine yi_G_callv rfl rfl (ym_rcv hS) rfl (hIt (by omega) d (by omega) I5 L te (I 82 13) (ym_TK_t (fun k => by rw [f6 84 k (by omega), fJa 84 k (by omega)]) (fun k => by rw [f6 85 k (by omega), fJa 85 k (by omega)]) hT) ⟨by omega, by omega⟩ (by omega) ⟨(by rw [r10]; omega), (by rw [r10]; omega)⟩ ⟨(by rw [r11]; omega), (by rw [r11]; omega)⟩ (ym_DY_t r13 (fun k => by rw [f6 88 k (by omega), fJa 88 k (by omega)]) hDY) r9 ⟨by omega, by omega⟩) ?_
            rintro _ ⟨I14, rfl, f15, h16a, h16b, h16c, h16d, lwI14, sgI14⟩
            show yi_G zi_Ms d zi_m97 (148, [(2, .inl 1), (0, .inr (.inr (some 82))), (1, .inl dep)], [], (I14, L, X), 0, 0) _
            refine yi_G_run 3 (151, [(2, .inl 1), (0, .inr (.inr (some 82))), (1, .inl dep)], [.inl 0, .inl 3, .inr (.inr (some 82))], (I14, L, X), 0, 0) (fun _ => rfl) ?_
            refine yi_G_callv rfl rfl (ym_rcv hS) rfl (c_emit d (by omega) hS rfl ⟨by omega, by omega⟩) ?_
            rintro _ ⟨I17, rfl, f18, eI17, emI17⟩
            show yi_G zi_Ms d zi_m97 (154, [(2, .inl 1), (0, .inr (.inr (some 82))), (1, .inl dep)], [], (I17, L, X), 0, 0) _
            refine yi_G_run 1 (192, [(2, .inl 1), (0, .inr (.inr (some 82))), (1, .inl dep)], [], (I17, L, X), 0, 0) (fun _ => rfl) ?_
            have r19 : I17 82 7 = I14 82 7 := by rw [f18 82 (7) (by omega)]
            have r20 : I17 82 8 = I14 82 8 := by rw [f18 82 (8) (by omega)]
            exact yi_G_retv rfl rfl (⟨_, rfl, (fun p k hp => by rw [f18 p k (by omega), f15 p k (by omega), f6 p k (by omega), fJa p k (by omega)]), ⟨by omega, by omega⟩, by omega, ⟨by omega, by omega⟩, by omega, ym_LW_t (ym_LW_g lwI14 (fun k => by rw [f6 89 k (by omega), fJa 89 k (by omega)]) (fun k => by rw [f6 90 k (by omega), fJa 90 k (by omega)])) (ym_LW_e (n := n) emI17 (by omega) (by omega)) (Int.le_refl _), fun zz => by rw [eI17]; exact ym_SG_not (sgI14 (by omega)) emI17⟩)
          · show yi_G zi_Ms d zi_m97 (138, [(2, .inl 1), (0, .inr (.inr (some 82))), (1, .inl dep)], [.inl 0], (I5, L, X), 0, 0) _
            refine yi_G_if1 true rfl (by decide) ?_
            refine yi_G_run 2 (160, [(2, .inl 1), (0, .inr (.inr (some 82))), (1, .inl dep)], [.inl 40, .inr (.inr (some 82))], (I5, L, X), 0, 0) (fun _ => rfl) ?_
            have r21 : I5 82 8 = Ja 82 8 := by rw [f6 82 (8) (by omega)]
            have r22 : I5 84 ((I5 82 7).toNat) = I 84 ((I5 82 7).toNat) := by rw [f6 84 ((I5 82 7).toNat) (by omega), fJa 84 ((I5 82 7).toNat) (by omega)]
            refine yi_G_callv rfl rfl (ym_rcv hS) rfl (c_hasSign d (by omega) hS rfl r21 r22 rfl ⟨by omega, by omega⟩) ?_
            rintro _ (⟨c25, I23, rfl, f24, c25b⟩ | ⟨c25, I23, rfl, f24, c25b⟩)
            · have lt26 : I5 82 7 < te := ym_TK_lt hT (by omega) (by omega)
              show yi_G zi_Ms d zi_m97 (163, [(2, .inl 1), (0, .inr (.inr (some 82))), (1, .inl dep)], [.inl 1], (I23, L, X), 0, 0) _
              refine yi_G_if1 false rfl (by decide) ?_
              refine yi_G_run 3 (169, [(2, .inl 1), (0, .inr (.inr (some 82))), (1, .inl dep)], [.inl 1, .inl dep, .inr (.inr (some 82))], (I23, L, X), 0, 0) (fun _ => rfl) ?_
              refine yi_G_iadd rfl (dep + 1) (yi_wn (by omega) (by omega)) ?_
              have r27 : I23 82 13 = I 82 13 := by rw [f24 82 (13) (by omega), f6 82 (13) (by omega), fJa 82 (13) (by omega)]
              have r28 : I23 82 18 = I 82 18 := by rw [f24 82 (18) (by omega), f6 82 (18) (by omega), fJa 82 (18) (by omega)]
              have r29 : I23 82 19 = I 82 19 := by rw [f24 82 (19) (by omega), f6 82 (19) (by omega), fJa 82 (19) (by omega)]
              have r30 : I23 82 8 = Ja 82 8 := by rw [f24 82 (8) (by omega), f6 82 (8) (by omega)]
              have r31 : I23 82 20 = I 82 20 := by rw [f24 82 (20) (by omega), f6 82 (20) (by omega), fJa 82 (20) (by omega)]
              refine yi_G_callv rfl rfl (ym_rcv hS) rfl (hFo (by omega) d (by omega) I23 L te (I 82 13) (ym_TK_t (fun k => by rw [f24 84 k (by omega), f6 84 k (by omega), fJa 84 k (by omega)]) (fun k => by rw [f24 85 k (by omega), f6 85 k (by omega), fJa 85 k (by omega)]) hT) ⟨by omega, by omega⟩ (by omega) ⟨(by rw [r28]; omega), (by rw [r28]; omega)⟩ ⟨(by rw [r29]; omega), (by rw [r29]; omega)⟩ (ym_DY_t r31 (fun k => by rw [f24 88 k (by omega), f6 88 k (by omega), fJa 88 k (by omega)]) hDY) r27 ⟨by omega, by omega⟩) ?_
              rintro _ ⟨I32, rfl, f33, h34a, h34b, h34c, h34d, lwI32, sgI32⟩
              show yi_G zi_Ms d zi_m97 (173, [(2, .inl 1), (0, .inr (.inr (some 82))), (1, .inl dep)], [], (I32, L, X), 0, 0) _
              refine yi_G_run 2 (176, [(2, .inl 1), (0, .inr (.inr (some 82))), (1, .inl dep)], [.inl 41, .inr (.inr (some 82))], (I32, L, X), 0, 0) (fun _ => rfl) ?_
              skip
              refine yi_G_callv rfl rfl (ym_rcv hS) rfl (c_takeSign d (by omega) hS (ym_TK_t (fun k => by rw [f33 84 k (by omega), f24 84 k (by omega), f6 84 k (by omega), fJa 84 k (by omega)]) (fun k => by rw [f33 85 k (by omega), f24 85 k (by omega), f6 85 k (by omega), fJa 85 k (by omega)]) hT) ⟨by omega, by omega⟩ (by omega)) ?_
              rintro _ ⟨I35, rfl, f36, h37a, h37b, h37c⟩
              show yi_G zi_Ms d zi_m97 (179, [(2, .inl 1), (0, .inr (.inr (some 82))), (1, .inl dep)], [], (I35, L, X), 0, 0) _
              refine yi_G_run 1 (192, [(2, .inl 1), (0, .inr (.inr (some 82))), (1, .inl dep)], [], (I35, L, X), 0, 0) (fun _ => rfl) ?_
              have r38 : I35 82 13 = I32 82 13 := by rw [f36 82 (13) (by omega)]
              have r39 : I35 82 13 = I32 82 13 := by rw [f36 82 (13) (by omega)]
              exact yi_G_retv rfl rfl (⟨_, rfl, (fun p k hp => by rw [f36 p k (by omega), f33 p k (by omega), f24 p k (by omega), f6 p k (by omega), fJa p k (by omega)]), ⟨by omega, by omega⟩, by omega, ⟨by omega, by omega⟩, by omega, (ym_LW_f (ym_LW_g lwI32 (fun k => by rw [f24 89 k (by omega), f6 89 k (by omega), fJa 89 k (by omega)]) (fun k => by rw [f24 90 k (by omega), f6 90 k (by omega), fJa 90 k (by omega)])) (fun k => by rw [f36 89 k (by omega)]) (fun k => by rw [f36 90 k (by omega)])), fun zz => by rw [r39]; exact ym_SG_t (sgI32 (by omega)) (ym_LW_f (ym_LW_r _ _) (fun k => by rw [f36 89 k (by omega)]) (fun k => by rw [f36 90 k (by omega)]))⟩)
            · show yi_G zi_Ms d zi_m97 (163, [(2, .inl 1), (0, .inr (.inr (some 82))), (1, .inl dep)], [.inl 0], (I23, L, X), 0, 0) _
              refine yi_G_if1 true rfl (by decide) ?_
              refine yi_G_run 3 (186, [(2, .inl 1), (0, .inr (.inr (some 82))), (1, .inl dep)], [.inr (.inr (some 82)), .inl 11, .inr (.inr (some 82))], (I23, L, X), 0, 0) (fun _ => rfl) ?_
              skip
              have r40 : I23 82 18 = I 82 18 := by rw [f24 82 (18) (by omega), f6 82 (18) (by omega), fJa 82 (18) (by omega)]
              have r41 : I23 82 19 = I 82 19 := by rw [f24 82 (19) (by omega), f6 82 (19) (by omega), fJa 82 (19) (by omega)]
              have r42 : I23 82 8 = Ja 82 8 := by rw [f24 82 (8) (by omega), f6 82 (8) (by omega)]
              have r43 : I23 82 20 = I 82 20 := by rw [f24 82 (20) (by omega), f6 82 (20) (by omega), fJa 82 (20) (by omega)]
              refine yi_G_callv rfl rfl (ym_rcv hS) rfl (c_readClause d (by omega) hS ⟨(by rw [r40]; omega), (by rw [r40]; omega)⟩ ⟨(by rw [r41]; omega), (by rw [r41]; omega)⟩ (ym_TK_t (fun k => by rw [f24 84 k (by omega), f6 84 k (by omega), fJa 84 k (by omega)]) (fun k => by rw [f24 85 k (by omega), f6 85 k (by omega), fJa 85 k (by omega)]) hT) ⟨by omega, by omega⟩ (by omega) (ym_DY_t r43 (fun k => by rw [f24 88 k (by omega), f6 88 k (by omega), fJa 88 k (by omega)]) hDY)) ?_
              rintro _ ⟨z46, I44, rfl, f45, h47a, h47b, h47c⟩
              show yi_G zi_Ms d zi_m97 (189, [(2, .inl 1), (0, .inr (.inr (some 82))), (1, .inl dep)], [.inl z46, .inl 11, .inr (.inr (some 82))], (I44, L, X), 0, 0) _
              have r48 : I44 82 13 = I 82 13 := by rw [f45 82 (13) (by omega), f24 82 (13) (by omega), f6 82 (13) (by omega), fJa 82 (13) (by omega)]
              refine yi_G_callv rfl rfl (ym_rcv hS) rfl (c_emit d (by omega) hS r48 ⟨by omega, by omega⟩) ?_
              rintro _ ⟨I49, rfl, f50, eI49, emI49⟩
              show yi_G zi_Ms d zi_m97 (192, [(2, .inl 1), (0, .inr (.inr (some 82))), (1, .inl dep)], [], (I49, L, X), 0, 0) _
              have r51 : I49 82 7 = I44 82 7 := by rw [f50 82 (7) (by omega)]
              have r52 : I49 82 8 = I44 82 8 := by rw [f50 82 (8) (by omega)]
              exact yi_G_retv rfl rfl (⟨_, rfl, (fun p k hp => by rw [f50 p k (by omega), f45 p k (by omega), f24 p k (by omega), f6 p k (by omega), fJa p k (by omega)]), ⟨by omega, by omega⟩, by omega, ⟨by omega, by omega⟩, by omega, ym_LW_g (ym_LW_e (n := n) emI49 (by omega) (by omega)) (fun k => by rw [f45 89 k (by omega), f24 89 k (by omega), f6 89 k (by omega), fJa 89 k (by omega)]) (fun k => by rw [f45 90 k (by omega), f24 90 k (by omega), f6 90 k (by omega), fJa 90 k (by omega)]), fun zz => by rw [eI49]; exact ym_SG_leaf emI49 (by omega) (Or.inr (Or.inr ⟨rfl, (h47c (by omega)).2⟩))⟩)
        · refine yi_G_if1 false rfl (yi_le_f h2) ?_
          have r53 : Ja 82 7 = I 82 7 := by rw [fJa 82 (7) (by omega)]
          have r54 : Ja 82 13 = I 82 13 := by rw [fJa 82 (13) (by omega)]
          exact yi_G_retv rfl rfl (⟨_, rfl, (fun p k hp => by rw [fJa p k (by omega)]), ⟨by omega, by omega⟩, by omega, ⟨by omega, by omega⟩, by omega, (ym_LW_f (ym_LW_r _ _) (fun k => by rw [fJa 89 k (by omega)]) (fun k => by rw [fJa 90 k (by omega)])), fun zz => absurd zz (by omega)⟩)
      refine yi_G_run 1 (76, [(2, .inl 1), (0, .inr (.inr (some 82))), (1, .inl dep)], [.inl 1], (I, L, X), 0, 0) (fun _ => rfl) ?_
      refine yi_G_if1 true rfl (by decide) ?_
      refine yi_G_run 1 (88, [(2, .inl 1), (0, .inr (.inr (some 82))), (1, .inl dep)], [.inr (.inr (some 82))], (I, L, X), 0, 0) (fun _ => rfl) ?_
      refine yi_G_callv rfl rfl (ym_rcv hS) rfl (c_isName d (by omega) hS hT ⟨by omega, by omega⟩) ?_
      rintro _ (⟨⟨c55a, c55b⟩, rfl⟩ | rfl)
      · show yi_G zi_Ms d zi_m97 (91, [(2, .inl 1), (0, .inr (.inr (some 82))), (1, .inl dep)], [.inl 1], (I, L, X), 0, 0) _
        refine yi_G_if1 false rfl (by decide) ?_
        refine yi_G_run 1 (95, [(2, .inl 1), (0, .inr (.inr (some 82))), (1, .inl dep)], [.inr (.inr (some 82))], (I, L, X), 0, 0) (fun _ => rfl) ?_
        refine yi_G_callv rfl rfl (ym_rcv hS) rfl (c_find d (by omega) hS ⟨(by omega), (by omega)⟩ ⟨(by omega), (by omega)⟩ hT ⟨by omega, by omega⟩) ?_
        rintro _ ⟨z56, rfl⟩
        show yi_G zi_Ms d zi_m97 (98, [(2, .inl 1), (0, .inr (.inr (some 82))), (1, .inl dep)], [.inl z56], (I, L, X), 0, 0) _
        refine yi_G_run 2 (100, [(2, .inl 1), (0, .inr (.inr (some 82))), (1, .inl dep)], [.inl 3, .inl 0, .inl z56], (I, L, X), 0, 0) (fun _ => rfl) ?_
        refine yi_G_calls rfl rfl (c_within d (by omega) hS) ?_
        rintro _ (⟨c57, rfl⟩ | ⟨c57, rfl⟩)
        · show yi_G zi_Ms d zi_m97 (103, [(2, .inl 1), (0, .inr (.inr (some 82))), (1, .inl dep)], [.inl 1], (I, L, X), 0, 0) _
          refine yi_G_if1 true rfl (by decide) ?_
          refine yi_G_run 2 (116, [(2, .inl 1), (0, .inr (.inr (some 82))), (1, .inl dep)], [.inl 5, .inl dep], (I, L, X), 0, 0) (fun _ => rfl) ?_
          by_cases h58 : dep = 5
          · refine yi_G_if2 false rfl (yi_ne_f h58) ?_
            refine yi_G_run 2 (121, [(2, .inl 1), (0, .inr (.inr (some 82))), (1, .inl dep)], [.inl 5, .inr (.inr (some 82))], (I, L, X), 0, 0) (fun _ => rfl) ?_
            refine yi_G_callv rfl rfl (ym_rcv hS) rfl (c_wrong d (by omega) hS ⟨by omega, by omega⟩ hT ⟨by omega, by omega⟩ (by omega)) ?_
            rintro _ ⟨I59, rfl, f60, h61⟩
            show yi_G zi_Ms d zi_m97 (124, [(2, .inl 1), (0, .inr (.inr (some 82))), (1, .inl dep)], [], (I59, L, X), 0, 0) _
            have r62 : I59 82 7 = I 82 7 := by rw [f60 82 (7) (by omega)]
            have r63 : I59 82 7 = I 82 7 := by rw [f60 82 (7) (by omega)]
            exact pt124 I59 (fun p k hp => by rw [f60 p k (by omega)]) (by omega) (by omega)
          · refine yi_G_if2 true rfl (yi_ne_t h58) ?_
            exact pt124 I (fun _ _ _ => rfl) (by omega) (by omega)
        · show yi_G zi_Ms d zi_m97 (103, [(2, .inl 1), (0, .inr (.inr (some 82))), (1, .inl dep)], [.inl 0], (I, L, X), 0, 0) _
          refine yi_G_if1 false rfl (by decide) ?_
          refine yi_G_run 2 (108, [(2, .inl 1), (0, .inr (.inr (some 82))), (1, .inl dep)], [.inl 2, .inr (.inr (some 82))], (I, L, X), 0, 0) (fun _ => rfl) ?_
          refine yi_G_callv rfl rfl (ym_rcv hS) rfl (c_wrong d (by omega) hS ⟨by omega, by omega⟩ hT ⟨by omega, by omega⟩ (by omega)) ?_
          rintro _ ⟨I64, rfl, f65, h66⟩
          show yi_G zi_Ms d zi_m97 (111, [(2, .inl 1), (0, .inr (.inr (some 82))), (1, .inl dep)], [], (I64, L, X), 0, 0) _
          refine yi_G_run 1 (124, [(2, .inl 1), (0, .inr (.inr (some 82))), (1, .inl dep)], [], (I64, L, X), 0, 0) (fun _ => rfl) ?_
          have r67 : I64 82 7 = I 82 7 := by rw [f65 82 (7) (by omega)]
          have r68 : I64 82 7 = I 82 7 := by rw [f65 82 (7) (by omega)]
          exact pt124 I64 (fun p k hp => by rw [f65 p k (by omega)]) (by omega) (by omega)
      · show yi_G zi_Ms d zi_m97 (91, [(2, .inl 1), (0, .inr (.inr (some 82))), (1, .inl dep)], [.inl 0], (I, L, X), 0, 0) _
        refine yi_G_if1 true rfl (by decide) ?_
        refine yi_G_run 2 (116, [(2, .inl 1), (0, .inr (.inr (some 82))), (1, .inl dep)], [.inl 5, .inl dep], (I, L, X), 0, 0) (fun _ => rfl) ?_
        by_cases h69 : dep = 5
        · refine yi_G_if2 false rfl (yi_ne_f h69) ?_
          refine yi_G_run 2 (121, [(2, .inl 1), (0, .inr (.inr (some 82))), (1, .inl dep)], [.inl 5, .inr (.inr (some 82))], (I, L, X), 0, 0) (fun _ => rfl) ?_
          refine yi_G_callv rfl rfl (ym_rcv hS) rfl (c_wrong d (by omega) hS ⟨by omega, by omega⟩ hT ⟨by omega, by omega⟩ (by omega)) ?_
          rintro _ ⟨I70, rfl, f71, h72⟩
          show yi_G zi_Ms d zi_m97 (124, [(2, .inl 1), (0, .inr (.inr (some 82))), (1, .inl dep)], [], (I70, L, X), 0, 0) _
          have r73 : I70 82 7 = I 82 7 := by rw [f71 82 (7) (by omega)]
          have r74 : I70 82 7 = I 82 7 := by rw [f71 82 (7) (by omega)]
          exact pt124 I70 (fun p k hp => by rw [f71 p k (by omega)]) (by omega) (by omega)
        · refine yi_G_if2 true rfl (yi_ne_t h69) ?_
          exact pt124 I (fun _ _ _ => rfl) (by omega) (by omega)
    refine yi_G_run 1 (9, [(0, .inr (.inr (some 82))), (1, .inl dep)], [.inr (.inr (some 82))], (I, L, X), 0, 0) (fun _ => rfl) ?_
    refine yi_G_callv rfl rfl (ym_rcv hS) rfl (c_isName d (by omega) hS hT ⟨by omega, by omega⟩) ?_
    rintro _ (⟨⟨c75a, c75b⟩, rfl⟩ | rfl)
    · show yi_G zi_Ms d zi_m97 (12, [(0, .inr (.inr (some 82))), (1, .inl dep)], [.inl 1], (I, L, X), 0, 0) _
      refine yi_G_if1 true rfl (by decide) ?_
      exact pt69  (by omega)
    · show yi_G zi_Ms d zi_m97 (12, [(0, .inr (.inr (some 82))), (1, .inl dep)], [.inl 0], (I, L, X), 0, 0) _
      refine yi_G_if1 false rfl (by decide) ?_
      refine yi_G_run 2 (18, [(0, .inr (.inr (some 82))), (1, .inl dep)], [.inl 10, .inr (.inr (some 82))], (I, L, X), 0, 0) (fun _ => rfl) ?_
      refine yi_G_callv rfl rfl (ym_rcv hS) rfl (c_isWord1 d (by omega) hS ⟨by omega, by omega⟩ rfl rfl rfl rfl ⟨by omega, by omega⟩) ?_
      rintro _ (⟨c76, rfl⟩ | ⟨c76, rfl⟩)
      · have lt77 : I 82 7 < te := ym_TK_lt hT (by omega) (by omega)
        show yi_G zi_Ms d zi_m97 (21, [(0, .inr (.inr (some 82))), (1, .inl dep)], [.inl 1], (I, L, X), 0, 0) _
        refine yi_G_if1 true rfl (by decide) ?_
        exact pt69  (by omega)
      · show yi_G zi_Ms d zi_m97 (21, [(0, .inr (.inr (some 82))), (1, .inl dep)], [.inl 0], (I, L, X), 0, 0) _
        refine yi_G_if1 false rfl (by decide) ?_
        refine yi_G_run 2 (27, [(0, .inr (.inr (some 82))), (1, .inl dep)], [.inl 11, .inr (.inr (some 82))], (I, L, X), 0, 0) (fun _ => rfl) ?_
        refine yi_G_callv rfl rfl (ym_rcv hS) rfl (c_isWord1 d (by omega) hS ⟨by omega, by omega⟩ rfl rfl rfl rfl ⟨by omega, by omega⟩) ?_
        rintro _ (⟨c78, rfl⟩ | ⟨c78, rfl⟩)
        · have lt79 : I 82 7 < te := ym_TK_lt hT (by omega) (by omega)
          show yi_G zi_Ms d zi_m97 (30, [(0, .inr (.inr (some 82))), (1, .inl dep)], [.inl 1], (I, L, X), 0, 0) _
          refine yi_G_if1 true rfl (by decide) ?_
          exact pt69  (by omega)
        · show yi_G zi_Ms d zi_m97 (30, [(0, .inr (.inr (some 82))), (1, .inl dep)], [.inl 0], (I, L, X), 0, 0) _
          refine yi_G_if1 false rfl (by decide) ?_
          refine yi_G_run 2 (36, [(0, .inr (.inr (some 82))), (1, .inl dep)], [.inl 12, .inr (.inr (some 82))], (I, L, X), 0, 0) (fun _ => rfl) ?_
          refine yi_G_callv rfl rfl (ym_rcv hS) rfl (c_isWord1 d (by omega) hS ⟨by omega, by omega⟩ rfl rfl rfl rfl ⟨by omega, by omega⟩) ?_
          rintro _ (⟨c80, rfl⟩ | ⟨c80, rfl⟩)
          · have lt81 : I 82 7 < te := ym_TK_lt hT (by omega) (by omega)
            show yi_G zi_Ms d zi_m97 (39, [(0, .inr (.inr (some 82))), (1, .inl dep)], [.inl 1], (I, L, X), 0, 0) _
            refine yi_G_if1 true rfl (by decide) ?_
            exact pt69  (by omega)
          · show yi_G zi_Ms d zi_m97 (39, [(0, .inr (.inr (some 82))), (1, .inl dep)], [.inl 0], (I, L, X), 0, 0) _
            refine yi_G_if1 false rfl (by decide) ?_
            refine yi_G_run 2 (45, [(0, .inr (.inr (some 82))), (1, .inl dep)], [.inl 13, .inr (.inr (some 82))], (I, L, X), 0, 0) (fun _ => rfl) ?_
            refine yi_G_callv rfl rfl (ym_rcv hS) rfl (c_isWord1 d (by omega) hS ⟨by omega, by omega⟩ rfl rfl rfl rfl ⟨by omega, by omega⟩) ?_
            rintro _ (⟨c82, rfl⟩ | ⟨c82, rfl⟩)
            · have lt83 : I 82 7 < te := ym_TK_lt hT (by omega) (by omega)
              show yi_G zi_Ms d zi_m97 (48, [(0, .inr (.inr (some 82))), (1, .inl dep)], [.inl 1], (I, L, X), 0, 0) _
              refine yi_G_if1 true rfl (by decide) ?_
              exact pt69  (by omega)
            · show yi_G zi_Ms d zi_m97 (48, [(0, .inr (.inr (some 82))), (1, .inl dep)], [.inl 0], (I, L, X), 0, 0) _
              refine yi_G_if1 false rfl (by decide) ?_
              refine yi_G_run 2 (54, [(0, .inr (.inr (some 82))), (1, .inl dep)], [.inl 26, .inr (.inr (some 82))], (I, L, X), 0, 0) (fun _ => rfl) ?_
              refine yi_G_callv rfl rfl (ym_rcv hS) rfl (c_isWord1 d (by omega) hS ⟨by omega, by omega⟩ rfl rfl rfl rfl ⟨by omega, by omega⟩) ?_
              rintro _ (⟨c84, rfl⟩ | ⟨c84, rfl⟩)
              · have lt85 : I 82 7 < te := ym_TK_lt hT (by omega) (by omega)
                show yi_G zi_Ms d zi_m97 (57, [(0, .inr (.inr (some 82))), (1, .inl dep)], [.inl 1], (I, L, X), 0, 0) _
                refine yi_G_if1 true rfl (by decide) ?_
                exact pt69  (by omega)
              · show yi_G zi_Ms d zi_m97 (57, [(0, .inr (.inr (some 82))), (1, .inl dep)], [.inl 0], (I, L, X), 0, 0) _
                refine yi_G_if1 false rfl (by decide) ?_
                refine yi_G_run 2 (63, [(0, .inr (.inr (some 82))), (1, .inl dep)], [.inl 40, .inr (.inr (some 82))], (I, L, X), 0, 0) (fun _ => rfl) ?_
                refine yi_G_callv rfl rfl (ym_rcv hS) rfl (c_isSign d (by omega) hS rfl rfl rfl rfl ⟨by omega, by omega⟩) ?_
                rintro _ (⟨c86, rfl⟩ | ⟨c86, rfl⟩)
                · have lt87 : I 82 7 < te := ym_TK_lt hT (by omega) (by omega)
                  show yi_G zi_Ms d zi_m97 (66, [(0, .inr (.inr (some 82))), (1, .inl dep)], [.inl 1], (I, L, X), 0, 0) _
                  refine yi_G_if1 false rfl (by decide) ?_
                  exact pt69  (by omega)
                · show yi_G zi_Ms d zi_m97 (66, [(0, .inr (.inr (some 82))), (1, .inl dep)], [.inl 0], (I, L, X), 0, 0) _
                  refine yi_G_if1 true rfl (by decide) ?_
                  refine yi_G_run 2 (75, [(2, .inl 0), (0, .inr (.inr (some 82))), (1, .inl dep)], [], (I, L, X), 0, 0) (fun _ => rfl) ?_
                  have pt124 : ∀ (Ja : Nat → Nat → Int), (∀ p k, ¬ (p = 82 ∧ k = 8) → Ja p k = I p k) → (0 ≤ Ja 82 8) → (Ja 82 8 = 0 → dep ≤ 4 ∧ I 82 8 = 0) → yi_G zi_Ms d zi_m97 (124, [(2, .inl 0), (0, .inr (.inr (some 82))), (1, .inl dep)], [], (Ja, L, X), 0, 0) (ym_RQ I L X te n) := by
                    intro Ja fJa j0 j1 
                    refine yi_G_run 1 (125, [(2, .inl 0), (0, .inr (.inr (some 82))), (1, .inl dep)], [.inr (.inr (some 82))], (Ja, L, X), 0, 0) (fun _ => rfl) ?_
                    skip
                    refine yi_G_get (128, [(2, .inl 0), (0, .inr (.inr (some 82))), (1, .inl dep)], [.inl (Ja 82 8)], (Ja, L, X), 0, 0) rfl (ym_gi hS rfl rfl rfl) ?_
                    by_cases h88 : (Ja 82 8) ≤ 0
                    · refine yi_G_if1 true rfl (yi_le_t h88) ?_
                      refine yi_G_run 2 (135, [(2, .inl 0), (0, .inr (.inr (some 82))), (1, .inl dep)], [.inl 26, .inr (.inr (some 82))], (Ja, L, X), 0, 0) (fun _ => rfl) ?_
                      have r89 : Ja 82 7 = I 82 7 := by rw [fJa 82 (7) (by omega)]
                      have r90 : Ja 84 ((I 82 7).toNat) = I 84 ((I 82 7).toNat) := by rw [fJa 84 ((I 82 7).toNat) (by omega)]
                      refine yi_G_callv rfl rfl (ym_rcv hS) rfl (c_hasWord d (by omega) hS ⟨by omega, by omega⟩ r89 rfl r90 rfl ⟨by omega, by omega⟩) ?_
                      rintro _ (⟨c93, I91, rfl, f92, c93b⟩ | ⟨c93, I91, rfl, f92, c93b⟩)
                      · have lt94 : I 82 7 < te := ym_TK_lt hT (by omega) (by omega)
                        show yi_G zi_Ms d zi_m97 (138, [(2, .inl 0), (0, .inr (.inr (some 82))), (1, .inl dep)], [.inl 1], (I91, L, X), 0, 0) _
                        refine yi_G_if1 false rfl (by decide) ?_
                        refine yi_G_run 3 (144, [(2, .inl 0), (0, .inr (.inr (some 82))), (1, .inl dep)], [.inl 1, .inl dep, .inr (.inr (some 82))], (I91, L, X), 0, 0) (fun _ => rfl) ?_
                        refine yi_G_iadd rfl (dep + 1) (yi_wn (by omega) (by omega)) ?_
                        skip
                        have r95 : I91 82 13 = I 82 13 := by rw [f92 82 (13) (by omega), fJa 82 (13) (by omega)]
                        have r96 : I91 82 18 = I 82 18 := by rw [f92 82 (18) (by omega), fJa 82 (18) (by omega)]
                        have r97 : I91 82 19 = I 82 19 := by rw [f92 82 (19) (by omega), fJa 82 (19) (by omega)]
                        have r98 : I91 82 8 = Ja 82 8 := by rw [f92 82 (8) (by omega)]
                        have r99 : I91 82 20 = I 82 20 := by rw [f92 82 (20) (by omega), fJa 82 (20) (by omega)]
                        refine yi_G_callv rfl rfl (ym_rcv hS) rfl (hIt (by omega) d (by omega) I91 L te (I 82 13) (ym_TK_t (fun k => by rw [f92 84 k (by omega), fJa 84 k (by omega)]) (fun k => by rw [f92 85 k (by omega), fJa 85 k (by omega)]) hT) ⟨by omega, by omega⟩ (by omega) ⟨(by rw [r96]; omega), (by rw [r96]; omega)⟩ ⟨(by rw [r97]; omega), (by rw [r97]; omega)⟩ (ym_DY_t r99 (fun k => by rw [f92 88 k (by omega), fJa 88 k (by omega)]) hDY) r95 ⟨by omega, by omega⟩) ?_
                        rintro _ ⟨I100, rfl, f101, h102a, h102b, h102c, h102d, lwI100, sgI100⟩
                        show yi_G zi_Ms d zi_m97 (148, [(2, .inl 0), (0, .inr (.inr (some 82))), (1, .inl dep)], [], (I100, L, X), 0, 0) _
                        refine yi_G_run 3 (151, [(2, .inl 0), (0, .inr (.inr (some 82))), (1, .inl dep)], [.inl 0, .inl 3, .inr (.inr (some 82))], (I100, L, X), 0, 0) (fun _ => rfl) ?_
                        refine yi_G_callv rfl rfl (ym_rcv hS) rfl (c_emit d (by omega) hS rfl ⟨by omega, by omega⟩) ?_
                        rintro _ ⟨I103, rfl, f104, eI103, emI103⟩
                        show yi_G zi_Ms d zi_m97 (154, [(2, .inl 0), (0, .inr (.inr (some 82))), (1, .inl dep)], [], (I103, L, X), 0, 0) _
                        refine yi_G_run 1 (192, [(2, .inl 0), (0, .inr (.inr (some 82))), (1, .inl dep)], [], (I103, L, X), 0, 0) (fun _ => rfl) ?_
                        have r105 : I103 82 7 = I100 82 7 := by rw [f104 82 (7) (by omega)]
                        have r106 : I103 82 8 = I100 82 8 := by rw [f104 82 (8) (by omega)]
                        exact yi_G_retv rfl rfl (⟨_, rfl, (fun p k hp => by rw [f104 p k (by omega), f101 p k (by omega), f92 p k (by omega), fJa p k (by omega)]), ⟨by omega, by omega⟩, by omega, ⟨by omega, by omega⟩, by omega, ym_LW_t (ym_LW_g lwI100 (fun k => by rw [f92 89 k (by omega), fJa 89 k (by omega)]) (fun k => by rw [f92 90 k (by omega), fJa 90 k (by omega)])) (ym_LW_e (n := n) emI103 (by omega) (by omega)) (Int.le_refl _), fun zz => by rw [eI103]; exact ym_SG_not (sgI100 (by omega)) emI103⟩)
                      · show yi_G zi_Ms d zi_m97 (138, [(2, .inl 0), (0, .inr (.inr (some 82))), (1, .inl dep)], [.inl 0], (I91, L, X), 0, 0) _
                        refine yi_G_if1 true rfl (by decide) ?_
                        refine yi_G_run 2 (160, [(2, .inl 0), (0, .inr (.inr (some 82))), (1, .inl dep)], [.inl 40, .inr (.inr (some 82))], (I91, L, X), 0, 0) (fun _ => rfl) ?_
                        have r107 : I91 82 8 = Ja 82 8 := by rw [f92 82 (8) (by omega)]
                        have r108 : I91 84 ((I91 82 7).toNat) = I 84 ((I91 82 7).toNat) := by rw [f92 84 ((I91 82 7).toNat) (by omega), fJa 84 ((I91 82 7).toNat) (by omega)]
                        refine yi_G_callv rfl rfl (ym_rcv hS) rfl (c_hasSign d (by omega) hS rfl r107 r108 rfl ⟨by omega, by omega⟩) ?_
                        rintro _ (⟨c111, I109, rfl, f110, c111b⟩ | ⟨c111, I109, rfl, f110, c111b⟩)
                        · have lt112 : I91 82 7 < te := ym_TK_lt hT (by omega) (by omega)
                          show yi_G zi_Ms d zi_m97 (163, [(2, .inl 0), (0, .inr (.inr (some 82))), (1, .inl dep)], [.inl 1], (I109, L, X), 0, 0) _
                          refine yi_G_if1 false rfl (by decide) ?_
                          refine yi_G_run 3 (169, [(2, .inl 0), (0, .inr (.inr (some 82))), (1, .inl dep)], [.inl 1, .inl dep, .inr (.inr (some 82))], (I109, L, X), 0, 0) (fun _ => rfl) ?_
                          refine yi_G_iadd rfl (dep + 1) (yi_wn (by omega) (by omega)) ?_
                          have r113 : I109 82 13 = I 82 13 := by rw [f110 82 (13) (by omega), f92 82 (13) (by omega), fJa 82 (13) (by omega)]
                          have r114 : I109 82 18 = I 82 18 := by rw [f110 82 (18) (by omega), f92 82 (18) (by omega), fJa 82 (18) (by omega)]
                          have r115 : I109 82 19 = I 82 19 := by rw [f110 82 (19) (by omega), f92 82 (19) (by omega), fJa 82 (19) (by omega)]
                          have r116 : I109 82 8 = Ja 82 8 := by rw [f110 82 (8) (by omega), f92 82 (8) (by omega)]
                          have r117 : I109 82 20 = I 82 20 := by rw [f110 82 (20) (by omega), f92 82 (20) (by omega), fJa 82 (20) (by omega)]
                          refine yi_G_callv rfl rfl (ym_rcv hS) rfl (hFo (by omega) d (by omega) I109 L te (I 82 13) (ym_TK_t (fun k => by rw [f110 84 k (by omega), f92 84 k (by omega), fJa 84 k (by omega)]) (fun k => by rw [f110 85 k (by omega), f92 85 k (by omega), fJa 85 k (by omega)]) hT) ⟨by omega, by omega⟩ (by omega) ⟨(by rw [r114]; omega), (by rw [r114]; omega)⟩ ⟨(by rw [r115]; omega), (by rw [r115]; omega)⟩ (ym_DY_t r117 (fun k => by rw [f110 88 k (by omega), f92 88 k (by omega), fJa 88 k (by omega)]) hDY) r113 ⟨by omega, by omega⟩) ?_
                          rintro _ ⟨I118, rfl, f119, h120a, h120b, h120c, h120d, lwI118, sgI118⟩
                          show yi_G zi_Ms d zi_m97 (173, [(2, .inl 0), (0, .inr (.inr (some 82))), (1, .inl dep)], [], (I118, L, X), 0, 0) _
                          refine yi_G_run 2 (176, [(2, .inl 0), (0, .inr (.inr (some 82))), (1, .inl dep)], [.inl 41, .inr (.inr (some 82))], (I118, L, X), 0, 0) (fun _ => rfl) ?_
                          skip
                          refine yi_G_callv rfl rfl (ym_rcv hS) rfl (c_takeSign d (by omega) hS (ym_TK_t (fun k => by rw [f119 84 k (by omega), f110 84 k (by omega), f92 84 k (by omega), fJa 84 k (by omega)]) (fun k => by rw [f119 85 k (by omega), f110 85 k (by omega), f92 85 k (by omega), fJa 85 k (by omega)]) hT) ⟨by omega, by omega⟩ (by omega)) ?_
                          rintro _ ⟨I121, rfl, f122, h123a, h123b, h123c⟩
                          show yi_G zi_Ms d zi_m97 (179, [(2, .inl 0), (0, .inr (.inr (some 82))), (1, .inl dep)], [], (I121, L, X), 0, 0) _
                          refine yi_G_run 1 (192, [(2, .inl 0), (0, .inr (.inr (some 82))), (1, .inl dep)], [], (I121, L, X), 0, 0) (fun _ => rfl) ?_
                          have r124 : I121 82 13 = I118 82 13 := by rw [f122 82 (13) (by omega)]
                          have r125 : I121 82 13 = I118 82 13 := by rw [f122 82 (13) (by omega)]
                          exact yi_G_retv rfl rfl (⟨_, rfl, (fun p k hp => by rw [f122 p k (by omega), f119 p k (by omega), f110 p k (by omega), f92 p k (by omega), fJa p k (by omega)]), ⟨by omega, by omega⟩, by omega, ⟨by omega, by omega⟩, by omega, (ym_LW_f (ym_LW_g lwI118 (fun k => by rw [f110 89 k (by omega), f92 89 k (by omega), fJa 89 k (by omega)]) (fun k => by rw [f110 90 k (by omega), f92 90 k (by omega), fJa 90 k (by omega)])) (fun k => by rw [f122 89 k (by omega)]) (fun k => by rw [f122 90 k (by omega)])), fun zz => by rw [r125]; exact ym_SG_t (sgI118 (by omega)) (ym_LW_f (ym_LW_r _ _) (fun k => by rw [f122 89 k (by omega)]) (fun k => by rw [f122 90 k (by omega)]))⟩)
                        · show yi_G zi_Ms d zi_m97 (163, [(2, .inl 0), (0, .inr (.inr (some 82))), (1, .inl dep)], [.inl 0], (I109, L, X), 0, 0) _
                          refine yi_G_if1 true rfl (by decide) ?_
                          refine yi_G_run 3 (186, [(2, .inl 0), (0, .inr (.inr (some 82))), (1, .inl dep)], [.inr (.inr (some 82)), .inl 11, .inr (.inr (some 82))], (I109, L, X), 0, 0) (fun _ => rfl) ?_
                          skip
                          have r126 : I109 82 18 = I 82 18 := by rw [f110 82 (18) (by omega), f92 82 (18) (by omega), fJa 82 (18) (by omega)]
                          have r127 : I109 82 19 = I 82 19 := by rw [f110 82 (19) (by omega), f92 82 (19) (by omega), fJa 82 (19) (by omega)]
                          have r128 : I109 82 8 = Ja 82 8 := by rw [f110 82 (8) (by omega), f92 82 (8) (by omega)]
                          have r129 : I109 82 20 = I 82 20 := by rw [f110 82 (20) (by omega), f92 82 (20) (by omega), fJa 82 (20) (by omega)]
                          refine yi_G_callv rfl rfl (ym_rcv hS) rfl (c_readClause d (by omega) hS ⟨(by rw [r126]; omega), (by rw [r126]; omega)⟩ ⟨(by rw [r127]; omega), (by rw [r127]; omega)⟩ (ym_TK_t (fun k => by rw [f110 84 k (by omega), f92 84 k (by omega), fJa 84 k (by omega)]) (fun k => by rw [f110 85 k (by omega), f92 85 k (by omega), fJa 85 k (by omega)]) hT) ⟨by omega, by omega⟩ (by omega) (ym_DY_t r129 (fun k => by rw [f110 88 k (by omega), f92 88 k (by omega), fJa 88 k (by omega)]) hDY)) ?_
                          rintro _ ⟨z132, I130, rfl, f131, h133a, h133b, h133c⟩
                          show yi_G zi_Ms d zi_m97 (189, [(2, .inl 0), (0, .inr (.inr (some 82))), (1, .inl dep)], [.inl z132, .inl 11, .inr (.inr (some 82))], (I130, L, X), 0, 0) _
                          have r134 : I130 82 13 = I 82 13 := by rw [f131 82 (13) (by omega), f110 82 (13) (by omega), f92 82 (13) (by omega), fJa 82 (13) (by omega)]
                          refine yi_G_callv rfl rfl (ym_rcv hS) rfl (c_emit d (by omega) hS r134 ⟨by omega, by omega⟩) ?_
                          rintro _ ⟨I135, rfl, f136, eI135, emI135⟩
                          show yi_G zi_Ms d zi_m97 (192, [(2, .inl 0), (0, .inr (.inr (some 82))), (1, .inl dep)], [], (I135, L, X), 0, 0) _
                          have r137 : I135 82 7 = I130 82 7 := by rw [f136 82 (7) (by omega)]
                          have r138 : I135 82 8 = I130 82 8 := by rw [f136 82 (8) (by omega)]
                          exact yi_G_retv rfl rfl (⟨_, rfl, (fun p k hp => by rw [f136 p k (by omega), f131 p k (by omega), f110 p k (by omega), f92 p k (by omega), fJa p k (by omega)]), ⟨by omega, by omega⟩, by omega, ⟨by omega, by omega⟩, by omega, ym_LW_g (ym_LW_e (n := n) emI135 (by omega) (by omega)) (fun k => by rw [f131 89 k (by omega), f110 89 k (by omega), f92 89 k (by omega), fJa 89 k (by omega)]) (fun k => by rw [f131 90 k (by omega), f110 90 k (by omega), f92 90 k (by omega), fJa 90 k (by omega)]), fun zz => by rw [eI135]; exact ym_SG_leaf emI135 (by omega) (Or.inr (Or.inr ⟨rfl, (h133c (by omega)).2⟩))⟩)
                    · refine yi_G_if1 false rfl (yi_le_f h88) ?_
                      have r139 : Ja 82 7 = I 82 7 := by rw [fJa 82 (7) (by omega)]
                      have r140 : Ja 82 13 = I 82 13 := by rw [fJa 82 (13) (by omega)]
                      exact yi_G_retv rfl rfl (⟨_, rfl, (fun p k hp => by rw [fJa p k (by omega)]), ⟨by omega, by omega⟩, by omega, ⟨by omega, by omega⟩, by omega, (ym_LW_f (ym_LW_r _ _) (fun k => by rw [fJa 89 k (by omega)]) (fun k => by rw [fJa 90 k (by omega)])), fun zz => absurd zz (by omega)⟩)
                  refine yi_G_run 1 (76, [(2, .inl 0), (0, .inr (.inr (some 82))), (1, .inl dep)], [.inl 0], (I, L, X), 0, 0) (fun _ => rfl) ?_
                  refine yi_G_if1 false rfl (by decide) ?_
                  refine yi_G_run 2 (81, [(2, .inl 0), (0, .inr (.inr (some 82))), (1, .inl dep)], [.inl 1, .inr (.inr (some 82))], (I, L, X), 0, 0) (fun _ => rfl) ?_
                  refine yi_G_callv rfl rfl (ym_rcv hS) rfl (c_wrong d (by omega) hS ⟨by omega, by omega⟩ hT ⟨by omega, by omega⟩ (by omega)) ?_
                  rintro _ ⟨I141, rfl, f142, h143⟩
                  show yi_G zi_Ms d zi_m97 (84, [(2, .inl 0), (0, .inr (.inr (some 82))), (1, .inl dep)], [], (I141, L, X), 0, 0) _
                  refine yi_G_run 1 (124, [(2, .inl 0), (0, .inr (.inr (some 82))), (1, .inl dep)], [], (I141, L, X), 0, 0) (fun _ => rfl) ?_
                  have r144 : I141 82 7 = I 82 7 := by rw [f142 82 (7) (by omega)]
                  have r145 : I141 82 7 = I 82 7 := by rw [f142 82 (7) (by omega)]
                  exact pt124 I141 (fun p k hp => by rw [f142 p k (by omega)]) (by omega) (by omega)
  · refine yi_G_if1 false rfl (yi_le_f h1) ?_
    exact yi_G_retv rfl rfl (⟨_, rfl, (fun _ _ _ => rfl), ⟨by omega, by omega⟩, by omega, ⟨by omega, by omega⟩, by omega, (ym_LW_r _ _), fun zz => absurd zz (by omega)⟩)
theorem c_takePart_of {X : ym_X} (hS : ym_S X) {m : Nat} {dep : Int} (m0 : 6 ≤ m) (d0 : 0 ≤ dep ∧ dep ≤ 5) (hIt : dep ≤ 4 → ym_RC X 117 m (dep + 1)) (hFo : dep ≤ 4 → ym_RC X 87 m (dep + 1)) : ym_RC X 117 (m + 1) dep := by
  intro D hD I L te n hT a0 f0 n0 n1 hDY hn k0
  obtain ⟨d, rfl⟩ : ∃ d, D = d + 1 := ⟨D - 1, by omega⟩
  refine yi_E_of (M := zi_m117) rfl rfl ?_
  obtain ⟨te0, te1, te2⟩ := id hT
  show yi_G zi_Ms d zi_m117 (0, [(0, .inr (.inr (some 82))), (1, .inl dep)], [], (I, L, X), 0, 0) _
  refine yi_G_run 1 (1, [(0, .inr (.inr (some 82))), (1, .inl dep)], [.inr (.inr (some 82))], (I, L, X), 0, 0) (fun _ => rfl) ?_
  skip
  refine yi_G_get (4, [(0, .inr (.inr (some 82))), (1, .inl dep)], [.inl (I 82 8)], (I, L, X), 0, 0) rfl (ym_gi hS rfl rfl rfl) ?_
  by_cases h1 : (I 82 8) ≤ 0
  · refine yi_G_if1 true rfl (yi_le_t h1) ?_
    refine yi_G_run 1 (9, [(0, .inr (.inr (some 82))), (1, .inl dep)], [.inr (.inr (some 82))], (I, L, X), 0, 0) (fun _ => rfl) ?_
    refine yi_G_get (12, [(0, .inr (.inr (some 82))), (1, .inl dep)], [.inr (.inr (some 84))], (I, L, X), 0, 0) rfl (ym_gr hS 1 rfl rfl rfl) ?_
    refine yi_G_run 1 (13, [(0, .inr (.inr (some 82))), (1, .inl dep)], [.inr (.inr (some 82)), .inr (.inr (some 84))], (I, L, X), 0, 0) (fun _ => rfl) ?_
    refine yi_G_get (16, [(0, .inr (.inr (some 82))), (1, .inl dep)], [.inl (I 82 7), .inr (.inr (some 84))], (I, L, X), 0, 0) rfl (ym_gi hS rfl rfl rfl) ?_
    refine yi_G_iald (17, [(0, .inr (.inr (some 82))), (1, .inl dep)], [.inl (I 84 ((I 82 7).toNat))], (I, L, X), 0, 0) rfl (ym_li hS 1 rfl (by omega) (by omega) rfl) ?_
    refine yi_G_run 1 (18, [(0, .inr (.inr (some 82))), (1, .inl dep)], [.inl 2, .inl (I 84 ((I 82 7).toNat))], (I, L, X), 0, 0) (fun _ => rfl) ?_
    by_cases h2 : (I 84 ((I 82 7).toNat)) = 2
    · refine yi_G_if2 false rfl (yi_ne_f h2) ?_
      refine yi_G_run 6 (31, [(2, .inl 1), (0, .inr (.inr (some 82))), (1, .inl dep)], [.inl 3, .inl 29, .inr (.inr (some 82))], (I, L, X), 0, 0) (fun _ => rfl) ?_
      refine yi_G_callv rfl rfl (ym_rcv hS) rfl (c_wordHere d (by omega) hS ⟨by omega, by omega⟩ ⟨by omega, by omega⟩ hT ⟨by omega, by omega⟩) ?_
      rintro _ ⟨z3, rfl, h4⟩
      show yi_G zi_Ms d zi_m117 (34, [(2, .inl 1), (0, .inr (.inr (some 82))), (1, .inl dep)], [.inl z3], (I, L, X), 0, 0) _
      refine yi_G_run 1 (35, [(3, .inl z3), (2, .inl 1), (0, .inr (.inr (some 82))), (1, .inl dep)], [], (I, L, X), 0, 0) (fun _ => rfl) ?_
      have pt79 : ∀ (Ja : Nat → Nat → Int), (∀ p k, ¬ (p = 82 ∧ k = 8) → Ja p k = I p k) → (0 ≤ Ja 82 8) → (Ja 82 8 = 0 → dep ≤ 4 ∧ I 82 8 = 0 ∧ I 82 7 < te ∧ (0 ≤ fx ∨ I 84 (I 82 7).toNat = 2 ∨ (I 84 (I 82 7).toNat = 3 ∧ L 86 (I 82 7).toNat = 40) ∨ (I 84 (I 82 7).toNat = 1 ∧ L 86 (I 82 7).toNat = L 87 (26 : Int).toNat))) → yi_G zi_Ms d zi_m117 (79, [(3, .inl z3), (2, .inl 1), (0, .inr (.inr (some 82))), (1, .inl dep)], [], (Ja, L, X), 0, 0) (ym_RQ I L X te n) := by
        intro Ja fJa j0 j1 
        refine yi_G_run 1 (80, [(3, .inl z3), (2, .inl 1), (0, .inr (.inr (some 82))), (1, .inl dep)], [.inr (.inr (some 82))], (Ja, L, X), 0, 0) (fun _ => rfl) ?_
        skip
        refine yi_G_get (83, [(3, .inl z3), (2, .inl 1), (0, .inr (.inr (some 82))), (1, .inl dep)], [.inl (Ja 82 8)], (Ja, L, X), 0, 0) rfl (ym_gi hS rfl rfl rfl) ?_
        by_cases h5 : (Ja 82 8) ≤ 0
        · refine yi_G_if1 true rfl (yi_le_t h5) ?_
          refine yi_G_run 2 (90, [(3, .inl z3), (2, .inl 1), (0, .inr (.inr (some 82))), (1, .inl dep)], [.inl 26, .inr (.inr (some 82))], (Ja, L, X), 0, 0) (fun _ => rfl) ?_
          have r6 : Ja 82 7 = I 82 7 := by rw [fJa 82 (7) (by omega)]
          have r7 : Ja 84 ((I 82 7).toNat) = I 84 ((I 82 7).toNat) := by rw [fJa 84 ((I 82 7).toNat) (by omega)]
          refine yi_G_callv rfl rfl (ym_rcv hS) rfl (c_hasWord d (by omega) hS ⟨by omega, by omega⟩ r6 rfl r7 rfl ⟨by omega, by omega⟩) ?_
          rintro _ (⟨c10, I8, rfl, f9, c10b⟩ | ⟨c10, I8, rfl, f9, c10b⟩)
          · have lt11 : I 82 7 < te := ym_TK_lt hT (by omega) (by omega)
            show yi_G zi_Ms d zi_m117 (93, [(3, .inl z3), (2, .inl 1), (0, .inr (.inr (some 82))), (1, .inl dep)], [.inl 1], (I8, L, X), 0, 0) _
            refine yi_G_if1 false rfl (by decide) ?_
            refine yi_G_run 3 (99, [(3, .inl z3), (2, .inl 1), (0, .inr (.inr (some 82))), (1, .inl dep)], [.inl 1, .inl dep, .inr (.inr (some 82))], (I8, L, X), 0, 0) (fun _ => rfl) ?_
            refine yi_G_iadd rfl (dep + 1) (yi_wn (by omega) (by omega)) ?_
            skip
            have r12 : I8 82 13 = I 82 13 := by rw [f9 82 (13) (by omega), fJa 82 (13) (by omega)]
            have r13 : I8 82 18 = I 82 18 := by rw [f9 82 (18) (by omega), fJa 82 (18) (by omega)]
            have r14 : I8 82 19 = I 82 19 := by rw [f9 82 (19) (by omega), fJa 82 (19) (by omega)]
            have r15 : I8 82 8 = Ja 82 8 := by rw [f9 82 (8) (by omega)]
            have r16 : I8 82 20 = I 82 20 := by rw [f9 82 (20) (by omega), fJa 82 (20) (by omega)]
            refine yi_G_callv rfl rfl (ym_rcv hS) rfl (hIt (by omega) d (by omega) I8 L te (I 82 13) (ym_TK_t (fun k => by rw [f9 84 k (by omega), fJa 84 k (by omega)]) (fun k => by rw [f9 85 k (by omega), fJa 85 k (by omega)]) hT) ⟨by omega, by omega⟩ (by omega) ⟨(by rw [r13]; omega), (by rw [r13]; omega)⟩ ⟨(by rw [r14]; omega), (by rw [r14]; omega)⟩ (ym_DY_t r16 (fun k => by rw [f9 88 k (by omega), fJa 88 k (by omega)]) hDY) r12 ⟨by omega, by omega⟩) ?_
            rintro _ ⟨I17, rfl, f18, h19a, h19b, h19c, h19d, lwI17, sgI17⟩
            show yi_G zi_Ms d zi_m117 (103, [(3, .inl z3), (2, .inl 1), (0, .inr (.inr (some 82))), (1, .inl dep)], [], (I17, L, X), 0, 0) _
            refine yi_G_run 3 (106, [(3, .inl z3), (2, .inl 1), (0, .inr (.inr (some 82))), (1, .inl dep)], [.inl 0, .inl 3, .inr (.inr (some 82))], (I17, L, X), 0, 0) (fun _ => rfl) ?_
            refine yi_G_callv rfl rfl (ym_rcv hS) rfl (c_emit d (by omega) hS rfl ⟨by omega, by omega⟩) ?_
            rintro _ ⟨I20, rfl, f21, eI20, emI20⟩
            show yi_G zi_Ms d zi_m117 (109, [(3, .inl z3), (2, .inl 1), (0, .inr (.inr (some 82))), (1, .inl dep)], [], (I20, L, X), 0, 0) _
            refine yi_G_run 1 (178, [(3, .inl z3), (2, .inl 1), (0, .inr (.inr (some 82))), (1, .inl dep)], [], (I20, L, X), 0, 0) (fun _ => rfl) ?_
            have r22 : I20 82 7 = I17 82 7 := by rw [f21 82 (7) (by omega)]
            have r23 : I20 82 8 = I17 82 8 := by rw [f21 82 (8) (by omega)]
            exact yi_G_retv rfl rfl (⟨_, rfl, (fun p k hp => by rw [f21 p k (by omega), f18 p k (by omega), f9 p k (by omega), fJa p k (by omega)]), ⟨by omega, by omega⟩, by omega, ⟨by omega, by omega⟩, by omega, ym_LW_t (ym_LW_g lwI17 (fun k => by rw [f9 89 k (by omega), fJa 89 k (by omega)]) (fun k => by rw [f9 90 k (by omega), fJa 90 k (by omega)])) (ym_LW_e (n := n) emI20 (by omega) (by omega)) (Int.le_refl _), fun zz => by rw [eI20]; exact ym_SG_not (sgI17 (by omega)) emI20⟩)
          · show yi_G zi_Ms d zi_m117 (93, [(3, .inl z3), (2, .inl 1), (0, .inr (.inr (some 82))), (1, .inl dep)], [.inl 0], (I8, L, X), 0, 0) _
            refine yi_G_if1 true rfl (by decide) ?_
            refine yi_G_run 2 (115, [(3, .inl z3), (2, .inl 1), (0, .inr (.inr (some 82))), (1, .inl dep)], [.inl 40, .inr (.inr (some 82))], (I8, L, X), 0, 0) (fun _ => rfl) ?_
            have r24 : I8 82 8 = Ja 82 8 := by rw [f9 82 (8) (by omega)]
            have r25 : I8 84 ((I8 82 7).toNat) = I 84 ((I8 82 7).toNat) := by rw [f9 84 ((I8 82 7).toNat) (by omega), fJa 84 ((I8 82 7).toNat) (by omega)]
            refine yi_G_callv rfl rfl (ym_rcv hS) rfl (c_hasSign d (by omega) hS rfl r24 r25 rfl ⟨by omega, by omega⟩) ?_
            rintro _ (⟨c28, I26, rfl, f27, c28b⟩ | ⟨c28, I26, rfl, f27, c28b⟩)
            · have lt29 : I8 82 7 < te := ym_TK_lt hT (by omega) (by omega)
              show yi_G zi_Ms d zi_m117 (118, [(3, .inl z3), (2, .inl 1), (0, .inr (.inr (some 82))), (1, .inl dep)], [.inl 1], (I26, L, X), 0, 0) _
              refine yi_G_if1 false rfl (by decide) ?_
              refine yi_G_run 3 (124, [(3, .inl z3), (2, .inl 1), (0, .inr (.inr (some 82))), (1, .inl dep)], [.inl 1, .inl dep, .inr (.inr (some 82))], (I26, L, X), 0, 0) (fun _ => rfl) ?_
              refine yi_G_iadd rfl (dep + 1) (yi_wn (by omega) (by omega)) ?_
              have r30 : I26 82 13 = I 82 13 := by rw [f27 82 (13) (by omega), f9 82 (13) (by omega), fJa 82 (13) (by omega)]
              have r31 : I26 82 18 = I 82 18 := by rw [f27 82 (18) (by omega), f9 82 (18) (by omega), fJa 82 (18) (by omega)]
              have r32 : I26 82 19 = I 82 19 := by rw [f27 82 (19) (by omega), f9 82 (19) (by omega), fJa 82 (19) (by omega)]
              have r33 : I26 82 8 = Ja 82 8 := by rw [f27 82 (8) (by omega), f9 82 (8) (by omega)]
              have r34 : I26 82 20 = I 82 20 := by rw [f27 82 (20) (by omega), f9 82 (20) (by omega), fJa 82 (20) (by omega)]
              refine yi_G_callv rfl rfl (ym_rcv hS) rfl (hFo (by omega) d (by omega) I26 L te (I 82 13) (ym_TK_t (fun k => by rw [f27 84 k (by omega), f9 84 k (by omega), fJa 84 k (by omega)]) (fun k => by rw [f27 85 k (by omega), f9 85 k (by omega), fJa 85 k (by omega)]) hT) ⟨by omega, by omega⟩ (by omega) ⟨(by rw [r31]; omega), (by rw [r31]; omega)⟩ ⟨(by rw [r32]; omega), (by rw [r32]; omega)⟩ (ym_DY_t r34 (fun k => by rw [f27 88 k (by omega), f9 88 k (by omega), fJa 88 k (by omega)]) hDY) r30 ⟨by omega, by omega⟩) ?_
              rintro _ ⟨I35, rfl, f36, h37a, h37b, h37c, h37d, lwI35, sgI35⟩
              show yi_G zi_Ms d zi_m117 (128, [(3, .inl z3), (2, .inl 1), (0, .inr (.inr (some 82))), (1, .inl dep)], [], (I35, L, X), 0, 0) _
              refine yi_G_run 2 (131, [(3, .inl z3), (2, .inl 1), (0, .inr (.inr (some 82))), (1, .inl dep)], [.inl 41, .inr (.inr (some 82))], (I35, L, X), 0, 0) (fun _ => rfl) ?_
              skip
              refine yi_G_callv rfl rfl (ym_rcv hS) rfl (c_takeSign d (by omega) hS (ym_TK_t (fun k => by rw [f36 84 k (by omega), f27 84 k (by omega), f9 84 k (by omega), fJa 84 k (by omega)]) (fun k => by rw [f36 85 k (by omega), f27 85 k (by omega), f9 85 k (by omega), fJa 85 k (by omega)]) hT) ⟨by omega, by omega⟩ (by omega)) ?_
              rintro _ ⟨I38, rfl, f39, h40a, h40b, h40c⟩
              show yi_G zi_Ms d zi_m117 (134, [(3, .inl z3), (2, .inl 1), (0, .inr (.inr (some 82))), (1, .inl dep)], [], (I38, L, X), 0, 0) _
              refine yi_G_run 1 (178, [(3, .inl z3), (2, .inl 1), (0, .inr (.inr (some 82))), (1, .inl dep)], [], (I38, L, X), 0, 0) (fun _ => rfl) ?_
              have r41 : I38 82 13 = I35 82 13 := by rw [f39 82 (13) (by omega)]
              have r42 : I38 82 13 = I35 82 13 := by rw [f39 82 (13) (by omega)]
              exact yi_G_retv rfl rfl (⟨_, rfl, (fun p k hp => by rw [f39 p k (by omega), f36 p k (by omega), f27 p k (by omega), f9 p k (by omega), fJa p k (by omega)]), ⟨by omega, by omega⟩, by omega, ⟨by omega, by omega⟩, by omega, (ym_LW_f (ym_LW_g lwI35 (fun k => by rw [f27 89 k (by omega), f9 89 k (by omega), fJa 89 k (by omega)]) (fun k => by rw [f27 90 k (by omega), f9 90 k (by omega), fJa 90 k (by omega)])) (fun k => by rw [f39 89 k (by omega)]) (fun k => by rw [f39 90 k (by omega)])), fun zz => by rw [r42]; exact ym_SG_t (sgI35 (by omega)) (ym_LW_f (ym_LW_r _ _) (fun k => by rw [f39 89 k (by omega)]) (fun k => by rw [f39 90 k (by omega)]))⟩)
            · show yi_G zi_Ms d zi_m117 (118, [(3, .inl z3), (2, .inl 1), (0, .inr (.inr (some 82))), (1, .inl dep)], [.inl 0], (I26, L, X), 0, 0) _
              refine yi_G_if1 true rfl (by decide) ?_
              refine yi_G_run 2 (139, [(3, .inl z3), (2, .inl 1), (0, .inr (.inr (some 82))), (1, .inl dep)], [.inl 1, .inr (.inr (some 82))], (I26, L, X), 0, 0) (fun _ => rfl) ?_
              refine yi_G_if1 false rfl (by decide) ?_
              refine yi_G_run 3 (148, [(3, .inl z3), (2, .inl 1), (0, .inr (.inr (some 82))), (1, .inl dep)], [.inl 1, .inl 1, .inr (.inr (some 82))], (I26, L, X), 0, 0) (fun _ => rfl) ?_
              refine yi_G_if1 false rfl (by decide) ?_
              refine yi_G_run 1 (152, [(3, .inl z3), (2, .inl 1), (0, .inr (.inr (some 82))), (1, .inl dep)], [.inr (.inr (some 82)), .inl 1, .inr (.inr (some 82))], (I26, L, X), 0, 0) (fun _ => rfl) ?_
              refine yi_G_get (155, [(3, .inl z3), (2, .inl 1), (0, .inr (.inr (some 82))), (1, .inl dep)], [.inr (.inr (some 86)), .inl 1, .inr (.inr (some 82))], (I26, L, X), 0, 0) rfl (ym_gr hS 3 rfl rfl rfl) ?_
              refine yi_G_run 1 (156, [(3, .inl z3), (2, .inl 1), (0, .inr (.inr (some 82))), (1, .inl dep)], [.inr (.inr (some 82)), .inr (.inr (some 86)), .inl 1, .inr (.inr (some 82))], (I26, L, X), 0, 0) (fun _ => rfl) ?_
              refine yi_G_get (159, [(3, .inl z3), (2, .inl 1), (0, .inr (.inr (some 82))), (1, .inl dep)], [.inl (I26 82 7), .inr (.inr (some 86)), .inl 1, .inr (.inr (some 82))], (I26, L, X), 0, 0) rfl (ym_gi hS rfl rfl rfl) ?_
              refine yi_G_lald (160, [(3, .inl z3), (2, .inl 1), (0, .inr (.inr (some 82))), (1, .inl dep)], [.inr (.inl (L 86 ((I26 82 7).toNat))), .inl 1, .inr (.inr (some 82))], (I26, L, X), 0, 0) rfl (ym_ll hS 3 rfl (by omega) (by omega) rfl) ?_
              refine yi_G_run 2 (165, [(3, .inl z3), (2, .inl 1), (0, .inr (.inr (some 82))), (1, .inl dep)], [.inl (yi_w (L 86 ((I26 82 7).toNat))), .inl 1, .inr (.inr (some 82))], (I26, L, X), 0, 0) (fun _ => rfl) ?_
              skip
              have r43 : I26 82 13 = I 82 13 := by rw [f27 82 (13) (by omega), f9 82 (13) (by omega), fJa 82 (13) (by omega)]
              refine yi_G_callv rfl rfl (ym_rcv hS) rfl (c_emit d (by omega) hS r43 ⟨by omega, by omega⟩) ?_
              rintro _ ⟨I44, rfl, f45, eI44, emI44⟩
              show yi_G zi_Ms d zi_m117 (168, [(3, .inl z3), (2, .inl 1), (0, .inr (.inr (some 82))), (1, .inl dep)], [], (I44, L, X), 0, 0) _
              refine yi_G_run 2 (170, [(3, .inl z3), (2, .inl 1), (0, .inr (.inr (some 82))), (1, .inl dep)], [.inr (.inr (some 82)), .inr (.inr (some 82))], (I44, L, X), 0, 0) (fun _ => rfl) ?_
              have r46 : I44 82 7 = I26 82 7 := by rw [f45 82 (7) (by omega)]
              refine yi_G_get (173, [(3, .inl z3), (2, .inl 1), (0, .inr (.inr (some 82))), (1, .inl dep)], [.inl (I26 82 7), .inr (.inr (some 82))], (I44, L, X), 0, 0) rfl (ym_gi hS rfl rfl r46) ?_
              refine yi_G_run 1 (174, [(3, .inl z3), (2, .inl 1), (0, .inr (.inr (some 82))), (1, .inl dep)], [.inl 1, .inl (I26 82 7), .inr (.inr (some 82))], (I44, L, X), 0, 0) (fun _ => rfl) ?_
              refine yi_G_iadd rfl ((I26 82 7) + 1) (yi_wn (by omega) (by omega)) ?_
              refine yi_G_put (178, [(3, .inl z3), (2, .inl 1), (0, .inr (.inr (some 82))), (1, .inl dep)], [], ((yi_u I44 82 7 ((I26 82 7) + 1)), L, X), 0, 0) rfl (ym_pi hS rfl rfl) ?_
              generalize w48 : yi_u I44 82 7 ((I26 82 7) + 1) = I47
              have r49 : I47 82 7 = (I26 82 7) + 1 := by rw [← w48, yi_u_eq]
              have r50 : I47 82 8 = Ja 82 8 := by rw [← w48, yi_u_ne _ _ (by omega), f45 82 (8) (by omega), f27 82 (8) (by omega), f9 82 (8) (by omega)]
              have r51 : I47 82 13 = I44 82 13 := by rw [← w48, yi_u_ne _ _ (by omega)]
              have r52 : I47 82 13 = I44 82 13 := by rw [← w48, yi_u_ne _ _ (by omega)]
              exact yi_G_retv rfl rfl (⟨_, rfl, (fun p k hp => by rw [← w48, yi_u_ne _ _ (fun z => by omega), f45 p k (by omega), f27 p k (by omega), f9 p k (by omega), fJa p k (by omega)]), ⟨by omega, by omega⟩, by omega, ⟨by omega, by omega⟩, by omega, (ym_LW_f (ym_LW_g (ym_LW_e (n := n) emI44 (by omega) (by omega)) (fun k => by rw [f27 89 k (by omega), f9 89 k (by omega), fJa 89 k (by omega)]) (fun k => by rw [f27 90 k (by omega), f9 90 k (by omega), fJa 90 k (by omega)])) (fun k => by rw [← w48, yi_u_ne _ _ (fun z => absurd z.1 (by decide))]) (fun k => by rw [← w48, yi_u_ne _ _ (fun z => absurd z.1 (by decide))])), fun zz => by rw [r52, eI44]; exact ym_SG_t (ym_SG_leaf emI44 (by omega) (Or.inl rfl)) (ym_LW_f (ym_LW_r _ _) (fun k => by rw [← w48, yi_u_ne _ _ (fun z => absurd z.1 (by decide))]) (fun k => by rw [← w48, yi_u_ne _ _ (fun z => absurd z.1 (by decide))]))⟩)
        · refine yi_G_if1 false rfl (yi_le_f h5) ?_
          have r53 : Ja 82 7 = I 82 7 := by rw [fJa 82 (7) (by omega)]
          have r54 : Ja 82 13 = I 82 13 := by rw [fJa 82 (13) (by omega)]
          exact yi_G_retv rfl rfl (⟨_, rfl, (fun p k hp => by rw [fJa p k (by omega)]), ⟨by omega, by omega⟩, by omega, ⟨by omega, by omega⟩, by omega, (ym_LW_f (ym_LW_r _ _) (fun k => by rw [fJa 89 k (by omega)]) (fun k => by rw [fJa 90 k (by omega)])), fun zz => absurd zz (by omega)⟩)
      refine yi_G_run 1 (36, [(3, .inl z3), (2, .inl 1), (0, .inr (.inr (some 82))), (1, .inl dep)], [.inl z3], (I, L, X), 0, 0) (fun _ => rfl) ?_
      by_cases h55 : 0 ≤ z3
      · refine yi_G_if1 true rfl (yi_ge_t h55) ?_
        refine yi_G_run 2 (71, [(3, .inl z3), (2, .inl 1), (0, .inr (.inr (some 82))), (1, .inl dep)], [.inl 5, .inl dep], (I, L, X), 0, 0) (fun _ => rfl) ?_
        by_cases h56 : dep = 5
        · refine yi_G_if2 false rfl (yi_ne_f h56) ?_
          refine yi_G_run 2 (76, [(3, .inl z3), (2, .inl 1), (0, .inr (.inr (some 82))), (1, .inl dep)], [.inl 5, .inr (.inr (some 82))], (I, L, X), 0, 0) (fun _ => rfl) ?_
          refine yi_G_callv rfl rfl (ym_rcv hS) rfl (c_wrong d (by omega) hS ⟨by omega, by omega⟩ hT ⟨by omega, by omega⟩ (by omega)) ?_
          rintro _ ⟨I57, rfl, f58, h59⟩
          show yi_G zi_Ms d zi_m117 (79, [(3, .inl z3), (2, .inl 1), (0, .inr (.inr (some 82))), (1, .inl dep)], [], (I57, L, X), 0, 0) _
          have r60 : I57 82 7 = I 82 7 := by rw [f58 82 (7) (by omega)]
          have r61 : I57 82 7 = I 82 7 := by rw [f58 82 (7) (by omega)]
          exact pt79 I57 (fun p k hp => by rw [f58 p k (by omega)]) (by omega) (fun zz => ⟨by omega, by omega, ym_TK_lt hT (by omega) (by omega), by omega⟩)
        · refine yi_G_if2 true rfl (yi_ne_t h56) ?_
          exact pt79 I (fun _ _ _ => rfl) (by omega) (fun zz => ⟨by omega, by omega, ym_TK_lt hT (by omega) (by omega), by omega⟩)
      · refine yi_G_if1 false rfl (yi_ge_f h55) ?_
        refine yi_G_run 1 (40, [(3, .inl z3), (2, .inl 1), (0, .inr (.inr (some 82))), (1, .inl dep)], [.inl 1], (I, L, X), 0, 0) (fun _ => rfl) ?_
        refine yi_G_if1 true rfl (by decide) ?_
        refine yi_G_run 2 (71, [(3, .inl z3), (2, .inl 1), (0, .inr (.inr (some 82))), (1, .inl dep)], [.inl 5, .inl dep], (I, L, X), 0, 0) (fun _ => rfl) ?_
        by_cases h62 : dep = 5
        · refine yi_G_if2 false rfl (yi_ne_f h62) ?_
          refine yi_G_run 2 (76, [(3, .inl z3), (2, .inl 1), (0, .inr (.inr (some 82))), (1, .inl dep)], [.inl 5, .inr (.inr (some 82))], (I, L, X), 0, 0) (fun _ => rfl) ?_
          refine yi_G_callv rfl rfl (ym_rcv hS) rfl (c_wrong d (by omega) hS ⟨by omega, by omega⟩ hT ⟨by omega, by omega⟩ (by omega)) ?_
          rintro _ ⟨I63, rfl, f64, h65⟩
          show yi_G zi_Ms d zi_m117 (79, [(3, .inl z3), (2, .inl 1), (0, .inr (.inr (some 82))), (1, .inl dep)], [], (I63, L, X), 0, 0) _
          have r66 : I63 82 7 = I 82 7 := by rw [f64 82 (7) (by omega)]
          have r67 : I63 82 7 = I 82 7 := by rw [f64 82 (7) (by omega)]
          exact pt79 I63 (fun p k hp => by rw [f64 p k (by omega)]) (by omega) (fun zz => ⟨by omega, by omega, ym_TK_lt hT (by omega) (by omega), by omega⟩)
        · refine yi_G_if2 true rfl (yi_ne_t h62) ?_
          exact pt79 I (fun _ _ _ => rfl) (by omega) (fun zz => ⟨by omega, by omega, ym_TK_lt hT (by omega) (by omega), by omega⟩)
    · refine yi_G_if2 true rfl (yi_ne_t h2) ?_
      refine yi_G_run 5 (31, [(2, .inl 0), (0, .inr (.inr (some 82))), (1, .inl dep)], [.inl 3, .inl 29, .inr (.inr (some 82))], (I, L, X), 0, 0) (fun _ => rfl) ?_
      refine yi_G_callv rfl rfl (ym_rcv hS) rfl (c_wordHere d (by omega) hS ⟨by omega, by omega⟩ ⟨by omega, by omega⟩ hT ⟨by omega, by omega⟩) ?_
      rintro _ ⟨z68, rfl, h69⟩
      show yi_G zi_Ms d zi_m117 (34, [(2, .inl 0), (0, .inr (.inr (some 82))), (1, .inl dep)], [.inl z68], (I, L, X), 0, 0) _
      refine yi_G_run 1 (35, [(3, .inl z68), (2, .inl 0), (0, .inr (.inr (some 82))), (1, .inl dep)], [], (I, L, X), 0, 0) (fun _ => rfl) ?_
      have pt79 : ∀ (Ja : Nat → Nat → Int), (∀ p k, ¬ (p = 82 ∧ k = 8) → Ja p k = I p k) → (0 ≤ Ja 82 8) → (Ja 82 8 = 0 → dep ≤ 4 ∧ I 82 8 = 0 ∧ I 82 7 < te ∧ (0 ≤ fx ∨ I 84 (I 82 7).toNat = 2 ∨ (I 84 (I 82 7).toNat = 3 ∧ L 86 (I 82 7).toNat = 40) ∨ (I 84 (I 82 7).toNat = 1 ∧ L 86 (I 82 7).toNat = L 87 (26 : Int).toNat))) → yi_G zi_Ms d zi_m117 (79, [(3, .inl z68), (2, .inl 0), (0, .inr (.inr (some 82))), (1, .inl dep)], [], (Ja, L, X), 0, 0) (ym_RQ I L X te n) := by
        intro Ja fJa j0 j1 
        refine yi_G_run 1 (80, [(3, .inl z68), (2, .inl 0), (0, .inr (.inr (some 82))), (1, .inl dep)], [.inr (.inr (some 82))], (Ja, L, X), 0, 0) (fun _ => rfl) ?_
        skip
        refine yi_G_get (83, [(3, .inl z68), (2, .inl 0), (0, .inr (.inr (some 82))), (1, .inl dep)], [.inl (Ja 82 8)], (Ja, L, X), 0, 0) rfl (ym_gi hS rfl rfl rfl) ?_
        by_cases h70 : (Ja 82 8) ≤ 0
        · refine yi_G_if1 true rfl (yi_le_t h70) ?_
          refine yi_G_run 2 (90, [(3, .inl z68), (2, .inl 0), (0, .inr (.inr (some 82))), (1, .inl dep)], [.inl 26, .inr (.inr (some 82))], (Ja, L, X), 0, 0) (fun _ => rfl) ?_
          have r71 : Ja 82 7 = I 82 7 := by rw [fJa 82 (7) (by omega)]
          have r72 : Ja 84 ((I 82 7).toNat) = I 84 ((I 82 7).toNat) := by rw [fJa 84 ((I 82 7).toNat) (by omega)]
          refine yi_G_callv rfl rfl (ym_rcv hS) rfl (c_hasWord d (by omega) hS ⟨by omega, by omega⟩ r71 rfl r72 rfl ⟨by omega, by omega⟩) ?_
          rintro _ (⟨c75, I73, rfl, f74, c75b⟩ | ⟨c75, I73, rfl, f74, c75b⟩)
          · have lt76 : I 82 7 < te := ym_TK_lt hT (by omega) (by omega)
            show yi_G zi_Ms d zi_m117 (93, [(3, .inl z68), (2, .inl 0), (0, .inr (.inr (some 82))), (1, .inl dep)], [.inl 1], (I73, L, X), 0, 0) _
            refine yi_G_if1 false rfl (by decide) ?_
            refine yi_G_run 3 (99, [(3, .inl z68), (2, .inl 0), (0, .inr (.inr (some 82))), (1, .inl dep)], [.inl 1, .inl dep, .inr (.inr (some 82))], (I73, L, X), 0, 0) (fun _ => rfl) ?_
            refine yi_G_iadd rfl (dep + 1) (yi_wn (by omega) (by omega)) ?_
            skip
            have r77 : I73 82 13 = I 82 13 := by rw [f74 82 (13) (by omega), fJa 82 (13) (by omega)]
            have r78 : I73 82 18 = I 82 18 := by rw [f74 82 (18) (by omega), fJa 82 (18) (by omega)]
            have r79 : I73 82 19 = I 82 19 := by rw [f74 82 (19) (by omega), fJa 82 (19) (by omega)]
            have r80 : I73 82 8 = Ja 82 8 := by rw [f74 82 (8) (by omega)]
            have r81 : I73 82 20 = I 82 20 := by rw [f74 82 (20) (by omega), fJa 82 (20) (by omega)]
            refine yi_G_callv rfl rfl (ym_rcv hS) rfl (hIt (by omega) d (by omega) I73 L te (I 82 13) (ym_TK_t (fun k => by rw [f74 84 k (by omega), fJa 84 k (by omega)]) (fun k => by rw [f74 85 k (by omega), fJa 85 k (by omega)]) hT) ⟨by omega, by omega⟩ (by omega) ⟨(by rw [r78]; omega), (by rw [r78]; omega)⟩ ⟨(by rw [r79]; omega), (by rw [r79]; omega)⟩ (ym_DY_t r81 (fun k => by rw [f74 88 k (by omega), fJa 88 k (by omega)]) hDY) r77 ⟨by omega, by omega⟩) ?_
            rintro _ ⟨I82, rfl, f83, h84a, h84b, h84c, h84d, lwI82, sgI82⟩
            show yi_G zi_Ms d zi_m117 (103, [(3, .inl z68), (2, .inl 0), (0, .inr (.inr (some 82))), (1, .inl dep)], [], (I82, L, X), 0, 0) _
            refine yi_G_run 3 (106, [(3, .inl z68), (2, .inl 0), (0, .inr (.inr (some 82))), (1, .inl dep)], [.inl 0, .inl 3, .inr (.inr (some 82))], (I82, L, X), 0, 0) (fun _ => rfl) ?_
            refine yi_G_callv rfl rfl (ym_rcv hS) rfl (c_emit d (by omega) hS rfl ⟨by omega, by omega⟩) ?_
            rintro _ ⟨I85, rfl, f86, eI85, emI85⟩
            show yi_G zi_Ms d zi_m117 (109, [(3, .inl z68), (2, .inl 0), (0, .inr (.inr (some 82))), (1, .inl dep)], [], (I85, L, X), 0, 0) _
            refine yi_G_run 1 (178, [(3, .inl z68), (2, .inl 0), (0, .inr (.inr (some 82))), (1, .inl dep)], [], (I85, L, X), 0, 0) (fun _ => rfl) ?_
            have r87 : I85 82 7 = I82 82 7 := by rw [f86 82 (7) (by omega)]
            have r88 : I85 82 8 = I82 82 8 := by rw [f86 82 (8) (by omega)]
            exact yi_G_retv rfl rfl (⟨_, rfl, (fun p k hp => by rw [f86 p k (by omega), f83 p k (by omega), f74 p k (by omega), fJa p k (by omega)]), ⟨by omega, by omega⟩, by omega, ⟨by omega, by omega⟩, by omega, ym_LW_t (ym_LW_g lwI82 (fun k => by rw [f74 89 k (by omega), fJa 89 k (by omega)]) (fun k => by rw [f74 90 k (by omega), fJa 90 k (by omega)])) (ym_LW_e (n := n) emI85 (by omega) (by omega)) (Int.le_refl _), fun zz => by rw [eI85]; exact ym_SG_not (sgI82 (by omega)) emI85⟩)
          · show yi_G zi_Ms d zi_m117 (93, [(3, .inl z68), (2, .inl 0), (0, .inr (.inr (some 82))), (1, .inl dep)], [.inl 0], (I73, L, X), 0, 0) _
            refine yi_G_if1 true rfl (by decide) ?_
            refine yi_G_run 2 (115, [(3, .inl z68), (2, .inl 0), (0, .inr (.inr (some 82))), (1, .inl dep)], [.inl 40, .inr (.inr (some 82))], (I73, L, X), 0, 0) (fun _ => rfl) ?_
            have r89 : I73 82 8 = Ja 82 8 := by rw [f74 82 (8) (by omega)]
            have r90 : I73 84 ((I73 82 7).toNat) = I 84 ((I73 82 7).toNat) := by rw [f74 84 ((I73 82 7).toNat) (by omega), fJa 84 ((I73 82 7).toNat) (by omega)]
            refine yi_G_callv rfl rfl (ym_rcv hS) rfl (c_hasSign d (by omega) hS rfl r89 r90 rfl ⟨by omega, by omega⟩) ?_
            rintro _ (⟨c93, I91, rfl, f92, c93b⟩ | ⟨c93, I91, rfl, f92, c93b⟩)
            · have lt94 : I73 82 7 < te := ym_TK_lt hT (by omega) (by omega)
              show yi_G zi_Ms d zi_m117 (118, [(3, .inl z68), (2, .inl 0), (0, .inr (.inr (some 82))), (1, .inl dep)], [.inl 1], (I91, L, X), 0, 0) _
              refine yi_G_if1 false rfl (by decide) ?_
              refine yi_G_run 3 (124, [(3, .inl z68), (2, .inl 0), (0, .inr (.inr (some 82))), (1, .inl dep)], [.inl 1, .inl dep, .inr (.inr (some 82))], (I91, L, X), 0, 0) (fun _ => rfl) ?_
              refine yi_G_iadd rfl (dep + 1) (yi_wn (by omega) (by omega)) ?_
              have r95 : I91 82 13 = I 82 13 := by rw [f92 82 (13) (by omega), f74 82 (13) (by omega), fJa 82 (13) (by omega)]
              have r96 : I91 82 18 = I 82 18 := by rw [f92 82 (18) (by omega), f74 82 (18) (by omega), fJa 82 (18) (by omega)]
              have r97 : I91 82 19 = I 82 19 := by rw [f92 82 (19) (by omega), f74 82 (19) (by omega), fJa 82 (19) (by omega)]
              have r98 : I91 82 8 = Ja 82 8 := by rw [f92 82 (8) (by omega), f74 82 (8) (by omega)]
              have r99 : I91 82 20 = I 82 20 := by rw [f92 82 (20) (by omega), f74 82 (20) (by omega), fJa 82 (20) (by omega)]
              refine yi_G_callv rfl rfl (ym_rcv hS) rfl (hFo (by omega) d (by omega) I91 L te (I 82 13) (ym_TK_t (fun k => by rw [f92 84 k (by omega), f74 84 k (by omega), fJa 84 k (by omega)]) (fun k => by rw [f92 85 k (by omega), f74 85 k (by omega), fJa 85 k (by omega)]) hT) ⟨by omega, by omega⟩ (by omega) ⟨(by rw [r96]; omega), (by rw [r96]; omega)⟩ ⟨(by rw [r97]; omega), (by rw [r97]; omega)⟩ (ym_DY_t r99 (fun k => by rw [f92 88 k (by omega), f74 88 k (by omega), fJa 88 k (by omega)]) hDY) r95 ⟨by omega, by omega⟩) ?_
              rintro _ ⟨I100, rfl, f101, h102a, h102b, h102c, h102d, lwI100, sgI100⟩
              show yi_G zi_Ms d zi_m117 (128, [(3, .inl z68), (2, .inl 0), (0, .inr (.inr (some 82))), (1, .inl dep)], [], (I100, L, X), 0, 0) _
              refine yi_G_run 2 (131, [(3, .inl z68), (2, .inl 0), (0, .inr (.inr (some 82))), (1, .inl dep)], [.inl 41, .inr (.inr (some 82))], (I100, L, X), 0, 0) (fun _ => rfl) ?_
              skip
              refine yi_G_callv rfl rfl (ym_rcv hS) rfl (c_takeSign d (by omega) hS (ym_TK_t (fun k => by rw [f101 84 k (by omega), f92 84 k (by omega), f74 84 k (by omega), fJa 84 k (by omega)]) (fun k => by rw [f101 85 k (by omega), f92 85 k (by omega), f74 85 k (by omega), fJa 85 k (by omega)]) hT) ⟨by omega, by omega⟩ (by omega)) ?_
              rintro _ ⟨I103, rfl, f104, h105a, h105b, h105c⟩
              show yi_G zi_Ms d zi_m117 (134, [(3, .inl z68), (2, .inl 0), (0, .inr (.inr (some 82))), (1, .inl dep)], [], (I103, L, X), 0, 0) _
              refine yi_G_run 1 (178, [(3, .inl z68), (2, .inl 0), (0, .inr (.inr (some 82))), (1, .inl dep)], [], (I103, L, X), 0, 0) (fun _ => rfl) ?_
              have r106 : I103 82 13 = I100 82 13 := by rw [f104 82 (13) (by omega)]
              have r107 : I103 82 13 = I100 82 13 := by rw [f104 82 (13) (by omega)]
              exact yi_G_retv rfl rfl (⟨_, rfl, (fun p k hp => by rw [f104 p k (by omega), f101 p k (by omega), f92 p k (by omega), f74 p k (by omega), fJa p k (by omega)]), ⟨by omega, by omega⟩, by omega, ⟨by omega, by omega⟩, by omega, (ym_LW_f (ym_LW_g lwI100 (fun k => by rw [f92 89 k (by omega), f74 89 k (by omega), fJa 89 k (by omega)]) (fun k => by rw [f92 90 k (by omega), f74 90 k (by omega), fJa 90 k (by omega)])) (fun k => by rw [f104 89 k (by omega)]) (fun k => by rw [f104 90 k (by omega)])), fun zz => by rw [r107]; exact ym_SG_t (sgI100 (by omega)) (ym_LW_f (ym_LW_r _ _) (fun k => by rw [f104 89 k (by omega)]) (fun k => by rw [f104 90 k (by omega)]))⟩)
            · show yi_G zi_Ms d zi_m117 (118, [(3, .inl z68), (2, .inl 0), (0, .inr (.inr (some 82))), (1, .inl dep)], [.inl 0], (I91, L, X), 0, 0) _
              refine yi_G_if1 true rfl (by decide) ?_
              refine yi_G_run 2 (139, [(3, .inl z68), (2, .inl 0), (0, .inr (.inr (some 82))), (1, .inl dep)], [.inl 0, .inr (.inr (some 82))], (I91, L, X), 0, 0) (fun _ => rfl) ?_
              refine yi_G_if1 true rfl (by decide) ?_
              refine yi_G_run 2 (148, [(3, .inl z68), (2, .inl 0), (0, .inr (.inr (some 82))), (1, .inl dep)], [.inl 0, .inl 2, .inr (.inr (some 82))], (I91, L, X), 0, 0) (fun _ => rfl) ?_
              refine yi_G_if1 true rfl (by decide) ?_
              refine yi_G_run 1 (165, [(3, .inl z68), (2, .inl 0), (0, .inr (.inr (some 82))), (1, .inl dep)], [.inl z68, .inl 2, .inr (.inr (some 82))], (I91, L, X), 0, 0) (fun _ => rfl) ?_
              skip
              have r108 : I91 82 13 = I 82 13 := by rw [f92 82 (13) (by omega), f74 82 (13) (by omega), fJa 82 (13) (by omega)]
              refine yi_G_callv rfl rfl (ym_rcv hS) rfl (c_emit d (by omega) hS r108 ⟨by omega, by omega⟩) ?_
              rintro _ ⟨I109, rfl, f110, eI109, emI109⟩
              show yi_G zi_Ms d zi_m117 (168, [(3, .inl z68), (2, .inl 0), (0, .inr (.inr (some 82))), (1, .inl dep)], [], (I109, L, X), 0, 0) _
              refine yi_G_run 2 (170, [(3, .inl z68), (2, .inl 0), (0, .inr (.inr (some 82))), (1, .inl dep)], [.inr (.inr (some 82)), .inr (.inr (some 82))], (I109, L, X), 0, 0) (fun _ => rfl) ?_
              have r111 : I109 82 7 = I91 82 7 := by rw [f110 82 (7) (by omega)]
              refine yi_G_get (173, [(3, .inl z68), (2, .inl 0), (0, .inr (.inr (some 82))), (1, .inl dep)], [.inl (I91 82 7), .inr (.inr (some 82))], (I109, L, X), 0, 0) rfl (ym_gi hS rfl rfl r111) ?_
              refine yi_G_run 1 (174, [(3, .inl z68), (2, .inl 0), (0, .inr (.inr (some 82))), (1, .inl dep)], [.inl 1, .inl (I91 82 7), .inr (.inr (some 82))], (I109, L, X), 0, 0) (fun _ => rfl) ?_
              refine yi_G_iadd rfl ((I91 82 7) + 1) (yi_wn (by omega) (by omega)) ?_
              refine yi_G_put (178, [(3, .inl z68), (2, .inl 0), (0, .inr (.inr (some 82))), (1, .inl dep)], [], ((yi_u I109 82 7 ((I91 82 7) + 1)), L, X), 0, 0) rfl (ym_pi hS rfl rfl) ?_
              generalize w113 : yi_u I109 82 7 ((I91 82 7) + 1) = I112
              have r114 : I112 82 7 = (I91 82 7) + 1 := by rw [← w113, yi_u_eq]
              have r115 : I112 82 8 = Ja 82 8 := by rw [← w113, yi_u_ne _ _ (by omega), f110 82 (8) (by omega), f92 82 (8) (by omega), f74 82 (8) (by omega)]
              have r116 : I112 82 13 = I109 82 13 := by rw [← w113, yi_u_ne _ _ (by omega)]
              have r117 : I112 82 13 = I109 82 13 := by rw [← w113, yi_u_ne _ _ (by omega)]
              exact yi_G_retv rfl rfl (⟨_, rfl, (fun p k hp => by rw [← w113, yi_u_ne _ _ (fun z => by omega), f110 p k (by omega), f92 p k (by omega), f74 p k (by omega), fJa p k (by omega)]), ⟨by omega, by omega⟩, by omega, ⟨by omega, by omega⟩, by omega, (ym_LW_f (ym_LW_g (ym_LW_e (n := n) emI109 (by omega) (by omega)) (fun k => by rw [f92 89 k (by omega), f74 89 k (by omega), fJa 89 k (by omega)]) (fun k => by rw [f92 90 k (by omega), f74 90 k (by omega), fJa 90 k (by omega)])) (fun k => by rw [← w113, yi_u_ne _ _ (fun z => absurd z.1 (by decide))]) (fun k => by rw [← w113, yi_u_ne _ _ (fun z => absurd z.1 (by decide))])), fun zz => by rw [r117, eI109]; exact ym_SG_t (ym_SG_leaf emI109 (by omega) (Or.inr (Or.inl ⟨rfl, by omega, by omega⟩))) (ym_LW_f (ym_LW_r _ _) (fun k => by rw [← w113, yi_u_ne _ _ (fun z => absurd z.1 (by decide))]) (fun k => by rw [← w113, yi_u_ne _ _ (fun z => absurd z.1 (by decide))]))⟩)
        · refine yi_G_if1 false rfl (yi_le_f h70) ?_
          have r118 : Ja 82 7 = I 82 7 := by rw [fJa 82 (7) (by omega)]
          have r119 : Ja 82 13 = I 82 13 := by rw [fJa 82 (13) (by omega)]
          exact yi_G_retv rfl rfl (⟨_, rfl, (fun p k hp => by rw [fJa p k (by omega)]), ⟨by omega, by omega⟩, by omega, ⟨by omega, by omega⟩, by omega, (ym_LW_f (ym_LW_r _ _) (fun k => by rw [fJa 89 k (by omega)]) (fun k => by rw [fJa 90 k (by omega)])), fun zz => absurd zz (by omega)⟩)
      refine yi_G_run 1 (36, [(3, .inl z68), (2, .inl 0), (0, .inr (.inr (some 82))), (1, .inl dep)], [.inl z68], (I, L, X), 0, 0) (fun _ => rfl) ?_
      by_cases h120 : 0 ≤ z68
      · refine yi_G_if1 true rfl (yi_ge_t h120) ?_
        refine yi_G_run 2 (71, [(3, .inl z68), (2, .inl 0), (0, .inr (.inr (some 82))), (1, .inl dep)], [.inl 5, .inl dep], (I, L, X), 0, 0) (fun _ => rfl) ?_
        by_cases h121 : dep = 5
        · refine yi_G_if2 false rfl (yi_ne_f h121) ?_
          refine yi_G_run 2 (76, [(3, .inl z68), (2, .inl 0), (0, .inr (.inr (some 82))), (1, .inl dep)], [.inl 5, .inr (.inr (some 82))], (I, L, X), 0, 0) (fun _ => rfl) ?_
          refine yi_G_callv rfl rfl (ym_rcv hS) rfl (c_wrong d (by omega) hS ⟨by omega, by omega⟩ hT ⟨by omega, by omega⟩ (by omega)) ?_
          rintro _ ⟨I122, rfl, f123, h124⟩
          show yi_G zi_Ms d zi_m117 (79, [(3, .inl z68), (2, .inl 0), (0, .inr (.inr (some 82))), (1, .inl dep)], [], (I122, L, X), 0, 0) _
          have r125 : I122 82 7 = I 82 7 := by rw [f123 82 (7) (by omega)]
          have r126 : I122 82 7 = I 82 7 := by rw [f123 82 (7) (by omega)]
          exact pt79 I122 (fun p k hp => by rw [f123 p k (by omega)]) (by omega) (fun zz => ⟨by omega, by omega, ym_TK_lt hT (by omega) (by omega), by omega⟩)
        · refine yi_G_if2 true rfl (yi_ne_t h121) ?_
          exact pt79 I (fun _ _ _ => rfl) (by omega) (fun zz => ⟨by omega, by omega, ym_TK_lt hT (by omega) (by omega), by omega⟩)
      · refine yi_G_if1 false rfl (yi_ge_f h120) ?_
        refine yi_G_run 1 (40, [(3, .inl z68), (2, .inl 0), (0, .inr (.inr (some 82))), (1, .inl dep)], [.inl 0], (I, L, X), 0, 0) (fun _ => rfl) ?_
        refine yi_G_if1 false rfl (by decide) ?_
        refine yi_G_run 2 (46, [(3, .inl z68), (2, .inl 0), (0, .inr (.inr (some 82))), (1, .inl dep)], [.inl 40, .inr (.inr (some 82))], (I, L, X), 0, 0) (fun _ => rfl) ?_
        refine yi_G_callv rfl rfl (ym_rcv hS) rfl (c_isSign d (by omega) hS rfl rfl rfl rfl ⟨by omega, by omega⟩) ?_
        rintro _ (⟨c127, rfl⟩ | ⟨c127, rfl⟩)
        · have lt128 : I 82 7 < te := ym_TK_lt hT (by omega) (by omega)
          show yi_G zi_Ms d zi_m117 (49, [(3, .inl z68), (2, .inl 0), (0, .inr (.inr (some 82))), (1, .inl dep)], [.inl 1], (I, L, X), 0, 0) _
          refine yi_G_if1 true rfl (by decide) ?_
          refine yi_G_run 2 (71, [(3, .inl z68), (2, .inl 0), (0, .inr (.inr (some 82))), (1, .inl dep)], [.inl 5, .inl dep], (I, L, X), 0, 0) (fun _ => rfl) ?_
          by_cases h129 : dep = 5
          · refine yi_G_if2 false rfl (yi_ne_f h129) ?_
            refine yi_G_run 2 (76, [(3, .inl z68), (2, .inl 0), (0, .inr (.inr (some 82))), (1, .inl dep)], [.inl 5, .inr (.inr (some 82))], (I, L, X), 0, 0) (fun _ => rfl) ?_
            refine yi_G_callv rfl rfl (ym_rcv hS) rfl (c_wrong d (by omega) hS ⟨by omega, by omega⟩ hT ⟨by omega, by omega⟩ (by omega)) ?_
            rintro _ ⟨I130, rfl, f131, h132⟩
            show yi_G zi_Ms d zi_m117 (79, [(3, .inl z68), (2, .inl 0), (0, .inr (.inr (some 82))), (1, .inl dep)], [], (I130, L, X), 0, 0) _
            have r133 : I130 82 7 = I 82 7 := by rw [f131 82 (7) (by omega)]
            have r134 : I130 82 7 = I 82 7 := by rw [f131 82 (7) (by omega)]
            exact pt79 I130 (fun p k hp => by rw [f131 p k (by omega)]) (by omega) (fun zz => ⟨by omega, by omega, ym_TK_lt hT (by omega) (by omega), by omega⟩)
          · refine yi_G_if2 true rfl (yi_ne_t h129) ?_
            exact pt79 I (fun _ _ _ => rfl) (by omega) (fun zz => ⟨by omega, by omega, ym_TK_lt hT (by omega) (by omega), by omega⟩)
        · show yi_G zi_Ms d zi_m117 (49, [(3, .inl z68), (2, .inl 0), (0, .inr (.inr (some 82))), (1, .inl dep)], [.inl 0], (I, L, X), 0, 0) _
          refine yi_G_if1 false rfl (by decide) ?_
          refine yi_G_run 2 (55, [(3, .inl z68), (2, .inl 0), (0, .inr (.inr (some 82))), (1, .inl dep)], [.inl 26, .inr (.inr (some 82))], (I, L, X), 0, 0) (fun _ => rfl) ?_
          refine yi_G_callv rfl rfl (ym_rcv hS) rfl (c_isWord1 d (by omega) hS ⟨by omega, by omega⟩ rfl rfl rfl rfl ⟨by omega, by omega⟩) ?_
          rintro _ (⟨c135, rfl⟩ | ⟨c135, rfl⟩)
          · have lt136 : I 82 7 < te := ym_TK_lt hT (by omega) (by omega)
            show yi_G zi_Ms d zi_m117 (58, [(3, .inl z68), (2, .inl 0), (0, .inr (.inr (some 82))), (1, .inl dep)], [.inl 1], (I, L, X), 0, 0) _
            refine yi_G_if1 true rfl (by decide) ?_
            refine yi_G_run 2 (71, [(3, .inl z68), (2, .inl 0), (0, .inr (.inr (some 82))), (1, .inl dep)], [.inl 5, .inl dep], (I, L, X), 0, 0) (fun _ => rfl) ?_
            by_cases h137 : dep = 5
            · refine yi_G_if2 false rfl (yi_ne_f h137) ?_
              refine yi_G_run 2 (76, [(3, .inl z68), (2, .inl 0), (0, .inr (.inr (some 82))), (1, .inl dep)], [.inl 5, .inr (.inr (some 82))], (I, L, X), 0, 0) (fun _ => rfl) ?_
              refine yi_G_callv rfl rfl (ym_rcv hS) rfl (c_wrong d (by omega) hS ⟨by omega, by omega⟩ hT ⟨by omega, by omega⟩ (by omega)) ?_
              rintro _ ⟨I138, rfl, f139, h140⟩
              show yi_G zi_Ms d zi_m117 (79, [(3, .inl z68), (2, .inl 0), (0, .inr (.inr (some 82))), (1, .inl dep)], [], (I138, L, X), 0, 0) _
              have r141 : I138 82 7 = I 82 7 := by rw [f139 82 (7) (by omega)]
              have r142 : I138 82 7 = I 82 7 := by rw [f139 82 (7) (by omega)]
              exact pt79 I138 (fun p k hp => by rw [f139 p k (by omega)]) (by omega) (fun zz => ⟨by omega, by omega, ym_TK_lt hT (by omega) (by omega), by omega⟩)
            · refine yi_G_if2 true rfl (yi_ne_t h137) ?_
              exact pt79 I (fun _ _ _ => rfl) (by omega) (fun zz => ⟨by omega, by omega, ym_TK_lt hT (by omega) (by omega), by omega⟩)
          · show yi_G zi_Ms d zi_m117 (58, [(3, .inl z68), (2, .inl 0), (0, .inr (.inr (some 82))), (1, .inl dep)], [.inl 0], (I, L, X), 0, 0) _
            refine yi_G_if1 false rfl (by decide) ?_
            refine yi_G_run 2 (63, [(3, .inl z68), (2, .inl 0), (0, .inr (.inr (some 82))), (1, .inl dep)], [.inl 1, .inr (.inr (some 82))], (I, L, X), 0, 0) (fun _ => rfl) ?_
            refine yi_G_callv rfl rfl (ym_rcv hS) rfl (c_wrong d (by omega) hS ⟨by omega, by omega⟩ hT ⟨by omega, by omega⟩ (by omega)) ?_
            rintro _ ⟨I143, rfl, f144, h145⟩
            show yi_G zi_Ms d zi_m117 (66, [(3, .inl z68), (2, .inl 0), (0, .inr (.inr (some 82))), (1, .inl dep)], [], (I143, L, X), 0, 0) _
            refine yi_G_run 1 (79, [(3, .inl z68), (2, .inl 0), (0, .inr (.inr (some 82))), (1, .inl dep)], [], (I143, L, X), 0, 0) (fun _ => rfl) ?_
            have r146 : I143 82 7 = I 82 7 := by rw [f144 82 (7) (by omega)]
            have r147 : I143 82 7 = I 82 7 := by rw [f144 82 (7) (by omega)]
            exact pt79 I143 (fun p k hp => by rw [f144 p k (by omega)]) (by omega) (fun zz => ⟨by omega, by omega, ym_TK_lt hT (by omega) (by omega), by omega⟩)
  · refine yi_G_if1 false rfl (yi_le_f h1) ?_
    exact yi_G_retv rfl rfl (⟨_, rfl, (fun _ _ _ => rfl), ⟨by omega, by omega⟩, by omega, ⟨by omega, by omega⟩, by omega, (ym_LW_r _ _), fun zz => absurd zz (by omega)⟩)
