/-! Formulas read. -/
theorem c_readTerm_of {X : ym_X} (hS : ym_S X) {m : Nat} {dep : Int} (m0 : 6 ≤ m) (hIt : ym_RC X 97 m dep) : ym_RC X 104 (m + 1) dep := by
  intro D hD I L te n hT a0 f0 n0 n1 hDY hn k0
  subst hn
  obtain ⟨d, rfl⟩ : ∃ d, D = d + 1 := ⟨D - 1, by omega⟩
  refine yi_E_of (M := zi_m104) rfl rfl ?_
  obtain ⟨te0, te1, te2⟩ := id hT
  show yi_G zi_Ms d zi_m104 (0, [(0, .inr (.inr (some 82))), (1, .inl dep)], [], (I, L, X), 0, 0) _
  have pt5 : ∀ (m : Nat) (Ja : Nat → Nat → Int), (∀ p k, ¬ (p = 82 ∧ k = 7) ∧ ¬ (p = 82 ∧ k = 8) ∧ ¬ (p = 82 ∧ k = 13) ∧ p ≠ 89 ∧ p ≠ 90 → Ja p k = I p k) → (I 82 7 ≤ Ja 82 7 ∧ Ja 82 7 ≤ te) → (0 ≤ Ja 82 8) → (I 82 13 ≤ Ja 82 13 ∧ Ja 82 13 - I 82 13 ≤ Ja 82 7 - I 82 7 + 1) → (Ja 82 8 = 0 → I 82 8 = 0 ∧ Ja 82 13 - I 82 13 ≤ Ja 82 7 - I 82 7) → (ym_LW I Ja (I 82 13)) → (Ja 82 8 = 0 → ym_SG Ja (I 82 13) (Ja 82 13) 0 1) → (te - Ja 82 7).toNat = m → yi_G zi_Ms d zi_m104 (5, [(0, .inr (.inr (some 82))), (1, .inl dep)], [], (Ja, L, X), 0, 0) (ym_RQ I L X te (I 82 13)) := by
    intro m5
    induction m5 using Nat.strongRecOn with
    | _ m5 ih5 =>
    intro Ja fJa pa pf pk pz plw psg hm5
    refine yi_G_run 2 (8, [(0, .inr (.inr (some 82))), (1, .inl dep)], [.inl 27, .inr (.inr (some 82))], (Ja, L, X), 0, 0) (fun _ => rfl) ?_
    have r1 : Ja 84 ((Ja 82 7).toNat) = I 84 ((Ja 82 7).toNat) := by rw [fJa 84 ((Ja 82 7).toNat) (by omega)]
    refine yi_G_callv rfl rfl (ym_rcv hS) rfl (c_hasWord d (by omega) hS ⟨by omega, by omega⟩ rfl rfl r1 rfl ⟨by omega, by omega⟩) ?_
    rintro _ (⟨c4, I2, rfl, f3, c4b⟩ | ⟨c4, I2, rfl, f3, c4b⟩)
    · have lt5 : Ja 82 7 < te := ym_TK_lt hT (by omega) (by omega)
      show yi_G zi_Ms d zi_m104 (11, [(0, .inr (.inr (some 82))), (1, .inl dep)], [.inl 1], (I2, L, X), 0, 0) _
      refine yi_G_if1 false rfl (by decide) ?_
      refine yi_G_run 2 (16, [(0, .inr (.inr (some 82))), (1, .inl dep)], [.inl dep, .inr (.inr (some 82))], (I2, L, X), 0, 0) (fun _ => rfl) ?_
      have r6 : I2 82 13 = Ja 82 13 := by rw [f3 82 (13) (by omega)]
      have r7 : I2 82 18 = I 82 18 := by rw [f3 82 (18) (by omega), fJa 82 (18) (by omega)]
      have r8 : I2 82 19 = I 82 19 := by rw [f3 82 (19) (by omega), fJa 82 (19) (by omega)]
      have r9 : I2 82 7 = (Ja 82 7) + 1 := by rw [c4b]
      have r10 : I2 82 8 = Ja 82 8 := by rw [f3 82 (8) (by omega)]
      have r11 : I2 82 20 = I 82 20 := by rw [f3 82 (20) (by omega), fJa 82 (20) (by omega)]
      refine yi_G_callv rfl rfl (ym_rcv hS) rfl (hIt d (by omega) I2 L te (Ja 82 13) (ym_TK_t (fun k => by rw [f3 84 k (by omega), fJa 84 k (by omega)]) (fun k => by rw [f3 85 k (by omega), fJa 85 k (by omega)]) hT) ⟨by omega, by omega⟩ (by omega) ⟨(by rw [r7]; omega), (by rw [r7]; omega)⟩ ⟨(by rw [r8]; omega), (by rw [r8]; omega)⟩ (ym_DY_t r11 (fun k => by rw [f3 88 k (by omega), fJa 88 k (by omega)]) hDY) r6 ⟨by omega, by omega⟩) ?_
      rintro _ ⟨I12, rfl, f13, h14a, h14b, h14c, h14d, lwI12, sgI12⟩
      show yi_G zi_Ms d zi_m104 (19, [(0, .inr (.inr (some 82))), (1, .inl dep)], [], (I12, L, X), 0, 0) _
      refine yi_G_run 3 (23, [(0, .inr (.inr (some 82))), (1, .inl dep)], [.inl 0, .inl 9, .inr (.inr (some 82))], (I12, L, X), 0, 0) (fun _ => rfl) ?_
      refine yi_G_callv rfl rfl (ym_rcv hS) rfl (c_emit d (by omega) hS rfl ⟨by omega, by omega⟩) ?_
      rintro _ ⟨I15, rfl, f16, eI15, emI15⟩
      show yi_G zi_Ms d zi_m104 (26, [(0, .inr (.inr (some 82))), (1, .inl dep)], [], (I15, L, X), 0, 0) _
      refine yi_G_run 1 (5, [(0, .inr (.inr (some 82))), (1, .inl dep)], [], (I15, L, X), 0, 0) (fun _ => rfl) ?_
      have r17 : I15 82 7 = I12 82 7 := by rw [f16 82 (7) (by omega)]
      have r18 : I15 82 8 = I12 82 8 := by rw [f16 82 (8) (by omega)]
      exact ih5 _ (by omega) I15 (fun p k hp => by rw [f16 p k (by omega), f13 p k (by omega), f3 p k (by omega), fJa p k (by omega)]) (by omega) (by omega) (by omega) (by omega) (ym_LW_t (ym_LW_t plw (ym_LW_g lwI12 (fun k => by rw [f3 89 k (by omega)]) (fun k => by rw [f3 90 k (by omega)])) (by omega)) (ym_LW_e (n := I 82 13) emI15 (by omega) (by omega)) (Int.le_refl _)) (fun zz => by rw [eI15]; exact ym_SG_bin (psg (by omega)) (ym_LW_g lwI12 (fun k => by rw [f3 89 k (by omega)]) (fun k => by rw [f3 90 k (by omega)])) (sgI12 (by omega)) emI15 (by omega) (by omega)) rfl
    · show yi_G zi_Ms d zi_m104 (11, [(0, .inr (.inr (some 82))), (1, .inl dep)], [.inl 0], (I2, L, X), 0, 0) _
      refine yi_G_if1 true rfl (by decide) ?_
      have r19 : I2 82 7 = Ja 82 7 := by rw [c4b]
      have r20 : I2 82 8 = Ja 82 8 := by rw [f3 82 (8) (by omega)]
      have r21 : I2 82 13 = Ja 82 13 := by rw [f3 82 (13) (by omega)]
      have r22 : I2 82 13 = Ja 82 13 := by rw [f3 82 (13) (by omega)]
      exact yi_G_retv rfl rfl (⟨_, rfl, (fun p k hp => by rw [f3 p k (by omega), fJa p k (by omega)]), ⟨by omega, by omega⟩, by omega, ⟨by omega, by omega⟩, by omega, (ym_LW_f plw (fun k => by rw [f3 89 k (by omega)]) (fun k => by rw [f3 90 k (by omega)])), (fun zz => by rw [r22]; exact ym_SG_t (psg (by omega)) (ym_LW_f (ym_LW_r _ _) (fun k => by rw [f3 89 k (by omega)]) (fun k => by rw [f3 90 k (by omega)])))⟩)
  refine yi_G_run 2 (2, [(0, .inr (.inr (some 82))), (1, .inl dep)], [.inl dep, .inr (.inr (some 82))], (I, L, X), 0, 0) (fun _ => rfl) ?_
  refine yi_G_callv rfl rfl (ym_rcv hS) rfl (hIt d (by omega) I L te (I 82 13) hT ⟨by omega, by omega⟩ (by omega) ⟨(by omega), (by omega)⟩ ⟨(by omega), (by omega)⟩ hDY rfl ⟨by omega, by omega⟩) ?_
  rintro _ ⟨I23, rfl, f24, h25a, h25b, h25c, h25d, lwI23, sgI23⟩
  show yi_G zi_Ms d zi_m104 (5, [(0, .inr (.inr (some 82))), (1, .inl dep)], [], (I23, L, X), 0, 0) _
  exact pt5 _ I23 (fun p k hp => by rw [f24 p k (by omega)]) (by omega) (by omega) (by omega) (by omega) lwI23 sgI23 rfl
theorem c_readFormula_of {X : ym_X} (hS : ym_S X) {m : Nat} {dep : Int} (m0 : 6 ≤ m) (hIt : ym_RC X 104 m dep) : ym_RC X 96 (m + 1) dep := by
  intro D hD I L te n hT a0 f0 n0 n1 hDY hn k0
  subst hn
  obtain ⟨d, rfl⟩ : ∃ d, D = d + 1 := ⟨D - 1, by omega⟩
  refine yi_E_of (M := zi_m96) rfl rfl ?_
  obtain ⟨te0, te1, te2⟩ := id hT
  show yi_G zi_Ms d zi_m96 (0, [(0, .inr (.inr (some 82))), (1, .inl dep)], [], (I, L, X), 0, 0) _
  have pt5 : ∀ (m : Nat) (Ja : Nat → Nat → Int), (∀ p k, ¬ (p = 82 ∧ k = 7) ∧ ¬ (p = 82 ∧ k = 8) ∧ ¬ (p = 82 ∧ k = 13) ∧ p ≠ 89 ∧ p ≠ 90 → Ja p k = I p k) → (I 82 7 ≤ Ja 82 7 ∧ Ja 82 7 ≤ te) → (0 ≤ Ja 82 8) → (I 82 13 ≤ Ja 82 13 ∧ Ja 82 13 - I 82 13 ≤ Ja 82 7 - I 82 7 + 1) → (Ja 82 8 = 0 → I 82 8 = 0 ∧ Ja 82 13 - I 82 13 ≤ Ja 82 7 - I 82 7) → (ym_LW I Ja (I 82 13)) → (Ja 82 8 = 0 → ym_SG Ja (I 82 13) (Ja 82 13) 0 1) → (te - Ja 82 7).toNat = m → yi_G zi_Ms d zi_m96 (5, [(0, .inr (.inr (some 82))), (1, .inl dep)], [], (Ja, L, X), 0, 0) (ym_RQ I L X te (I 82 13)) := by
    intro m5
    induction m5 using Nat.strongRecOn with
    | _ m5 ih5 =>
    intro Ja fJa pa pf pk pz plw psg hm5
    refine yi_G_run 2 (8, [(0, .inr (.inr (some 82))), (1, .inl dep)], [.inl 28, .inr (.inr (some 82))], (Ja, L, X), 0, 0) (fun _ => rfl) ?_
    have r1 : Ja 84 ((Ja 82 7).toNat) = I 84 ((Ja 82 7).toNat) := by rw [fJa 84 ((Ja 82 7).toNat) (by omega)]
    refine yi_G_callv rfl rfl (ym_rcv hS) rfl (c_hasWord d (by omega) hS ⟨by omega, by omega⟩ rfl rfl r1 rfl ⟨by omega, by omega⟩) ?_
    rintro _ (⟨c4, I2, rfl, f3, c4b⟩ | ⟨c4, I2, rfl, f3, c4b⟩)
    · have lt5 : Ja 82 7 < te := ym_TK_lt hT (by omega) (by omega)
      show yi_G zi_Ms d zi_m96 (11, [(0, .inr (.inr (some 82))), (1, .inl dep)], [.inl 1], (I2, L, X), 0, 0) _
      refine yi_G_if1 false rfl (by decide) ?_
      refine yi_G_run 2 (16, [(0, .inr (.inr (some 82))), (1, .inl dep)], [.inl dep, .inr (.inr (some 82))], (I2, L, X), 0, 0) (fun _ => rfl) ?_
      have r6 : I2 82 13 = Ja 82 13 := by rw [f3 82 (13) (by omega)]
      have r7 : I2 82 18 = I 82 18 := by rw [f3 82 (18) (by omega), fJa 82 (18) (by omega)]
      have r8 : I2 82 19 = I 82 19 := by rw [f3 82 (19) (by omega), fJa 82 (19) (by omega)]
      have r9 : I2 82 7 = (Ja 82 7) + 1 := by rw [c4b]
      have r10 : I2 82 8 = Ja 82 8 := by rw [f3 82 (8) (by omega)]
      have r11 : I2 82 20 = I 82 20 := by rw [f3 82 (20) (by omega), fJa 82 (20) (by omega)]
      refine yi_G_callv rfl rfl (ym_rcv hS) rfl (hIt d (by omega) I2 L te (Ja 82 13) (ym_TK_t (fun k => by rw [f3 84 k (by omega), fJa 84 k (by omega)]) (fun k => by rw [f3 85 k (by omega), fJa 85 k (by omega)]) hT) ⟨by omega, by omega⟩ (by omega) ⟨(by rw [r7]; omega), (by rw [r7]; omega)⟩ ⟨(by rw [r8]; omega), (by rw [r8]; omega)⟩ (ym_DY_t r11 (fun k => by rw [f3 88 k (by omega), fJa 88 k (by omega)]) hDY) r6 ⟨by omega, by omega⟩) ?_
      rintro _ ⟨I12, rfl, f13, h14a, h14b, h14c, h14d, lwI12, sgI12⟩
      show yi_G zi_Ms d zi_m96 (19, [(0, .inr (.inr (some 82))), (1, .inl dep)], [], (I12, L, X), 0, 0) _
      refine yi_G_run 3 (23, [(0, .inr (.inr (some 82))), (1, .inl dep)], [.inl 0, .inl 10, .inr (.inr (some 82))], (I12, L, X), 0, 0) (fun _ => rfl) ?_
      refine yi_G_callv rfl rfl (ym_rcv hS) rfl (c_emit d (by omega) hS rfl ⟨by omega, by omega⟩) ?_
      rintro _ ⟨I15, rfl, f16, eI15, emI15⟩
      show yi_G zi_Ms d zi_m96 (26, [(0, .inr (.inr (some 82))), (1, .inl dep)], [], (I15, L, X), 0, 0) _
      refine yi_G_run 1 (5, [(0, .inr (.inr (some 82))), (1, .inl dep)], [], (I15, L, X), 0, 0) (fun _ => rfl) ?_
      have r17 : I15 82 7 = I12 82 7 := by rw [f16 82 (7) (by omega)]
      have r18 : I15 82 8 = I12 82 8 := by rw [f16 82 (8) (by omega)]
      exact ih5 _ (by omega) I15 (fun p k hp => by rw [f16 p k (by omega), f13 p k (by omega), f3 p k (by omega), fJa p k (by omega)]) (by omega) (by omega) (by omega) (by omega) (ym_LW_t (ym_LW_t plw (ym_LW_g lwI12 (fun k => by rw [f3 89 k (by omega)]) (fun k => by rw [f3 90 k (by omega)])) (by omega)) (ym_LW_e (n := I 82 13) emI15 (by omega) (by omega)) (Int.le_refl _)) (fun zz => by rw [eI15]; exact ym_SG_bin (psg (by omega)) (ym_LW_g lwI12 (fun k => by rw [f3 89 k (by omega)]) (fun k => by rw [f3 90 k (by omega)])) (sgI12 (by omega)) emI15 (by omega) (by omega)) rfl
    · show yi_G zi_Ms d zi_m96 (11, [(0, .inr (.inr (some 82))), (1, .inl dep)], [.inl 0], (I2, L, X), 0, 0) _
      refine yi_G_if1 true rfl (by decide) ?_
      have r19 : I2 82 7 = Ja 82 7 := by rw [c4b]
      have r20 : I2 82 8 = Ja 82 8 := by rw [f3 82 (8) (by omega)]
      have r21 : I2 82 13 = Ja 82 13 := by rw [f3 82 (13) (by omega)]
      have r22 : I2 82 13 = Ja 82 13 := by rw [f3 82 (13) (by omega)]
      exact yi_G_retv rfl rfl (⟨_, rfl, (fun p k hp => by rw [f3 p k (by omega), fJa p k (by omega)]), ⟨by omega, by omega⟩, by omega, ⟨by omega, by omega⟩, by omega, (ym_LW_f plw (fun k => by rw [f3 89 k (by omega)]) (fun k => by rw [f3 90 k (by omega)])), (fun zz => by rw [r22]; exact ym_SG_t (psg (by omega)) (ym_LW_f (ym_LW_r _ _) (fun k => by rw [f3 89 k (by omega)]) (fun k => by rw [f3 90 k (by omega)])))⟩)
  refine yi_G_run 2 (2, [(0, .inr (.inr (some 82))), (1, .inl dep)], [.inl dep, .inr (.inr (some 82))], (I, L, X), 0, 0) (fun _ => rfl) ?_
  refine yi_G_callv rfl rfl (ym_rcv hS) rfl (hIt d (by omega) I L te (I 82 13) hT ⟨by omega, by omega⟩ (by omega) ⟨(by omega), (by omega)⟩ ⟨(by omega), (by omega)⟩ hDY rfl ⟨by omega, by omega⟩) ?_
  rintro _ ⟨I23, rfl, f24, h25a, h25b, h25c, h25d, lwI23, sgI23⟩
  show yi_G zi_Ms d zi_m96 (5, [(0, .inr (.inr (some 82))), (1, .inl dep)], [], (I23, L, X), 0, 0) _
  exact pt5 _ I23 (fun p k hp => by rw [f24 p k (by omega)]) (by omega) (by omega) (by omega) (by omega) lwI23 sgI23 rfl
theorem c_products_of {X : ym_X} (hS : ym_S X) {m : Nat} {dep : Int} (m0 : 6 ≤ m) (hIt : ym_RC X 117 m dep) : ym_RC X 89 (m + 1) dep := by
  intro D hD I L te n hT a0 f0 n0 n1 hDY hn k0
  subst hn
  obtain ⟨d, rfl⟩ : ∃ d, D = d + 1 := ⟨D - 1, by omega⟩
  refine yi_E_of (M := zi_m89) rfl rfl ?_
  obtain ⟨te0, te1, te2⟩ := id hT
  show yi_G zi_Ms d zi_m89 (0, [(0, .inr (.inr (some 82))), (1, .inl dep)], [], (I, L, X), 0, 0) _
  have pt5 : ∀ (m : Nat) (Ja : Nat → Nat → Int), (∀ p k, ¬ (p = 82 ∧ k = 7) ∧ ¬ (p = 82 ∧ k = 8) ∧ ¬ (p = 82 ∧ k = 13) ∧ p ≠ 89 ∧ p ≠ 90 → Ja p k = I p k) → (I 82 7 ≤ Ja 82 7 ∧ Ja 82 7 ≤ te) → (0 ≤ Ja 82 8) → (I 82 13 ≤ Ja 82 13 ∧ Ja 82 13 - I 82 13 ≤ Ja 82 7 - I 82 7 + 1) → (Ja 82 8 = 0 → I 82 8 = 0 ∧ Ja 82 13 - I 82 13 ≤ Ja 82 7 - I 82 7) → (ym_LW I Ja (I 82 13)) → (Ja 82 8 = 0 → ym_SG Ja (I 82 13) (Ja 82 13) 0 1) → (te - Ja 82 7).toNat = m → yi_G zi_Ms d zi_m89 (5, [(0, .inr (.inr (some 82))), (1, .inl dep)], [], (Ja, L, X), 0, 0) (ym_RQ I L X te (I 82 13)) := by
    intro m5
    induction m5 using Nat.strongRecOn with
    | _ m5 ih5 =>
    intro Ja fJa pa pf pk pz plw psg hm5
    refine yi_G_run 2 (8, [(0, .inr (.inr (some 82))), (1, .inl dep)], [.inl 42, .inr (.inr (some 82))], (Ja, L, X), 0, 0) (fun _ => rfl) ?_
    have r1 : Ja 84 ((Ja 82 7).toNat) = I 84 ((Ja 82 7).toNat) := by rw [fJa 84 ((Ja 82 7).toNat) (by omega)]
    refine yi_G_callv rfl rfl (ym_rcv hS) rfl (c_hasSign d (by omega) hS rfl rfl r1 rfl ⟨by omega, by omega⟩) ?_
    rintro _ (⟨c4, I2, rfl, f3, c4b⟩ | ⟨c4, I2, rfl, f3, c4b⟩)
    · have lt5 : Ja 82 7 < te := ym_TK_lt hT (by omega) (by omega)
      show yi_G zi_Ms d zi_m89 (11, [(0, .inr (.inr (some 82))), (1, .inl dep)], [.inl 1], (I2, L, X), 0, 0) _
      refine yi_G_if1 false rfl (by decide) ?_
      refine yi_G_run 2 (16, [(0, .inr (.inr (some 82))), (1, .inl dep)], [.inl dep, .inr (.inr (some 82))], (I2, L, X), 0, 0) (fun _ => rfl) ?_
      have r6 : I2 82 13 = Ja 82 13 := by rw [f3 82 (13) (by omega)]
      have r7 : I2 82 18 = I 82 18 := by rw [f3 82 (18) (by omega), fJa 82 (18) (by omega)]
      have r8 : I2 82 19 = I 82 19 := by rw [f3 82 (19) (by omega), fJa 82 (19) (by omega)]
      have r9 : I2 82 7 = (Ja 82 7) + 1 := by rw [c4b]
      have r10 : I2 82 8 = Ja 82 8 := by rw [f3 82 (8) (by omega)]
      have r11 : I2 82 20 = I 82 20 := by rw [f3 82 (20) (by omega), fJa 82 (20) (by omega)]
      refine yi_G_callv rfl rfl (ym_rcv hS) rfl (hIt d (by omega) I2 L te (Ja 82 13) (ym_TK_t (fun k => by rw [f3 84 k (by omega), fJa 84 k (by omega)]) (fun k => by rw [f3 85 k (by omega), fJa 85 k (by omega)]) hT) ⟨by omega, by omega⟩ (by omega) ⟨(by rw [r7]; omega), (by rw [r7]; omega)⟩ ⟨(by rw [r8]; omega), (by rw [r8]; omega)⟩ (ym_DY_t r11 (fun k => by rw [f3 88 k (by omega), fJa 88 k (by omega)]) hDY) r6 ⟨by omega, by omega⟩) ?_
      rintro _ ⟨I12, rfl, f13, h14a, h14b, h14c, h14d, lwI12, sgI12⟩
      show yi_G zi_Ms d zi_m89 (19, [(0, .inr (.inr (some 82))), (1, .inl dep)], [], (I12, L, X), 0, 0) _
      refine yi_G_run 3 (23, [(0, .inr (.inr (some 82))), (1, .inl dep)], [.inl 0, .inl 6, .inr (.inr (some 82))], (I12, L, X), 0, 0) (fun _ => rfl) ?_
      refine yi_G_callv rfl rfl (ym_rcv hS) rfl (c_emit d (by omega) hS rfl ⟨by omega, by omega⟩) ?_
      rintro _ ⟨I15, rfl, f16, eI15, emI15⟩
      show yi_G zi_Ms d zi_m89 (26, [(0, .inr (.inr (some 82))), (1, .inl dep)], [], (I15, L, X), 0, 0) _
      refine yi_G_run 1 (5, [(0, .inr (.inr (some 82))), (1, .inl dep)], [], (I15, L, X), 0, 0) (fun _ => rfl) ?_
      have r17 : I15 82 7 = I12 82 7 := by rw [f16 82 (7) (by omega)]
      have r18 : I15 82 8 = I12 82 8 := by rw [f16 82 (8) (by omega)]
      exact ih5 _ (by omega) I15 (fun p k hp => by rw [f16 p k (by omega), f13 p k (by omega), f3 p k (by omega), fJa p k (by omega)]) (by omega) (by omega) (by omega) (by omega) (ym_LW_t (ym_LW_t plw (ym_LW_g lwI12 (fun k => by rw [f3 89 k (by omega)]) (fun k => by rw [f3 90 k (by omega)])) (by omega)) (ym_LW_e (n := I 82 13) emI15 (by omega) (by omega)) (Int.le_refl _)) (fun zz => by rw [eI15]; exact ym_SG_bin (psg (by omega)) (ym_LW_g lwI12 (fun k => by rw [f3 89 k (by omega)]) (fun k => by rw [f3 90 k (by omega)])) (sgI12 (by omega)) emI15 (by omega) (by omega)) rfl
    · show yi_G zi_Ms d zi_m89 (11, [(0, .inr (.inr (some 82))), (1, .inl dep)], [.inl 0], (I2, L, X), 0, 0) _
      refine yi_G_if1 true rfl (by decide) ?_
      have r19 : I2 82 7 = Ja 82 7 := by rw [c4b]
      have r20 : I2 82 8 = Ja 82 8 := by rw [f3 82 (8) (by omega)]
      have r21 : I2 82 13 = Ja 82 13 := by rw [f3 82 (13) (by omega)]
      have r22 : I2 82 13 = Ja 82 13 := by rw [f3 82 (13) (by omega)]
      exact yi_G_retv rfl rfl (⟨_, rfl, (fun p k hp => by rw [f3 p k (by omega), fJa p k (by omega)]), ⟨by omega, by omega⟩, by omega, ⟨by omega, by omega⟩, by omega, (ym_LW_f plw (fun k => by rw [f3 89 k (by omega)]) (fun k => by rw [f3 90 k (by omega)])), (fun zz => by rw [r22]; exact ym_SG_t (psg (by omega)) (ym_LW_f (ym_LW_r _ _) (fun k => by rw [f3 89 k (by omega)]) (fun k => by rw [f3 90 k (by omega)])))⟩)
  refine yi_G_run 2 (2, [(0, .inr (.inr (some 82))), (1, .inl dep)], [.inl dep, .inr (.inr (some 82))], (I, L, X), 0, 0) (fun _ => rfl) ?_
  refine yi_G_callv rfl rfl (ym_rcv hS) rfl (hIt d (by omega) I L te (I 82 13) hT ⟨by omega, by omega⟩ (by omega) ⟨(by omega), (by omega)⟩ ⟨(by omega), (by omega)⟩ hDY rfl ⟨by omega, by omega⟩) ?_
  rintro _ ⟨I23, rfl, f24, h25a, h25b, h25c, h25d, lwI23, sgI23⟩
  show yi_G zi_Ms d zi_m89 (5, [(0, .inr (.inr (some 82))), (1, .inl dep)], [], (I23, L, X), 0, 0) _
  exact pt5 _ I23 (fun p k hp => by rw [f24 p k (by omega)]) (by omega) (by omega) (by omega) (by omega) lwI23 sgI23 rfl
theorem c_sums_of {X : ym_X} (hS : ym_S X) {m : Nat} {dep : Int} (m0 : 6 ≤ m) (hIt : ym_RC X 89 m dep) : ym_RC X 114 (m + 1) dep := by
  intro D hD I L te n hT a0 f0 n0 n1 hDY hn k0
  subst hn
  obtain ⟨d, rfl⟩ : ∃ d, D = d + 1 := ⟨D - 1, by omega⟩
  refine yi_E_of (M := zi_m114) rfl rfl ?_
  obtain ⟨te0, te1, te2⟩ := id hT
  show yi_G zi_Ms d zi_m114 (0, [(0, .inr (.inr (some 82))), (1, .inl dep)], [], (I, L, X), 0, 0) _
  have pt5 : ∀ (m : Nat) (Ja : Nat → Nat → Int), (∀ p k, ¬ (p = 82 ∧ k = 7) ∧ ¬ (p = 82 ∧ k = 8) ∧ ¬ (p = 82 ∧ k = 13) ∧ p ≠ 89 ∧ p ≠ 90 → Ja p k = I p k) → (I 82 7 ≤ Ja 82 7 ∧ Ja 82 7 ≤ te) → (0 ≤ Ja 82 8) → (I 82 13 ≤ Ja 82 13 ∧ Ja 82 13 - I 82 13 ≤ Ja 82 7 - I 82 7 + 1) → (Ja 82 8 = 0 → I 82 8 = 0 ∧ Ja 82 13 - I 82 13 ≤ Ja 82 7 - I 82 7) → (ym_LW I Ja (I 82 13)) → (Ja 82 8 = 0 → ym_SG Ja (I 82 13) (Ja 82 13) 0 1) → (te - Ja 82 7).toNat = m → yi_G zi_Ms d zi_m114 (5, [(0, .inr (.inr (some 82))), (1, .inl dep)], [], (Ja, L, X), 0, 0) (ym_RQ I L X te (I 82 13)) := by
    intro m5
    induction m5 using Nat.strongRecOn with
    | _ m5 ih5 =>
    intro Ja fJa pa pf pk pz plw psg hm5
    refine yi_G_run 2 (8, [(0, .inr (.inr (some 82))), (1, .inl dep)], [.inl 43, .inr (.inr (some 82))], (Ja, L, X), 0, 0) (fun _ => rfl) ?_
    have r2 : Ja 84 ((Ja 82 7).toNat) = I 84 ((Ja 82 7).toNat) := by rw [fJa 84 ((Ja 82 7).toNat) (by omega)]
    refine yi_G_callv rfl rfl (ym_rcv hS) rfl (c_isSign d (by omega) hS rfl rfl r2 rfl ⟨by omega, by omega⟩) ?_
    rintro _ (⟨c1, rfl⟩ | ⟨c1, rfl⟩)
    · have lt3 : Ja 82 7 < te := ym_TK_lt hT (by omega) (by omega)
      show yi_G zi_Ms d zi_m114 (11, [(0, .inr (.inr (some 82))), (1, .inl dep)], [.inl 1], (Ja, L, X), 0, 0) _
      refine yi_G_if1 true rfl (by decide) ?_
      refine yi_G_run 2 (26, [(0, .inr (.inr (some 82))), (1, .inl dep)], [.inl 43, .inr (.inr (some 82))], (Ja, L, X), 0, 0) (fun _ => rfl) ?_
      have r5 : Ja 84 ((Ja 82 7).toNat) = I 84 ((Ja 82 7).toNat) := by rw [fJa 84 ((Ja 82 7).toNat) (by omega)]
      refine yi_G_callv rfl rfl (ym_rcv hS) rfl (c_isSign d (by omega) hS rfl rfl r5 rfl ⟨by omega, by omega⟩) ?_
      rintro _ (⟨c4, rfl⟩ | ⟨c4, rfl⟩)
      · have lt6 : Ja 82 7 < te := ym_TK_lt hT (by omega) (by omega)
        show yi_G zi_Ms d zi_m114 (29, [(0, .inr (.inr (some 82))), (1, .inl dep)], [.inl 1], (Ja, L, X), 0, 0) _
        refine yi_G_run 3 (32, [(2, .inl 1), (0, .inr (.inr (some 82))), (1, .inl dep)], [.inr (.inr (some 82)), .inr (.inr (some 82))], (Ja, L, X), 0, 0) (fun _ => rfl) ?_
        refine yi_G_get (35, [(2, .inl 1), (0, .inr (.inr (some 82))), (1, .inl dep)], [.inl (Ja 82 7), .inr (.inr (some 82))], (Ja, L, X), 0, 0) rfl (ym_gi hS rfl rfl rfl) ?_
        refine yi_G_run 1 (36, [(2, .inl 1), (0, .inr (.inr (some 82))), (1, .inl dep)], [.inl 1, .inl (Ja 82 7), .inr (.inr (some 82))], (Ja, L, X), 0, 0) (fun _ => rfl) ?_
        refine yi_G_iadd rfl ((Ja 82 7) + 1) (yi_wn (by omega) (by omega)) ?_
        refine yi_G_put (40, [(2, .inl 1), (0, .inr (.inr (some 82))), (1, .inl dep)], [], ((yi_u Ja 82 7 ((Ja 82 7) + 1)), L, X), 0, 0) rfl (ym_pi hS rfl rfl) ?_
        generalize w8 : yi_u Ja 82 7 ((Ja 82 7) + 1) = I7
        refine yi_G_run 2 (42, [(2, .inl 1), (0, .inr (.inr (some 82))), (1, .inl dep)], [.inl dep, .inr (.inr (some 82))], (I7, L, X), 0, 0) (fun _ => rfl) ?_
        have r9 : I7 82 13 = Ja 82 13 := by rw [← w8, yi_u_ne _ _ (by omega)]
        have r10 : I7 82 18 = I 82 18 := by rw [← w8, yi_u_ne _ _ (by omega), fJa 82 (18) (by omega)]
        have r11 : I7 82 19 = I 82 19 := by rw [← w8, yi_u_ne _ _ (by omega), fJa 82 (19) (by omega)]
        have r12 : I7 82 7 = (Ja 82 7) + 1 := by rw [← w8, yi_u_eq]
        have r13 : I7 82 8 = Ja 82 8 := by rw [← w8, yi_u_ne _ _ (by omega)]
        have r14 : I7 82 20 = I 82 20 := by rw [← w8, yi_u_ne _ _ (by omega), fJa 82 (20) (by omega)]
        refine yi_G_callv rfl rfl (ym_rcv hS) rfl (hIt d (by omega) I7 L te (Ja 82 13) (ym_TK_t (fun k => by rw [← w8, yi_u_ne _ _ (fun z => absurd z.1 (by decide)), fJa 84 k (by omega)]) (fun k => by rw [← w8, yi_u_ne _ _ (fun z => absurd z.1 (by decide)), fJa 85 k (by omega)]) hT) ⟨by omega, by omega⟩ (by omega) ⟨(by rw [r10]; omega), (by rw [r10]; omega)⟩ ⟨(by rw [r11]; omega), (by rw [r11]; omega)⟩ (ym_DY_t r14 (fun k => by rw [← w8, yi_u_ne _ _ (fun z => absurd z.1 (by decide)), fJa 88 k (by omega)]) hDY) r9 ⟨by omega, by omega⟩) ?_
        rintro _ ⟨I15, rfl, f16, h17a, h17b, h17c, h17d, lwI15, sgI15⟩
        show yi_G zi_Ms d zi_m114 (45, [(2, .inl 1), (0, .inr (.inr (some 82))), (1, .inl dep)], [], (I15, L, X), 0, 0) _
        refine yi_G_run 2 (47, [(2, .inl 1), (0, .inr (.inr (some 82))), (1, .inl dep)], [.inl 1, .inr (.inr (some 82))], (I15, L, X), 0, 0) (fun _ => rfl) ?_
        refine yi_G_if1 false rfl (by decide) ?_
        refine yi_G_run 3 (56, [(2, .inl 1), (0, .inr (.inr (some 82))), (1, .inl dep)], [.inl 0, .inl 4, .inr (.inr (some 82))], (I15, L, X), 0, 0) (fun _ => rfl) ?_
        refine yi_G_callv rfl rfl (ym_rcv hS) rfl (c_emit d (by omega) hS rfl ⟨by omega, by omega⟩) ?_
        rintro _ ⟨I18, rfl, f19, eI18, emI18⟩
        show yi_G zi_Ms d zi_m114 (59, [(2, .inl 1), (0, .inr (.inr (some 82))), (1, .inl dep)], [], (I18, L, X), 0, 0) _
        refine yi_G_run 1 (5, [(2, .inl 1), (0, .inr (.inr (some 82))), (1, .inl dep)], [], (I18, L, X), 0, 0) (fun _ => rfl) ?_
        refine yi_G_al (al := [(0, .inr (.inr (some 82))), (1, .inl dep)]) (show ([0, 1] : List Nat).Nodup by decide) (show ([2, 0, 1] : List Nat).Nodup by decide) (yi_mc (List.mem_of_getElem? (i := 1) rfl) (yi_mc (List.mem_of_getElem? (i := 2) rfl) yi_mn)) ?_
        have r20 : I18 82 7 = I15 82 7 := by rw [f19 82 (7) (by omega)]
        have r21 : I18 82 8 = I15 82 8 := by rw [f19 82 (8) (by omega)]
        exact ih5 _ (by omega) I18 (fun p k hp => by rw [f19 p k (by omega), f16 p k (by omega), ← w8, yi_u_ne _ _ (fun z => by omega), fJa p k (by omega)]) (by omega) (by omega) (by omega) (by omega) (ym_LW_t (ym_LW_t plw (ym_LW_g lwI15 (fun k => by rw [← w8, yi_u_ne _ _ (fun z => absurd z.1 (by decide))]) (fun k => by rw [← w8, yi_u_ne _ _ (fun z => absurd z.1 (by decide))])) (by omega)) (ym_LW_e (n := I 82 13) emI18 (by omega) (by omega)) (Int.le_refl _)) (fun zz => by rw [eI18]; exact ym_SG_bin (psg (by omega)) (ym_LW_g lwI15 (fun k => by rw [← w8, yi_u_ne _ _ (fun z => absurd z.1 (by decide))]) (fun k => by rw [← w8, yi_u_ne _ _ (fun z => absurd z.1 (by decide))])) (sgI15 (by omega)) emI18 (by omega) (by omega)) rfl
      · show yi_G zi_Ms d zi_m114 (29, [(0, .inr (.inr (some 82))), (1, .inl dep)], [.inl 0], (Ja, L, X), 0, 0) _
        refine yi_G_run 3 (32, [(2, .inl 0), (0, .inr (.inr (some 82))), (1, .inl dep)], [.inr (.inr (some 82)), .inr (.inr (some 82))], (Ja, L, X), 0, 0) (fun _ => rfl) ?_
        refine yi_G_get (35, [(2, .inl 0), (0, .inr (.inr (some 82))), (1, .inl dep)], [.inl (Ja 82 7), .inr (.inr (some 82))], (Ja, L, X), 0, 0) rfl (ym_gi hS rfl rfl rfl) ?_
        refine yi_G_run 1 (36, [(2, .inl 0), (0, .inr (.inr (some 82))), (1, .inl dep)], [.inl 1, .inl (Ja 82 7), .inr (.inr (some 82))], (Ja, L, X), 0, 0) (fun _ => rfl) ?_
        refine yi_G_iadd rfl ((Ja 82 7) + 1) (yi_wn (by omega) (by omega)) ?_
        refine yi_G_put (40, [(2, .inl 0), (0, .inr (.inr (some 82))), (1, .inl dep)], [], ((yi_u Ja 82 7 ((Ja 82 7) + 1)), L, X), 0, 0) rfl (ym_pi hS rfl rfl) ?_
        generalize w23 : yi_u Ja 82 7 ((Ja 82 7) + 1) = I22
        refine yi_G_run 2 (42, [(2, .inl 0), (0, .inr (.inr (some 82))), (1, .inl dep)], [.inl dep, .inr (.inr (some 82))], (I22, L, X), 0, 0) (fun _ => rfl) ?_
        have r24 : I22 82 13 = Ja 82 13 := by rw [← w23, yi_u_ne _ _ (by omega)]
        have r25 : I22 82 18 = I 82 18 := by rw [← w23, yi_u_ne _ _ (by omega), fJa 82 (18) (by omega)]
        have r26 : I22 82 19 = I 82 19 := by rw [← w23, yi_u_ne _ _ (by omega), fJa 82 (19) (by omega)]
        have r27 : I22 82 7 = (Ja 82 7) + 1 := by rw [← w23, yi_u_eq]
        have r28 : I22 82 8 = Ja 82 8 := by rw [← w23, yi_u_ne _ _ (by omega)]
        have r29 : I22 82 20 = I 82 20 := by rw [← w23, yi_u_ne _ _ (by omega), fJa 82 (20) (by omega)]
        refine yi_G_callv rfl rfl (ym_rcv hS) rfl (hIt d (by omega) I22 L te (Ja 82 13) (ym_TK_t (fun k => by rw [← w23, yi_u_ne _ _ (fun z => absurd z.1 (by decide)), fJa 84 k (by omega)]) (fun k => by rw [← w23, yi_u_ne _ _ (fun z => absurd z.1 (by decide)), fJa 85 k (by omega)]) hT) ⟨by omega, by omega⟩ (by omega) ⟨(by rw [r25]; omega), (by rw [r25]; omega)⟩ ⟨(by rw [r26]; omega), (by rw [r26]; omega)⟩ (ym_DY_t r29 (fun k => by rw [← w23, yi_u_ne _ _ (fun z => absurd z.1 (by decide)), fJa 88 k (by omega)]) hDY) r24 ⟨by omega, by omega⟩) ?_
        rintro _ ⟨I30, rfl, f31, h32a, h32b, h32c, h32d, lwI30, sgI30⟩
        show yi_G zi_Ms d zi_m114 (45, [(2, .inl 0), (0, .inr (.inr (some 82))), (1, .inl dep)], [], (I30, L, X), 0, 0) _
        refine yi_G_run 2 (47, [(2, .inl 0), (0, .inr (.inr (some 82))), (1, .inl dep)], [.inl 0, .inr (.inr (some 82))], (I30, L, X), 0, 0) (fun _ => rfl) ?_
        refine yi_G_if1 true rfl (by decide) ?_
        refine yi_G_run 2 (56, [(2, .inl 0), (0, .inr (.inr (some 82))), (1, .inl dep)], [.inl 0, .inl 5, .inr (.inr (some 82))], (I30, L, X), 0, 0) (fun _ => rfl) ?_
        refine yi_G_callv rfl rfl (ym_rcv hS) rfl (c_emit d (by omega) hS rfl ⟨by omega, by omega⟩) ?_
        rintro _ ⟨I33, rfl, f34, eI33, emI33⟩
        show yi_G zi_Ms d zi_m114 (59, [(2, .inl 0), (0, .inr (.inr (some 82))), (1, .inl dep)], [], (I33, L, X), 0, 0) _
        refine yi_G_run 1 (5, [(2, .inl 0), (0, .inr (.inr (some 82))), (1, .inl dep)], [], (I33, L, X), 0, 0) (fun _ => rfl) ?_
        refine yi_G_al (al := [(0, .inr (.inr (some 82))), (1, .inl dep)]) (show ([0, 1] : List Nat).Nodup by decide) (show ([2, 0, 1] : List Nat).Nodup by decide) (yi_mc (List.mem_of_getElem? (i := 1) rfl) (yi_mc (List.mem_of_getElem? (i := 2) rfl) yi_mn)) ?_
        have r35 : I33 82 7 = I30 82 7 := by rw [f34 82 (7) (by omega)]
        have r36 : I33 82 8 = I30 82 8 := by rw [f34 82 (8) (by omega)]
        exact ih5 _ (by omega) I33 (fun p k hp => by rw [f34 p k (by omega), f31 p k (by omega), ← w23, yi_u_ne _ _ (fun z => by omega), fJa p k (by omega)]) (by omega) (by omega) (by omega) (by omega) (ym_LW_t (ym_LW_t plw (ym_LW_g lwI30 (fun k => by rw [← w23, yi_u_ne _ _ (fun z => absurd z.1 (by decide))]) (fun k => by rw [← w23, yi_u_ne _ _ (fun z => absurd z.1 (by decide))])) (by omega)) (ym_LW_e (n := I 82 13) emI33 (by omega) (by omega)) (Int.le_refl _)) (fun zz => by rw [eI33]; exact ym_SG_bin (psg (by omega)) (ym_LW_g lwI30 (fun k => by rw [← w23, yi_u_ne _ _ (fun z => absurd z.1 (by decide))]) (fun k => by rw [← w23, yi_u_ne _ _ (fun z => absurd z.1 (by decide))])) (sgI30 (by omega)) emI33 (by omega) (by omega)) rfl
    · show yi_G zi_Ms d zi_m114 (11, [(0, .inr (.inr (some 82))), (1, .inl dep)], [.inl 0], (Ja, L, X), 0, 0) _
      refine yi_G_if1 false rfl (by decide) ?_
      refine yi_G_run 2 (17, [(0, .inr (.inr (some 82))), (1, .inl dep)], [.inl 45, .inr (.inr (some 82))], (Ja, L, X), 0, 0) (fun _ => rfl) ?_
      have r38 : Ja 84 ((Ja 82 7).toNat) = I 84 ((Ja 82 7).toNat) := by rw [fJa 84 ((Ja 82 7).toNat) (by omega)]
      refine yi_G_callv rfl rfl (ym_rcv hS) rfl (c_isSign d (by omega) hS rfl rfl r38 rfl ⟨by omega, by omega⟩) ?_
      rintro _ (⟨c37, rfl⟩ | ⟨c37, rfl⟩)
      · have lt39 : Ja 82 7 < te := ym_TK_lt hT (by omega) (by omega)
        show yi_G zi_Ms d zi_m114 (20, [(0, .inr (.inr (some 82))), (1, .inl dep)], [.inl 1], (Ja, L, X), 0, 0) _
        refine yi_G_if1 false rfl (by decide) ?_
        refine yi_G_run 2 (26, [(0, .inr (.inr (some 82))), (1, .inl dep)], [.inl 43, .inr (.inr (some 82))], (Ja, L, X), 0, 0) (fun _ => rfl) ?_
        have r41 : Ja 84 ((Ja 82 7).toNat) = I 84 ((Ja 82 7).toNat) := by rw [fJa 84 ((Ja 82 7).toNat) (by omega)]
        refine yi_G_callv rfl rfl (ym_rcv hS) rfl (c_isSign d (by omega) hS rfl rfl r41 rfl ⟨by omega, by omega⟩) ?_
        rintro _ (⟨c40, rfl⟩ | ⟨c40, rfl⟩)
        · have lt42 : Ja 82 7 < te := ym_TK_lt hT (by omega) (by omega)
          show yi_G zi_Ms d zi_m114 (29, [(0, .inr (.inr (some 82))), (1, .inl dep)], [.inl 1], (Ja, L, X), 0, 0) _
          refine yi_G_run 3 (32, [(2, .inl 1), (0, .inr (.inr (some 82))), (1, .inl dep)], [.inr (.inr (some 82)), .inr (.inr (some 82))], (Ja, L, X), 0, 0) (fun _ => rfl) ?_
          refine yi_G_get (35, [(2, .inl 1), (0, .inr (.inr (some 82))), (1, .inl dep)], [.inl (Ja 82 7), .inr (.inr (some 82))], (Ja, L, X), 0, 0) rfl (ym_gi hS rfl rfl rfl) ?_
          refine yi_G_run 1 (36, [(2, .inl 1), (0, .inr (.inr (some 82))), (1, .inl dep)], [.inl 1, .inl (Ja 82 7), .inr (.inr (some 82))], (Ja, L, X), 0, 0) (fun _ => rfl) ?_
          refine yi_G_iadd rfl ((Ja 82 7) + 1) (yi_wn (by omega) (by omega)) ?_
          refine yi_G_put (40, [(2, .inl 1), (0, .inr (.inr (some 82))), (1, .inl dep)], [], ((yi_u Ja 82 7 ((Ja 82 7) + 1)), L, X), 0, 0) rfl (ym_pi hS rfl rfl) ?_
          generalize w44 : yi_u Ja 82 7 ((Ja 82 7) + 1) = I43
          refine yi_G_run 2 (42, [(2, .inl 1), (0, .inr (.inr (some 82))), (1, .inl dep)], [.inl dep, .inr (.inr (some 82))], (I43, L, X), 0, 0) (fun _ => rfl) ?_
          have r45 : I43 82 13 = Ja 82 13 := by rw [← w44, yi_u_ne _ _ (by omega)]
          have r46 : I43 82 18 = I 82 18 := by rw [← w44, yi_u_ne _ _ (by omega), fJa 82 (18) (by omega)]
          have r47 : I43 82 19 = I 82 19 := by rw [← w44, yi_u_ne _ _ (by omega), fJa 82 (19) (by omega)]
          have r48 : I43 82 7 = (Ja 82 7) + 1 := by rw [← w44, yi_u_eq]
          have r49 : I43 82 8 = Ja 82 8 := by rw [← w44, yi_u_ne _ _ (by omega)]
          have r50 : I43 82 20 = I 82 20 := by rw [← w44, yi_u_ne _ _ (by omega), fJa 82 (20) (by omega)]
          refine yi_G_callv rfl rfl (ym_rcv hS) rfl (hIt d (by omega) I43 L te (Ja 82 13) (ym_TK_t (fun k => by rw [← w44, yi_u_ne _ _ (fun z => absurd z.1 (by decide)), fJa 84 k (by omega)]) (fun k => by rw [← w44, yi_u_ne _ _ (fun z => absurd z.1 (by decide)), fJa 85 k (by omega)]) hT) ⟨by omega, by omega⟩ (by omega) ⟨(by rw [r46]; omega), (by rw [r46]; omega)⟩ ⟨(by rw [r47]; omega), (by rw [r47]; omega)⟩ (ym_DY_t r50 (fun k => by rw [← w44, yi_u_ne _ _ (fun z => absurd z.1 (by decide)), fJa 88 k (by omega)]) hDY) r45 ⟨by omega, by omega⟩) ?_
          rintro _ ⟨I51, rfl, f52, h53a, h53b, h53c, h53d, lwI51, sgI51⟩
          show yi_G zi_Ms d zi_m114 (45, [(2, .inl 1), (0, .inr (.inr (some 82))), (1, .inl dep)], [], (I51, L, X), 0, 0) _
          refine yi_G_run 2 (47, [(2, .inl 1), (0, .inr (.inr (some 82))), (1, .inl dep)], [.inl 1, .inr (.inr (some 82))], (I51, L, X), 0, 0) (fun _ => rfl) ?_
          refine yi_G_if1 false rfl (by decide) ?_
          refine yi_G_run 3 (56, [(2, .inl 1), (0, .inr (.inr (some 82))), (1, .inl dep)], [.inl 0, .inl 4, .inr (.inr (some 82))], (I51, L, X), 0, 0) (fun _ => rfl) ?_
          refine yi_G_callv rfl rfl (ym_rcv hS) rfl (c_emit d (by omega) hS rfl ⟨by omega, by omega⟩) ?_
          rintro _ ⟨I54, rfl, f55, eI54, emI54⟩
          show yi_G zi_Ms d zi_m114 (59, [(2, .inl 1), (0, .inr (.inr (some 82))), (1, .inl dep)], [], (I54, L, X), 0, 0) _
          refine yi_G_run 1 (5, [(2, .inl 1), (0, .inr (.inr (some 82))), (1, .inl dep)], [], (I54, L, X), 0, 0) (fun _ => rfl) ?_
          refine yi_G_al (al := [(0, .inr (.inr (some 82))), (1, .inl dep)]) (show ([0, 1] : List Nat).Nodup by decide) (show ([2, 0, 1] : List Nat).Nodup by decide) (yi_mc (List.mem_of_getElem? (i := 1) rfl) (yi_mc (List.mem_of_getElem? (i := 2) rfl) yi_mn)) ?_
          have r56 : I54 82 7 = I51 82 7 := by rw [f55 82 (7) (by omega)]
          have r57 : I54 82 8 = I51 82 8 := by rw [f55 82 (8) (by omega)]
          exact ih5 _ (by omega) I54 (fun p k hp => by rw [f55 p k (by omega), f52 p k (by omega), ← w44, yi_u_ne _ _ (fun z => by omega), fJa p k (by omega)]) (by omega) (by omega) (by omega) (by omega) (ym_LW_t (ym_LW_t plw (ym_LW_g lwI51 (fun k => by rw [← w44, yi_u_ne _ _ (fun z => absurd z.1 (by decide))]) (fun k => by rw [← w44, yi_u_ne _ _ (fun z => absurd z.1 (by decide))])) (by omega)) (ym_LW_e (n := I 82 13) emI54 (by omega) (by omega)) (Int.le_refl _)) (fun zz => by rw [eI54]; exact ym_SG_bin (psg (by omega)) (ym_LW_g lwI51 (fun k => by rw [← w44, yi_u_ne _ _ (fun z => absurd z.1 (by decide))]) (fun k => by rw [← w44, yi_u_ne _ _ (fun z => absurd z.1 (by decide))])) (sgI51 (by omega)) emI54 (by omega) (by omega)) rfl
        · show yi_G zi_Ms d zi_m114 (29, [(0, .inr (.inr (some 82))), (1, .inl dep)], [.inl 0], (Ja, L, X), 0, 0) _
          refine yi_G_run 3 (32, [(2, .inl 0), (0, .inr (.inr (some 82))), (1, .inl dep)], [.inr (.inr (some 82)), .inr (.inr (some 82))], (Ja, L, X), 0, 0) (fun _ => rfl) ?_
          refine yi_G_get (35, [(2, .inl 0), (0, .inr (.inr (some 82))), (1, .inl dep)], [.inl (Ja 82 7), .inr (.inr (some 82))], (Ja, L, X), 0, 0) rfl (ym_gi hS rfl rfl rfl) ?_
          refine yi_G_run 1 (36, [(2, .inl 0), (0, .inr (.inr (some 82))), (1, .inl dep)], [.inl 1, .inl (Ja 82 7), .inr (.inr (some 82))], (Ja, L, X), 0, 0) (fun _ => rfl) ?_
          refine yi_G_iadd rfl ((Ja 82 7) + 1) (yi_wn (by omega) (by omega)) ?_
          refine yi_G_put (40, [(2, .inl 0), (0, .inr (.inr (some 82))), (1, .inl dep)], [], ((yi_u Ja 82 7 ((Ja 82 7) + 1)), L, X), 0, 0) rfl (ym_pi hS rfl rfl) ?_
          generalize w59 : yi_u Ja 82 7 ((Ja 82 7) + 1) = I58
          refine yi_G_run 2 (42, [(2, .inl 0), (0, .inr (.inr (some 82))), (1, .inl dep)], [.inl dep, .inr (.inr (some 82))], (I58, L, X), 0, 0) (fun _ => rfl) ?_
          have r60 : I58 82 13 = Ja 82 13 := by rw [← w59, yi_u_ne _ _ (by omega)]
          have r61 : I58 82 18 = I 82 18 := by rw [← w59, yi_u_ne _ _ (by omega), fJa 82 (18) (by omega)]
          have r62 : I58 82 19 = I 82 19 := by rw [← w59, yi_u_ne _ _ (by omega), fJa 82 (19) (by omega)]
          have r63 : I58 82 7 = (Ja 82 7) + 1 := by rw [← w59, yi_u_eq]
          have r64 : I58 82 8 = Ja 82 8 := by rw [← w59, yi_u_ne _ _ (by omega)]
          have r65 : I58 82 20 = I 82 20 := by rw [← w59, yi_u_ne _ _ (by omega), fJa 82 (20) (by omega)]
          refine yi_G_callv rfl rfl (ym_rcv hS) rfl (hIt d (by omega) I58 L te (Ja 82 13) (ym_TK_t (fun k => by rw [← w59, yi_u_ne _ _ (fun z => absurd z.1 (by decide)), fJa 84 k (by omega)]) (fun k => by rw [← w59, yi_u_ne _ _ (fun z => absurd z.1 (by decide)), fJa 85 k (by omega)]) hT) ⟨by omega, by omega⟩ (by omega) ⟨(by rw [r61]; omega), (by rw [r61]; omega)⟩ ⟨(by rw [r62]; omega), (by rw [r62]; omega)⟩ (ym_DY_t r65 (fun k => by rw [← w59, yi_u_ne _ _ (fun z => absurd z.1 (by decide)), fJa 88 k (by omega)]) hDY) r60 ⟨by omega, by omega⟩) ?_
          rintro _ ⟨I66, rfl, f67, h68a, h68b, h68c, h68d, lwI66, sgI66⟩
          show yi_G zi_Ms d zi_m114 (45, [(2, .inl 0), (0, .inr (.inr (some 82))), (1, .inl dep)], [], (I66, L, X), 0, 0) _
          refine yi_G_run 2 (47, [(2, .inl 0), (0, .inr (.inr (some 82))), (1, .inl dep)], [.inl 0, .inr (.inr (some 82))], (I66, L, X), 0, 0) (fun _ => rfl) ?_
          refine yi_G_if1 true rfl (by decide) ?_
          refine yi_G_run 2 (56, [(2, .inl 0), (0, .inr (.inr (some 82))), (1, .inl dep)], [.inl 0, .inl 5, .inr (.inr (some 82))], (I66, L, X), 0, 0) (fun _ => rfl) ?_
          refine yi_G_callv rfl rfl (ym_rcv hS) rfl (c_emit d (by omega) hS rfl ⟨by omega, by omega⟩) ?_
          rintro _ ⟨I69, rfl, f70, eI69, emI69⟩
          show yi_G zi_Ms d zi_m114 (59, [(2, .inl 0), (0, .inr (.inr (some 82))), (1, .inl dep)], [], (I69, L, X), 0, 0) _
          refine yi_G_run 1 (5, [(2, .inl 0), (0, .inr (.inr (some 82))), (1, .inl dep)], [], (I69, L, X), 0, 0) (fun _ => rfl) ?_
          refine yi_G_al (al := [(0, .inr (.inr (some 82))), (1, .inl dep)]) (show ([0, 1] : List Nat).Nodup by decide) (show ([2, 0, 1] : List Nat).Nodup by decide) (yi_mc (List.mem_of_getElem? (i := 1) rfl) (yi_mc (List.mem_of_getElem? (i := 2) rfl) yi_mn)) ?_
          have r71 : I69 82 7 = I66 82 7 := by rw [f70 82 (7) (by omega)]
          have r72 : I69 82 8 = I66 82 8 := by rw [f70 82 (8) (by omega)]
          exact ih5 _ (by omega) I69 (fun p k hp => by rw [f70 p k (by omega), f67 p k (by omega), ← w59, yi_u_ne _ _ (fun z => by omega), fJa p k (by omega)]) (by omega) (by omega) (by omega) (by omega) (ym_LW_t (ym_LW_t plw (ym_LW_g lwI66 (fun k => by rw [← w59, yi_u_ne _ _ (fun z => absurd z.1 (by decide))]) (fun k => by rw [← w59, yi_u_ne _ _ (fun z => absurd z.1 (by decide))])) (by omega)) (ym_LW_e (n := I 82 13) emI69 (by omega) (by omega)) (Int.le_refl _)) (fun zz => by rw [eI69]; exact ym_SG_bin (psg (by omega)) (ym_LW_g lwI66 (fun k => by rw [← w59, yi_u_ne _ _ (fun z => absurd z.1 (by decide))]) (fun k => by rw [← w59, yi_u_ne _ _ (fun z => absurd z.1 (by decide))])) (sgI66 (by omega)) emI69 (by omega) (by omega)) rfl
      · show yi_G zi_Ms d zi_m114 (20, [(0, .inr (.inr (some 82))), (1, .inl dep)], [.inl 0], (Ja, L, X), 0, 0) _
        refine yi_G_if1 true rfl (by decide) ?_
        exact yi_G_retv rfl rfl (⟨_, rfl, (fun p k hp => by rw [fJa p k (by omega)]), ⟨by omega, by omega⟩, by omega, ⟨by omega, by omega⟩, by omega, plw, psg⟩)
  refine yi_G_run 2 (2, [(0, .inr (.inr (some 82))), (1, .inl dep)], [.inl dep, .inr (.inr (some 82))], (I, L, X), 0, 0) (fun _ => rfl) ?_
  refine yi_G_callv rfl rfl (ym_rcv hS) rfl (hIt d (by omega) I L te (I 82 13) hT ⟨by omega, by omega⟩ (by omega) ⟨(by omega), (by omega)⟩ ⟨(by omega), (by omega)⟩ hDY rfl ⟨by omega, by omega⟩) ?_
  rintro _ ⟨I73, rfl, f74, h75a, h75b, h75c, h75d, lwI73, sgI73⟩
  show yi_G zi_Ms d zi_m114 (5, [(0, .inr (.inr (some 82))), (1, .inl dep)], [], (I73, L, X), 0, 0) _
  exact pt5 _ I73 (fun p k hp => by rw [f74 p k (by omega)]) (by omega) (by omega) (by omega) (by omega) lwI73 sgI73 rfl
theorem c_test_of {X : ym_X} (hS : ym_S X) {m : Nat} {dep : Int} (m0 : 6 ≤ m) (hIt : ym_RC X 114 m dep) : ym_RC X 123 (m + 1) dep := by
  intro D hD I L te n hT a0 f0 n0 n1 hDY hn k0
  subst hn
  obtain ⟨d, rfl⟩ : ∃ d, D = d + 1 := ⟨D - 1, by omega⟩
  refine yi_E_of (M := zi_m123) rfl rfl ?_
  obtain ⟨te0, te1, te2⟩ := id hT
  show yi_G zi_Ms d zi_m123 (0, [(0, .inr (.inr (some 82))), (1, .inl dep)], [], (I, L, X), 0, 0) _
  refine yi_G_run 2 (2, [(0, .inr (.inr (some 82))), (1, .inl dep)], [.inl dep, .inr (.inr (some 82))], (I, L, X), 0, 0) (fun _ => rfl) ?_
  refine yi_G_callv rfl rfl (ym_rcv hS) rfl (hIt d (by omega) I L te (I 82 13) hT ⟨by omega, by omega⟩ (by omega) ⟨(by omega), (by omega)⟩ ⟨(by omega), (by omega)⟩ hDY rfl ⟨by omega, by omega⟩) ?_
  rintro _ ⟨I1, rfl, f2, h3a, h3b, h3c, h3d, lwI1, sgI1⟩
  show yi_G zi_Ms d zi_m123 (5, [(0, .inr (.inr (some 82))), (1, .inl dep)], [], (I1, L, X), 0, 0) _
  refine yi_G_run 2 (8, [(0, .inr (.inr (some 82))), (1, .inl dep)], [.inl 60, .inr (.inr (some 82))], (I1, L, X), 0, 0) (fun _ => rfl) ?_
  skip
  have r5 : I1 84 ((I1 82 7).toNat) = I 84 ((I1 82 7).toNat) := by rw [f2 84 ((I1 82 7).toNat) (by omega)]
  refine yi_G_callv rfl rfl (ym_rcv hS) rfl (c_isSign d (by omega) hS rfl rfl r5 rfl ⟨by omega, by omega⟩) ?_
  rintro _ (⟨c4, rfl⟩ | ⟨c4, rfl⟩)
  · have lt6 : I1 82 7 < te := ym_TK_lt hT (by omega) (by omega)
    show yi_G zi_Ms d zi_m123 (11, [(0, .inr (.inr (some 82))), (1, .inl dep)], [.inl 1], (I1, L, X), 0, 0) _
    refine yi_G_run 3 (15, [(2, .inl 1), (0, .inr (.inr (some 82))), (1, .inl dep)], [.inl 60, .inr (.inr (some 82))], (I1, L, X), 0, 0) (fun _ => rfl) ?_
    have r7 : I1 84 ((I1 82 7).toNat) = I 84 ((I1 82 7).toNat) := by rw [f2 84 ((I1 82 7).toNat) (by omega)]
    refine yi_G_callv rfl rfl (ym_rcv hS) rfl (c_hasSign d (by omega) hS rfl rfl r7 rfl ⟨by omega, by omega⟩) ?_
    rintro _ (⟨c10, I8, rfl, f9, c10b⟩ | ⟨c10, I8, rfl, f9, c10b⟩)
    · have lt11 : I1 82 7 < te := ym_TK_lt hT (by omega) (by omega)
      show yi_G zi_Ms d zi_m123 (18, [(2, .inl 1), (0, .inr (.inr (some 82))), (1, .inl dep)], [.inl 1], (I8, L, X), 0, 0) _
      refine yi_G_if1 true rfl (by decide) ?_
      refine yi_G_run 2 (32, [(2, .inl 1), (0, .inr (.inr (some 82))), (1, .inl dep)], [.inl dep, .inr (.inr (some 82))], (I8, L, X), 0, 0) (fun _ => rfl) ?_
      have r12 : I8 82 13 = I1 82 13 := by rw [f9 82 (13) (by omega)]
      have r13 : I8 82 18 = I 82 18 := by rw [f9 82 (18) (by omega), f2 82 (18) (by omega)]
      have r14 : I8 82 19 = I 82 19 := by rw [f9 82 (19) (by omega), f2 82 (19) (by omega)]
      have r15 : I8 82 7 = (I1 82 7) + 1 := by rw [c10b]
      have r16 : I8 82 8 = I1 82 8 := by rw [f9 82 (8) (by omega)]
      have r17 : I8 82 20 = I 82 20 := by rw [f9 82 (20) (by omega), f2 82 (20) (by omega)]
      refine yi_G_callv rfl rfl (ym_rcv hS) rfl (hIt d (by omega) I8 L te (I1 82 13) (ym_TK_t (fun k => by rw [f9 84 k (by omega), f2 84 k (by omega)]) (fun k => by rw [f9 85 k (by omega), f2 85 k (by omega)]) hT) ⟨by omega, by omega⟩ (by omega) ⟨(by rw [r13]; omega), (by rw [r13]; omega)⟩ ⟨(by rw [r14]; omega), (by rw [r14]; omega)⟩ (ym_DY_t r17 (fun k => by rw [f9 88 k (by omega), f2 88 k (by omega)]) hDY) r12 ⟨by omega, by omega⟩) ?_
      rintro _ ⟨I18, rfl, f19, h20a, h20b, h20c, h20d, lwI18, sgI18⟩
      show yi_G zi_Ms d zi_m123 (35, [(2, .inl 1), (0, .inr (.inr (some 82))), (1, .inl dep)], [], (I18, L, X), 0, 0) _
      refine yi_G_run 2 (37, [(2, .inl 1), (0, .inr (.inr (some 82))), (1, .inl dep)], [.inl 1, .inr (.inr (some 82))], (I18, L, X), 0, 0) (fun _ => rfl) ?_
      refine yi_G_if1 false rfl (by decide) ?_
      refine yi_G_run 3 (48, [(2, .inl 1), (0, .inr (.inr (some 82))), (1, .inl dep)], [.inl 0, .inl 7, .inr (.inr (some 82))], (I18, L, X), 0, 0) (fun _ => rfl) ?_
      refine yi_G_callv rfl rfl (ym_rcv hS) rfl (c_emit d (by omega) hS rfl ⟨by omega, by omega⟩) ?_
      rintro _ ⟨I21, rfl, f22, eI21, emI21⟩
      show yi_G zi_Ms d zi_m123 (51, [(2, .inl 1), (0, .inr (.inr (some 82))), (1, .inl dep)], [], (I21, L, X), 0, 0) _
      have r23 : I21 82 7 = I18 82 7 := by rw [f22 82 (7) (by omega)]
      have r24 : I21 82 8 = I18 82 8 := by rw [f22 82 (8) (by omega)]
      exact yi_G_retv rfl rfl (⟨_, rfl, (fun p k hp => by rw [f22 p k (by omega), f19 p k (by omega), f9 p k (by omega), f2 p k (by omega)]), ⟨by omega, by omega⟩, by omega, ⟨by omega, by omega⟩, by omega, (ym_LW_t (ym_LW_t lwI1 (ym_LW_g lwI18 (fun k => by rw [f9 89 k (by omega)]) (fun k => by rw [f9 90 k (by omega)])) (by omega)) (ym_LW_e (n := I 82 13) emI21 (by omega) (by omega)) (Int.le_refl _)), (fun zz => by rw [eI21]; exact ym_SG_bin (sgI1 (by omega)) (ym_LW_g lwI18 (fun k => by rw [f9 89 k (by omega)]) (fun k => by rw [f9 90 k (by omega)])) (sgI18 (by omega)) emI21 (by omega) (by omega))⟩)
    · show yi_G zi_Ms d zi_m123 (18, [(2, .inl 1), (0, .inr (.inr (some 82))), (1, .inl dep)], [.inl 0], (I8, L, X), 0, 0) _
      refine yi_G_if1 false rfl (by decide) ?_
      refine yi_G_run 2 (24, [(2, .inl 1), (0, .inr (.inr (some 82))), (1, .inl dep)], [.inl 61, .inr (.inr (some 82))], (I8, L, X), 0, 0) (fun _ => rfl) ?_
      have r25 : I8 82 7 = I1 82 7 := by rw [c10b]
      have r26 : I8 82 8 = I1 82 8 := by rw [f9 82 (8) (by omega)]
      have r27 : I8 84 ((I1 82 7).toNat) = I 84 ((I1 82 7).toNat) := by rw [f9 84 ((I1 82 7).toNat) (by omega), f2 84 ((I1 82 7).toNat) (by omega)]
      refine yi_G_callv rfl rfl (ym_rcv hS) rfl (c_hasSign d (by omega) hS r25 r26 r27 rfl ⟨by omega, by omega⟩) ?_
      rintro _ (⟨c30, I28, rfl, f29, c30b⟩ | ⟨c30, I28, rfl, f29, c30b⟩)
      · have lt31 : I1 82 7 < te := ym_TK_lt hT (by omega) (by omega)
        show yi_G zi_Ms d zi_m123 (27, [(2, .inl 1), (0, .inr (.inr (some 82))), (1, .inl dep)], [.inl 1], (I28, L, X), 0, 0) _
        refine yi_G_if1 false rfl (by decide) ?_
        refine yi_G_run 2 (32, [(2, .inl 1), (0, .inr (.inr (some 82))), (1, .inl dep)], [.inl dep, .inr (.inr (some 82))], (I28, L, X), 0, 0) (fun _ => rfl) ?_
        have r32 : I28 82 13 = I1 82 13 := by rw [f29 82 (13) (by omega), f9 82 (13) (by omega)]
        have r33 : I28 82 18 = I 82 18 := by rw [f29 82 (18) (by omega), f9 82 (18) (by omega), f2 82 (18) (by omega)]
        have r34 : I28 82 19 = I 82 19 := by rw [f29 82 (19) (by omega), f9 82 (19) (by omega), f2 82 (19) (by omega)]
        have r35 : I28 82 7 = (I1 82 7) + 1 := by rw [c30b]
        have r36 : I28 82 8 = I1 82 8 := by rw [f29 82 (8) (by omega), f9 82 (8) (by omega)]
        have r37 : I28 82 20 = I 82 20 := by rw [f29 82 (20) (by omega), f9 82 (20) (by omega), f2 82 (20) (by omega)]
        refine yi_G_callv rfl rfl (ym_rcv hS) rfl (hIt d (by omega) I28 L te (I1 82 13) (ym_TK_t (fun k => by rw [f29 84 k (by omega), f9 84 k (by omega), f2 84 k (by omega)]) (fun k => by rw [f29 85 k (by omega), f9 85 k (by omega), f2 85 k (by omega)]) hT) ⟨by omega, by omega⟩ (by omega) ⟨(by rw [r33]; omega), (by rw [r33]; omega)⟩ ⟨(by rw [r34]; omega), (by rw [r34]; omega)⟩ (ym_DY_t r37 (fun k => by rw [f29 88 k (by omega), f9 88 k (by omega), f2 88 k (by omega)]) hDY) r32 ⟨by omega, by omega⟩) ?_
        rintro _ ⟨I38, rfl, f39, h40a, h40b, h40c, h40d, lwI38, sgI38⟩
        show yi_G zi_Ms d zi_m123 (35, [(2, .inl 1), (0, .inr (.inr (some 82))), (1, .inl dep)], [], (I38, L, X), 0, 0) _
        refine yi_G_run 2 (37, [(2, .inl 1), (0, .inr (.inr (some 82))), (1, .inl dep)], [.inl 1, .inr (.inr (some 82))], (I38, L, X), 0, 0) (fun _ => rfl) ?_
        refine yi_G_if1 false rfl (by decide) ?_
        refine yi_G_run 3 (48, [(2, .inl 1), (0, .inr (.inr (some 82))), (1, .inl dep)], [.inl 0, .inl 7, .inr (.inr (some 82))], (I38, L, X), 0, 0) (fun _ => rfl) ?_
        refine yi_G_callv rfl rfl (ym_rcv hS) rfl (c_emit d (by omega) hS rfl ⟨by omega, by omega⟩) ?_
        rintro _ ⟨I41, rfl, f42, eI41, emI41⟩
        show yi_G zi_Ms d zi_m123 (51, [(2, .inl 1), (0, .inr (.inr (some 82))), (1, .inl dep)], [], (I41, L, X), 0, 0) _
        have r43 : I41 82 7 = I38 82 7 := by rw [f42 82 (7) (by omega)]
        have r44 : I41 82 8 = I38 82 8 := by rw [f42 82 (8) (by omega)]
        exact yi_G_retv rfl rfl (⟨_, rfl, (fun p k hp => by rw [f42 p k (by omega), f39 p k (by omega), f29 p k (by omega), f9 p k (by omega), f2 p k (by omega)]), ⟨by omega, by omega⟩, by omega, ⟨by omega, by omega⟩, by omega, (ym_LW_t (ym_LW_t lwI1 (ym_LW_g lwI38 (fun k => by rw [f29 89 k (by omega), f9 89 k (by omega)]) (fun k => by rw [f29 90 k (by omega), f9 90 k (by omega)])) (by omega)) (ym_LW_e (n := I 82 13) emI41 (by omega) (by omega)) (Int.le_refl _)), (fun zz => by rw [eI41]; exact ym_SG_bin (sgI1 (by omega)) (ym_LW_g lwI38 (fun k => by rw [f29 89 k (by omega), f9 89 k (by omega)]) (fun k => by rw [f29 90 k (by omega), f9 90 k (by omega)])) (sgI38 (by omega)) emI41 (by omega) (by omega))⟩)
      · show yi_G zi_Ms d zi_m123 (27, [(2, .inl 1), (0, .inr (.inr (some 82))), (1, .inl dep)], [.inl 0], (I28, L, X), 0, 0) _
        refine yi_G_if1 true rfl (by decide) ?_
        have r45 : I28 82 7 = I1 82 7 := by rw [c30b]
        have r46 : I28 82 8 = I1 82 8 := by rw [f29 82 (8) (by omega), f9 82 (8) (by omega)]
        have r47 : I28 82 13 = I1 82 13 := by rw [f29 82 (13) (by omega), f9 82 (13) (by omega)]
        have r48 : I28 82 13 = I1 82 13 := by rw [f29 82 (13) (by omega), f9 82 (13) (by omega)]
        exact yi_G_retv rfl rfl (⟨_, rfl, (fun p k hp => by rw [f29 p k (by omega), f9 p k (by omega), f2 p k (by omega)]), ⟨by omega, by omega⟩, by omega, ⟨by omega, by omega⟩, by omega, (ym_LW_f lwI1 (fun k => by rw [f29 89 k (by omega), f9 89 k (by omega)]) (fun k => by rw [f29 90 k (by omega), f9 90 k (by omega)])), (fun zz => by rw [r48]; exact ym_SG_t (sgI1 (by omega)) (ym_LW_f (ym_LW_r _ _) (fun k => by rw [f29 89 k (by omega), f9 89 k (by omega)]) (fun k => by rw [f29 90 k (by omega), f9 90 k (by omega)])))⟩)
  · show yi_G zi_Ms d zi_m123 (11, [(0, .inr (.inr (some 82))), (1, .inl dep)], [.inl 0], (I1, L, X), 0, 0) _
    refine yi_G_run 3 (15, [(2, .inl 0), (0, .inr (.inr (some 82))), (1, .inl dep)], [.inl 60, .inr (.inr (some 82))], (I1, L, X), 0, 0) (fun _ => rfl) ?_
    have r49 : I1 84 ((I1 82 7).toNat) = I 84 ((I1 82 7).toNat) := by rw [f2 84 ((I1 82 7).toNat) (by omega)]
    refine yi_G_callv rfl rfl (ym_rcv hS) rfl (c_hasSign d (by omega) hS rfl rfl r49 rfl ⟨by omega, by omega⟩) ?_
    rintro _ (⟨c52, I50, rfl, f51, c52b⟩ | ⟨c52, I50, rfl, f51, c52b⟩)
    · have lt53 : I1 82 7 < te := ym_TK_lt hT (by omega) (by omega)
      show yi_G zi_Ms d zi_m123 (18, [(2, .inl 0), (0, .inr (.inr (some 82))), (1, .inl dep)], [.inl 1], (I50, L, X), 0, 0) _
      refine yi_G_if1 true rfl (by decide) ?_
      refine yi_G_run 2 (32, [(2, .inl 0), (0, .inr (.inr (some 82))), (1, .inl dep)], [.inl dep, .inr (.inr (some 82))], (I50, L, X), 0, 0) (fun _ => rfl) ?_
      have r54 : I50 82 13 = I1 82 13 := by rw [f51 82 (13) (by omega)]
      have r55 : I50 82 18 = I 82 18 := by rw [f51 82 (18) (by omega), f2 82 (18) (by omega)]
      have r56 : I50 82 19 = I 82 19 := by rw [f51 82 (19) (by omega), f2 82 (19) (by omega)]
      have r57 : I50 82 7 = (I1 82 7) + 1 := by rw [c52b]
      have r58 : I50 82 8 = I1 82 8 := by rw [f51 82 (8) (by omega)]
      have r59 : I50 82 20 = I 82 20 := by rw [f51 82 (20) (by omega), f2 82 (20) (by omega)]
      refine yi_G_callv rfl rfl (ym_rcv hS) rfl (hIt d (by omega) I50 L te (I1 82 13) (ym_TK_t (fun k => by rw [f51 84 k (by omega), f2 84 k (by omega)]) (fun k => by rw [f51 85 k (by omega), f2 85 k (by omega)]) hT) ⟨by omega, by omega⟩ (by omega) ⟨(by rw [r55]; omega), (by rw [r55]; omega)⟩ ⟨(by rw [r56]; omega), (by rw [r56]; omega)⟩ (ym_DY_t r59 (fun k => by rw [f51 88 k (by omega), f2 88 k (by omega)]) hDY) r54 ⟨by omega, by omega⟩) ?_
      rintro _ ⟨I60, rfl, f61, h62a, h62b, h62c, h62d, lwI60, sgI60⟩
      show yi_G zi_Ms d zi_m123 (35, [(2, .inl 0), (0, .inr (.inr (some 82))), (1, .inl dep)], [], (I60, L, X), 0, 0) _
      refine yi_G_run 2 (37, [(2, .inl 0), (0, .inr (.inr (some 82))), (1, .inl dep)], [.inl 0, .inr (.inr (some 82))], (I60, L, X), 0, 0) (fun _ => rfl) ?_
      refine yi_G_if1 true rfl (by decide) ?_
      refine yi_G_run 2 (48, [(2, .inl 0), (0, .inr (.inr (some 82))), (1, .inl dep)], [.inl 0, .inl 8, .inr (.inr (some 82))], (I60, L, X), 0, 0) (fun _ => rfl) ?_
      refine yi_G_callv rfl rfl (ym_rcv hS) rfl (c_emit d (by omega) hS rfl ⟨by omega, by omega⟩) ?_
      rintro _ ⟨I63, rfl, f64, eI63, emI63⟩
      show yi_G zi_Ms d zi_m123 (51, [(2, .inl 0), (0, .inr (.inr (some 82))), (1, .inl dep)], [], (I63, L, X), 0, 0) _
      have r65 : I63 82 7 = I60 82 7 := by rw [f64 82 (7) (by omega)]
      have r66 : I63 82 8 = I60 82 8 := by rw [f64 82 (8) (by omega)]
      exact yi_G_retv rfl rfl (⟨_, rfl, (fun p k hp => by rw [f64 p k (by omega), f61 p k (by omega), f51 p k (by omega), f2 p k (by omega)]), ⟨by omega, by omega⟩, by omega, ⟨by omega, by omega⟩, by omega, (ym_LW_t (ym_LW_t lwI1 (ym_LW_g lwI60 (fun k => by rw [f51 89 k (by omega)]) (fun k => by rw [f51 90 k (by omega)])) (by omega)) (ym_LW_e (n := I 82 13) emI63 (by omega) (by omega)) (Int.le_refl _)), (fun zz => by rw [eI63]; exact ym_SG_bin (sgI1 (by omega)) (ym_LW_g lwI60 (fun k => by rw [f51 89 k (by omega)]) (fun k => by rw [f51 90 k (by omega)])) (sgI60 (by omega)) emI63 (by omega) (by omega))⟩)
    · show yi_G zi_Ms d zi_m123 (18, [(2, .inl 0), (0, .inr (.inr (some 82))), (1, .inl dep)], [.inl 0], (I50, L, X), 0, 0) _
      refine yi_G_if1 false rfl (by decide) ?_
      refine yi_G_run 2 (24, [(2, .inl 0), (0, .inr (.inr (some 82))), (1, .inl dep)], [.inl 61, .inr (.inr (some 82))], (I50, L, X), 0, 0) (fun _ => rfl) ?_
      have r67 : I50 82 7 = I1 82 7 := by rw [c52b]
      have r68 : I50 82 8 = I1 82 8 := by rw [f51 82 (8) (by omega)]
      have r69 : I50 84 ((I1 82 7).toNat) = I 84 ((I1 82 7).toNat) := by rw [f51 84 ((I1 82 7).toNat) (by omega), f2 84 ((I1 82 7).toNat) (by omega)]
      refine yi_G_callv rfl rfl (ym_rcv hS) rfl (c_hasSign d (by omega) hS r67 r68 r69 rfl ⟨by omega, by omega⟩) ?_
      rintro _ (⟨c72, I70, rfl, f71, c72b⟩ | ⟨c72, I70, rfl, f71, c72b⟩)
      · have lt73 : I1 82 7 < te := ym_TK_lt hT (by omega) (by omega)
        show yi_G zi_Ms d zi_m123 (27, [(2, .inl 0), (0, .inr (.inr (some 82))), (1, .inl dep)], [.inl 1], (I70, L, X), 0, 0) _
        refine yi_G_if1 false rfl (by decide) ?_
        refine yi_G_run 2 (32, [(2, .inl 0), (0, .inr (.inr (some 82))), (1, .inl dep)], [.inl dep, .inr (.inr (some 82))], (I70, L, X), 0, 0) (fun _ => rfl) ?_
        have r74 : I70 82 13 = I1 82 13 := by rw [f71 82 (13) (by omega), f51 82 (13) (by omega)]
        have r75 : I70 82 18 = I 82 18 := by rw [f71 82 (18) (by omega), f51 82 (18) (by omega), f2 82 (18) (by omega)]
        have r76 : I70 82 19 = I 82 19 := by rw [f71 82 (19) (by omega), f51 82 (19) (by omega), f2 82 (19) (by omega)]
        have r77 : I70 82 7 = (I1 82 7) + 1 := by rw [c72b]
        have r78 : I70 82 8 = I1 82 8 := by rw [f71 82 (8) (by omega), f51 82 (8) (by omega)]
        have r79 : I70 82 20 = I 82 20 := by rw [f71 82 (20) (by omega), f51 82 (20) (by omega), f2 82 (20) (by omega)]
        refine yi_G_callv rfl rfl (ym_rcv hS) rfl (hIt d (by omega) I70 L te (I1 82 13) (ym_TK_t (fun k => by rw [f71 84 k (by omega), f51 84 k (by omega), f2 84 k (by omega)]) (fun k => by rw [f71 85 k (by omega), f51 85 k (by omega), f2 85 k (by omega)]) hT) ⟨by omega, by omega⟩ (by omega) ⟨(by rw [r75]; omega), (by rw [r75]; omega)⟩ ⟨(by rw [r76]; omega), (by rw [r76]; omega)⟩ (ym_DY_t r79 (fun k => by rw [f71 88 k (by omega), f51 88 k (by omega), f2 88 k (by omega)]) hDY) r74 ⟨by omega, by omega⟩) ?_
        rintro _ ⟨I80, rfl, f81, h82a, h82b, h82c, h82d, lwI80, sgI80⟩
        show yi_G zi_Ms d zi_m123 (35, [(2, .inl 0), (0, .inr (.inr (some 82))), (1, .inl dep)], [], (I80, L, X), 0, 0) _
        refine yi_G_run 2 (37, [(2, .inl 0), (0, .inr (.inr (some 82))), (1, .inl dep)], [.inl 0, .inr (.inr (some 82))], (I80, L, X), 0, 0) (fun _ => rfl) ?_
        refine yi_G_if1 true rfl (by decide) ?_
        refine yi_G_run 2 (48, [(2, .inl 0), (0, .inr (.inr (some 82))), (1, .inl dep)], [.inl 0, .inl 8, .inr (.inr (some 82))], (I80, L, X), 0, 0) (fun _ => rfl) ?_
        refine yi_G_callv rfl rfl (ym_rcv hS) rfl (c_emit d (by omega) hS rfl ⟨by omega, by omega⟩) ?_
        rintro _ ⟨I83, rfl, f84, eI83, emI83⟩
        show yi_G zi_Ms d zi_m123 (51, [(2, .inl 0), (0, .inr (.inr (some 82))), (1, .inl dep)], [], (I83, L, X), 0, 0) _
        have r85 : I83 82 7 = I80 82 7 := by rw [f84 82 (7) (by omega)]
        have r86 : I83 82 8 = I80 82 8 := by rw [f84 82 (8) (by omega)]
        exact yi_G_retv rfl rfl (⟨_, rfl, (fun p k hp => by rw [f84 p k (by omega), f81 p k (by omega), f71 p k (by omega), f51 p k (by omega), f2 p k (by omega)]), ⟨by omega, by omega⟩, by omega, ⟨by omega, by omega⟩, by omega, (ym_LW_t (ym_LW_t lwI1 (ym_LW_g lwI80 (fun k => by rw [f71 89 k (by omega), f51 89 k (by omega)]) (fun k => by rw [f71 90 k (by omega), f51 90 k (by omega)])) (by omega)) (ym_LW_e (n := I 82 13) emI83 (by omega) (by omega)) (Int.le_refl _)), (fun zz => by rw [eI83]; exact ym_SG_bin (sgI1 (by omega)) (ym_LW_g lwI80 (fun k => by rw [f71 89 k (by omega), f51 89 k (by omega)]) (fun k => by rw [f71 90 k (by omega), f51 90 k (by omega)])) (sgI80 (by omega)) emI83 (by omega) (by omega))⟩)
      · show yi_G zi_Ms d zi_m123 (27, [(2, .inl 0), (0, .inr (.inr (some 82))), (1, .inl dep)], [.inl 0], (I70, L, X), 0, 0) _
        refine yi_G_if1 true rfl (by decide) ?_
        have r87 : I70 82 7 = I1 82 7 := by rw [c72b]
        have r88 : I70 82 8 = I1 82 8 := by rw [f71 82 (8) (by omega), f51 82 (8) (by omega)]
        have r89 : I70 82 13 = I1 82 13 := by rw [f71 82 (13) (by omega), f51 82 (13) (by omega)]
        have r90 : I70 82 13 = I1 82 13 := by rw [f71 82 (13) (by omega), f51 82 (13) (by omega)]
        exact yi_G_retv rfl rfl (⟨_, rfl, (fun p k hp => by rw [f71 p k (by omega), f51 p k (by omega), f2 p k (by omega)]), ⟨by omega, by omega⟩, by omega, ⟨by omega, by omega⟩, by omega, (ym_LW_f lwI1 (fun k => by rw [f71 89 k (by omega), f51 89 k (by omega)]) (fun k => by rw [f71 90 k (by omega), f51 90 k (by omega)])), (fun zz => by rw [r90]; exact ym_SG_t (sgI1 (by omega)) (ym_LW_f (ym_LW_r _ _) (fun k => by rw [f71 89 k (by omega), f51 89 k (by omega)]) (fun k => by rw [f71 90 k (by omega), f51 90 k (by omega)])))⟩)
theorem c_ors_of {X : ym_X} (hS : ym_S X) {m : Nat} {dep : Int} (m0 : 6 ≤ m) (hIt : ym_RC X 123 m dep) : ym_RC X 87 (m + 1) dep := by
  intro D hD I L te n hT a0 f0 n0 n1 hDY hn k0
  subst hn
  obtain ⟨d, rfl⟩ : ∃ d, D = d + 1 := ⟨D - 1, by omega⟩
  refine yi_E_of (M := zi_m87) rfl rfl ?_
  obtain ⟨te0, te1, te2⟩ := id hT
  show yi_G zi_Ms d zi_m87 (0, [(0, .inr (.inr (some 82))), (1, .inl dep)], [], (I, L, X), 0, 0) _
  have pt5 : ∀ (m : Nat) (Ja : Nat → Nat → Int), (∀ p k, ¬ (p = 82 ∧ k = 7) ∧ ¬ (p = 82 ∧ k = 8) ∧ ¬ (p = 82 ∧ k = 13) ∧ p ≠ 89 ∧ p ≠ 90 → Ja p k = I p k) → (I 82 7 ≤ Ja 82 7 ∧ Ja 82 7 ≤ te) → (0 ≤ Ja 82 8) → (I 82 13 ≤ Ja 82 13 ∧ Ja 82 13 - I 82 13 ≤ Ja 82 7 - I 82 7 + 1) → (Ja 82 8 = 0 → I 82 8 = 0 ∧ Ja 82 13 - I 82 13 ≤ Ja 82 7 - I 82 7) → (ym_LW I Ja (I 82 13)) → (Ja 82 8 = 0 → ym_SG Ja (I 82 13) (Ja 82 13) 0 1) → (te - Ja 82 7).toNat = m → yi_G zi_Ms d zi_m87 (5, [(0, .inr (.inr (some 82))), (1, .inl dep)], [], (Ja, L, X), 0, 0) (ym_RQ I L X te (I 82 13)) := by
    intro m5
    induction m5 using Nat.strongRecOn with
    | _ m5 ih5 =>
    intro Ja fJa pa pf pk pz plw psg hm5
    refine yi_G_run 2 (8, [(0, .inr (.inr (some 82))), (1, .inl dep)], [.inl 27, .inr (.inr (some 82))], (Ja, L, X), 0, 0) (fun _ => rfl) ?_
    have r2 : Ja 84 ((Ja 82 7).toNat) = I 84 ((Ja 82 7).toNat) := by rw [fJa 84 ((Ja 82 7).toNat) (by omega)]
    refine yi_G_callv rfl rfl (ym_rcv hS) rfl (c_isWord1 d (by omega) hS ⟨by omega, by omega⟩ rfl rfl r2 rfl ⟨by omega, by omega⟩) ?_
    rintro _ (⟨c1, rfl⟩ | ⟨c1, rfl⟩)
    · have lt3 : Ja 82 7 < te := ym_TK_lt hT (by omega) (by omega)
      show yi_G zi_Ms d zi_m87 (11, [(0, .inr (.inr (some 82))), (1, .inl dep)], [.inl 1], (Ja, L, X), 0, 0) _
      refine yi_G_if1 true rfl (by decide) ?_
      refine yi_G_run 2 (26, [(0, .inr (.inr (some 82))), (1, .inl dep)], [.inl 27, .inr (.inr (some 82))], (Ja, L, X), 0, 0) (fun _ => rfl) ?_
      have r5 : Ja 84 ((Ja 82 7).toNat) = I 84 ((Ja 82 7).toNat) := by rw [fJa 84 ((Ja 82 7).toNat) (by omega)]
      refine yi_G_callv rfl rfl (ym_rcv hS) rfl (c_isWord1 d (by omega) hS ⟨by omega, by omega⟩ rfl rfl r5 rfl ⟨by omega, by omega⟩) ?_
      rintro _ (⟨c4, rfl⟩ | ⟨c4, rfl⟩)
      · have lt6 : Ja 82 7 < te := ym_TK_lt hT (by omega) (by omega)
        show yi_G zi_Ms d zi_m87 (29, [(0, .inr (.inr (some 82))), (1, .inl dep)], [.inl 1], (Ja, L, X), 0, 0) _
        refine yi_G_run 3 (32, [(2, .inl 1), (0, .inr (.inr (some 82))), (1, .inl dep)], [.inr (.inr (some 82)), .inr (.inr (some 82))], (Ja, L, X), 0, 0) (fun _ => rfl) ?_
        refine yi_G_get (35, [(2, .inl 1), (0, .inr (.inr (some 82))), (1, .inl dep)], [.inl (Ja 82 7), .inr (.inr (some 82))], (Ja, L, X), 0, 0) rfl (ym_gi hS rfl rfl rfl) ?_
        refine yi_G_run 1 (36, [(2, .inl 1), (0, .inr (.inr (some 82))), (1, .inl dep)], [.inl 1, .inl (Ja 82 7), .inr (.inr (some 82))], (Ja, L, X), 0, 0) (fun _ => rfl) ?_
        refine yi_G_iadd rfl ((Ja 82 7) + 1) (yi_wn (by omega) (by omega)) ?_
        refine yi_G_put (40, [(2, .inl 1), (0, .inr (.inr (some 82))), (1, .inl dep)], [], ((yi_u Ja 82 7 ((Ja 82 7) + 1)), L, X), 0, 0) rfl (ym_pi hS rfl rfl) ?_
        generalize w8 : yi_u Ja 82 7 ((Ja 82 7) + 1) = I7
        refine yi_G_run 2 (42, [(2, .inl 1), (0, .inr (.inr (some 82))), (1, .inl dep)], [.inl dep, .inr (.inr (some 82))], (I7, L, X), 0, 0) (fun _ => rfl) ?_
        have r9 : I7 82 13 = Ja 82 13 := by rw [← w8, yi_u_ne _ _ (by omega)]
        have r10 : I7 82 18 = I 82 18 := by rw [← w8, yi_u_ne _ _ (by omega), fJa 82 (18) (by omega)]
        have r11 : I7 82 19 = I 82 19 := by rw [← w8, yi_u_ne _ _ (by omega), fJa 82 (19) (by omega)]
        have r12 : I7 82 7 = (Ja 82 7) + 1 := by rw [← w8, yi_u_eq]
        have r13 : I7 82 8 = Ja 82 8 := by rw [← w8, yi_u_ne _ _ (by omega)]
        have r14 : I7 82 20 = I 82 20 := by rw [← w8, yi_u_ne _ _ (by omega), fJa 82 (20) (by omega)]
        refine yi_G_callv rfl rfl (ym_rcv hS) rfl (hIt d (by omega) I7 L te (Ja 82 13) (ym_TK_t (fun k => by rw [← w8, yi_u_ne _ _ (fun z => absurd z.1 (by decide)), fJa 84 k (by omega)]) (fun k => by rw [← w8, yi_u_ne _ _ (fun z => absurd z.1 (by decide)), fJa 85 k (by omega)]) hT) ⟨by omega, by omega⟩ (by omega) ⟨(by rw [r10]; omega), (by rw [r10]; omega)⟩ ⟨(by rw [r11]; omega), (by rw [r11]; omega)⟩ (ym_DY_t r14 (fun k => by rw [← w8, yi_u_ne _ _ (fun z => absurd z.1 (by decide)), fJa 88 k (by omega)]) hDY) r9 ⟨by omega, by omega⟩) ?_
        rintro _ ⟨I15, rfl, f16, h17a, h17b, h17c, h17d, lwI15, sgI15⟩
        show yi_G zi_Ms d zi_m87 (45, [(2, .inl 1), (0, .inr (.inr (some 82))), (1, .inl dep)], [], (I15, L, X), 0, 0) _
        refine yi_G_run 2 (47, [(2, .inl 1), (0, .inr (.inr (some 82))), (1, .inl dep)], [.inl 1, .inr (.inr (some 82))], (I15, L, X), 0, 0) (fun _ => rfl) ?_
        refine yi_G_if1 false rfl (by decide) ?_
        refine yi_G_run 3 (58, [(2, .inl 1), (0, .inr (.inr (some 82))), (1, .inl dep)], [.inl 0, .inl 9, .inr (.inr (some 82))], (I15, L, X), 0, 0) (fun _ => rfl) ?_
        refine yi_G_callv rfl rfl (ym_rcv hS) rfl (c_emit d (by omega) hS rfl ⟨by omega, by omega⟩) ?_
        rintro _ ⟨I18, rfl, f19, eI18, emI18⟩
        show yi_G zi_Ms d zi_m87 (61, [(2, .inl 1), (0, .inr (.inr (some 82))), (1, .inl dep)], [], (I18, L, X), 0, 0) _
        refine yi_G_run 1 (5, [(2, .inl 1), (0, .inr (.inr (some 82))), (1, .inl dep)], [], (I18, L, X), 0, 0) (fun _ => rfl) ?_
        refine yi_G_al (al := [(0, .inr (.inr (some 82))), (1, .inl dep)]) (show ([0, 1] : List Nat).Nodup by decide) (show ([2, 0, 1] : List Nat).Nodup by decide) (yi_mc (List.mem_of_getElem? (i := 1) rfl) (yi_mc (List.mem_of_getElem? (i := 2) rfl) yi_mn)) ?_
        have r20 : I18 82 7 = I15 82 7 := by rw [f19 82 (7) (by omega)]
        have r21 : I18 82 8 = I15 82 8 := by rw [f19 82 (8) (by omega)]
        exact ih5 _ (by omega) I18 (fun p k hp => by rw [f19 p k (by omega), f16 p k (by omega), ← w8, yi_u_ne _ _ (fun z => by omega), fJa p k (by omega)]) (by omega) (by omega) (by omega) (by omega) (ym_LW_t (ym_LW_t plw (ym_LW_g lwI15 (fun k => by rw [← w8, yi_u_ne _ _ (fun z => absurd z.1 (by decide))]) (fun k => by rw [← w8, yi_u_ne _ _ (fun z => absurd z.1 (by decide))])) (by omega)) (ym_LW_e (n := I 82 13) emI18 (by omega) (by omega)) (Int.le_refl _)) (fun zz => by rw [eI18]; exact ym_SG_bin (psg (by omega)) (ym_LW_g lwI15 (fun k => by rw [← w8, yi_u_ne _ _ (fun z => absurd z.1 (by decide))]) (fun k => by rw [← w8, yi_u_ne _ _ (fun z => absurd z.1 (by decide))])) (sgI15 (by omega)) emI18 (by omega) (by omega)) rfl
      · show yi_G zi_Ms d zi_m87 (29, [(0, .inr (.inr (some 82))), (1, .inl dep)], [.inl 0], (Ja, L, X), 0, 0) _
        refine yi_G_run 3 (32, [(2, .inl 0), (0, .inr (.inr (some 82))), (1, .inl dep)], [.inr (.inr (some 82)), .inr (.inr (some 82))], (Ja, L, X), 0, 0) (fun _ => rfl) ?_
        refine yi_G_get (35, [(2, .inl 0), (0, .inr (.inr (some 82))), (1, .inl dep)], [.inl (Ja 82 7), .inr (.inr (some 82))], (Ja, L, X), 0, 0) rfl (ym_gi hS rfl rfl rfl) ?_
        refine yi_G_run 1 (36, [(2, .inl 0), (0, .inr (.inr (some 82))), (1, .inl dep)], [.inl 1, .inl (Ja 82 7), .inr (.inr (some 82))], (Ja, L, X), 0, 0) (fun _ => rfl) ?_
        refine yi_G_iadd rfl ((Ja 82 7) + 1) (yi_wn (by omega) (by omega)) ?_
        refine yi_G_put (40, [(2, .inl 0), (0, .inr (.inr (some 82))), (1, .inl dep)], [], ((yi_u Ja 82 7 ((Ja 82 7) + 1)), L, X), 0, 0) rfl (ym_pi hS rfl rfl) ?_
        generalize w23 : yi_u Ja 82 7 ((Ja 82 7) + 1) = I22
        refine yi_G_run 2 (42, [(2, .inl 0), (0, .inr (.inr (some 82))), (1, .inl dep)], [.inl dep, .inr (.inr (some 82))], (I22, L, X), 0, 0) (fun _ => rfl) ?_
        have r24 : I22 82 13 = Ja 82 13 := by rw [← w23, yi_u_ne _ _ (by omega)]
        have r25 : I22 82 18 = I 82 18 := by rw [← w23, yi_u_ne _ _ (by omega), fJa 82 (18) (by omega)]
        have r26 : I22 82 19 = I 82 19 := by rw [← w23, yi_u_ne _ _ (by omega), fJa 82 (19) (by omega)]
        have r27 : I22 82 7 = (Ja 82 7) + 1 := by rw [← w23, yi_u_eq]
        have r28 : I22 82 8 = Ja 82 8 := by rw [← w23, yi_u_ne _ _ (by omega)]
        have r29 : I22 82 20 = I 82 20 := by rw [← w23, yi_u_ne _ _ (by omega), fJa 82 (20) (by omega)]
        refine yi_G_callv rfl rfl (ym_rcv hS) rfl (hIt d (by omega) I22 L te (Ja 82 13) (ym_TK_t (fun k => by rw [← w23, yi_u_ne _ _ (fun z => absurd z.1 (by decide)), fJa 84 k (by omega)]) (fun k => by rw [← w23, yi_u_ne _ _ (fun z => absurd z.1 (by decide)), fJa 85 k (by omega)]) hT) ⟨by omega, by omega⟩ (by omega) ⟨(by rw [r25]; omega), (by rw [r25]; omega)⟩ ⟨(by rw [r26]; omega), (by rw [r26]; omega)⟩ (ym_DY_t r29 (fun k => by rw [← w23, yi_u_ne _ _ (fun z => absurd z.1 (by decide)), fJa 88 k (by omega)]) hDY) r24 ⟨by omega, by omega⟩) ?_
        rintro _ ⟨I30, rfl, f31, h32a, h32b, h32c, h32d, lwI30, sgI30⟩
        show yi_G zi_Ms d zi_m87 (45, [(2, .inl 0), (0, .inr (.inr (some 82))), (1, .inl dep)], [], (I30, L, X), 0, 0) _
        refine yi_G_run 2 (47, [(2, .inl 0), (0, .inr (.inr (some 82))), (1, .inl dep)], [.inl 0, .inr (.inr (some 82))], (I30, L, X), 0, 0) (fun _ => rfl) ?_
        refine yi_G_if1 true rfl (by decide) ?_
        refine yi_G_run 2 (58, [(2, .inl 0), (0, .inr (.inr (some 82))), (1, .inl dep)], [.inl 0, .inl 10, .inr (.inr (some 82))], (I30, L, X), 0, 0) (fun _ => rfl) ?_
        refine yi_G_callv rfl rfl (ym_rcv hS) rfl (c_emit d (by omega) hS rfl ⟨by omega, by omega⟩) ?_
        rintro _ ⟨I33, rfl, f34, eI33, emI33⟩
        show yi_G zi_Ms d zi_m87 (61, [(2, .inl 0), (0, .inr (.inr (some 82))), (1, .inl dep)], [], (I33, L, X), 0, 0) _
        refine yi_G_run 1 (5, [(2, .inl 0), (0, .inr (.inr (some 82))), (1, .inl dep)], [], (I33, L, X), 0, 0) (fun _ => rfl) ?_
        refine yi_G_al (al := [(0, .inr (.inr (some 82))), (1, .inl dep)]) (show ([0, 1] : List Nat).Nodup by decide) (show ([2, 0, 1] : List Nat).Nodup by decide) (yi_mc (List.mem_of_getElem? (i := 1) rfl) (yi_mc (List.mem_of_getElem? (i := 2) rfl) yi_mn)) ?_
        have r35 : I33 82 7 = I30 82 7 := by rw [f34 82 (7) (by omega)]
        have r36 : I33 82 8 = I30 82 8 := by rw [f34 82 (8) (by omega)]
        exact ih5 _ (by omega) I33 (fun p k hp => by rw [f34 p k (by omega), f31 p k (by omega), ← w23, yi_u_ne _ _ (fun z => by omega), fJa p k (by omega)]) (by omega) (by omega) (by omega) (by omega) (ym_LW_t (ym_LW_t plw (ym_LW_g lwI30 (fun k => by rw [← w23, yi_u_ne _ _ (fun z => absurd z.1 (by decide))]) (fun k => by rw [← w23, yi_u_ne _ _ (fun z => absurd z.1 (by decide))])) (by omega)) (ym_LW_e (n := I 82 13) emI33 (by omega) (by omega)) (Int.le_refl _)) (fun zz => by rw [eI33]; exact ym_SG_bin (psg (by omega)) (ym_LW_g lwI30 (fun k => by rw [← w23, yi_u_ne _ _ (fun z => absurd z.1 (by decide))]) (fun k => by rw [← w23, yi_u_ne _ _ (fun z => absurd z.1 (by decide))])) (sgI30 (by omega)) emI33 (by omega) (by omega)) rfl
    · show yi_G zi_Ms d zi_m87 (11, [(0, .inr (.inr (some 82))), (1, .inl dep)], [.inl 0], (Ja, L, X), 0, 0) _
      refine yi_G_if1 false rfl (by decide) ?_
      refine yi_G_run 2 (17, [(0, .inr (.inr (some 82))), (1, .inl dep)], [.inl 28, .inr (.inr (some 82))], (Ja, L, X), 0, 0) (fun _ => rfl) ?_
      have r38 : Ja 84 ((Ja 82 7).toNat) = I 84 ((Ja 82 7).toNat) := by rw [fJa 84 ((Ja 82 7).toNat) (by omega)]
      refine yi_G_callv rfl rfl (ym_rcv hS) rfl (c_isWord1 d (by omega) hS ⟨by omega, by omega⟩ rfl rfl r38 rfl ⟨by omega, by omega⟩) ?_
      rintro _ (⟨c37, rfl⟩ | ⟨c37, rfl⟩)
      · have lt39 : Ja 82 7 < te := ym_TK_lt hT (by omega) (by omega)
        show yi_G zi_Ms d zi_m87 (20, [(0, .inr (.inr (some 82))), (1, .inl dep)], [.inl 1], (Ja, L, X), 0, 0) _
        refine yi_G_if1 false rfl (by decide) ?_
        refine yi_G_run 2 (26, [(0, .inr (.inr (some 82))), (1, .inl dep)], [.inl 27, .inr (.inr (some 82))], (Ja, L, X), 0, 0) (fun _ => rfl) ?_
        have r41 : Ja 84 ((Ja 82 7).toNat) = I 84 ((Ja 82 7).toNat) := by rw [fJa 84 ((Ja 82 7).toNat) (by omega)]
        refine yi_G_callv rfl rfl (ym_rcv hS) rfl (c_isWord1 d (by omega) hS ⟨by omega, by omega⟩ rfl rfl r41 rfl ⟨by omega, by omega⟩) ?_
        rintro _ (⟨c40, rfl⟩ | ⟨c40, rfl⟩)
        · have lt42 : Ja 82 7 < te := ym_TK_lt hT (by omega) (by omega)
          show yi_G zi_Ms d zi_m87 (29, [(0, .inr (.inr (some 82))), (1, .inl dep)], [.inl 1], (Ja, L, X), 0, 0) _
          refine yi_G_run 3 (32, [(2, .inl 1), (0, .inr (.inr (some 82))), (1, .inl dep)], [.inr (.inr (some 82)), .inr (.inr (some 82))], (Ja, L, X), 0, 0) (fun _ => rfl) ?_
          refine yi_G_get (35, [(2, .inl 1), (0, .inr (.inr (some 82))), (1, .inl dep)], [.inl (Ja 82 7), .inr (.inr (some 82))], (Ja, L, X), 0, 0) rfl (ym_gi hS rfl rfl rfl) ?_
          refine yi_G_run 1 (36, [(2, .inl 1), (0, .inr (.inr (some 82))), (1, .inl dep)], [.inl 1, .inl (Ja 82 7), .inr (.inr (some 82))], (Ja, L, X), 0, 0) (fun _ => rfl) ?_
          refine yi_G_iadd rfl ((Ja 82 7) + 1) (yi_wn (by omega) (by omega)) ?_
          refine yi_G_put (40, [(2, .inl 1), (0, .inr (.inr (some 82))), (1, .inl dep)], [], ((yi_u Ja 82 7 ((Ja 82 7) + 1)), L, X), 0, 0) rfl (ym_pi hS rfl rfl) ?_
          generalize w44 : yi_u Ja 82 7 ((Ja 82 7) + 1) = I43
          refine yi_G_run 2 (42, [(2, .inl 1), (0, .inr (.inr (some 82))), (1, .inl dep)], [.inl dep, .inr (.inr (some 82))], (I43, L, X), 0, 0) (fun _ => rfl) ?_
          have r45 : I43 82 13 = Ja 82 13 := by rw [← w44, yi_u_ne _ _ (by omega)]
          have r46 : I43 82 18 = I 82 18 := by rw [← w44, yi_u_ne _ _ (by omega), fJa 82 (18) (by omega)]
          have r47 : I43 82 19 = I 82 19 := by rw [← w44, yi_u_ne _ _ (by omega), fJa 82 (19) (by omega)]
          have r48 : I43 82 7 = (Ja 82 7) + 1 := by rw [← w44, yi_u_eq]
          have r49 : I43 82 8 = Ja 82 8 := by rw [← w44, yi_u_ne _ _ (by omega)]
          have r50 : I43 82 20 = I 82 20 := by rw [← w44, yi_u_ne _ _ (by omega), fJa 82 (20) (by omega)]
          refine yi_G_callv rfl rfl (ym_rcv hS) rfl (hIt d (by omega) I43 L te (Ja 82 13) (ym_TK_t (fun k => by rw [← w44, yi_u_ne _ _ (fun z => absurd z.1 (by decide)), fJa 84 k (by omega)]) (fun k => by rw [← w44, yi_u_ne _ _ (fun z => absurd z.1 (by decide)), fJa 85 k (by omega)]) hT) ⟨by omega, by omega⟩ (by omega) ⟨(by rw [r46]; omega), (by rw [r46]; omega)⟩ ⟨(by rw [r47]; omega), (by rw [r47]; omega)⟩ (ym_DY_t r50 (fun k => by rw [← w44, yi_u_ne _ _ (fun z => absurd z.1 (by decide)), fJa 88 k (by omega)]) hDY) r45 ⟨by omega, by omega⟩) ?_
          rintro _ ⟨I51, rfl, f52, h53a, h53b, h53c, h53d, lwI51, sgI51⟩
          show yi_G zi_Ms d zi_m87 (45, [(2, .inl 1), (0, .inr (.inr (some 82))), (1, .inl dep)], [], (I51, L, X), 0, 0) _
          refine yi_G_run 2 (47, [(2, .inl 1), (0, .inr (.inr (some 82))), (1, .inl dep)], [.inl 1, .inr (.inr (some 82))], (I51, L, X), 0, 0) (fun _ => rfl) ?_
          refine yi_G_if1 false rfl (by decide) ?_
          refine yi_G_run 3 (58, [(2, .inl 1), (0, .inr (.inr (some 82))), (1, .inl dep)], [.inl 0, .inl 9, .inr (.inr (some 82))], (I51, L, X), 0, 0) (fun _ => rfl) ?_
          refine yi_G_callv rfl rfl (ym_rcv hS) rfl (c_emit d (by omega) hS rfl ⟨by omega, by omega⟩) ?_
          rintro _ ⟨I54, rfl, f55, eI54, emI54⟩
          show yi_G zi_Ms d zi_m87 (61, [(2, .inl 1), (0, .inr (.inr (some 82))), (1, .inl dep)], [], (I54, L, X), 0, 0) _
          refine yi_G_run 1 (5, [(2, .inl 1), (0, .inr (.inr (some 82))), (1, .inl dep)], [], (I54, L, X), 0, 0) (fun _ => rfl) ?_
          refine yi_G_al (al := [(0, .inr (.inr (some 82))), (1, .inl dep)]) (show ([0, 1] : List Nat).Nodup by decide) (show ([2, 0, 1] : List Nat).Nodup by decide) (yi_mc (List.mem_of_getElem? (i := 1) rfl) (yi_mc (List.mem_of_getElem? (i := 2) rfl) yi_mn)) ?_
          have r56 : I54 82 7 = I51 82 7 := by rw [f55 82 (7) (by omega)]
          have r57 : I54 82 8 = I51 82 8 := by rw [f55 82 (8) (by omega)]
          exact ih5 _ (by omega) I54 (fun p k hp => by rw [f55 p k (by omega), f52 p k (by omega), ← w44, yi_u_ne _ _ (fun z => by omega), fJa p k (by omega)]) (by omega) (by omega) (by omega) (by omega) (ym_LW_t (ym_LW_t plw (ym_LW_g lwI51 (fun k => by rw [← w44, yi_u_ne _ _ (fun z => absurd z.1 (by decide))]) (fun k => by rw [← w44, yi_u_ne _ _ (fun z => absurd z.1 (by decide))])) (by omega)) (ym_LW_e (n := I 82 13) emI54 (by omega) (by omega)) (Int.le_refl _)) (fun zz => by rw [eI54]; exact ym_SG_bin (psg (by omega)) (ym_LW_g lwI51 (fun k => by rw [← w44, yi_u_ne _ _ (fun z => absurd z.1 (by decide))]) (fun k => by rw [← w44, yi_u_ne _ _ (fun z => absurd z.1 (by decide))])) (sgI51 (by omega)) emI54 (by omega) (by omega)) rfl
        · show yi_G zi_Ms d zi_m87 (29, [(0, .inr (.inr (some 82))), (1, .inl dep)], [.inl 0], (Ja, L, X), 0, 0) _
          refine yi_G_run 3 (32, [(2, .inl 0), (0, .inr (.inr (some 82))), (1, .inl dep)], [.inr (.inr (some 82)), .inr (.inr (some 82))], (Ja, L, X), 0, 0) (fun _ => rfl) ?_
          refine yi_G_get (35, [(2, .inl 0), (0, .inr (.inr (some 82))), (1, .inl dep)], [.inl (Ja 82 7), .inr (.inr (some 82))], (Ja, L, X), 0, 0) rfl (ym_gi hS rfl rfl rfl) ?_
          refine yi_G_run 1 (36, [(2, .inl 0), (0, .inr (.inr (some 82))), (1, .inl dep)], [.inl 1, .inl (Ja 82 7), .inr (.inr (some 82))], (Ja, L, X), 0, 0) (fun _ => rfl) ?_
          refine yi_G_iadd rfl ((Ja 82 7) + 1) (yi_wn (by omega) (by omega)) ?_
          refine yi_G_put (40, [(2, .inl 0), (0, .inr (.inr (some 82))), (1, .inl dep)], [], ((yi_u Ja 82 7 ((Ja 82 7) + 1)), L, X), 0, 0) rfl (ym_pi hS rfl rfl) ?_
          generalize w59 : yi_u Ja 82 7 ((Ja 82 7) + 1) = I58
          refine yi_G_run 2 (42, [(2, .inl 0), (0, .inr (.inr (some 82))), (1, .inl dep)], [.inl dep, .inr (.inr (some 82))], (I58, L, X), 0, 0) (fun _ => rfl) ?_
          have r60 : I58 82 13 = Ja 82 13 := by rw [← w59, yi_u_ne _ _ (by omega)]
          have r61 : I58 82 18 = I 82 18 := by rw [← w59, yi_u_ne _ _ (by omega), fJa 82 (18) (by omega)]
          have r62 : I58 82 19 = I 82 19 := by rw [← w59, yi_u_ne _ _ (by omega), fJa 82 (19) (by omega)]
          have r63 : I58 82 7 = (Ja 82 7) + 1 := by rw [← w59, yi_u_eq]
          have r64 : I58 82 8 = Ja 82 8 := by rw [← w59, yi_u_ne _ _ (by omega)]
          have r65 : I58 82 20 = I 82 20 := by rw [← w59, yi_u_ne _ _ (by omega), fJa 82 (20) (by omega)]
          refine yi_G_callv rfl rfl (ym_rcv hS) rfl (hIt d (by omega) I58 L te (Ja 82 13) (ym_TK_t (fun k => by rw [← w59, yi_u_ne _ _ (fun z => absurd z.1 (by decide)), fJa 84 k (by omega)]) (fun k => by rw [← w59, yi_u_ne _ _ (fun z => absurd z.1 (by decide)), fJa 85 k (by omega)]) hT) ⟨by omega, by omega⟩ (by omega) ⟨(by rw [r61]; omega), (by rw [r61]; omega)⟩ ⟨(by rw [r62]; omega), (by rw [r62]; omega)⟩ (ym_DY_t r65 (fun k => by rw [← w59, yi_u_ne _ _ (fun z => absurd z.1 (by decide)), fJa 88 k (by omega)]) hDY) r60 ⟨by omega, by omega⟩) ?_
          rintro _ ⟨I66, rfl, f67, h68a, h68b, h68c, h68d, lwI66, sgI66⟩
          show yi_G zi_Ms d zi_m87 (45, [(2, .inl 0), (0, .inr (.inr (some 82))), (1, .inl dep)], [], (I66, L, X), 0, 0) _
          refine yi_G_run 2 (47, [(2, .inl 0), (0, .inr (.inr (some 82))), (1, .inl dep)], [.inl 0, .inr (.inr (some 82))], (I66, L, X), 0, 0) (fun _ => rfl) ?_
          refine yi_G_if1 true rfl (by decide) ?_
          refine yi_G_run 2 (58, [(2, .inl 0), (0, .inr (.inr (some 82))), (1, .inl dep)], [.inl 0, .inl 10, .inr (.inr (some 82))], (I66, L, X), 0, 0) (fun _ => rfl) ?_
          refine yi_G_callv rfl rfl (ym_rcv hS) rfl (c_emit d (by omega) hS rfl ⟨by omega, by omega⟩) ?_
          rintro _ ⟨I69, rfl, f70, eI69, emI69⟩
          show yi_G zi_Ms d zi_m87 (61, [(2, .inl 0), (0, .inr (.inr (some 82))), (1, .inl dep)], [], (I69, L, X), 0, 0) _
          refine yi_G_run 1 (5, [(2, .inl 0), (0, .inr (.inr (some 82))), (1, .inl dep)], [], (I69, L, X), 0, 0) (fun _ => rfl) ?_
          refine yi_G_al (al := [(0, .inr (.inr (some 82))), (1, .inl dep)]) (show ([0, 1] : List Nat).Nodup by decide) (show ([2, 0, 1] : List Nat).Nodup by decide) (yi_mc (List.mem_of_getElem? (i := 1) rfl) (yi_mc (List.mem_of_getElem? (i := 2) rfl) yi_mn)) ?_
          have r71 : I69 82 7 = I66 82 7 := by rw [f70 82 (7) (by omega)]
          have r72 : I69 82 8 = I66 82 8 := by rw [f70 82 (8) (by omega)]
          exact ih5 _ (by omega) I69 (fun p k hp => by rw [f70 p k (by omega), f67 p k (by omega), ← w59, yi_u_ne _ _ (fun z => by omega), fJa p k (by omega)]) (by omega) (by omega) (by omega) (by omega) (ym_LW_t (ym_LW_t plw (ym_LW_g lwI66 (fun k => by rw [← w59, yi_u_ne _ _ (fun z => absurd z.1 (by decide))]) (fun k => by rw [← w59, yi_u_ne _ _ (fun z => absurd z.1 (by decide))])) (by omega)) (ym_LW_e (n := I 82 13) emI69 (by omega) (by omega)) (Int.le_refl _)) (fun zz => by rw [eI69]; exact ym_SG_bin (psg (by omega)) (ym_LW_g lwI66 (fun k => by rw [← w59, yi_u_ne _ _ (fun z => absurd z.1 (by decide))]) (fun k => by rw [← w59, yi_u_ne _ _ (fun z => absurd z.1 (by decide))])) (sgI66 (by omega)) emI69 (by omega) (by omega)) rfl
      · show yi_G zi_Ms d zi_m87 (20, [(0, .inr (.inr (some 82))), (1, .inl dep)], [.inl 0], (Ja, L, X), 0, 0) _
        refine yi_G_if1 true rfl (by decide) ?_
        exact yi_G_retv rfl rfl (⟨_, rfl, (fun p k hp => by rw [fJa p k (by omega)]), ⟨by omega, by omega⟩, by omega, ⟨by omega, by omega⟩, by omega, plw, psg⟩)
  refine yi_G_run 2 (2, [(0, .inr (.inr (some 82))), (1, .inl dep)], [.inl dep, .inr (.inr (some 82))], (I, L, X), 0, 0) (fun _ => rfl) ?_
  refine yi_G_callv rfl rfl (ym_rcv hS) rfl (hIt d (by omega) I L te (I 82 13) hT ⟨by omega, by omega⟩ (by omega) ⟨(by omega), (by omega)⟩ ⟨(by omega), (by omega)⟩ hDY rfl ⟨by omega, by omega⟩) ?_
  rintro _ ⟨I73, rfl, f74, h75a, h75b, h75c, h75d, lwI73, sgI73⟩
  show yi_G zi_Ms d zi_m87 (5, [(0, .inr (.inr (some 82))), (1, .inl dep)], [], (I73, L, X), 0, 0) _
  exact pt5 _ I73 (fun p k hp => by rw [f74 p k (by omega)]) (by omega) (by omega) (by omega) (by omega) lwI73 sgI73 rfl
theorem c_readItem_of {X : ym_X} (hS : ym_S X) {m : Nat} {dep : Int} (m0 : 6 ≤ m) (d0 : 0 ≤ dep ∧ dep ≤ 5) (hIt : dep ≤ 4 → ym_RC X 97 m (dep + 1)) (hFo : dep ≤ 4 → ym_RC X 96 m (dep + 1)) : ym_RC X 97 (m + 1) dep := by
  intro D hD I L te n hT a0 f0 n0 n1 hDY hn k0
  subst hn
  obtain ⟨d, rfl⟩ : ∃ d, D = d + 1 := ⟨D - 1, by omega⟩
  refine yi_E_of (M := zi_m97) rfl rfl ?_
  obtain ⟨te0, te1, te2⟩ := id hT
  show yi_G zi_Ms d zi_m97 (0, [(0, .inr (.inr (some 82))), (1, .inl dep)], [], (I, L, X), 0, 0) _
  refine yi_G_run 1 (1, [(0, .inr (.inr (some 82))), (1, .inl dep)], [.inr (.inr (some 82))], (I, L, X), 0, 0) (fun _ => rfl) ?_
  skip
  refine yi_G_get (4, [(0, .inr (.inr (some 82))), (1, .inl dep)], [.inl (I 82 8)], (I, L, X), 0, 0) rfl (ym_gi hS rfl rfl rfl) ?_
  by_cases h1 : (I 82 8) ≤ 0
  · refine yi_G_if1 true rfl (yi_le_t h1) ?_
    have pt69 : (I 82 8 = 0 ∧ I 82 7 < te) → yi_G zi_Ms d zi_m97 (69, [(0, .inr (.inr (some 82))), (1, .inl dep)], [], (I, L, X), 0, 0) (ym_RQ I L X te (I 82 13)) := by
      intro  q69 
      refine yi_G_run 3 (75, [(2, .inl 1), (0, .inr (.inr (some 82))), (1, .inl dep)], [], (I, L, X), 0, 0) (fun _ => rfl) ?_
      have pt124 : ∀ (Ja : Nat → Nat → Int), (∀ p k, ¬ (p = 82 ∧ k = 8) → Ja p k = I p k) → (0 ≤ Ja 82 8) → (Ja 82 8 = 0 → dep ≤ 4 ∧ I 82 8 = 0) → yi_G zi_Ms d zi_m97 (124, [(2, .inl 1), (0, .inr (.inr (some 82))), (1, .inl dep)], [], (Ja, L, X), 0, 0) (ym_RQ I L X te (I 82 13)) := by
        intro Ja fJa j0 j1 
        refine yi_G_run 1 (125, [(2, .inl 1), (0, .inr (.inr (some 82))), (1, .inl dep)], [.inr (.inr (some 82))], (Ja, L, X), 0, 0) (fun _ => rfl) ?_
        skip
        refine yi_G_get (128, [(2, .inl 1), (0, .inr (.inr (some 82))), (1, .inl dep)], [.inl (Ja 82 8)], (Ja, L, X), 0, 0) rfl (ym_gi hS rfl rfl rfl) ?_
        by_cases h2 : (Ja 82 8) ≤ 0
        · refine yi_G_if1 true rfl (yi_le_t h2) ?_
          refine yi_G_run 2 (135, [(2, .inl 1), (0, .inr (.inr (some 82))), (1, .inl dep)], [.inl 26, .inr (.inr (some 82))], (Ja, L, X), 0, 0) (fun _ => rfl) ?_
          have r3 : Ja 82 7 = I 82 7 := by rw [fJa 82 (7) (by omega)]
          have r4 : Ja 84 ((I 82 7).toNat) = I 84 ((I 82 7).toNat) := by rw [fJa 84 ((I 82 7).toNat) (by omega)]
          refine yi_G_callv rfl rfl (ym_rcv hS) rfl (c_hasWord d (by omega) hS ⟨by omega, by omega⟩ r3 rfl r4 rfl ⟨by omega, by omega⟩) ?_
          rintro _ (⟨c7, I5, rfl, f6, c7b⟩ | ⟨c7, I5, rfl, f6, c7b⟩)
          · have lt8 : I 82 7 < te := ym_TK_lt hT (by omega) (by omega)
            show yi_G zi_Ms d zi_m97 (138, [(2, .inl 1), (0, .inr (.inr (some 82))), (1, .inl dep)], [.inl 1], (I5, L, X), 0, 0) _
            refine yi_G_if1 false rfl (by decide) ?_
            refine yi_G_run 3 (144, [(2, .inl 1), (0, .inr (.inr (some 82))), (1, .inl dep)], [.inl 1, .inl dep, .inr (.inr (some 82))], (I5, L, X), 0, 0) (fun _ => rfl) ?_
            refine yi_G_iadd rfl (dep + 1) (yi_wn (by omega) (by omega)) ?_
            skip
            have r9 : I5 82 13 = I 82 13 := by rw [f6 82 (13) (by omega), fJa 82 (13) (by omega)]
            have r10 : I5 82 18 = I 82 18 := by rw [f6 82 (18) (by omega), fJa 82 (18) (by omega)]
            have r11 : I5 82 19 = I 82 19 := by rw [f6 82 (19) (by omega), fJa 82 (19) (by omega)]
            have r12 : I5 82 7 = (I 82 7) + 1 := by rw [c7b]
            have r13 : I5 82 8 = Ja 82 8 := by rw [f6 82 (8) (by omega)]
            have r14 : I5 82 20 = I 82 20 := by rw [f6 82 (20) (by omega), fJa 82 (20) (by omega)]
            refine yi_G_callv rfl rfl (ym_rcv hS) rfl (hIt (by omega) d (by omega) I5 L te (I 82 13) (ym_TK_t (fun k => by rw [f6 84 k (by omega), fJa 84 k (by omega)]) (fun k => by rw [f6 85 k (by omega), fJa 85 k (by omega)]) hT) ⟨by omega, by omega⟩ (by omega) ⟨(by rw [r10]; omega), (by rw [r10]; omega)⟩ ⟨(by rw [r11]; omega), (by rw [r11]; omega)⟩ (ym_DY_t r14 (fun k => by rw [f6 88 k (by omega), fJa 88 k (by omega)]) hDY) r9 ⟨by omega, by omega⟩) ?_
            rintro _ ⟨I15, rfl, f16, h17a, h17b, h17c, h17d, lwI15, sgI15⟩
            show yi_G zi_Ms d zi_m97 (148, [(2, .inl 1), (0, .inr (.inr (some 82))), (1, .inl dep)], [], (I15, L, X), 0, 0) _
            refine yi_G_run 3 (151, [(2, .inl 1), (0, .inr (.inr (some 82))), (1, .inl dep)], [.inl 0, .inl 3, .inr (.inr (some 82))], (I15, L, X), 0, 0) (fun _ => rfl) ?_
            refine yi_G_callv rfl rfl (ym_rcv hS) rfl (c_emit d (by omega) hS rfl ⟨by omega, by omega⟩) ?_
            rintro _ ⟨I18, rfl, f19, eI18, emI18⟩
            show yi_G zi_Ms d zi_m97 (154, [(2, .inl 1), (0, .inr (.inr (some 82))), (1, .inl dep)], [], (I18, L, X), 0, 0) _
            refine yi_G_run 1 (192, [(2, .inl 1), (0, .inr (.inr (some 82))), (1, .inl dep)], [], (I18, L, X), 0, 0) (fun _ => rfl) ?_
            have r20 : I18 82 7 = I15 82 7 := by rw [f19 82 (7) (by omega)]
            have r21 : I18 82 8 = I15 82 8 := by rw [f19 82 (8) (by omega)]
            exact yi_G_retv rfl rfl (⟨_, rfl, (fun p k hp => by rw [f19 p k (by omega), f16 p k (by omega), f6 p k (by omega), fJa p k (by omega)]), ⟨by omega, by omega⟩, by omega, ⟨by omega, by omega⟩, by omega, ym_LW_t (ym_LW_g lwI15 (fun k => by rw [f6 89 k (by omega), fJa 89 k (by omega)]) (fun k => by rw [f6 90 k (by omega), fJa 90 k (by omega)])) (ym_LW_e (n := I 82 13) emI18 (by omega) (by omega)) (Int.le_refl _), fun zz => by rw [eI18]; exact ym_SG_not (sgI15 (by omega)) emI18⟩)
          · show yi_G zi_Ms d zi_m97 (138, [(2, .inl 1), (0, .inr (.inr (some 82))), (1, .inl dep)], [.inl 0], (I5, L, X), 0, 0) _
            refine yi_G_if1 true rfl (by decide) ?_
            refine yi_G_run 2 (160, [(2, .inl 1), (0, .inr (.inr (some 82))), (1, .inl dep)], [.inl 40, .inr (.inr (some 82))], (I5, L, X), 0, 0) (fun _ => rfl) ?_
            have r22 : I5 82 7 = I 82 7 := by rw [c7b]
            have r23 : I5 82 8 = Ja 82 8 := by rw [f6 82 (8) (by omega)]
            have r24 : I5 84 ((I 82 7).toNat) = I 84 ((I 82 7).toNat) := by rw [f6 84 ((I 82 7).toNat) (by omega), fJa 84 ((I 82 7).toNat) (by omega)]
            refine yi_G_callv rfl rfl (ym_rcv hS) rfl (c_hasSign d (by omega) hS r22 r23 r24 rfl ⟨by omega, by omega⟩) ?_
            rintro _ (⟨c27, I25, rfl, f26, c27b⟩ | ⟨c27, I25, rfl, f26, c27b⟩)
            · have lt28 : I 82 7 < te := ym_TK_lt hT (by omega) (by omega)
              show yi_G zi_Ms d zi_m97 (163, [(2, .inl 1), (0, .inr (.inr (some 82))), (1, .inl dep)], [.inl 1], (I25, L, X), 0, 0) _
              refine yi_G_if1 false rfl (by decide) ?_
              refine yi_G_run 3 (169, [(2, .inl 1), (0, .inr (.inr (some 82))), (1, .inl dep)], [.inl 1, .inl dep, .inr (.inr (some 82))], (I25, L, X), 0, 0) (fun _ => rfl) ?_
              refine yi_G_iadd rfl (dep + 1) (yi_wn (by omega) (by omega)) ?_
              have r29 : I25 82 13 = I 82 13 := by rw [f26 82 (13) (by omega), f6 82 (13) (by omega), fJa 82 (13) (by omega)]
              have r30 : I25 82 18 = I 82 18 := by rw [f26 82 (18) (by omega), f6 82 (18) (by omega), fJa 82 (18) (by omega)]
              have r31 : I25 82 19 = I 82 19 := by rw [f26 82 (19) (by omega), f6 82 (19) (by omega), fJa 82 (19) (by omega)]
              have r32 : I25 82 7 = (I 82 7) + 1 := by rw [c27b]
              have r33 : I25 82 8 = Ja 82 8 := by rw [f26 82 (8) (by omega), f6 82 (8) (by omega)]
              have r34 : I25 82 20 = I 82 20 := by rw [f26 82 (20) (by omega), f6 82 (20) (by omega), fJa 82 (20) (by omega)]
              refine yi_G_callv rfl rfl (ym_rcv hS) rfl (hFo (by omega) d (by omega) I25 L te (I 82 13) (ym_TK_t (fun k => by rw [f26 84 k (by omega), f6 84 k (by omega), fJa 84 k (by omega)]) (fun k => by rw [f26 85 k (by omega), f6 85 k (by omega), fJa 85 k (by omega)]) hT) ⟨by omega, by omega⟩ (by omega) ⟨(by rw [r30]; omega), (by rw [r30]; omega)⟩ ⟨(by rw [r31]; omega), (by rw [r31]; omega)⟩ (ym_DY_t r34 (fun k => by rw [f26 88 k (by omega), f6 88 k (by omega), fJa 88 k (by omega)]) hDY) r29 ⟨by omega, by omega⟩) ?_
              rintro _ ⟨I35, rfl, f36, h37a, h37b, h37c, h37d, lwI35, sgI35⟩
              show yi_G zi_Ms d zi_m97 (173, [(2, .inl 1), (0, .inr (.inr (some 82))), (1, .inl dep)], [], (I35, L, X), 0, 0) _
              refine yi_G_run 2 (176, [(2, .inl 1), (0, .inr (.inr (some 82))), (1, .inl dep)], [.inl 41, .inr (.inr (some 82))], (I35, L, X), 0, 0) (fun _ => rfl) ?_
              skip
              refine yi_G_callv rfl rfl (ym_rcv hS) rfl (c_takeSign d (by omega) hS (ym_TK_t (fun k => by rw [f36 84 k (by omega), f26 84 k (by omega), f6 84 k (by omega), fJa 84 k (by omega)]) (fun k => by rw [f36 85 k (by omega), f26 85 k (by omega), f6 85 k (by omega), fJa 85 k (by omega)]) hT) ⟨by omega, by omega⟩ (by omega)) ?_
              rintro _ ⟨I38, rfl, f39, h40a, h40b, h40c⟩
              show yi_G zi_Ms d zi_m97 (179, [(2, .inl 1), (0, .inr (.inr (some 82))), (1, .inl dep)], [], (I38, L, X), 0, 0) _
              refine yi_G_run 1 (192, [(2, .inl 1), (0, .inr (.inr (some 82))), (1, .inl dep)], [], (I38, L, X), 0, 0) (fun _ => rfl) ?_
              have r41 : I38 82 13 = I35 82 13 := by rw [f39 82 (13) (by omega)]
              have r42 : I38 82 13 = I35 82 13 := by rw [f39 82 (13) (by omega)]
              exact yi_G_retv rfl rfl (⟨_, rfl, (fun p k hp => by rw [f39 p k (by omega), f36 p k (by omega), f26 p k (by omega), f6 p k (by omega), fJa p k (by omega)]), ⟨by omega, by omega⟩, by omega, ⟨by omega, by omega⟩, by omega, (ym_LW_f (ym_LW_g lwI35 (fun k => by rw [f26 89 k (by omega), f6 89 k (by omega), fJa 89 k (by omega)]) (fun k => by rw [f26 90 k (by omega), f6 90 k (by omega), fJa 90 k (by omega)])) (fun k => by rw [f39 89 k (by omega)]) (fun k => by rw [f39 90 k (by omega)])), fun zz => by rw [r42]; exact ym_SG_t (sgI35 (by omega)) (ym_LW_f (ym_LW_r _ _) (fun k => by rw [f39 89 k (by omega)]) (fun k => by rw [f39 90 k (by omega)]))⟩)
            · show yi_G zi_Ms d zi_m97 (163, [(2, .inl 1), (0, .inr (.inr (some 82))), (1, .inl dep)], [.inl 0], (I25, L, X), 0, 0) _
              refine yi_G_if1 true rfl (by decide) ?_
              refine yi_G_run 3 (186, [(2, .inl 1), (0, .inr (.inr (some 82))), (1, .inl dep)], [.inr (.inr (some 82)), .inl 11, .inr (.inr (some 82))], (I25, L, X), 0, 0) (fun _ => rfl) ?_
              skip
              have r43 : I25 82 18 = I 82 18 := by rw [f26 82 (18) (by omega), f6 82 (18) (by omega), fJa 82 (18) (by omega)]
              have r44 : I25 82 19 = I 82 19 := by rw [f26 82 (19) (by omega), f6 82 (19) (by omega), fJa 82 (19) (by omega)]
              have r45 : I25 82 7 = I 82 7 := by rw [c27b]
              have r46 : I25 82 8 = Ja 82 8 := by rw [f26 82 (8) (by omega), f6 82 (8) (by omega)]
              have r47 : I25 82 20 = I 82 20 := by rw [f26 82 (20) (by omega), f6 82 (20) (by omega), fJa 82 (20) (by omega)]
              refine yi_G_callv rfl rfl (ym_rcv hS) rfl (c_readClause d (by omega) hS ⟨(by rw [r43]; omega), (by rw [r43]; omega)⟩ ⟨(by rw [r44]; omega), (by rw [r44]; omega)⟩ (ym_TK_t (fun k => by rw [f26 84 k (by omega), f6 84 k (by omega), fJa 84 k (by omega)]) (fun k => by rw [f26 85 k (by omega), f6 85 k (by omega), fJa 85 k (by omega)]) hT) ⟨by omega, by omega⟩ (by omega) (ym_DY_t r47 (fun k => by rw [f26 88 k (by omega), f6 88 k (by omega), fJa 88 k (by omega)]) hDY)) ?_
              rintro _ ⟨z50, I48, rfl, f49, h51a, h51b, h51c⟩
              show yi_G zi_Ms d zi_m97 (189, [(2, .inl 1), (0, .inr (.inr (some 82))), (1, .inl dep)], [.inl z50, .inl 11, .inr (.inr (some 82))], (I48, L, X), 0, 0) _
              have r52 : I48 82 13 = I 82 13 := by rw [f49 82 (13) (by omega), f26 82 (13) (by omega), f6 82 (13) (by omega), fJa 82 (13) (by omega)]
              refine yi_G_callv rfl rfl (ym_rcv hS) rfl (c_emit d (by omega) hS r52 ⟨by omega, by omega⟩) ?_
              rintro _ ⟨I53, rfl, f54, eI53, emI53⟩
              show yi_G zi_Ms d zi_m97 (192, [(2, .inl 1), (0, .inr (.inr (some 82))), (1, .inl dep)], [], (I53, L, X), 0, 0) _
              have r55 : I53 82 7 = I48 82 7 := by rw [f54 82 (7) (by omega)]
              have r56 : I53 82 8 = I48 82 8 := by rw [f54 82 (8) (by omega)]
              exact yi_G_retv rfl rfl (⟨_, rfl, (fun p k hp => by rw [f54 p k (by omega), f49 p k (by omega), f26 p k (by omega), f6 p k (by omega), fJa p k (by omega)]), ⟨by omega, by omega⟩, by omega, ⟨by omega, by omega⟩, by omega, ym_LW_g (ym_LW_e (n := I 82 13) emI53 (by omega) (by omega)) (fun k => by rw [f49 89 k (by omega), f26 89 k (by omega), f6 89 k (by omega), fJa 89 k (by omega)]) (fun k => by rw [f49 90 k (by omega), f26 90 k (by omega), f6 90 k (by omega), fJa 90 k (by omega)]), fun zz => by rw [eI53]; exact ym_SG_leaf emI53 (by omega) (Or.inr (Or.inr ⟨rfl, (h51c (by omega)).2⟩))⟩)
        · refine yi_G_if1 false rfl (yi_le_f h2) ?_
          have r57 : Ja 82 7 = I 82 7 := by rw [fJa 82 (7) (by omega)]
          have r58 : Ja 82 13 = I 82 13 := by rw [fJa 82 (13) (by omega)]
          exact yi_G_retv rfl rfl (⟨_, rfl, (fun p k hp => by rw [fJa p k (by omega)]), ⟨by omega, by omega⟩, by omega, ⟨by omega, by omega⟩, by omega, (ym_LW_f (ym_LW_r _ _) (fun k => by rw [fJa 89 k (by omega)]) (fun k => by rw [fJa 90 k (by omega)])), fun zz => absurd zz (by omega)⟩)
      refine yi_G_run 1 (76, [(2, .inl 1), (0, .inr (.inr (some 82))), (1, .inl dep)], [.inl 1], (I, L, X), 0, 0) (fun _ => rfl) ?_
      refine yi_G_if1 true rfl (by decide) ?_
      refine yi_G_run 1 (88, [(2, .inl 1), (0, .inr (.inr (some 82))), (1, .inl dep)], [.inr (.inr (some 82))], (I, L, X), 0, 0) (fun _ => rfl) ?_
      refine yi_G_callv rfl rfl (ym_rcv hS) rfl (c_isName d (by omega) hS hT ⟨by omega, by omega⟩) ?_
      rintro _ (⟨⟨c59a, c59b⟩, rfl⟩ | rfl)
      · show yi_G zi_Ms d zi_m97 (91, [(2, .inl 1), (0, .inr (.inr (some 82))), (1, .inl dep)], [.inl 1], (I, L, X), 0, 0) _
        refine yi_G_if1 false rfl (by decide) ?_
        refine yi_G_run 1 (95, [(2, .inl 1), (0, .inr (.inr (some 82))), (1, .inl dep)], [.inr (.inr (some 82))], (I, L, X), 0, 0) (fun _ => rfl) ?_
        refine yi_G_callv rfl rfl (ym_rcv hS) rfl (c_find d (by omega) hS ⟨(by omega), (by omega)⟩ ⟨(by omega), (by omega)⟩ hT ⟨by omega, by omega⟩) ?_
        rintro _ ⟨z60, rfl⟩
        show yi_G zi_Ms d zi_m97 (98, [(2, .inl 1), (0, .inr (.inr (some 82))), (1, .inl dep)], [.inl z60], (I, L, X), 0, 0) _
        refine yi_G_run 2 (100, [(2, .inl 1), (0, .inr (.inr (some 82))), (1, .inl dep)], [.inl 3, .inl 0, .inl z60], (I, L, X), 0, 0) (fun _ => rfl) ?_
        refine yi_G_calls rfl rfl (c_within d (by omega) hS) ?_
        rintro _ (⟨c61, rfl⟩ | ⟨c61, rfl⟩)
        · show yi_G zi_Ms d zi_m97 (103, [(2, .inl 1), (0, .inr (.inr (some 82))), (1, .inl dep)], [.inl 1], (I, L, X), 0, 0) _
          refine yi_G_if1 true rfl (by decide) ?_
          refine yi_G_run 2 (116, [(2, .inl 1), (0, .inr (.inr (some 82))), (1, .inl dep)], [.inl 5, .inl dep], (I, L, X), 0, 0) (fun _ => rfl) ?_
          by_cases h62 : dep = 5
          · refine yi_G_if2 false rfl (yi_ne_f h62) ?_
            refine yi_G_run 2 (121, [(2, .inl 1), (0, .inr (.inr (some 82))), (1, .inl dep)], [.inl 5, .inr (.inr (some 82))], (I, L, X), 0, 0) (fun _ => rfl) ?_
            refine yi_G_callv rfl rfl (ym_rcv hS) rfl (c_wrong d (by omega) hS ⟨by omega, by omega⟩ hT ⟨by omega, by omega⟩ (by omega)) ?_
            rintro _ ⟨I63, rfl, f64, h65⟩
            show yi_G zi_Ms d zi_m97 (124, [(2, .inl 1), (0, .inr (.inr (some 82))), (1, .inl dep)], [], (I63, L, X), 0, 0) _
            have r66 : I63 82 7 = I 82 7 := by rw [f64 82 (7) (by omega)]
            have r67 : I63 82 7 = I 82 7 := by rw [f64 82 (7) (by omega)]
            exact pt124 I63 (fun p k hp => by rw [f64 p k (by omega)]) (by omega) (by omega)
          · refine yi_G_if2 true rfl (yi_ne_t h62) ?_
            exact pt124 I (fun _ _ _ => rfl) (by omega) (by omega)
        · show yi_G zi_Ms d zi_m97 (103, [(2, .inl 1), (0, .inr (.inr (some 82))), (1, .inl dep)], [.inl 0], (I, L, X), 0, 0) _
          refine yi_G_if1 false rfl (by decide) ?_
          refine yi_G_run 2 (108, [(2, .inl 1), (0, .inr (.inr (some 82))), (1, .inl dep)], [.inl 2, .inr (.inr (some 82))], (I, L, X), 0, 0) (fun _ => rfl) ?_
          refine yi_G_callv rfl rfl (ym_rcv hS) rfl (c_wrong d (by omega) hS ⟨by omega, by omega⟩ hT ⟨by omega, by omega⟩ (by omega)) ?_
          rintro _ ⟨I68, rfl, f69, h70⟩
          show yi_G zi_Ms d zi_m97 (111, [(2, .inl 1), (0, .inr (.inr (some 82))), (1, .inl dep)], [], (I68, L, X), 0, 0) _
          refine yi_G_run 1 (124, [(2, .inl 1), (0, .inr (.inr (some 82))), (1, .inl dep)], [], (I68, L, X), 0, 0) (fun _ => rfl) ?_
          have r71 : I68 82 7 = I 82 7 := by rw [f69 82 (7) (by omega)]
          have r72 : I68 82 7 = I 82 7 := by rw [f69 82 (7) (by omega)]
          exact pt124 I68 (fun p k hp => by rw [f69 p k (by omega)]) (by omega) (by omega)
      · show yi_G zi_Ms d zi_m97 (91, [(2, .inl 1), (0, .inr (.inr (some 82))), (1, .inl dep)], [.inl 0], (I, L, X), 0, 0) _
        refine yi_G_if1 true rfl (by decide) ?_
        refine yi_G_run 2 (116, [(2, .inl 1), (0, .inr (.inr (some 82))), (1, .inl dep)], [.inl 5, .inl dep], (I, L, X), 0, 0) (fun _ => rfl) ?_
        by_cases h73 : dep = 5
        · refine yi_G_if2 false rfl (yi_ne_f h73) ?_
          refine yi_G_run 2 (121, [(2, .inl 1), (0, .inr (.inr (some 82))), (1, .inl dep)], [.inl 5, .inr (.inr (some 82))], (I, L, X), 0, 0) (fun _ => rfl) ?_
          refine yi_G_callv rfl rfl (ym_rcv hS) rfl (c_wrong d (by omega) hS ⟨by omega, by omega⟩ hT ⟨by omega, by omega⟩ (by omega)) ?_
          rintro _ ⟨I74, rfl, f75, h76⟩
          show yi_G zi_Ms d zi_m97 (124, [(2, .inl 1), (0, .inr (.inr (some 82))), (1, .inl dep)], [], (I74, L, X), 0, 0) _
          have r77 : I74 82 7 = I 82 7 := by rw [f75 82 (7) (by omega)]
          have r78 : I74 82 7 = I 82 7 := by rw [f75 82 (7) (by omega)]
          exact pt124 I74 (fun p k hp => by rw [f75 p k (by omega)]) (by omega) (by omega)
        · refine yi_G_if2 true rfl (yi_ne_t h73) ?_
          exact pt124 I (fun _ _ _ => rfl) (by omega) (by omega)
    refine yi_G_run 1 (9, [(0, .inr (.inr (some 82))), (1, .inl dep)], [.inr (.inr (some 82))], (I, L, X), 0, 0) (fun _ => rfl) ?_
    refine yi_G_callv rfl rfl (ym_rcv hS) rfl (c_isName d (by omega) hS hT ⟨by omega, by omega⟩) ?_
    rintro _ (⟨⟨c79a, c79b⟩, rfl⟩ | rfl)
    · show yi_G zi_Ms d zi_m97 (12, [(0, .inr (.inr (some 82))), (1, .inl dep)], [.inl 1], (I, L, X), 0, 0) _
      refine yi_G_if1 true rfl (by decide) ?_
      exact pt69  (by omega)
    · show yi_G zi_Ms d zi_m97 (12, [(0, .inr (.inr (some 82))), (1, .inl dep)], [.inl 0], (I, L, X), 0, 0) _
      refine yi_G_if1 false rfl (by decide) ?_
      refine yi_G_run 2 (18, [(0, .inr (.inr (some 82))), (1, .inl dep)], [.inl 10, .inr (.inr (some 82))], (I, L, X), 0, 0) (fun _ => rfl) ?_
      refine yi_G_callv rfl rfl (ym_rcv hS) rfl (c_isWord1 d (by omega) hS ⟨by omega, by omega⟩ rfl rfl rfl rfl ⟨by omega, by omega⟩) ?_
      rintro _ (⟨c80, rfl⟩ | ⟨c80, rfl⟩)
      · have lt81 : I 82 7 < te := ym_TK_lt hT (by omega) (by omega)
        show yi_G zi_Ms d zi_m97 (21, [(0, .inr (.inr (some 82))), (1, .inl dep)], [.inl 1], (I, L, X), 0, 0) _
        refine yi_G_if1 true rfl (by decide) ?_
        exact pt69  (by omega)
      · show yi_G zi_Ms d zi_m97 (21, [(0, .inr (.inr (some 82))), (1, .inl dep)], [.inl 0], (I, L, X), 0, 0) _
        refine yi_G_if1 false rfl (by decide) ?_
        refine yi_G_run 2 (27, [(0, .inr (.inr (some 82))), (1, .inl dep)], [.inl 11, .inr (.inr (some 82))], (I, L, X), 0, 0) (fun _ => rfl) ?_
        refine yi_G_callv rfl rfl (ym_rcv hS) rfl (c_isWord1 d (by omega) hS ⟨by omega, by omega⟩ rfl rfl rfl rfl ⟨by omega, by omega⟩) ?_
        rintro _ (⟨c82, rfl⟩ | ⟨c82, rfl⟩)
        · have lt83 : I 82 7 < te := ym_TK_lt hT (by omega) (by omega)
          show yi_G zi_Ms d zi_m97 (30, [(0, .inr (.inr (some 82))), (1, .inl dep)], [.inl 1], (I, L, X), 0, 0) _
          refine yi_G_if1 true rfl (by decide) ?_
          exact pt69  (by omega)
        · show yi_G zi_Ms d zi_m97 (30, [(0, .inr (.inr (some 82))), (1, .inl dep)], [.inl 0], (I, L, X), 0, 0) _
          refine yi_G_if1 false rfl (by decide) ?_
          refine yi_G_run 2 (36, [(0, .inr (.inr (some 82))), (1, .inl dep)], [.inl 12, .inr (.inr (some 82))], (I, L, X), 0, 0) (fun _ => rfl) ?_
          refine yi_G_callv rfl rfl (ym_rcv hS) rfl (c_isWord1 d (by omega) hS ⟨by omega, by omega⟩ rfl rfl rfl rfl ⟨by omega, by omega⟩) ?_
          rintro _ (⟨c84, rfl⟩ | ⟨c84, rfl⟩)
          · have lt85 : I 82 7 < te := ym_TK_lt hT (by omega) (by omega)
            show yi_G zi_Ms d zi_m97 (39, [(0, .inr (.inr (some 82))), (1, .inl dep)], [.inl 1], (I, L, X), 0, 0) _
            refine yi_G_if1 true rfl (by decide) ?_
            exact pt69  (by omega)
          · show yi_G zi_Ms d zi_m97 (39, [(0, .inr (.inr (some 82))), (1, .inl dep)], [.inl 0], (I, L, X), 0, 0) _
            refine yi_G_if1 false rfl (by decide) ?_
            refine yi_G_run 2 (45, [(0, .inr (.inr (some 82))), (1, .inl dep)], [.inl 13, .inr (.inr (some 82))], (I, L, X), 0, 0) (fun _ => rfl) ?_
            refine yi_G_callv rfl rfl (ym_rcv hS) rfl (c_isWord1 d (by omega) hS ⟨by omega, by omega⟩ rfl rfl rfl rfl ⟨by omega, by omega⟩) ?_
            rintro _ (⟨c86, rfl⟩ | ⟨c86, rfl⟩)
            · have lt87 : I 82 7 < te := ym_TK_lt hT (by omega) (by omega)
              show yi_G zi_Ms d zi_m97 (48, [(0, .inr (.inr (some 82))), (1, .inl dep)], [.inl 1], (I, L, X), 0, 0) _
              refine yi_G_if1 true rfl (by decide) ?_
              exact pt69  (by omega)
            · show yi_G zi_Ms d zi_m97 (48, [(0, .inr (.inr (some 82))), (1, .inl dep)], [.inl 0], (I, L, X), 0, 0) _
              refine yi_G_if1 false rfl (by decide) ?_
              refine yi_G_run 2 (54, [(0, .inr (.inr (some 82))), (1, .inl dep)], [.inl 26, .inr (.inr (some 82))], (I, L, X), 0, 0) (fun _ => rfl) ?_
              refine yi_G_callv rfl rfl (ym_rcv hS) rfl (c_isWord1 d (by omega) hS ⟨by omega, by omega⟩ rfl rfl rfl rfl ⟨by omega, by omega⟩) ?_
              rintro _ (⟨c88, rfl⟩ | ⟨c88, rfl⟩)
              · have lt89 : I 82 7 < te := ym_TK_lt hT (by omega) (by omega)
                show yi_G zi_Ms d zi_m97 (57, [(0, .inr (.inr (some 82))), (1, .inl dep)], [.inl 1], (I, L, X), 0, 0) _
                refine yi_G_if1 true rfl (by decide) ?_
                exact pt69  (by omega)
              · show yi_G zi_Ms d zi_m97 (57, [(0, .inr (.inr (some 82))), (1, .inl dep)], [.inl 0], (I, L, X), 0, 0) _
                refine yi_G_if1 false rfl (by decide) ?_
                refine yi_G_run 2 (63, [(0, .inr (.inr (some 82))), (1, .inl dep)], [.inl 40, .inr (.inr (some 82))], (I, L, X), 0, 0) (fun _ => rfl) ?_
                refine yi_G_callv rfl rfl (ym_rcv hS) rfl (c_isSign d (by omega) hS rfl rfl rfl rfl ⟨by omega, by omega⟩) ?_
                rintro _ (⟨c90, rfl⟩ | ⟨c90, rfl⟩)
                · have lt91 : I 82 7 < te := ym_TK_lt hT (by omega) (by omega)
                  show yi_G zi_Ms d zi_m97 (66, [(0, .inr (.inr (some 82))), (1, .inl dep)], [.inl 1], (I, L, X), 0, 0) _
                  refine yi_G_if1 false rfl (by decide) ?_
                  exact pt69  (by omega)
                · show yi_G zi_Ms d zi_m97 (66, [(0, .inr (.inr (some 82))), (1, .inl dep)], [.inl 0], (I, L, X), 0, 0) _
                  refine yi_G_if1 true rfl (by decide) ?_
                  refine yi_G_run 2 (75, [(2, .inl 0), (0, .inr (.inr (some 82))), (1, .inl dep)], [], (I, L, X), 0, 0) (fun _ => rfl) ?_
                  have pt124 : ∀ (Ja : Nat → Nat → Int), (∀ p k, ¬ (p = 82 ∧ k = 8) → Ja p k = I p k) → (0 ≤ Ja 82 8) → (Ja 82 8 = 0 → dep ≤ 4 ∧ I 82 8 = 0) → yi_G zi_Ms d zi_m97 (124, [(2, .inl 0), (0, .inr (.inr (some 82))), (1, .inl dep)], [], (Ja, L, X), 0, 0) (ym_RQ I L X te (I 82 13)) := by
                    intro Ja fJa j0 j1 
                    refine yi_G_run 1 (125, [(2, .inl 0), (0, .inr (.inr (some 82))), (1, .inl dep)], [.inr (.inr (some 82))], (Ja, L, X), 0, 0) (fun _ => rfl) ?_
                    skip
                    refine yi_G_get (128, [(2, .inl 0), (0, .inr (.inr (some 82))), (1, .inl dep)], [.inl (Ja 82 8)], (Ja, L, X), 0, 0) rfl (ym_gi hS rfl rfl rfl) ?_
                    by_cases h92 : (Ja 82 8) ≤ 0
                    · refine yi_G_if1 true rfl (yi_le_t h92) ?_
                      refine yi_G_run 2 (135, [(2, .inl 0), (0, .inr (.inr (some 82))), (1, .inl dep)], [.inl 26, .inr (.inr (some 82))], (Ja, L, X), 0, 0) (fun _ => rfl) ?_
                      have r93 : Ja 82 7 = I 82 7 := by rw [fJa 82 (7) (by omega)]
                      have r94 : Ja 84 ((I 82 7).toNat) = I 84 ((I 82 7).toNat) := by rw [fJa 84 ((I 82 7).toNat) (by omega)]
                      refine yi_G_callv rfl rfl (ym_rcv hS) rfl (c_hasWord d (by omega) hS ⟨by omega, by omega⟩ r93 rfl r94 rfl ⟨by omega, by omega⟩) ?_
                      rintro _ (⟨c97, I95, rfl, f96, c97b⟩ | ⟨c97, I95, rfl, f96, c97b⟩)
                      · have lt98 : I 82 7 < te := ym_TK_lt hT (by omega) (by omega)
                        show yi_G zi_Ms d zi_m97 (138, [(2, .inl 0), (0, .inr (.inr (some 82))), (1, .inl dep)], [.inl 1], (I95, L, X), 0, 0) _
                        refine yi_G_if1 false rfl (by decide) ?_
                        refine yi_G_run 3 (144, [(2, .inl 0), (0, .inr (.inr (some 82))), (1, .inl dep)], [.inl 1, .inl dep, .inr (.inr (some 82))], (I95, L, X), 0, 0) (fun _ => rfl) ?_
                        refine yi_G_iadd rfl (dep + 1) (yi_wn (by omega) (by omega)) ?_
                        skip
                        have r99 : I95 82 13 = I 82 13 := by rw [f96 82 (13) (by omega), fJa 82 (13) (by omega)]
                        have r100 : I95 82 18 = I 82 18 := by rw [f96 82 (18) (by omega), fJa 82 (18) (by omega)]
                        have r101 : I95 82 19 = I 82 19 := by rw [f96 82 (19) (by omega), fJa 82 (19) (by omega)]
                        have r102 : I95 82 7 = (I 82 7) + 1 := by rw [c97b]
                        have r103 : I95 82 8 = Ja 82 8 := by rw [f96 82 (8) (by omega)]
                        have r104 : I95 82 20 = I 82 20 := by rw [f96 82 (20) (by omega), fJa 82 (20) (by omega)]
                        refine yi_G_callv rfl rfl (ym_rcv hS) rfl (hIt (by omega) d (by omega) I95 L te (I 82 13) (ym_TK_t (fun k => by rw [f96 84 k (by omega), fJa 84 k (by omega)]) (fun k => by rw [f96 85 k (by omega), fJa 85 k (by omega)]) hT) ⟨by omega, by omega⟩ (by omega) ⟨(by rw [r100]; omega), (by rw [r100]; omega)⟩ ⟨(by rw [r101]; omega), (by rw [r101]; omega)⟩ (ym_DY_t r104 (fun k => by rw [f96 88 k (by omega), fJa 88 k (by omega)]) hDY) r99 ⟨by omega, by omega⟩) ?_
                        rintro _ ⟨I105, rfl, f106, h107a, h107b, h107c, h107d, lwI105, sgI105⟩
                        show yi_G zi_Ms d zi_m97 (148, [(2, .inl 0), (0, .inr (.inr (some 82))), (1, .inl dep)], [], (I105, L, X), 0, 0) _
                        refine yi_G_run 3 (151, [(2, .inl 0), (0, .inr (.inr (some 82))), (1, .inl dep)], [.inl 0, .inl 3, .inr (.inr (some 82))], (I105, L, X), 0, 0) (fun _ => rfl) ?_
                        refine yi_G_callv rfl rfl (ym_rcv hS) rfl (c_emit d (by omega) hS rfl ⟨by omega, by omega⟩) ?_
                        rintro _ ⟨I108, rfl, f109, eI108, emI108⟩
                        show yi_G zi_Ms d zi_m97 (154, [(2, .inl 0), (0, .inr (.inr (some 82))), (1, .inl dep)], [], (I108, L, X), 0, 0) _
                        refine yi_G_run 1 (192, [(2, .inl 0), (0, .inr (.inr (some 82))), (1, .inl dep)], [], (I108, L, X), 0, 0) (fun _ => rfl) ?_
                        have r110 : I108 82 7 = I105 82 7 := by rw [f109 82 (7) (by omega)]
                        have r111 : I108 82 8 = I105 82 8 := by rw [f109 82 (8) (by omega)]
                        exact yi_G_retv rfl rfl (⟨_, rfl, (fun p k hp => by rw [f109 p k (by omega), f106 p k (by omega), f96 p k (by omega), fJa p k (by omega)]), ⟨by omega, by omega⟩, by omega, ⟨by omega, by omega⟩, by omega, ym_LW_t (ym_LW_g lwI105 (fun k => by rw [f96 89 k (by omega), fJa 89 k (by omega)]) (fun k => by rw [f96 90 k (by omega), fJa 90 k (by omega)])) (ym_LW_e (n := I 82 13) emI108 (by omega) (by omega)) (Int.le_refl _), fun zz => by rw [eI108]; exact ym_SG_not (sgI105 (by omega)) emI108⟩)
                      · show yi_G zi_Ms d zi_m97 (138, [(2, .inl 0), (0, .inr (.inr (some 82))), (1, .inl dep)], [.inl 0], (I95, L, X), 0, 0) _
                        refine yi_G_if1 true rfl (by decide) ?_
                        refine yi_G_run 2 (160, [(2, .inl 0), (0, .inr (.inr (some 82))), (1, .inl dep)], [.inl 40, .inr (.inr (some 82))], (I95, L, X), 0, 0) (fun _ => rfl) ?_
                        have r112 : I95 82 7 = I 82 7 := by rw [c97b]
                        have r113 : I95 82 8 = Ja 82 8 := by rw [f96 82 (8) (by omega)]
                        have r114 : I95 84 ((I 82 7).toNat) = I 84 ((I 82 7).toNat) := by rw [f96 84 ((I 82 7).toNat) (by omega), fJa 84 ((I 82 7).toNat) (by omega)]
                        refine yi_G_callv rfl rfl (ym_rcv hS) rfl (c_hasSign d (by omega) hS r112 r113 r114 rfl ⟨by omega, by omega⟩) ?_
                        rintro _ (⟨c117, I115, rfl, f116, c117b⟩ | ⟨c117, I115, rfl, f116, c117b⟩)
                        · have lt118 : I 82 7 < te := ym_TK_lt hT (by omega) (by omega)
                          show yi_G zi_Ms d zi_m97 (163, [(2, .inl 0), (0, .inr (.inr (some 82))), (1, .inl dep)], [.inl 1], (I115, L, X), 0, 0) _
                          refine yi_G_if1 false rfl (by decide) ?_
                          refine yi_G_run 3 (169, [(2, .inl 0), (0, .inr (.inr (some 82))), (1, .inl dep)], [.inl 1, .inl dep, .inr (.inr (some 82))], (I115, L, X), 0, 0) (fun _ => rfl) ?_
                          refine yi_G_iadd rfl (dep + 1) (yi_wn (by omega) (by omega)) ?_
                          have r119 : I115 82 13 = I 82 13 := by rw [f116 82 (13) (by omega), f96 82 (13) (by omega), fJa 82 (13) (by omega)]
                          have r120 : I115 82 18 = I 82 18 := by rw [f116 82 (18) (by omega), f96 82 (18) (by omega), fJa 82 (18) (by omega)]
                          have r121 : I115 82 19 = I 82 19 := by rw [f116 82 (19) (by omega), f96 82 (19) (by omega), fJa 82 (19) (by omega)]
                          have r122 : I115 82 7 = (I 82 7) + 1 := by rw [c117b]
                          have r123 : I115 82 8 = Ja 82 8 := by rw [f116 82 (8) (by omega), f96 82 (8) (by omega)]
                          have r124 : I115 82 20 = I 82 20 := by rw [f116 82 (20) (by omega), f96 82 (20) (by omega), fJa 82 (20) (by omega)]
                          refine yi_G_callv rfl rfl (ym_rcv hS) rfl (hFo (by omega) d (by omega) I115 L te (I 82 13) (ym_TK_t (fun k => by rw [f116 84 k (by omega), f96 84 k (by omega), fJa 84 k (by omega)]) (fun k => by rw [f116 85 k (by omega), f96 85 k (by omega), fJa 85 k (by omega)]) hT) ⟨by omega, by omega⟩ (by omega) ⟨(by rw [r120]; omega), (by rw [r120]; omega)⟩ ⟨(by rw [r121]; omega), (by rw [r121]; omega)⟩ (ym_DY_t r124 (fun k => by rw [f116 88 k (by omega), f96 88 k (by omega), fJa 88 k (by omega)]) hDY) r119 ⟨by omega, by omega⟩) ?_
                          rintro _ ⟨I125, rfl, f126, h127a, h127b, h127c, h127d, lwI125, sgI125⟩
                          show yi_G zi_Ms d zi_m97 (173, [(2, .inl 0), (0, .inr (.inr (some 82))), (1, .inl dep)], [], (I125, L, X), 0, 0) _
                          refine yi_G_run 2 (176, [(2, .inl 0), (0, .inr (.inr (some 82))), (1, .inl dep)], [.inl 41, .inr (.inr (some 82))], (I125, L, X), 0, 0) (fun _ => rfl) ?_
                          skip
                          refine yi_G_callv rfl rfl (ym_rcv hS) rfl (c_takeSign d (by omega) hS (ym_TK_t (fun k => by rw [f126 84 k (by omega), f116 84 k (by omega), f96 84 k (by omega), fJa 84 k (by omega)]) (fun k => by rw [f126 85 k (by omega), f116 85 k (by omega), f96 85 k (by omega), fJa 85 k (by omega)]) hT) ⟨by omega, by omega⟩ (by omega)) ?_
                          rintro _ ⟨I128, rfl, f129, h130a, h130b, h130c⟩
                          show yi_G zi_Ms d zi_m97 (179, [(2, .inl 0), (0, .inr (.inr (some 82))), (1, .inl dep)], [], (I128, L, X), 0, 0) _
                          refine yi_G_run 1 (192, [(2, .inl 0), (0, .inr (.inr (some 82))), (1, .inl dep)], [], (I128, L, X), 0, 0) (fun _ => rfl) ?_
                          have r131 : I128 82 13 = I125 82 13 := by rw [f129 82 (13) (by omega)]
                          have r132 : I128 82 13 = I125 82 13 := by rw [f129 82 (13) (by omega)]
                          exact yi_G_retv rfl rfl (⟨_, rfl, (fun p k hp => by rw [f129 p k (by omega), f126 p k (by omega), f116 p k (by omega), f96 p k (by omega), fJa p k (by omega)]), ⟨by omega, by omega⟩, by omega, ⟨by omega, by omega⟩, by omega, (ym_LW_f (ym_LW_g lwI125 (fun k => by rw [f116 89 k (by omega), f96 89 k (by omega), fJa 89 k (by omega)]) (fun k => by rw [f116 90 k (by omega), f96 90 k (by omega), fJa 90 k (by omega)])) (fun k => by rw [f129 89 k (by omega)]) (fun k => by rw [f129 90 k (by omega)])), fun zz => by rw [r132]; exact ym_SG_t (sgI125 (by omega)) (ym_LW_f (ym_LW_r _ _) (fun k => by rw [f129 89 k (by omega)]) (fun k => by rw [f129 90 k (by omega)]))⟩)
                        · show yi_G zi_Ms d zi_m97 (163, [(2, .inl 0), (0, .inr (.inr (some 82))), (1, .inl dep)], [.inl 0], (I115, L, X), 0, 0) _
                          refine yi_G_if1 true rfl (by decide) ?_
                          refine yi_G_run 3 (186, [(2, .inl 0), (0, .inr (.inr (some 82))), (1, .inl dep)], [.inr (.inr (some 82)), .inl 11, .inr (.inr (some 82))], (I115, L, X), 0, 0) (fun _ => rfl) ?_
                          skip
                          have r133 : I115 82 18 = I 82 18 := by rw [f116 82 (18) (by omega), f96 82 (18) (by omega), fJa 82 (18) (by omega)]
                          have r134 : I115 82 19 = I 82 19 := by rw [f116 82 (19) (by omega), f96 82 (19) (by omega), fJa 82 (19) (by omega)]
                          have r135 : I115 82 7 = I 82 7 := by rw [c117b]
                          have r136 : I115 82 8 = Ja 82 8 := by rw [f116 82 (8) (by omega), f96 82 (8) (by omega)]
                          have r137 : I115 82 20 = I 82 20 := by rw [f116 82 (20) (by omega), f96 82 (20) (by omega), fJa 82 (20) (by omega)]
                          refine yi_G_callv rfl rfl (ym_rcv hS) rfl (c_readClause d (by omega) hS ⟨(by rw [r133]; omega), (by rw [r133]; omega)⟩ ⟨(by rw [r134]; omega), (by rw [r134]; omega)⟩ (ym_TK_t (fun k => by rw [f116 84 k (by omega), f96 84 k (by omega), fJa 84 k (by omega)]) (fun k => by rw [f116 85 k (by omega), f96 85 k (by omega), fJa 85 k (by omega)]) hT) ⟨by omega, by omega⟩ (by omega) (ym_DY_t r137 (fun k => by rw [f116 88 k (by omega), f96 88 k (by omega), fJa 88 k (by omega)]) hDY)) ?_
                          rintro _ ⟨z140, I138, rfl, f139, h141a, h141b, h141c⟩
                          show yi_G zi_Ms d zi_m97 (189, [(2, .inl 0), (0, .inr (.inr (some 82))), (1, .inl dep)], [.inl z140, .inl 11, .inr (.inr (some 82))], (I138, L, X), 0, 0) _
                          have r142 : I138 82 13 = I 82 13 := by rw [f139 82 (13) (by omega), f116 82 (13) (by omega), f96 82 (13) (by omega), fJa 82 (13) (by omega)]
                          refine yi_G_callv rfl rfl (ym_rcv hS) rfl (c_emit d (by omega) hS r142 ⟨by omega, by omega⟩) ?_
                          rintro _ ⟨I143, rfl, f144, eI143, emI143⟩
                          show yi_G zi_Ms d zi_m97 (192, [(2, .inl 0), (0, .inr (.inr (some 82))), (1, .inl dep)], [], (I143, L, X), 0, 0) _
                          have r145 : I143 82 7 = I138 82 7 := by rw [f144 82 (7) (by omega)]
                          have r146 : I143 82 8 = I138 82 8 := by rw [f144 82 (8) (by omega)]
                          exact yi_G_retv rfl rfl (⟨_, rfl, (fun p k hp => by rw [f144 p k (by omega), f139 p k (by omega), f116 p k (by omega), f96 p k (by omega), fJa p k (by omega)]), ⟨by omega, by omega⟩, by omega, ⟨by omega, by omega⟩, by omega, ym_LW_g (ym_LW_e (n := I 82 13) emI143 (by omega) (by omega)) (fun k => by rw [f139 89 k (by omega), f116 89 k (by omega), f96 89 k (by omega), fJa 89 k (by omega)]) (fun k => by rw [f139 90 k (by omega), f116 90 k (by omega), f96 90 k (by omega), fJa 90 k (by omega)]), fun zz => by rw [eI143]; exact ym_SG_leaf emI143 (by omega) (Or.inr (Or.inr ⟨rfl, (h141c (by omega)).2⟩))⟩)
                    · refine yi_G_if1 false rfl (yi_le_f h92) ?_
                      have r147 : Ja 82 7 = I 82 7 := by rw [fJa 82 (7) (by omega)]
                      have r148 : Ja 82 13 = I 82 13 := by rw [fJa 82 (13) (by omega)]
                      exact yi_G_retv rfl rfl (⟨_, rfl, (fun p k hp => by rw [fJa p k (by omega)]), ⟨by omega, by omega⟩, by omega, ⟨by omega, by omega⟩, by omega, (ym_LW_f (ym_LW_r _ _) (fun k => by rw [fJa 89 k (by omega)]) (fun k => by rw [fJa 90 k (by omega)])), fun zz => absurd zz (by omega)⟩)
                  refine yi_G_run 1 (76, [(2, .inl 0), (0, .inr (.inr (some 82))), (1, .inl dep)], [.inl 0], (I, L, X), 0, 0) (fun _ => rfl) ?_
                  refine yi_G_if1 false rfl (by decide) ?_
                  refine yi_G_run 2 (81, [(2, .inl 0), (0, .inr (.inr (some 82))), (1, .inl dep)], [.inl 1, .inr (.inr (some 82))], (I, L, X), 0, 0) (fun _ => rfl) ?_
                  refine yi_G_callv rfl rfl (ym_rcv hS) rfl (c_wrong d (by omega) hS ⟨by omega, by omega⟩ hT ⟨by omega, by omega⟩ (by omega)) ?_
                  rintro _ ⟨I149, rfl, f150, h151⟩
                  show yi_G zi_Ms d zi_m97 (84, [(2, .inl 0), (0, .inr (.inr (some 82))), (1, .inl dep)], [], (I149, L, X), 0, 0) _
                  refine yi_G_run 1 (124, [(2, .inl 0), (0, .inr (.inr (some 82))), (1, .inl dep)], [], (I149, L, X), 0, 0) (fun _ => rfl) ?_
                  have r152 : I149 82 7 = I 82 7 := by rw [f150 82 (7) (by omega)]
                  have r153 : I149 82 7 = I 82 7 := by rw [f150 82 (7) (by omega)]
                  exact pt124 I149 (fun p k hp => by rw [f150 p k (by omega)]) (by omega) (by omega)
  · refine yi_G_if1 false rfl (yi_le_f h1) ?_
    exact yi_G_retv rfl rfl (⟨_, rfl, (fun _ _ _ => rfl), ⟨by omega, by omega⟩, by omega, ⟨by omega, by omega⟩, by omega, (ym_LW_r _ _), fun zz => absurd zz (by omega)⟩)
theorem c_takePart_of {X : ym_X} (hS : ym_S X) {m : Nat} {dep : Int} (m0 : 6 ≤ m) (d0 : 0 ≤ dep ∧ dep ≤ 5) (hIt : dep ≤ 4 → ym_RC X 117 m (dep + 1)) (hFo : dep ≤ 4 → ym_RC X 87 m (dep + 1)) : ym_RC X 117 (m + 1) dep := by
  intro D hD I L te n hT a0 f0 n0 n1 hDY hn k0
  subst hn
  obtain ⟨d, rfl⟩ : ∃ d, D = d + 1 := ⟨D - 1, by omega⟩
  refine yi_E_of (M := zi_m117) rfl rfl ?_
  obtain ⟨te0, te1, te2⟩ := id hT
  show yi_G zi_Ms d zi_m117 (0, [(0, .inr (.inr (some 82))), (1, .inl dep)], [], (I, L, X), 0, 0) _
  refine yi_G_run 1 (1, [(0, .inr (.inr (some 82))), (1, .inl dep)], [.inr (.inr (some 82))], (I, L, X), 0, 0) (fun _ => rfl) ?_
  skip
  refine yi_G_get (4, [(0, .inr (.inr (some 82))), (1, .inl dep)], [.inl (I 82 8)], (I, L, X), 0, 0) rfl (ym_gi hS rfl rfl rfl) ?_
  by_cases h1 : (I 82 8) ≤ 0
  · refine yi_G_if1 true rfl (yi_le_t h1) ?_
    refine yi_G_run 1 (9, [(0, .inr (.inr (some 82))), (1, .inl dep)], [.inr (.inr (some 82))], (I, L, X), 0, 0) (fun _ => rfl) ?_
    refine yi_G_get (12, [(0, .inr (.inr (some 82))), (1, .inl dep)], [.inr (.inr (some 84))], (I, L, X), 0, 0) rfl (ym_gr hS 1 rfl rfl rfl) ?_
    refine yi_G_run 1 (13, [(0, .inr (.inr (some 82))), (1, .inl dep)], [.inr (.inr (some 82)), .inr (.inr (some 84))], (I, L, X), 0, 0) (fun _ => rfl) ?_
    refine yi_G_get (16, [(0, .inr (.inr (some 82))), (1, .inl dep)], [.inl (I 82 7), .inr (.inr (some 84))], (I, L, X), 0, 0) rfl (ym_gi hS rfl rfl rfl) ?_
    refine yi_G_iald (17, [(0, .inr (.inr (some 82))), (1, .inl dep)], [.inl (I 84 ((I 82 7).toNat))], (I, L, X), 0, 0) rfl (ym_li hS 1 rfl (by omega) (by omega) rfl) ?_
    refine yi_G_run 1 (18, [(0, .inr (.inr (some 82))), (1, .inl dep)], [.inl 2, .inl (I 84 ((I 82 7).toNat))], (I, L, X), 0, 0) (fun _ => rfl) ?_
    by_cases h2 : (I 84 ((I 82 7).toNat)) = 2
    · refine yi_G_if2 false rfl (yi_ne_f h2) ?_
      refine yi_G_run 6 (31, [(2, .inl 1), (0, .inr (.inr (some 82))), (1, .inl dep)], [.inl 3, .inl 29, .inr (.inr (some 82))], (I, L, X), 0, 0) (fun _ => rfl) ?_
      refine yi_G_callv rfl rfl (ym_rcv hS) rfl (c_wordHere d (by omega) hS ⟨by omega, by omega⟩ ⟨by omega, by omega⟩ hT ⟨by omega, by omega⟩) ?_
      rintro _ ⟨fx, rfl, hfx⟩
      show yi_G zi_Ms d zi_m117 (34, [(2, .inl 1), (0, .inr (.inr (some 82))), (1, .inl dep)], [.inl fx], (I, L, X), 0, 0) _
      refine yi_G_run 1 (35, [(3, .inl fx), (2, .inl 1), (0, .inr (.inr (some 82))), (1, .inl dep)], [], (I, L, X), 0, 0) (fun _ => rfl) ?_
      have pt79 : ∀ (Ja : Nat → Nat → Int), (∀ p k, ¬ (p = 82 ∧ k = 8) → Ja p k = I p k) → (0 ≤ Ja 82 8) → (Ja 82 8 = 0 → dep ≤ 4 ∧ I 82 8 = 0 ∧ I 82 7 < te ∧ (0 ≤ fx ∨ I 84 (I 82 7).toNat = 2 ∨ (I 84 (I 82 7).toNat = 3 ∧ L 86 (I 82 7).toNat = 40) ∨ (I 84 (I 82 7).toNat = 1 ∧ L 86 (I 82 7).toNat = L 87 (26 : Int).toNat))) → yi_G zi_Ms d zi_m117 (79, [(3, .inl fx), (2, .inl 1), (0, .inr (.inr (some 82))), (1, .inl dep)], [], (Ja, L, X), 0, 0) (ym_RQ I L X te (I 82 13)) := by
        intro Ja fJa j0 j1 
        refine yi_G_run 1 (80, [(3, .inl fx), (2, .inl 1), (0, .inr (.inr (some 82))), (1, .inl dep)], [.inr (.inr (some 82))], (Ja, L, X), 0, 0) (fun _ => rfl) ?_
        skip
        refine yi_G_get (83, [(3, .inl fx), (2, .inl 1), (0, .inr (.inr (some 82))), (1, .inl dep)], [.inl (Ja 82 8)], (Ja, L, X), 0, 0) rfl (ym_gi hS rfl rfl rfl) ?_
        by_cases h5 : (Ja 82 8) ≤ 0
        · refine yi_G_if1 true rfl (yi_le_t h5) ?_
          refine yi_G_run 2 (90, [(3, .inl fx), (2, .inl 1), (0, .inr (.inr (some 82))), (1, .inl dep)], [.inl 26, .inr (.inr (some 82))], (Ja, L, X), 0, 0) (fun _ => rfl) ?_
          have r6 : Ja 82 7 = I 82 7 := by rw [fJa 82 (7) (by omega)]
          have r7 : Ja 84 ((I 82 7).toNat) = I 84 ((I 82 7).toNat) := by rw [fJa 84 ((I 82 7).toNat) (by omega)]
          refine yi_G_callv rfl rfl (ym_rcv hS) rfl (c_hasWord d (by omega) hS ⟨by omega, by omega⟩ r6 rfl r7 rfl ⟨by omega, by omega⟩) ?_
          rintro _ (⟨c10, I8, rfl, f9, c10b⟩ | ⟨c10, I8, rfl, f9, c10b⟩)
          · have lt11 : I 82 7 < te := ym_TK_lt hT (by omega) (by omega)
            show yi_G zi_Ms d zi_m117 (93, [(3, .inl fx), (2, .inl 1), (0, .inr (.inr (some 82))), (1, .inl dep)], [.inl 1], (I8, L, X), 0, 0) _
            refine yi_G_if1 false rfl (by decide) ?_
            refine yi_G_run 3 (99, [(3, .inl fx), (2, .inl 1), (0, .inr (.inr (some 82))), (1, .inl dep)], [.inl 1, .inl dep, .inr (.inr (some 82))], (I8, L, X), 0, 0) (fun _ => rfl) ?_
            refine yi_G_iadd rfl (dep + 1) (yi_wn (by omega) (by omega)) ?_
            skip
            have r12 : I8 82 13 = I 82 13 := by rw [f9 82 (13) (by omega), fJa 82 (13) (by omega)]
            have r13 : I8 82 18 = I 82 18 := by rw [f9 82 (18) (by omega), fJa 82 (18) (by omega)]
            have r14 : I8 82 19 = I 82 19 := by rw [f9 82 (19) (by omega), fJa 82 (19) (by omega)]
            have r15 : I8 82 7 = (I 82 7) + 1 := by rw [c10b]
            have r16 : I8 82 8 = Ja 82 8 := by rw [f9 82 (8) (by omega)]
            have r17 : I8 82 20 = I 82 20 := by rw [f9 82 (20) (by omega), fJa 82 (20) (by omega)]
            refine yi_G_callv rfl rfl (ym_rcv hS) rfl (hIt (by omega) d (by omega) I8 L te (I 82 13) (ym_TK_t (fun k => by rw [f9 84 k (by omega), fJa 84 k (by omega)]) (fun k => by rw [f9 85 k (by omega), fJa 85 k (by omega)]) hT) ⟨by omega, by omega⟩ (by omega) ⟨(by rw [r13]; omega), (by rw [r13]; omega)⟩ ⟨(by rw [r14]; omega), (by rw [r14]; omega)⟩ (ym_DY_t r17 (fun k => by rw [f9 88 k (by omega), fJa 88 k (by omega)]) hDY) r12 ⟨by omega, by omega⟩) ?_
            rintro _ ⟨I18, rfl, f19, h20a, h20b, h20c, h20d, lwI18, sgI18⟩
            show yi_G zi_Ms d zi_m117 (103, [(3, .inl fx), (2, .inl 1), (0, .inr (.inr (some 82))), (1, .inl dep)], [], (I18, L, X), 0, 0) _
            refine yi_G_run 3 (106, [(3, .inl fx), (2, .inl 1), (0, .inr (.inr (some 82))), (1, .inl dep)], [.inl 0, .inl 3, .inr (.inr (some 82))], (I18, L, X), 0, 0) (fun _ => rfl) ?_
            refine yi_G_callv rfl rfl (ym_rcv hS) rfl (c_emit d (by omega) hS rfl ⟨by omega, by omega⟩) ?_
            rintro _ ⟨I21, rfl, f22, eI21, emI21⟩
            show yi_G zi_Ms d zi_m117 (109, [(3, .inl fx), (2, .inl 1), (0, .inr (.inr (some 82))), (1, .inl dep)], [], (I21, L, X), 0, 0) _
            refine yi_G_run 1 (178, [(3, .inl fx), (2, .inl 1), (0, .inr (.inr (some 82))), (1, .inl dep)], [], (I21, L, X), 0, 0) (fun _ => rfl) ?_
            have r23 : I21 82 7 = I18 82 7 := by rw [f22 82 (7) (by omega)]
            have r24 : I21 82 8 = I18 82 8 := by rw [f22 82 (8) (by omega)]
            exact yi_G_retv rfl rfl (⟨_, rfl, (fun p k hp => by rw [f22 p k (by omega), f19 p k (by omega), f9 p k (by omega), fJa p k (by omega)]), ⟨by omega, by omega⟩, by omega, ⟨by omega, by omega⟩, by omega, ym_LW_t (ym_LW_g lwI18 (fun k => by rw [f9 89 k (by omega), fJa 89 k (by omega)]) (fun k => by rw [f9 90 k (by omega), fJa 90 k (by omega)])) (ym_LW_e (n := I 82 13) emI21 (by omega) (by omega)) (Int.le_refl _), fun zz => by rw [eI21]; exact ym_SG_not (sgI18 (by omega)) emI21⟩)
          · show yi_G zi_Ms d zi_m117 (93, [(3, .inl fx), (2, .inl 1), (0, .inr (.inr (some 82))), (1, .inl dep)], [.inl 0], (I8, L, X), 0, 0) _
            refine yi_G_if1 true rfl (by decide) ?_
            refine yi_G_run 2 (115, [(3, .inl fx), (2, .inl 1), (0, .inr (.inr (some 82))), (1, .inl dep)], [.inl 40, .inr (.inr (some 82))], (I8, L, X), 0, 0) (fun _ => rfl) ?_
            have r25 : I8 82 7 = I 82 7 := by rw [c10b]
            have r26 : I8 82 8 = Ja 82 8 := by rw [f9 82 (8) (by omega)]
            have r27 : I8 84 ((I 82 7).toNat) = I 84 ((I 82 7).toNat) := by rw [f9 84 ((I 82 7).toNat) (by omega), fJa 84 ((I 82 7).toNat) (by omega)]
            refine yi_G_callv rfl rfl (ym_rcv hS) rfl (c_hasSign d (by omega) hS r25 r26 r27 rfl ⟨by omega, by omega⟩) ?_
            rintro _ (⟨c30, I28, rfl, f29, c30b⟩ | ⟨c30, I28, rfl, f29, c30b⟩)
            · have lt31 : I 82 7 < te := ym_TK_lt hT (by omega) (by omega)
              show yi_G zi_Ms d zi_m117 (118, [(3, .inl fx), (2, .inl 1), (0, .inr (.inr (some 82))), (1, .inl dep)], [.inl 1], (I28, L, X), 0, 0) _
              refine yi_G_if1 false rfl (by decide) ?_
              refine yi_G_run 3 (124, [(3, .inl fx), (2, .inl 1), (0, .inr (.inr (some 82))), (1, .inl dep)], [.inl 1, .inl dep, .inr (.inr (some 82))], (I28, L, X), 0, 0) (fun _ => rfl) ?_
              refine yi_G_iadd rfl (dep + 1) (yi_wn (by omega) (by omega)) ?_
              have r32 : I28 82 13 = I 82 13 := by rw [f29 82 (13) (by omega), f9 82 (13) (by omega), fJa 82 (13) (by omega)]
              have r33 : I28 82 18 = I 82 18 := by rw [f29 82 (18) (by omega), f9 82 (18) (by omega), fJa 82 (18) (by omega)]
              have r34 : I28 82 19 = I 82 19 := by rw [f29 82 (19) (by omega), f9 82 (19) (by omega), fJa 82 (19) (by omega)]
              have r35 : I28 82 7 = (I 82 7) + 1 := by rw [c30b]
              have r36 : I28 82 8 = Ja 82 8 := by rw [f29 82 (8) (by omega), f9 82 (8) (by omega)]
              have r37 : I28 82 20 = I 82 20 := by rw [f29 82 (20) (by omega), f9 82 (20) (by omega), fJa 82 (20) (by omega)]
              refine yi_G_callv rfl rfl (ym_rcv hS) rfl (hFo (by omega) d (by omega) I28 L te (I 82 13) (ym_TK_t (fun k => by rw [f29 84 k (by omega), f9 84 k (by omega), fJa 84 k (by omega)]) (fun k => by rw [f29 85 k (by omega), f9 85 k (by omega), fJa 85 k (by omega)]) hT) ⟨by omega, by omega⟩ (by omega) ⟨(by rw [r33]; omega), (by rw [r33]; omega)⟩ ⟨(by rw [r34]; omega), (by rw [r34]; omega)⟩ (ym_DY_t r37 (fun k => by rw [f29 88 k (by omega), f9 88 k (by omega), fJa 88 k (by omega)]) hDY) r32 ⟨by omega, by omega⟩) ?_
              rintro _ ⟨I38, rfl, f39, h40a, h40b, h40c, h40d, lwI38, sgI38⟩
              show yi_G zi_Ms d zi_m117 (128, [(3, .inl fx), (2, .inl 1), (0, .inr (.inr (some 82))), (1, .inl dep)], [], (I38, L, X), 0, 0) _
              refine yi_G_run 2 (131, [(3, .inl fx), (2, .inl 1), (0, .inr (.inr (some 82))), (1, .inl dep)], [.inl 41, .inr (.inr (some 82))], (I38, L, X), 0, 0) (fun _ => rfl) ?_
              skip
              refine yi_G_callv rfl rfl (ym_rcv hS) rfl (c_takeSign d (by omega) hS (ym_TK_t (fun k => by rw [f39 84 k (by omega), f29 84 k (by omega), f9 84 k (by omega), fJa 84 k (by omega)]) (fun k => by rw [f39 85 k (by omega), f29 85 k (by omega), f9 85 k (by omega), fJa 85 k (by omega)]) hT) ⟨by omega, by omega⟩ (by omega)) ?_
              rintro _ ⟨I41, rfl, f42, h43a, h43b, h43c⟩
              show yi_G zi_Ms d zi_m117 (134, [(3, .inl fx), (2, .inl 1), (0, .inr (.inr (some 82))), (1, .inl dep)], [], (I41, L, X), 0, 0) _
              refine yi_G_run 1 (178, [(3, .inl fx), (2, .inl 1), (0, .inr (.inr (some 82))), (1, .inl dep)], [], (I41, L, X), 0, 0) (fun _ => rfl) ?_
              have r44 : I41 82 13 = I38 82 13 := by rw [f42 82 (13) (by omega)]
              have r45 : I41 82 13 = I38 82 13 := by rw [f42 82 (13) (by omega)]
              exact yi_G_retv rfl rfl (⟨_, rfl, (fun p k hp => by rw [f42 p k (by omega), f39 p k (by omega), f29 p k (by omega), f9 p k (by omega), fJa p k (by omega)]), ⟨by omega, by omega⟩, by omega, ⟨by omega, by omega⟩, by omega, (ym_LW_f (ym_LW_g lwI38 (fun k => by rw [f29 89 k (by omega), f9 89 k (by omega), fJa 89 k (by omega)]) (fun k => by rw [f29 90 k (by omega), f9 90 k (by omega), fJa 90 k (by omega)])) (fun k => by rw [f42 89 k (by omega)]) (fun k => by rw [f42 90 k (by omega)])), fun zz => by rw [r45]; exact ym_SG_t (sgI38 (by omega)) (ym_LW_f (ym_LW_r _ _) (fun k => by rw [f42 89 k (by omega)]) (fun k => by rw [f42 90 k (by omega)]))⟩)
            · show yi_G zi_Ms d zi_m117 (118, [(3, .inl fx), (2, .inl 1), (0, .inr (.inr (some 82))), (1, .inl dep)], [.inl 0], (I28, L, X), 0, 0) _
              refine yi_G_if1 true rfl (by decide) ?_
              refine yi_G_run 2 (139, [(3, .inl fx), (2, .inl 1), (0, .inr (.inr (some 82))), (1, .inl dep)], [.inl 1, .inr (.inr (some 82))], (I28, L, X), 0, 0) (fun _ => rfl) ?_
              refine yi_G_if1 false rfl (by decide) ?_
              refine yi_G_run 3 (148, [(3, .inl fx), (2, .inl 1), (0, .inr (.inr (some 82))), (1, .inl dep)], [.inl 1, .inl 1, .inr (.inr (some 82))], (I28, L, X), 0, 0) (fun _ => rfl) ?_
              refine yi_G_if1 false rfl (by decide) ?_
              refine yi_G_run 1 (152, [(3, .inl fx), (2, .inl 1), (0, .inr (.inr (some 82))), (1, .inl dep)], [.inr (.inr (some 82)), .inl 1, .inr (.inr (some 82))], (I28, L, X), 0, 0) (fun _ => rfl) ?_
              refine yi_G_get (155, [(3, .inl fx), (2, .inl 1), (0, .inr (.inr (some 82))), (1, .inl dep)], [.inr (.inr (some 86)), .inl 1, .inr (.inr (some 82))], (I28, L, X), 0, 0) rfl (ym_gr hS 3 rfl rfl rfl) ?_
              refine yi_G_run 1 (156, [(3, .inl fx), (2, .inl 1), (0, .inr (.inr (some 82))), (1, .inl dep)], [.inr (.inr (some 82)), .inr (.inr (some 86)), .inl 1, .inr (.inr (some 82))], (I28, L, X), 0, 0) (fun _ => rfl) ?_
              have r46 : I28 82 7 = I 82 7 := by rw [c30b]
              refine yi_G_get (159, [(3, .inl fx), (2, .inl 1), (0, .inr (.inr (some 82))), (1, .inl dep)], [.inl (I 82 7), .inr (.inr (some 86)), .inl 1, .inr (.inr (some 82))], (I28, L, X), 0, 0) rfl (ym_gi hS rfl rfl r46) ?_
              refine yi_G_lald (160, [(3, .inl fx), (2, .inl 1), (0, .inr (.inr (some 82))), (1, .inl dep)], [.inr (.inl (L 86 ((I 82 7).toNat))), .inl 1, .inr (.inr (some 82))], (I28, L, X), 0, 0) rfl (ym_ll hS 3 rfl (by omega) (by omega) rfl) ?_
              refine yi_G_run 2 (165, [(3, .inl fx), (2, .inl 1), (0, .inr (.inr (some 82))), (1, .inl dep)], [.inl (yi_w (L 86 ((I 82 7).toNat))), .inl 1, .inr (.inr (some 82))], (I28, L, X), 0, 0) (fun _ => rfl) ?_
              skip
              have r47 : I28 82 13 = I 82 13 := by rw [f29 82 (13) (by omega), f9 82 (13) (by omega), fJa 82 (13) (by omega)]
              refine yi_G_callv rfl rfl (ym_rcv hS) rfl (c_emit d (by omega) hS r47 ⟨by omega, by omega⟩) ?_
              rintro _ ⟨I48, rfl, f49, eI48, emI48⟩
              show yi_G zi_Ms d zi_m117 (168, [(3, .inl fx), (2, .inl 1), (0, .inr (.inr (some 82))), (1, .inl dep)], [], (I48, L, X), 0, 0) _
              refine yi_G_run 2 (170, [(3, .inl fx), (2, .inl 1), (0, .inr (.inr (some 82))), (1, .inl dep)], [.inr (.inr (some 82)), .inr (.inr (some 82))], (I48, L, X), 0, 0) (fun _ => rfl) ?_
              have r50 : I48 82 7 = I 82 7 := by rw [f49 82 (7) (by omega), c30b]
              refine yi_G_get (173, [(3, .inl fx), (2, .inl 1), (0, .inr (.inr (some 82))), (1, .inl dep)], [.inl (I 82 7), .inr (.inr (some 82))], (I48, L, X), 0, 0) rfl (ym_gi hS rfl rfl r50) ?_
              refine yi_G_run 1 (174, [(3, .inl fx), (2, .inl 1), (0, .inr (.inr (some 82))), (1, .inl dep)], [.inl 1, .inl (I 82 7), .inr (.inr (some 82))], (I48, L, X), 0, 0) (fun _ => rfl) ?_
              refine yi_G_iadd rfl ((I 82 7) + 1) (yi_wn (by omega) (by omega)) ?_
              refine yi_G_put (178, [(3, .inl fx), (2, .inl 1), (0, .inr (.inr (some 82))), (1, .inl dep)], [], ((yi_u I48 82 7 ((I 82 7) + 1)), L, X), 0, 0) rfl (ym_pi hS rfl rfl) ?_
              generalize w52 : yi_u I48 82 7 ((I 82 7) + 1) = I51
              have r53 : I51 82 7 = (I 82 7) + 1 := by rw [← w52, yi_u_eq]
              have r54 : I51 82 8 = Ja 82 8 := by rw [← w52, yi_u_ne _ _ (by omega), f49 82 (8) (by omega), f29 82 (8) (by omega), f9 82 (8) (by omega)]
              have r55 : I51 82 13 = I48 82 13 := by rw [← w52, yi_u_ne _ _ (by omega)]
              have r56 : I51 82 13 = I48 82 13 := by rw [← w52, yi_u_ne _ _ (by omega)]
              exact yi_G_retv rfl rfl (⟨_, rfl, (fun p k hp => by rw [← w52, yi_u_ne _ _ (fun z => by omega), f49 p k (by omega), f29 p k (by omega), f9 p k (by omega), fJa p k (by omega)]), ⟨by omega, by omega⟩, by omega, ⟨by omega, by omega⟩, by omega, (ym_LW_f (ym_LW_g (ym_LW_e (n := I 82 13) emI48 (by omega) (by omega)) (fun k => by rw [f29 89 k (by omega), f9 89 k (by omega), fJa 89 k (by omega)]) (fun k => by rw [f29 90 k (by omega), f9 90 k (by omega), fJa 90 k (by omega)])) (fun k => by rw [← w52, yi_u_ne _ _ (fun z => absurd z.1 (by decide))]) (fun k => by rw [← w52, yi_u_ne _ _ (fun z => absurd z.1 (by decide))])), fun zz => by rw [r56, eI48]; exact ym_SG_t (ym_SG_leaf emI48 (by omega) (Or.inl rfl)) (ym_LW_f (ym_LW_r _ _) (fun k => by rw [← w52, yi_u_ne _ _ (fun z => absurd z.1 (by decide))]) (fun k => by rw [← w52, yi_u_ne _ _ (fun z => absurd z.1 (by decide))]))⟩)
        · refine yi_G_if1 false rfl (yi_le_f h5) ?_
          have r57 : Ja 82 7 = I 82 7 := by rw [fJa 82 (7) (by omega)]
          have r58 : Ja 82 13 = I 82 13 := by rw [fJa 82 (13) (by omega)]
          exact yi_G_retv rfl rfl (⟨_, rfl, (fun p k hp => by rw [fJa p k (by omega)]), ⟨by omega, by omega⟩, by omega, ⟨by omega, by omega⟩, by omega, (ym_LW_f (ym_LW_r _ _) (fun k => by rw [fJa 89 k (by omega)]) (fun k => by rw [fJa 90 k (by omega)])), fun zz => absurd zz (by omega)⟩)
      refine yi_G_run 1 (36, [(3, .inl fx), (2, .inl 1), (0, .inr (.inr (some 82))), (1, .inl dep)], [.inl fx], (I, L, X), 0, 0) (fun _ => rfl) ?_
      by_cases h59 : 0 ≤ fx
      · refine yi_G_if1 true rfl (yi_ge_t h59) ?_
        refine yi_G_run 2 (71, [(3, .inl fx), (2, .inl 1), (0, .inr (.inr (some 82))), (1, .inl dep)], [.inl 5, .inl dep], (I, L, X), 0, 0) (fun _ => rfl) ?_
        by_cases h60 : dep = 5
        · refine yi_G_if2 false rfl (yi_ne_f h60) ?_
          refine yi_G_run 2 (76, [(3, .inl fx), (2, .inl 1), (0, .inr (.inr (some 82))), (1, .inl dep)], [.inl 5, .inr (.inr (some 82))], (I, L, X), 0, 0) (fun _ => rfl) ?_
          refine yi_G_callv rfl rfl (ym_rcv hS) rfl (c_wrong d (by omega) hS ⟨by omega, by omega⟩ hT ⟨by omega, by omega⟩ (by omega)) ?_
          rintro _ ⟨I61, rfl, f62, h63⟩
          show yi_G zi_Ms d zi_m117 (79, [(3, .inl fx), (2, .inl 1), (0, .inr (.inr (some 82))), (1, .inl dep)], [], (I61, L, X), 0, 0) _
          have r64 : I61 82 7 = I 82 7 := by rw [f62 82 (7) (by omega)]
          have r65 : I61 82 7 = I 82 7 := by rw [f62 82 (7) (by omega)]
          exact pt79 I61 (fun p k hp => by rw [f62 p k (by omega)]) (by omega) (fun zz => ⟨by omega, by omega, by first | omega | exact ym_TK_lt hT (by omega) (by omega), by omega⟩)
        · refine yi_G_if2 true rfl (yi_ne_t h60) ?_
          exact pt79 I (fun _ _ _ => rfl) (by omega) (fun zz => ⟨by omega, by omega, by first | omega | exact ym_TK_lt hT (by omega) (by omega), by omega⟩)
      · refine yi_G_if1 false rfl (yi_ge_f h59) ?_
        refine yi_G_run 1 (40, [(3, .inl fx), (2, .inl 1), (0, .inr (.inr (some 82))), (1, .inl dep)], [.inl 1], (I, L, X), 0, 0) (fun _ => rfl) ?_
        refine yi_G_if1 true rfl (by decide) ?_
        refine yi_G_run 2 (71, [(3, .inl fx), (2, .inl 1), (0, .inr (.inr (some 82))), (1, .inl dep)], [.inl 5, .inl dep], (I, L, X), 0, 0) (fun _ => rfl) ?_
        by_cases h66 : dep = 5
        · refine yi_G_if2 false rfl (yi_ne_f h66) ?_
          refine yi_G_run 2 (76, [(3, .inl fx), (2, .inl 1), (0, .inr (.inr (some 82))), (1, .inl dep)], [.inl 5, .inr (.inr (some 82))], (I, L, X), 0, 0) (fun _ => rfl) ?_
          refine yi_G_callv rfl rfl (ym_rcv hS) rfl (c_wrong d (by omega) hS ⟨by omega, by omega⟩ hT ⟨by omega, by omega⟩ (by omega)) ?_
          rintro _ ⟨I67, rfl, f68, h69⟩
          show yi_G zi_Ms d zi_m117 (79, [(3, .inl fx), (2, .inl 1), (0, .inr (.inr (some 82))), (1, .inl dep)], [], (I67, L, X), 0, 0) _
          have r70 : I67 82 7 = I 82 7 := by rw [f68 82 (7) (by omega)]
          have r71 : I67 82 7 = I 82 7 := by rw [f68 82 (7) (by omega)]
          exact pt79 I67 (fun p k hp => by rw [f68 p k (by omega)]) (by omega) (fun zz => ⟨by omega, by omega, by first | omega | exact ym_TK_lt hT (by omega) (by omega), by omega⟩)
        · refine yi_G_if2 true rfl (yi_ne_t h66) ?_
          exact pt79 I (fun _ _ _ => rfl) (by omega) (fun zz => ⟨by omega, by omega, by first | omega | exact ym_TK_lt hT (by omega) (by omega), by omega⟩)
    · refine yi_G_if2 true rfl (yi_ne_t h2) ?_
      refine yi_G_run 5 (31, [(2, .inl 0), (0, .inr (.inr (some 82))), (1, .inl dep)], [.inl 3, .inl 29, .inr (.inr (some 82))], (I, L, X), 0, 0) (fun _ => rfl) ?_
      refine yi_G_callv rfl rfl (ym_rcv hS) rfl (c_wordHere d (by omega) hS ⟨by omega, by omega⟩ ⟨by omega, by omega⟩ hT ⟨by omega, by omega⟩) ?_
      rintro _ ⟨fx, rfl, hfx⟩
      show yi_G zi_Ms d zi_m117 (34, [(2, .inl 0), (0, .inr (.inr (some 82))), (1, .inl dep)], [.inl fx], (I, L, X), 0, 0) _
      refine yi_G_run 1 (35, [(3, .inl fx), (2, .inl 0), (0, .inr (.inr (some 82))), (1, .inl dep)], [], (I, L, X), 0, 0) (fun _ => rfl) ?_
      have pt79 : ∀ (Ja : Nat → Nat → Int), (∀ p k, ¬ (p = 82 ∧ k = 8) → Ja p k = I p k) → (0 ≤ Ja 82 8) → (Ja 82 8 = 0 → dep ≤ 4 ∧ I 82 8 = 0 ∧ I 82 7 < te ∧ (0 ≤ fx ∨ I 84 (I 82 7).toNat = 2 ∨ (I 84 (I 82 7).toNat = 3 ∧ L 86 (I 82 7).toNat = 40) ∨ (I 84 (I 82 7).toNat = 1 ∧ L 86 (I 82 7).toNat = L 87 (26 : Int).toNat))) → yi_G zi_Ms d zi_m117 (79, [(3, .inl fx), (2, .inl 0), (0, .inr (.inr (some 82))), (1, .inl dep)], [], (Ja, L, X), 0, 0) (ym_RQ I L X te (I 82 13)) := by
        intro Ja fJa j0 j1 
        refine yi_G_run 1 (80, [(3, .inl fx), (2, .inl 0), (0, .inr (.inr (some 82))), (1, .inl dep)], [.inr (.inr (some 82))], (Ja, L, X), 0, 0) (fun _ => rfl) ?_
        skip
        refine yi_G_get (83, [(3, .inl fx), (2, .inl 0), (0, .inr (.inr (some 82))), (1, .inl dep)], [.inl (Ja 82 8)], (Ja, L, X), 0, 0) rfl (ym_gi hS rfl rfl rfl) ?_
        by_cases h74 : (Ja 82 8) ≤ 0
        · refine yi_G_if1 true rfl (yi_le_t h74) ?_
          refine yi_G_run 2 (90, [(3, .inl fx), (2, .inl 0), (0, .inr (.inr (some 82))), (1, .inl dep)], [.inl 26, .inr (.inr (some 82))], (Ja, L, X), 0, 0) (fun _ => rfl) ?_
          have r75 : Ja 82 7 = I 82 7 := by rw [fJa 82 (7) (by omega)]
          have r76 : Ja 84 ((I 82 7).toNat) = I 84 ((I 82 7).toNat) := by rw [fJa 84 ((I 82 7).toNat) (by omega)]
          refine yi_G_callv rfl rfl (ym_rcv hS) rfl (c_hasWord d (by omega) hS ⟨by omega, by omega⟩ r75 rfl r76 rfl ⟨by omega, by omega⟩) ?_
          rintro _ (⟨c79, I77, rfl, f78, c79b⟩ | ⟨c79, I77, rfl, f78, c79b⟩)
          · have lt80 : I 82 7 < te := ym_TK_lt hT (by omega) (by omega)
            show yi_G zi_Ms d zi_m117 (93, [(3, .inl fx), (2, .inl 0), (0, .inr (.inr (some 82))), (1, .inl dep)], [.inl 1], (I77, L, X), 0, 0) _
            refine yi_G_if1 false rfl (by decide) ?_
            refine yi_G_run 3 (99, [(3, .inl fx), (2, .inl 0), (0, .inr (.inr (some 82))), (1, .inl dep)], [.inl 1, .inl dep, .inr (.inr (some 82))], (I77, L, X), 0, 0) (fun _ => rfl) ?_
            refine yi_G_iadd rfl (dep + 1) (yi_wn (by omega) (by omega)) ?_
            skip
            have r81 : I77 82 13 = I 82 13 := by rw [f78 82 (13) (by omega), fJa 82 (13) (by omega)]
            have r82 : I77 82 18 = I 82 18 := by rw [f78 82 (18) (by omega), fJa 82 (18) (by omega)]
            have r83 : I77 82 19 = I 82 19 := by rw [f78 82 (19) (by omega), fJa 82 (19) (by omega)]
            have r84 : I77 82 7 = (I 82 7) + 1 := by rw [c79b]
            have r85 : I77 82 8 = Ja 82 8 := by rw [f78 82 (8) (by omega)]
            have r86 : I77 82 20 = I 82 20 := by rw [f78 82 (20) (by omega), fJa 82 (20) (by omega)]
            refine yi_G_callv rfl rfl (ym_rcv hS) rfl (hIt (by omega) d (by omega) I77 L te (I 82 13) (ym_TK_t (fun k => by rw [f78 84 k (by omega), fJa 84 k (by omega)]) (fun k => by rw [f78 85 k (by omega), fJa 85 k (by omega)]) hT) ⟨by omega, by omega⟩ (by omega) ⟨(by rw [r82]; omega), (by rw [r82]; omega)⟩ ⟨(by rw [r83]; omega), (by rw [r83]; omega)⟩ (ym_DY_t r86 (fun k => by rw [f78 88 k (by omega), fJa 88 k (by omega)]) hDY) r81 ⟨by omega, by omega⟩) ?_
            rintro _ ⟨I87, rfl, f88, h89a, h89b, h89c, h89d, lwI87, sgI87⟩
            show yi_G zi_Ms d zi_m117 (103, [(3, .inl fx), (2, .inl 0), (0, .inr (.inr (some 82))), (1, .inl dep)], [], (I87, L, X), 0, 0) _
            refine yi_G_run 3 (106, [(3, .inl fx), (2, .inl 0), (0, .inr (.inr (some 82))), (1, .inl dep)], [.inl 0, .inl 3, .inr (.inr (some 82))], (I87, L, X), 0, 0) (fun _ => rfl) ?_
            refine yi_G_callv rfl rfl (ym_rcv hS) rfl (c_emit d (by omega) hS rfl ⟨by omega, by omega⟩) ?_
            rintro _ ⟨I90, rfl, f91, eI90, emI90⟩
            show yi_G zi_Ms d zi_m117 (109, [(3, .inl fx), (2, .inl 0), (0, .inr (.inr (some 82))), (1, .inl dep)], [], (I90, L, X), 0, 0) _
            refine yi_G_run 1 (178, [(3, .inl fx), (2, .inl 0), (0, .inr (.inr (some 82))), (1, .inl dep)], [], (I90, L, X), 0, 0) (fun _ => rfl) ?_
            have r92 : I90 82 7 = I87 82 7 := by rw [f91 82 (7) (by omega)]
            have r93 : I90 82 8 = I87 82 8 := by rw [f91 82 (8) (by omega)]
            exact yi_G_retv rfl rfl (⟨_, rfl, (fun p k hp => by rw [f91 p k (by omega), f88 p k (by omega), f78 p k (by omega), fJa p k (by omega)]), ⟨by omega, by omega⟩, by omega, ⟨by omega, by omega⟩, by omega, ym_LW_t (ym_LW_g lwI87 (fun k => by rw [f78 89 k (by omega), fJa 89 k (by omega)]) (fun k => by rw [f78 90 k (by omega), fJa 90 k (by omega)])) (ym_LW_e (n := I 82 13) emI90 (by omega) (by omega)) (Int.le_refl _), fun zz => by rw [eI90]; exact ym_SG_not (sgI87 (by omega)) emI90⟩)
          · show yi_G zi_Ms d zi_m117 (93, [(3, .inl fx), (2, .inl 0), (0, .inr (.inr (some 82))), (1, .inl dep)], [.inl 0], (I77, L, X), 0, 0) _
            refine yi_G_if1 true rfl (by decide) ?_
            refine yi_G_run 2 (115, [(3, .inl fx), (2, .inl 0), (0, .inr (.inr (some 82))), (1, .inl dep)], [.inl 40, .inr (.inr (some 82))], (I77, L, X), 0, 0) (fun _ => rfl) ?_
            have r94 : I77 82 7 = I 82 7 := by rw [c79b]
            have r95 : I77 82 8 = Ja 82 8 := by rw [f78 82 (8) (by omega)]
            have r96 : I77 84 ((I 82 7).toNat) = I 84 ((I 82 7).toNat) := by rw [f78 84 ((I 82 7).toNat) (by omega), fJa 84 ((I 82 7).toNat) (by omega)]
            refine yi_G_callv rfl rfl (ym_rcv hS) rfl (c_hasSign d (by omega) hS r94 r95 r96 rfl ⟨by omega, by omega⟩) ?_
            rintro _ (⟨c99, I97, rfl, f98, c99b⟩ | ⟨c99, I97, rfl, f98, c99b⟩)
            · have lt100 : I 82 7 < te := ym_TK_lt hT (by omega) (by omega)
              show yi_G zi_Ms d zi_m117 (118, [(3, .inl fx), (2, .inl 0), (0, .inr (.inr (some 82))), (1, .inl dep)], [.inl 1], (I97, L, X), 0, 0) _
              refine yi_G_if1 false rfl (by decide) ?_
              refine yi_G_run 3 (124, [(3, .inl fx), (2, .inl 0), (0, .inr (.inr (some 82))), (1, .inl dep)], [.inl 1, .inl dep, .inr (.inr (some 82))], (I97, L, X), 0, 0) (fun _ => rfl) ?_
              refine yi_G_iadd rfl (dep + 1) (yi_wn (by omega) (by omega)) ?_
              have r101 : I97 82 13 = I 82 13 := by rw [f98 82 (13) (by omega), f78 82 (13) (by omega), fJa 82 (13) (by omega)]
              have r102 : I97 82 18 = I 82 18 := by rw [f98 82 (18) (by omega), f78 82 (18) (by omega), fJa 82 (18) (by omega)]
              have r103 : I97 82 19 = I 82 19 := by rw [f98 82 (19) (by omega), f78 82 (19) (by omega), fJa 82 (19) (by omega)]
              have r104 : I97 82 7 = (I 82 7) + 1 := by rw [c99b]
              have r105 : I97 82 8 = Ja 82 8 := by rw [f98 82 (8) (by omega), f78 82 (8) (by omega)]
              have r106 : I97 82 20 = I 82 20 := by rw [f98 82 (20) (by omega), f78 82 (20) (by omega), fJa 82 (20) (by omega)]
              refine yi_G_callv rfl rfl (ym_rcv hS) rfl (hFo (by omega) d (by omega) I97 L te (I 82 13) (ym_TK_t (fun k => by rw [f98 84 k (by omega), f78 84 k (by omega), fJa 84 k (by omega)]) (fun k => by rw [f98 85 k (by omega), f78 85 k (by omega), fJa 85 k (by omega)]) hT) ⟨by omega, by omega⟩ (by omega) ⟨(by rw [r102]; omega), (by rw [r102]; omega)⟩ ⟨(by rw [r103]; omega), (by rw [r103]; omega)⟩ (ym_DY_t r106 (fun k => by rw [f98 88 k (by omega), f78 88 k (by omega), fJa 88 k (by omega)]) hDY) r101 ⟨by omega, by omega⟩) ?_
              rintro _ ⟨I107, rfl, f108, h109a, h109b, h109c, h109d, lwI107, sgI107⟩
              show yi_G zi_Ms d zi_m117 (128, [(3, .inl fx), (2, .inl 0), (0, .inr (.inr (some 82))), (1, .inl dep)], [], (I107, L, X), 0, 0) _
              refine yi_G_run 2 (131, [(3, .inl fx), (2, .inl 0), (0, .inr (.inr (some 82))), (1, .inl dep)], [.inl 41, .inr (.inr (some 82))], (I107, L, X), 0, 0) (fun _ => rfl) ?_
              skip
              refine yi_G_callv rfl rfl (ym_rcv hS) rfl (c_takeSign d (by omega) hS (ym_TK_t (fun k => by rw [f108 84 k (by omega), f98 84 k (by omega), f78 84 k (by omega), fJa 84 k (by omega)]) (fun k => by rw [f108 85 k (by omega), f98 85 k (by omega), f78 85 k (by omega), fJa 85 k (by omega)]) hT) ⟨by omega, by omega⟩ (by omega)) ?_
              rintro _ ⟨I110, rfl, f111, h112a, h112b, h112c⟩
              show yi_G zi_Ms d zi_m117 (134, [(3, .inl fx), (2, .inl 0), (0, .inr (.inr (some 82))), (1, .inl dep)], [], (I110, L, X), 0, 0) _
              refine yi_G_run 1 (178, [(3, .inl fx), (2, .inl 0), (0, .inr (.inr (some 82))), (1, .inl dep)], [], (I110, L, X), 0, 0) (fun _ => rfl) ?_
              have r113 : I110 82 13 = I107 82 13 := by rw [f111 82 (13) (by omega)]
              have r114 : I110 82 13 = I107 82 13 := by rw [f111 82 (13) (by omega)]
              exact yi_G_retv rfl rfl (⟨_, rfl, (fun p k hp => by rw [f111 p k (by omega), f108 p k (by omega), f98 p k (by omega), f78 p k (by omega), fJa p k (by omega)]), ⟨by omega, by omega⟩, by omega, ⟨by omega, by omega⟩, by omega, (ym_LW_f (ym_LW_g lwI107 (fun k => by rw [f98 89 k (by omega), f78 89 k (by omega), fJa 89 k (by omega)]) (fun k => by rw [f98 90 k (by omega), f78 90 k (by omega), fJa 90 k (by omega)])) (fun k => by rw [f111 89 k (by omega)]) (fun k => by rw [f111 90 k (by omega)])), fun zz => by rw [r114]; exact ym_SG_t (sgI107 (by omega)) (ym_LW_f (ym_LW_r _ _) (fun k => by rw [f111 89 k (by omega)]) (fun k => by rw [f111 90 k (by omega)]))⟩)
            · show yi_G zi_Ms d zi_m117 (118, [(3, .inl fx), (2, .inl 0), (0, .inr (.inr (some 82))), (1, .inl dep)], [.inl 0], (I97, L, X), 0, 0) _
              refine yi_G_if1 true rfl (by decide) ?_
              refine yi_G_run 2 (139, [(3, .inl fx), (2, .inl 0), (0, .inr (.inr (some 82))), (1, .inl dep)], [.inl 0, .inr (.inr (some 82))], (I97, L, X), 0, 0) (fun _ => rfl) ?_
              refine yi_G_if1 true rfl (by decide) ?_
              refine yi_G_run 2 (148, [(3, .inl fx), (2, .inl 0), (0, .inr (.inr (some 82))), (1, .inl dep)], [.inl 0, .inl 2, .inr (.inr (some 82))], (I97, L, X), 0, 0) (fun _ => rfl) ?_
              refine yi_G_if1 true rfl (by decide) ?_
              refine yi_G_run 1 (165, [(3, .inl fx), (2, .inl 0), (0, .inr (.inr (some 82))), (1, .inl dep)], [.inl fx, .inl 2, .inr (.inr (some 82))], (I97, L, X), 0, 0) (fun _ => rfl) ?_
              skip
              have r115 : I97 82 13 = I 82 13 := by rw [f98 82 (13) (by omega), f78 82 (13) (by omega), fJa 82 (13) (by omega)]
              refine yi_G_callv rfl rfl (ym_rcv hS) rfl (c_emit d (by omega) hS r115 ⟨by omega, by omega⟩) ?_
              rintro _ ⟨I116, rfl, f117, eI116, emI116⟩
              show yi_G zi_Ms d zi_m117 (168, [(3, .inl fx), (2, .inl 0), (0, .inr (.inr (some 82))), (1, .inl dep)], [], (I116, L, X), 0, 0) _
              refine yi_G_run 2 (170, [(3, .inl fx), (2, .inl 0), (0, .inr (.inr (some 82))), (1, .inl dep)], [.inr (.inr (some 82)), .inr (.inr (some 82))], (I116, L, X), 0, 0) (fun _ => rfl) ?_
              have r118 : I116 82 7 = I 82 7 := by rw [f117 82 (7) (by omega), c99b]
              refine yi_G_get (173, [(3, .inl fx), (2, .inl 0), (0, .inr (.inr (some 82))), (1, .inl dep)], [.inl (I 82 7), .inr (.inr (some 82))], (I116, L, X), 0, 0) rfl (ym_gi hS rfl rfl r118) ?_
              refine yi_G_run 1 (174, [(3, .inl fx), (2, .inl 0), (0, .inr (.inr (some 82))), (1, .inl dep)], [.inl 1, .inl (I 82 7), .inr (.inr (some 82))], (I116, L, X), 0, 0) (fun _ => rfl) ?_
              refine yi_G_iadd rfl ((I 82 7) + 1) (yi_wn (by omega) (by omega)) ?_
              refine yi_G_put (178, [(3, .inl fx), (2, .inl 0), (0, .inr (.inr (some 82))), (1, .inl dep)], [], ((yi_u I116 82 7 ((I 82 7) + 1)), L, X), 0, 0) rfl (ym_pi hS rfl rfl) ?_
              generalize w120 : yi_u I116 82 7 ((I 82 7) + 1) = I119
              have r121 : I119 82 7 = (I 82 7) + 1 := by rw [← w120, yi_u_eq]
              have r122 : I119 82 8 = Ja 82 8 := by rw [← w120, yi_u_ne _ _ (by omega), f117 82 (8) (by omega), f98 82 (8) (by omega), f78 82 (8) (by omega)]
              have r123 : I119 82 13 = I116 82 13 := by rw [← w120, yi_u_ne _ _ (by omega)]
              have r124 : I119 82 13 = I116 82 13 := by rw [← w120, yi_u_ne _ _ (by omega)]
              exact yi_G_retv rfl rfl (⟨_, rfl, (fun p k hp => by rw [← w120, yi_u_ne _ _ (fun z => by omega), f117 p k (by omega), f98 p k (by omega), f78 p k (by omega), fJa p k (by omega)]), ⟨by omega, by omega⟩, by omega, ⟨by omega, by omega⟩, by omega, (ym_LW_f (ym_LW_g (ym_LW_e (n := I 82 13) emI116 (by omega) (by omega)) (fun k => by rw [f98 89 k (by omega), f78 89 k (by omega), fJa 89 k (by omega)]) (fun k => by rw [f98 90 k (by omega), f78 90 k (by omega), fJa 90 k (by omega)])) (fun k => by rw [← w120, yi_u_ne _ _ (fun z => absurd z.1 (by decide))]) (fun k => by rw [← w120, yi_u_ne _ _ (fun z => absurd z.1 (by decide))])), fun zz => by rw [r124, eI116]; exact ym_SG_t (ym_SG_leaf emI116 (by omega) (Or.inr (Or.inl ⟨rfl, by omega, by omega⟩))) (ym_LW_f (ym_LW_r _ _) (fun k => by rw [← w120, yi_u_ne _ _ (fun z => absurd z.1 (by decide))]) (fun k => by rw [← w120, yi_u_ne _ _ (fun z => absurd z.1 (by decide))]))⟩)
        · refine yi_G_if1 false rfl (yi_le_f h74) ?_
          have r125 : Ja 82 7 = I 82 7 := by rw [fJa 82 (7) (by omega)]
          have r126 : Ja 82 13 = I 82 13 := by rw [fJa 82 (13) (by omega)]
          exact yi_G_retv rfl rfl (⟨_, rfl, (fun p k hp => by rw [fJa p k (by omega)]), ⟨by omega, by omega⟩, by omega, ⟨by omega, by omega⟩, by omega, (ym_LW_f (ym_LW_r _ _) (fun k => by rw [fJa 89 k (by omega)]) (fun k => by rw [fJa 90 k (by omega)])), fun zz => absurd zz (by omega)⟩)
      refine yi_G_run 1 (36, [(3, .inl fx), (2, .inl 0), (0, .inr (.inr (some 82))), (1, .inl dep)], [.inl fx], (I, L, X), 0, 0) (fun _ => rfl) ?_
      by_cases h127 : 0 ≤ fx
      · refine yi_G_if1 true rfl (yi_ge_t h127) ?_
        refine yi_G_run 2 (71, [(3, .inl fx), (2, .inl 0), (0, .inr (.inr (some 82))), (1, .inl dep)], [.inl 5, .inl dep], (I, L, X), 0, 0) (fun _ => rfl) ?_
        by_cases h128 : dep = 5
        · refine yi_G_if2 false rfl (yi_ne_f h128) ?_
          refine yi_G_run 2 (76, [(3, .inl fx), (2, .inl 0), (0, .inr (.inr (some 82))), (1, .inl dep)], [.inl 5, .inr (.inr (some 82))], (I, L, X), 0, 0) (fun _ => rfl) ?_
          refine yi_G_callv rfl rfl (ym_rcv hS) rfl (c_wrong d (by omega) hS ⟨by omega, by omega⟩ hT ⟨by omega, by omega⟩ (by omega)) ?_
          rintro _ ⟨I129, rfl, f130, h131⟩
          show yi_G zi_Ms d zi_m117 (79, [(3, .inl fx), (2, .inl 0), (0, .inr (.inr (some 82))), (1, .inl dep)], [], (I129, L, X), 0, 0) _
          have r132 : I129 82 7 = I 82 7 := by rw [f130 82 (7) (by omega)]
          have r133 : I129 82 7 = I 82 7 := by rw [f130 82 (7) (by omega)]
          exact pt79 I129 (fun p k hp => by rw [f130 p k (by omega)]) (by omega) (fun zz => ⟨by omega, by omega, by first | omega | exact ym_TK_lt hT (by omega) (by omega), by omega⟩)
        · refine yi_G_if2 true rfl (yi_ne_t h128) ?_
          exact pt79 I (fun _ _ _ => rfl) (by omega) (fun zz => ⟨by omega, by omega, by first | omega | exact ym_TK_lt hT (by omega) (by omega), by omega⟩)
      · refine yi_G_if1 false rfl (yi_ge_f h127) ?_
        refine yi_G_run 1 (40, [(3, .inl fx), (2, .inl 0), (0, .inr (.inr (some 82))), (1, .inl dep)], [.inl 0], (I, L, X), 0, 0) (fun _ => rfl) ?_
        refine yi_G_if1 false rfl (by decide) ?_
        refine yi_G_run 2 (46, [(3, .inl fx), (2, .inl 0), (0, .inr (.inr (some 82))), (1, .inl dep)], [.inl 40, .inr (.inr (some 82))], (I, L, X), 0, 0) (fun _ => rfl) ?_
        refine yi_G_callv rfl rfl (ym_rcv hS) rfl (c_isSign d (by omega) hS rfl rfl rfl rfl ⟨by omega, by omega⟩) ?_
        rintro _ (⟨c134, rfl⟩ | ⟨c134, rfl⟩)
        · have lt135 : I 82 7 < te := ym_TK_lt hT (by omega) (by omega)
          show yi_G zi_Ms d zi_m117 (49, [(3, .inl fx), (2, .inl 0), (0, .inr (.inr (some 82))), (1, .inl dep)], [.inl 1], (I, L, X), 0, 0) _
          refine yi_G_if1 true rfl (by decide) ?_
          refine yi_G_run 2 (71, [(3, .inl fx), (2, .inl 0), (0, .inr (.inr (some 82))), (1, .inl dep)], [.inl 5, .inl dep], (I, L, X), 0, 0) (fun _ => rfl) ?_
          by_cases h136 : dep = 5
          · refine yi_G_if2 false rfl (yi_ne_f h136) ?_
            refine yi_G_run 2 (76, [(3, .inl fx), (2, .inl 0), (0, .inr (.inr (some 82))), (1, .inl dep)], [.inl 5, .inr (.inr (some 82))], (I, L, X), 0, 0) (fun _ => rfl) ?_
            refine yi_G_callv rfl rfl (ym_rcv hS) rfl (c_wrong d (by omega) hS ⟨by omega, by omega⟩ hT ⟨by omega, by omega⟩ (by omega)) ?_
            rintro _ ⟨I137, rfl, f138, h139⟩
            show yi_G zi_Ms d zi_m117 (79, [(3, .inl fx), (2, .inl 0), (0, .inr (.inr (some 82))), (1, .inl dep)], [], (I137, L, X), 0, 0) _
            have r140 : I137 82 7 = I 82 7 := by rw [f138 82 (7) (by omega)]
            have r141 : I137 82 7 = I 82 7 := by rw [f138 82 (7) (by omega)]
            exact pt79 I137 (fun p k hp => by rw [f138 p k (by omega)]) (by omega) (fun zz => ⟨by omega, by omega, by first | omega | exact ym_TK_lt hT (by omega) (by omega), by omega⟩)
          · refine yi_G_if2 true rfl (yi_ne_t h136) ?_
            exact pt79 I (fun _ _ _ => rfl) (by omega) (fun zz => ⟨by omega, by omega, by first | omega | exact ym_TK_lt hT (by omega) (by omega), by omega⟩)
        · show yi_G zi_Ms d zi_m117 (49, [(3, .inl fx), (2, .inl 0), (0, .inr (.inr (some 82))), (1, .inl dep)], [.inl 0], (I, L, X), 0, 0) _
          refine yi_G_if1 false rfl (by decide) ?_
          refine yi_G_run 2 (55, [(3, .inl fx), (2, .inl 0), (0, .inr (.inr (some 82))), (1, .inl dep)], [.inl 26, .inr (.inr (some 82))], (I, L, X), 0, 0) (fun _ => rfl) ?_
          refine yi_G_callv rfl rfl (ym_rcv hS) rfl (c_isWord1 d (by omega) hS ⟨by omega, by omega⟩ rfl rfl rfl rfl ⟨by omega, by omega⟩) ?_
          rintro _ (⟨c142, rfl⟩ | ⟨c142, rfl⟩)
          · have lt143 : I 82 7 < te := ym_TK_lt hT (by omega) (by omega)
            show yi_G zi_Ms d zi_m117 (58, [(3, .inl fx), (2, .inl 0), (0, .inr (.inr (some 82))), (1, .inl dep)], [.inl 1], (I, L, X), 0, 0) _
            refine yi_G_if1 true rfl (by decide) ?_
            refine yi_G_run 2 (71, [(3, .inl fx), (2, .inl 0), (0, .inr (.inr (some 82))), (1, .inl dep)], [.inl 5, .inl dep], (I, L, X), 0, 0) (fun _ => rfl) ?_
            by_cases h144 : dep = 5
            · refine yi_G_if2 false rfl (yi_ne_f h144) ?_
              refine yi_G_run 2 (76, [(3, .inl fx), (2, .inl 0), (0, .inr (.inr (some 82))), (1, .inl dep)], [.inl 5, .inr (.inr (some 82))], (I, L, X), 0, 0) (fun _ => rfl) ?_
              refine yi_G_callv rfl rfl (ym_rcv hS) rfl (c_wrong d (by omega) hS ⟨by omega, by omega⟩ hT ⟨by omega, by omega⟩ (by omega)) ?_
              rintro _ ⟨I145, rfl, f146, h147⟩
              show yi_G zi_Ms d zi_m117 (79, [(3, .inl fx), (2, .inl 0), (0, .inr (.inr (some 82))), (1, .inl dep)], [], (I145, L, X), 0, 0) _
              have r148 : I145 82 7 = I 82 7 := by rw [f146 82 (7) (by omega)]
              have r149 : I145 82 7 = I 82 7 := by rw [f146 82 (7) (by omega)]
              exact pt79 I145 (fun p k hp => by rw [f146 p k (by omega)]) (by omega) (fun zz => ⟨by omega, by omega, by first | omega | exact ym_TK_lt hT (by omega) (by omega), by omega⟩)
            · refine yi_G_if2 true rfl (yi_ne_t h144) ?_
              exact pt79 I (fun _ _ _ => rfl) (by omega) (fun zz => ⟨by omega, by omega, by first | omega | exact ym_TK_lt hT (by omega) (by omega), by omega⟩)
          · show yi_G zi_Ms d zi_m117 (58, [(3, .inl fx), (2, .inl 0), (0, .inr (.inr (some 82))), (1, .inl dep)], [.inl 0], (I, L, X), 0, 0) _
            refine yi_G_if1 false rfl (by decide) ?_
            refine yi_G_run 2 (63, [(3, .inl fx), (2, .inl 0), (0, .inr (.inr (some 82))), (1, .inl dep)], [.inl 1, .inr (.inr (some 82))], (I, L, X), 0, 0) (fun _ => rfl) ?_
            refine yi_G_callv rfl rfl (ym_rcv hS) rfl (c_wrong d (by omega) hS ⟨by omega, by omega⟩ hT ⟨by omega, by omega⟩ (by omega)) ?_
            rintro _ ⟨I150, rfl, f151, h152⟩
            show yi_G zi_Ms d zi_m117 (66, [(3, .inl fx), (2, .inl 0), (0, .inr (.inr (some 82))), (1, .inl dep)], [], (I150, L, X), 0, 0) _
            refine yi_G_run 1 (79, [(3, .inl fx), (2, .inl 0), (0, .inr (.inr (some 82))), (1, .inl dep)], [], (I150, L, X), 0, 0) (fun _ => rfl) ?_
            have r153 : I150 82 7 = I 82 7 := by rw [f151 82 (7) (by omega)]
            have r154 : I150 82 7 = I 82 7 := by rw [f151 82 (7) (by omega)]
            exact pt79 I150 (fun p k hp => by rw [f151 p k (by omega)]) (by omega) (fun zz => ⟨by omega, by omega, by first | omega | exact ym_TK_lt hT (by omega) (by omega), by omega⟩)
  · refine yi_G_if1 false rfl (yi_le_f h1) ?_
    exact yi_G_retv rfl rfl (⟨_, rfl, (fun _ _ _ => rfl), ⟨by omega, by omega⟩, by omega, ⟨by omega, by omega⟩, by omega, (ym_LW_r _ _), fun zz => absurd zz (by omega)⟩)
