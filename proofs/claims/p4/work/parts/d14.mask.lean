/-! What ask answers: the check. -/
theorem q_rf0 {d : Nat} {I L : Nat → Nat → Int} {R : Nat → Nat → Option Nat} {Y : (Nat → Nat) × (Nat → Nat) × Nat} {K P V : Nat → Int} {te b : Nat} {ld : Nat → Int} {nm : Int → Int} (hW : mt_W I L R Y K P V te b ld nm) (hf : I 82 8 = 0) (hA : mt_A I te 0) : yi_P zi_Ms d 96 [.inr (.inr (some 82)), .inl 0] (I, L, R, Y) (fun r => (∃ I' a' cs', r = (none, (I', L, R, Y), 0, 0) ∧ mt_F I I' ∧ sp_R K P V (3, 0, 0, [10, 22], ld, nm, []) (.inl (7, a', 0, [22], ld, nm, cs')) ∧ I' 82 8 = 0 ∧ mt_A I' te a') ∨ (∃ I' f, r = (none, (I', L, R, Y), 0, 0) ∧ mt_F I I' ∧ sp_R K P V (3, 0, 0, [10, 22], ld, nm, []) (.inr f) ∧ 0 < f ∧ I' 82 8 = f)) := (q_readFormula_z 0 [22] [] hW hf hA (by omega)).imp (fun r h => by
  obtain ⟨I', e, hF, ⟨a', cs', h1, -, h2, h3⟩ | ⟨f, h1, h2, h3⟩⟩ := h
  · exact Or.inl ⟨I', a', cs', e, hF, h1, h2, h3⟩
  · exact Or.inr ⟨I', f, e, hF, h1, h2, h3⟩)
theorem q_readAll {d : Nat} {I L : Nat → Nat → Int} {R : Nat → Nat → Option Nat} {Y : (Nat → Nat) × (Nat → Nat) × Nat} (hS : ym_S (R, Y)) {s : Nat → Int} {n : Nat} {ld : Nat → Int} {nm : Int → Int} (hn : n ≤ 1000) (h2 : I 82 2 = (n : Int)) (ht : ∀ i, i < n → I 83 i = s i) (hWd : ∀ w : Nat, w < 32 → L 87 w = sp_W37.getD w 0) (hlm : lm_R ld nm I L) : yi_P zi_Ms d 93 [.inr (.inr (some 82)), .inl 0] (I, L, R, Y) (fun r => ∃ I' L' f, r = (some (.inl 1100), (I', L', R, Y), 0, 0) ∧ I' 82 8 = f ∧ 0 ≤ f ∧ sp_R (tk_Ks s n) (tk_Ps s n) (tk_Vs s n) (3, 0, 0, [10, 22], ld, nm, []) (.inr f)) := by
  refine yi_P_of (M := zi_m93) rfl (fun d k => ?_)
  show yi_D zi_Ms d zi_m93 k (0, [(0, .inr (.inr (some 82))), (1, .inl 0)], [], (I, L, R, Y), 0, 0) _
  refine yi_D_run 1 (1, [(0, .inr (.inr (some 82))), (1, .inl 0)], [.inr (.inr (some 82))], (I, L, R, Y), 0, 0) (fun _ => rfl) ?_
  refine yi_D_callv rfl (q_cutAll hS hn h2 ht hWd) ?_
  rintro _ ⟨I1, L2, rfl, hT3, e74, e85, e26, fI7, fL8⟩
  have hl1 : lm_R ld nm I1 L2 := lm_R_t hlm (fun k _ => fI7 88 k (by omega)) (fun k => fI7 93 k (by omega)) (fun k => fL8 91 k (by omega)) (fI7 82 18 (by omega))
  show yi_D zi_Ms d zi_m93 k (4, [(0, .inr (.inr (some 82))), (1, .inl 0)], [], (I1, L2, R, Y), 0, 0) _
  refine yi_D_run 2 (6, [(0, .inr (.inr (some 82))), (1, .inl 0)], [.inl 0, .inr (.inr (some 82))], (I1, L2, R, Y), 0, 0) (fun _ => rfl) ?_
  refine yi_D_pi rfl (fun _ => ?_)
  generalize w10 : yi_u I1 82 20 0 = I9
  refine yi_D_run 2 (11, [(0, .inr (.inr (some 82))), (1, .inl 0)], [.inl 0, .inr (.inr (some 82))], (I9, L2, R, Y), 0, 0) (fun _ => rfl) ?_
  refine yi_D_pi rfl (fun _ => ?_)
  generalize w12 : yi_u I9 82 13 0 = I11
  refine yi_D_run 2 (16, [(0, .inr (.inr (some 82))), (1, .inl 0)], [.inl 0, .inr (.inr (some 82))], (I11, L2, R, Y), 0, 0) (fun _ => rfl) ?_
  refine yi_D_if1 true rfl (by decide) ?_
  refine yi_D_run 1 (29, [(0, .inr (.inr (some 82))), (1, .inl 0)], [.inl (-1), .inr (.inr (some 82))], (I11, L2, R, Y), 0, 0) (fun _ => rfl) ?_
  refine yi_D_pi rfl (fun _ => ?_)
  generalize w14 : yi_u I11 82 33 (-1) = I13
  refine yi_D_run 2 (34, [(0, .inr (.inr (some 82))), (1, .inl 0)], [.inl 0, .inr (.inr (some 82))], (I13, L2, R, Y), 0, 0) (fun _ => rfl) ?_
  have f3 : ∀ p k, ¬ (p = 82 ∧ (k = 20 ∨ k = 13 ∨ k = 33)) → I13 p k = I1 p k := fun p k h => by rw [← w14, yi_u_ne _ _ (by omega), ← w12, yi_u_ne _ _ (by omega), ← w10, yi_u_ne _ _ (by omega)]
  have e20 : I13 82 20 = 0 := by rw [← w14, yi_u_ne _ _ (by omega), ← w12, yi_u_ne _ _ (by omega), ← w10, yi_u_eq]
  have e13 : I13 82 13 = 0 := by rw [← w14, yi_u_ne _ _ (by omega), ← w12, yi_u_eq]
  have hl3 : lm_R ld nm I13 L2 := lm_R_t hl1 (fun k _ => f3 88 k (by omega)) (fun k => f3 93 k (by omega)) (fun _ => rfl) (f3 82 18 (by omega))
  have hW : mt_W I13 L2 R Y (tk_Ks s n) (tk_Ps s n) (tk_Vs s n) (tk_te s n) 0 ld nm := ⟨hS, mt_T_t hT3 (fun k => f3 84 k (by omega)) (fun k => f3 85 k (by omega)), ⟨e20, Or.inr ⟨rfl, hl3.2.2.2.2⟩⟩, fun j hj => (by rw [Nat.zero_add]; exact hl3.1 j hj), hl3.2.1, fun j h1 h2 => (by rw [Nat.zero_add]; exact hl3.2.2.1 j h1 h2), hl3.2.2.2.1, by omega⟩
  have hf0 : I13 82 8 = 0 := (f3 82 8 (by omega)).trans e85
  have hA0 : mt_A I13 (tk_te s n) 0 := ⟨(f3 82 7 (by omega)).trans e74, by omega⟩
  refine yi_D_callv rfl (q_rf0 hW hf0 hA0) ?_
  rintro _ (⟨I15, a16, cs17, rfl, F18, sp19, f20, A21⟩ | ⟨I22, g23, rfl, F24, sp25, n26, f27⟩)
  · have hW2 := mt_W_t hW F18
    show yi_D zi_Ms d zi_m93 k (37, [(0, .inr (.inr (some 82))), (1, .inl 0)], [], (I15, L2, R, Y), 0, 0) _
    refine yi_D_run 3 (40, [(0, .inr (.inr (some 82))), (1, .inl 0)], [.inl 0, .inl 0, .inr (.inr (some 82))], (I15, L2, R, Y), 0, 0) (fun _ => rfl) ?_
    refine yi_D_callv rfl (q_emit hW2) ?_
    rintro _ ⟨I28, rfl, E29⟩
    have hW3 := mt_W_t hW2 (mt_E_F E29)
    have h830 : I28 82 8 = 0 := (E29.1 82 8 (by omega)).trans f20
    have hA31 : mt_A I28 (tk_te s n) a16 := ⟨(E29.1 82 7 (by omega)).trans A21.1, A21.2⟩
    show yi_D zi_Ms d zi_m93 k (43, [(0, .inr (.inr (some 82))), (1, .inl 0)], [], (I28, L2, R, Y), 0, 0) _
    refine yi_D_run 2 (46, [(0, .inr (.inr (some 82))), (1, .inl 0)], [.inl 59, .inr (.inr (some 82))], (I28, L2, R, Y), 0, 0) (fun _ => rfl) ?_
    refine yi_D_callv rfl (q_takeSign_z (by omega) hW3 h830 hA31) ?_
    rintro _ (⟨k32, I33, rfl, G34, f35, A36⟩ | ⟨k37, I38, rfl, G39, f40⟩)
    · have hW4 := mt_W_t hW3 (mt_G_F G34)
      have hme := mt_end hW4.2.1 A36.2
      show yi_D zi_Ms d zi_m93 k (49, [(0, .inr (.inr (some 82))), (1, .inl 0)], [], (I33, L2, R, Y), 0, 0) _
      refine yi_D_run 1 (50, [(0, .inr (.inr (some 82))), (1, .inl 0)], [.inr (.inr (some 82))], (I33, L2, R, Y), 0, 0) (fun _ => rfl) ?_
      refine yi_D_gi (v := 0) rfl rfl rfl f35 (fun _ => ?_)
      refine yi_D_if1 false rfl (by decide) ?_
      refine yi_D_run 1 (57, [(0, .inr (.inr (some 82))), (1, .inl 0)], [.inr (.inr (some 82))], (I33, L2, R, Y), 0, 0) (fun _ => rfl) ?_
      refine yi_D_gr (v := some 84) rfl rfl rfl (ym_S_at hS (j := 1) rfl).1 (fun _ => ?_)
      refine yi_D_run 1 (61, [(0, .inr (.inr (some 82))), (1, .inl 0)], [.inr (.inr (some 82)), .inr (.inr (some 84))], (I33, L2, R, Y), 0, 0) (fun _ => rfl) ?_
      refine yi_D_gi (v := ((a16 + 1 : Nat) : Int)) rfl rfl rfl A36.1 (fun _ => ?_)
      have h84 : I33 84 (((a16 + 1 : Nat) : Int).toNat) = I33 84 (a16 + 1) := congrArg (I33 84) (by omega)
      refine yi_D_il (v := I33 84 (a16 + 1)) rfl rfl h84 (fun _ _ => ?_)
      by_cases h42 : (I33 84 (a16 + 1)) = 0
      · refine yi_D_if1 true rfl (yi_eq_t h42) ?_
        refine yi_D_run 1 (76, [(0, .inr (.inr (some 82))), (1, .inl 0)], [.inl 1100], (I33, L2, R, Y), 0, 0) (fun _ => rfl) ?_
        refine yi_D_reti rfl ?_
        exact ⟨_, _, _, rfl, f35, Int.le_refl 0, sp_R_s sp19 (by rw [sp_s7, if_neg (by omega), if_neg (fun z => z (hme.1 (by assumption)))])⟩
      · refine yi_D_if1 false rfl (yi_eq_f h42) ?_
        refine yi_D_run 2 (70, [(0, .inr (.inr (some 82))), (1, .inl 0)], [.inl 1, .inr (.inr (some 82))], (I33, L2, R, Y), 0, 0) (fun _ => rfl) ?_
        refine yi_D_callv rfl (q_wrong_z (by omega) hW4 f35 A36) ?_
        rintro _ ⟨I43, rfl, fI44, e45⟩
        have p46 := mt_f_ne hW4 A36.2 (w := 1) (by omega)
        show yi_D zi_Ms d zi_m93 k (73, [(0, .inr (.inr (some 82))), (1, .inl 0)], [], (I43, L2, R, Y), 0, 0) _
        refine yi_D_run 1 (76, [(0, .inr (.inr (some 82))), (1, .inl 0)], [.inl 1100], (I43, L2, R, Y), 0, 0) (fun _ => rfl) ?_
        refine yi_D_reti rfl ?_
        exact ⟨_, _, _, rfl, e45, Int.le_of_lt p46, sp_R_s sp19 (by rw [sp_s7, if_neg (by omega), if_pos (fun z => (by assumption : ¬ _) (hme.2 z))])⟩
    · have hW4 := mt_W_t hW3 (mt_G_F G39)
      have p41 := mt_f_ne hW3 hA31.2 (w := 1) (by omega)
      show yi_D zi_Ms d zi_m93 k (49, [(0, .inr (.inr (some 82))), (1, .inl 0)], [], (I38, L2, R, Y), 0, 0) _
      refine yi_D_run 1 (50, [(0, .inr (.inr (some 82))), (1, .inl 0)], [.inr (.inr (some 82))], (I38, L2, R, Y), 0, 0) (fun _ => rfl) ?_
      refine yi_D_gi (v := sp_f (tk_Ps s n) a16 1) rfl rfl rfl f40 (fun _ => ?_)
      have h47 : ¬ ((sp_f (tk_Ps s n) a16 1) = 0) := by omega
      refine yi_D_if1 true rfl (yi_ne_t h47) ?_
      refine yi_D_run 1 (76, [(0, .inr (.inr (some 82))), (1, .inl 0)], [.inl 1100], (I38, L2, R, Y), 0, 0) (fun _ => rfl) ?_
      refine yi_D_reti rfl ?_
      exact ⟨_, _, _, rfl, f40, Int.le_of_lt p41, sp_R_s sp19 (by rw [sp_s7, if_pos (by assumption)])⟩
  · have hW2 := mt_W_t hW F24
    show yi_D zi_Ms d zi_m93 k (37, [(0, .inr (.inr (some 82))), (1, .inl 0)], [], (I22, L2, R, Y), 0, 0) _
    refine yi_D_run 3 (40, [(0, .inr (.inr (some 82))), (1, .inl 0)], [.inl 0, .inl 0, .inr (.inr (some 82))], (I22, L2, R, Y), 0, 0) (fun _ => rfl) ?_
    refine yi_D_callv rfl (q_emit hW2) ?_
    rintro _ ⟨I48, rfl, E49⟩
    have hW3 := mt_W_t hW2 (mt_E_F E49)
    have h850 : I48 82 8 = g23 := (E49.1 82 8 (by omega)).trans f27
    show yi_D zi_Ms d zi_m93 k (43, [(0, .inr (.inr (some 82))), (1, .inl 0)], [], (I48, L2, R, Y), 0, 0) _
    refine yi_D_run 2 (46, [(0, .inr (.inr (some 82))), (1, .inl 0)], [.inl 59, .inr (.inr (some 82))], (I48, L2, R, Y), 0, 0) (fun _ => rfl) ?_
    refine yi_D_callv rfl (q_takeSign_f hW3 (by rw [h850]; exact n26)) ?_
    rintro _ rfl
    show yi_D zi_Ms d zi_m93 k (49, [(0, .inr (.inr (some 82))), (1, .inl 0)], [], (I48, L2, R, Y), 0, 0) _
    refine yi_D_run 1 (50, [(0, .inr (.inr (some 82))), (1, .inl 0)], [.inr (.inr (some 82))], (I48, L2, R, Y), 0, 0) (fun _ => rfl) ?_
    refine yi_D_gi (v := g23) rfl rfl rfl h850 (fun _ => ?_)
    have h51 : ¬ (g23 = 0) := by omega
    refine yi_D_if1 true rfl (yi_ne_t h51) ?_
    refine yi_D_run 1 (76, [(0, .inr (.inr (some 82))), (1, .inl 0)], [.inl 1100], (I48, L2, R, Y), 0, 0) (fun _ => rfl) ?_
    refine yi_D_reti rfl ?_
    exact ⟨_, _, _, rfl, h850, Int.le_of_lt n26, sp25⟩
theorem q_ask {d : Nat} {I L : Nat → Nat → Int} {R : Nat → Nat → Option Nat} {Y : (Nat → Nat) × (Nat → Nat) × Nat} (hS : ym_S (R, Y)) {s : Nat → Int} {n : Nat} {ld : Nat → Int} {nm : Int → Int} (hn : n ≤ 1000) (h2 : I 82 2 = (n : Int)) (ht : ∀ i, i < n → I 83 i = s i) (hWd : ∀ w : Nat, w < 32 → L 87 w = sp_W37.getD w 0) (hlm : lm_R ld nm I L) : yi_P zi_Ms d 1 [.inr (.inr (some 82))] (I, L, R, Y) (fun r => ∃ f H n' m', r = (some (.inl f), H, n', m') ∧ sp_R (tk_Ks s n) (tk_Ps s n) (tk_Vs s n) (3, 0, 0, [10, 22], ld, nm, []) (.inr f)) := by
  refine yi_P_of (M := zi_m1) rfl (fun d k => ?_)
  show yi_D zi_Ms d zi_m1 k (0, [(0, .inr (.inr (some 82)))], [], (I, L, R, Y), 0, 0) _
  refine yi_D_run 2 (2, [(0, .inr (.inr (some 82)))], [.inl 0, .inr (.inr (some 82))], (I, L, R, Y), 0, 0) (fun _ => rfl) ?_
  refine yi_D_pi rfl (fun _ => ?_)
  generalize w2 : yi_u I 82 0 0 = I1
  refine yi_D_run 2 (7, [(0, .inr (.inr (some 82)))], [.inl 0, .inr (.inr (some 82))], (I1, L, R, Y), 0, 0) (fun _ => rfl) ?_
  have f1 : ∀ p i, ¬ (p = 82 ∧ i = 0) → I1 p i = I p i := fun p i h => by rw [← w2, yi_u_ne _ _ h]
  refine yi_D_callv rfl (q_readAll hS hn ((f1 82 2 (by omega)).trans h2) (fun i hi => (f1 83 i (by omega)).trans (ht i hi)) hWd (lm_R_t hlm (fun k _ => f1 88 k (by omega)) (fun k => f1 93 k (by omega)) (fun _ => rfl) (f1 82 18 (by omega)))) ?_
  rintro _ ⟨I3, L4, f5, rfl, h86, f07, sp8⟩
  show yi_D zi_Ms d zi_m1 k (10, [(0, .inr (.inr (some 82)))], [.inl 1100], (I3, L4, R, Y), 0, 0) _
  refine yi_D_run 2 (12, [(1, .inl 1100), (0, .inr (.inr (some 82)))], [.inr (.inr (some 82))], (I3, L4, R, Y), 0, 0) (fun _ => rfl) ?_
  refine yi_D_gi (v := f5) rfl rfl rfl h86 (fun _ => ?_)
  by_cases h9 : f5 ≤ 0
  · refine yi_D_if1 true rfl (yi_le_t h9) ?_
    refine yi_D_run 4 (28, [(1, .inl 1100), (0, .inr (.inr (some 82)))], [.inl 0, .inl 1100, .inl 33, .inr (.inr (some 82))], (I3, L4, R, Y), 0, 0) (fun _ => rfl) ?_
    refine yi_D_callv rfl (yi_P_void (M := zi_m75) rfl rfl) ?_
    rintro _ ⟨I10, L11, R12, Y13, n14, m15, rfl⟩
    show yi_D zi_Ms d zi_m1 k (31, [(1, .inl 1100), (0, .inr (.inr (some 82)))], [], (I10, L11, R12, Y13), (0 + n14), (0 + m15)) _
    refine yi_D_run 1 (32, [(1, .inl 1100), (0, .inr (.inr (some 82)))], [.inr (.inr (some 82))], (I10, L11, R12, Y13), (0 + n14), (0 + m15)) (fun _ => rfl) ?_
    refine yi_D_gr (v := R12 82 32) rfl rfl rfl rfl (fun _ => ?_)
    refine yi_D_run 2 (37, [(1, .inl 1100), (0, .inr (.inr (some 82)))], [.inl 1, .inl 0, .inr (.inr (R12 82 32))], (I10, L11, R12, Y13), (0 + n14), (0 + m15)) (fun _ => rfl) ?_
    refine yi_D_bsu rfl (fun I16 => ?_)
    refine yi_D_run 1 (39, [(1, .inl 1100), (0, .inr (.inr (some 82)))], [.inl 0], (I16, L11, R12, Y13), (0 + n14), (0 + m15)) (fun _ => rfl) ?_
    refine yi_D_reti rfl ?_
    exact ⟨_, _, _, _, rfl, (show f5 = 0 by omega) ▸ sp8⟩
  · refine yi_D_if1 false rfl (yi_le_f h9) ?_
    refine yi_D_run 1 (19, [(1, .inl 1100), (0, .inr (.inr (some 82)))], [.inr (.inr (some 82))], (I3, L4, R, Y), 0, 0) (fun _ => rfl) ?_
    refine yi_D_gi (v := f5) rfl rfl rfl h86 (fun _ => ?_)
    refine yi_D_reti rfl ?_
    exact ⟨_, _, _, _, rfl, sp8⟩
