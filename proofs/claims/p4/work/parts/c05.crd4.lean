/-! The class reader: pairs, items, formulas. -/
theorem p_readPair {d : Nat} {I L : Nat → Nat → Int} {R : Nat → Nat → Option Nat} {Y : (Nat → Nat) × (Nat → Nat) × Nat} {K P V : Nat → Int} {te q a : Nat} {ld : Nat → Int} {nm : Int → Int} (hW : cs_W I L R Y K P V te q ld nm) (hf : I 11 11 = 0) (hA : cs_A I L K te a) (hk : K a = 16 ∨ K a = 17) : yi_P zi_Ms d 260 [.inr (.inr (some 11))] (I, L, R, Y) (fun r => ∃ I' L', r = (none, (I', L', R, Y), 0, 0) ∧ cs_F I L I' L' ∧ ((∃ a' x, sp_pair K P V nm a = .inl (a', x) ∧ I' 11 11 = 0 ∧ cs_A I' L' K te a') ∨ (∃ f, sp_pair K P V nm a = .inr f ∧ ¬ f = 0 ∧ I' 11 11 = f))) := by
  refine yi_P_of (M := zi_m260) rfl (fun d k => ?_)
  obtain ⟨ly1, ly2, ly3, ly4⟩ := hW.2.2.1.2.2.2
  have lb := hW.2.2.2.2.1
  have hq0 := hW.2.2.1.1
  have jn108f : ∀ (y6 : Int) (y5 : Int) (y4 : Int) (y2 : Int) (y1 : Int) (J G : Nat → Nat → Int) (f : Int), cs_F I L J G → J 11 11 = f → ¬ f = 0 → sp_pair K P V nm a = .inr f → yi_D zi_Ms d zi_m260 k (108, [(6, .inl y6), (5, .inl y5), (4, .inl y4), (2, .inr (.inl y2)), (1, .inl y1), (0, .inr (.inr (some 11)))], [], (J, G, R, Y), 0, 0) (fun r => ∃ I' L', r = (none, (I', L', R, Y), 0, 0) ∧ cs_F I L I' L' ∧ ((∃ a' x, sp_pair K P V nm a = .inl (a', x) ∧ I' 11 11 = 0 ∧ cs_A I' L' K te a') ∨ (∃ f, sp_pair K P V nm a = .inr f ∧ ¬ f = 0 ∧ I' 11 11 = f))) := by
    intro y6 y5 y4 y2 y1 J G f jF je jn jsp 
    have jW := cs_W_t hW jF
    have jf : ¬ J 11 11 = 0 := by rw [je]; exact jn
    have jF1 : ∀ p k, (p ≠ 11 ∧ p ≠ 19) → J p k = I p k := fun p k h => jF.1 p k h.1 h.2
    have jF2 := jF.2
    refine yi_D_run 2 (110, [(6, .inl y6), (5, .inl y5), (4, .inl y4), (2, .inr (.inl y2)), (1, .inl y1), (0, .inr (.inr (some 11)))], [.inl 1, .inr (.inr (some 11))], (J, G, R, Y), 0, 0) (fun _ => rfl) ?_
    refine yi_D_pi rfl (fun _ => ?_)
    generalize w2 : yi_u J 11 5 1 = I1
    have hE3 : cs_E J I1 := fun p k hp0 hp1 => by rw [← w2, yi_u_ne _ _ (by omega)]
    have hW4 := cs_W_t jW (cs_E_F (L := G) hE3)
    have hF5 := cs_F_t jF (cs_E_F hE3)
    have hf6 : ¬ I1 11 11 = 0 := by rw [hE3 11 11 (by omega) (by omega)]; exact jf
    have he7 := (hE3 11 11 (by omega) (by omega)).trans je
    refine yi_D_run 6 (122, [(6, .inl y6), (5, .inl y5), (4, .inl y4), (2, .inr (.inl y2)), (1, .inl y1), (0, .inr (.inr (some 11)))], [.inl 0, .inl y5, .inl y6, .inl y4, .inl y1, .inr (.inr (some 11))], (I1, G, R, Y), 0, 0) (fun _ => rfl) ?_
    refine yi_D_calls rfl (p_clauseCode) ?_
    rintro _ ⟨z8, rfl⟩
    show yi_D zi_Ms d zi_m260 k (125, [(6, .inl y6), (5, .inl y5), (4, .inl y4), (2, .inr (.inl y2)), (1, .inl y1), (0, .inr (.inr (some 11)))], [.inl z8, .inr (.inr (some 11))], (I1, G, R, Y), 0, 0) _
    refine yi_D_callv rfl (p_emit hW4) ?_
    rintro _ ⟨I9, rfl, hE10⟩
    have hW11 := cs_W_t hW4 (cs_E_F (L := G) hE10)
    have hF12 := cs_F_t hF5 (cs_E_F hE10)
    have hf13 : ¬ I9 11 11 = 0 := by rw [hE10 11 11 (by omega) (by omega)]; exact hf6
    have he14 := (hE10 11 11 (by omega) (by omega)).trans he7
    show yi_D zi_Ms d zi_m260 k (128, [(6, .inl y6), (5, .inl y5), (4, .inl y4), (2, .inr (.inl y2)), (1, .inl y1), (0, .inr (.inr (some 11)))], [], (I9, G, R, Y), 0, 0) _
    refine yi_D_retv rfl ?_
    exact ⟨_, _, rfl, hF12, Or.inr ⟨_, jsp, jn, he14⟩⟩
  have jn88f : ∀ (y5 : Int) (y4 : Int) (y2 : Int) (y1 : Int) (J G : Nat → Nat → Int) (f : Int), cs_F I L J G → J 11 11 = f → ¬ f = 0 → sp_pair K P V nm a = .inr f → yi_D zi_Ms d zi_m260 k (88, [(5, .inl y5), (4, .inl y4), (2, .inr (.inl y2)), (1, .inl y1), (0, .inr (.inr (some 11)))], [], (J, G, R, Y), 0, 0) (fun r => ∃ I' L', r = (none, (I', L', R, Y), 0, 0) ∧ cs_F I L I' L' ∧ ((∃ a' x, sp_pair K P V nm a = .inl (a', x) ∧ I' 11 11 = 0 ∧ cs_A I' L' K te a') ∨ (∃ f, sp_pair K P V nm a = .inr f ∧ ¬ f = 0 ∧ I' 11 11 = f))) := by
    intro y5 y4 y2 y1 J G f jF je jn jsp 
    have jW := cs_W_t hW jF
    have jf : ¬ J 11 11 = 0 := by rw [je]; exact jn
    have jF1 : ∀ p k, (p ≠ 11 ∧ p ≠ 19) → J p k = I p k := fun p k h => jF.1 p k h.1 h.2
    have jF2 := jF.2
    refine yi_D_run 2 (90, [(5, .inl y5), (4, .inl y4), (2, .inr (.inl y2)), (1, .inl y1), (0, .inr (.inr (some 11)))], [.inr (.inr (some 11)), .inr (.inr (some 11))], (J, G, R, Y), 0, 0) (fun _ => rfl) ?_
    refine yi_D_gr (v := some q) rfl rfl rfl hW.2.2.1.2.1 (fun _ => ?_)
    refine yi_D_gr (v := some (q + 2)) rfl rfl (Nat.ble_eq_true_of_le (by omega)) (hW.2.2.1.2.2.1 1 (by omega)) (fun _ => ?_)
    refine yi_D_run 1 (97, [(5, .inl y5), (4, .inl y4), (2, .inr (.inl y2)), (1, .inl y1), (0, .inr (.inr (some 11)))], [.inr (.inr (some 11)), .inr (.inr (some (q + 2))), .inr (.inr (some 11))], (J, G, R, Y), 0, 0) (fun _ => rfl) ?_
    refine yi_D_gr (v := some q) rfl rfl rfl hW.2.2.1.2.1 (fun _ => ?_)
    have r15 : J q 16 = ld 2 := by rw [jF1 q 16 (by omega), hW.2.2.2.1.2.2.1]
    refine yi_D_gi (v := ld 2) rfl rfl (Nat.ble_eq_true_of_le (by omega)) r15 (fun _ => ?_)
    refine yi_D_callv rfl (p_takeName_f (by omega) ⟨by omega, by omega, by omega⟩ jW jf) ?_
    rintro _ ⟨z16, rfl⟩
    show yi_D zi_Ms d zi_m260 k (106, [(5, .inl y5), (4, .inl y4), (2, .inr (.inl y2)), (1, .inl y1), (0, .inr (.inr (some 11)))], [.inl z16], (J, G, R, Y), 0, 0) _
    refine yi_D_run 1 (108, [(6, .inl z16), (5, .inl y5), (4, .inl y4), (2, .inr (.inl y2)), (1, .inl y1), (0, .inr (.inr (some 11)))], [], (J, G, R, Y), 0, 0) (fun _ => rfl) ?_
    exact yi_D_mono (jn108f z16 y5 y4 y2 y1 _ _ _ jF je jn jsp ) (by omega)
  have jn68f : ∀ (y4 : Int) (y2 : Int) (y1 : Int) (J G : Nat → Nat → Int) (f : Int), cs_F I L J G → J 11 11 = f → ¬ f = 0 → sp_pair K P V nm a = .inr f → yi_D zi_Ms d zi_m260 k (68, [(4, .inl y4), (2, .inr (.inl y2)), (1, .inl y1), (0, .inr (.inr (some 11)))], [], (J, G, R, Y), 0, 0) (fun r => ∃ I' L', r = (none, (I', L', R, Y), 0, 0) ∧ cs_F I L I' L' ∧ ((∃ a' x, sp_pair K P V nm a = .inl (a', x) ∧ I' 11 11 = 0 ∧ cs_A I' L' K te a') ∨ (∃ f, sp_pair K P V nm a = .inr f ∧ ¬ f = 0 ∧ I' 11 11 = f))) := by
    intro y4 y2 y1 J G f jF je jn jsp 
    have jW := cs_W_t hW jF
    have jf : ¬ J 11 11 = 0 := by rw [je]; exact jn
    have jF1 : ∀ p k, (p ≠ 11 ∧ p ≠ 19) → J p k = I p k := fun p k h => jF.1 p k h.1 h.2
    have jF2 := jF.2
    
    refine yi_D_run 2 (70, [(4, .inl y4), (2, .inr (.inl y2)), (1, .inl y1), (0, .inr (.inr (some 11)))], [.inr (.inr (some 11)), .inr (.inr (some 11))], (J, G, R, Y), 0, 0) (fun _ => rfl) ?_
    refine yi_D_gr (v := some q) rfl rfl rfl hW.2.2.1.2.1 (fun _ => ?_)
    refine yi_D_gr (v := some (q + 1)) rfl rfl (Nat.ble_eq_true_of_le (by omega)) (hW.2.2.1.2.2.1 0 (by omega)) (fun _ => ?_)
    refine yi_D_run 1 (77, [(4, .inl y4), (2, .inr (.inl y2)), (1, .inl y1), (0, .inr (.inr (some 11)))], [.inr (.inr (some 11)), .inr (.inr (some (q + 1))), .inr (.inr (some 11))], (J, G, R, Y), 0, 0) (fun _ => rfl) ?_
    refine yi_D_gr (v := some q) rfl rfl rfl hW.2.2.1.2.1 (fun _ => ?_)
    have r17 : J q 15 = ld 1 := by rw [jF1 q 15 (by omega), hW.2.2.2.1.2.1]
    refine yi_D_gi (v := ld 1) rfl rfl (Nat.ble_eq_true_of_le (by omega)) r17 (fun _ => ?_)
    refine yi_D_callv rfl (p_takeName_f (by omega) ⟨by omega, by omega, by omega⟩ jW jf) ?_
    rintro _ ⟨z18, rfl⟩
    show yi_D zi_Ms d zi_m260 k (86, [(4, .inl y4), (2, .inr (.inl y2)), (1, .inl y1), (0, .inr (.inr (some 11)))], [.inl z18], (J, G, R, Y), 0, 0) _
    refine yi_D_run 1 (88, [(5, .inl z18), (4, .inl y4), (2, .inr (.inl y2)), (1, .inl y1), (0, .inr (.inr (some 11)))], [], (J, G, R, Y), 0, 0) (fun _ => rfl) ?_
    exact yi_D_mono (jn88f z18 y4 y2 y1 _ _ _ jF je jn jsp ) (by omega)
  have jn46f : ∀ (y4 : Int) (y2 : Int) (y1 : Int) (J G : Nat → Nat → Int) (f : Int), cs_F I L J G → J 11 11 = f → ¬ f = 0 → sp_pair K P V nm a = .inr f → yi_D zi_Ms d zi_m260 k (46, [(4, .inl y4), (2, .inr (.inl y2)), (1, .inl y1), (0, .inr (.inr (some 11)))], [], (J, G, R, Y), 0, 0) (fun r => ∃ I' L', r = (none, (I', L', R, Y), 0, 0) ∧ cs_F I L I' L' ∧ ((∃ a' x, sp_pair K P V nm a = .inl (a', x) ∧ I' 11 11 = 0 ∧ cs_A I' L' K te a') ∨ (∃ f, sp_pair K P V nm a = .inr f ∧ ¬ f = 0 ∧ I' 11 11 = f))) := by
    intro y4 y2 y1 J G f jF je jn jsp 
    have jW := cs_W_t hW jF
    have jf : ¬ J 11 11 = 0 := by rw [je]; exact jn
    have jF1 : ∀ p k, (p ≠ 11 ∧ p ≠ 19) → J p k = I p k := fun p k h => jF.1 p k h.1 h.2
    have jF2 := jF.2
    refine yi_D_run 1 (47, [(4, .inl y4), (2, .inr (.inl y2)), (1, .inl y1), (0, .inr (.inr (some 11)))], [.inr (.inr (some 11))], (J, G, R, Y), 0, 0) (fun _ => rfl) ?_
    refine yi_D_gi (v := J 11 9) rfl rfl rfl rfl (fun _ => ?_)
    refine yi_D_run 1 (51, [(4, .inl y4), (2, .inr (.inl y2)), (1, .inl y1), (0, .inr (.inr (some 11)))], [.inl 3, .inl (J 11 9)], (J, G, R, Y), 0, 0) (fun _ => rfl) ?_
    by_cases h19 : (J 11 9) = 3
    · refine yi_D_if2 false rfl (yi_ne_f h19) ?_
      refine yi_D_run 1 (55, [(4, .inl y4), (2, .inr (.inl y2)), (1, .inl y1), (0, .inr (.inr (some 11)))], [.inr (.inr (some 11))], (J, G, R, Y), 0, 0) (fun _ => rfl) ?_
      refine yi_D_gl (v := G 11 10) rfl rfl rfl rfl (fun _ => ?_)
      refine yi_D_run 2 (60, [(4, .inl y4), (2, .inr (.inl y2)), (1, .inl y1), (0, .inr (.inr (some 11)))], [.inl (yi_lcmp (G 11 10) y2)], (J, G, R, Y), 0, 0) (fun _ => rfl) ?_
      
      by_cases h20 : (G 11 10) = y2
      · refine yi_D_if1 false rfl (yi_Lne_f h20) ?_
        
        refine yi_D_run 2 (65, [(4, .inl y4), (2, .inr (.inl y2)), (1, .inl y1), (0, .inr (.inr (some 11)))], [.inl 3, .inr (.inr (some 11))], (J, G, R, Y), 0, 0) (fun _ => rfl) ?_
        refine yi_D_callv rfl (p_wrong_f jW jf) ?_
        rintro _ rfl
        show yi_D zi_Ms d zi_m260 k (68, [(4, .inl y4), (2, .inr (.inl y2)), (1, .inl y1), (0, .inr (.inr (some 11)))], [], (J, G, R, Y), 0, 0) _
        exact yi_D_mono (jn68f y4 y2 y1 _ _ _ jF je jn jsp ) (by omega)
      · refine yi_D_if1 true rfl (yi_Lne_t h20) ?_
        exact yi_D_mono (jn68f y4 y2 y1 _ _ _ jF je jn jsp ) (by omega)
    · refine yi_D_if2 true rfl (yi_ne_t h19) ?_
      exact yi_D_mono (jn68f y4 y2 y1 _ _ _ jF je jn jsp ) (by omega)
  have jn17z : ∀ (y1 : Int) (J G : Nat → Nat → Int), cs_F I L J G → J 11 11 = 0 → cs_A J G K te a → yi_D zi_Ms d zi_m260 k (17, [(1, .inl y1), (0, .inr (.inr (some 11)))], [], (J, G, R, Y), 0, 0) (fun r => ∃ I' L', r = (none, (I', L', R, Y), 0, 0) ∧ cs_F I L I' L' ∧ ((∃ a' x, sp_pair K P V nm a = .inl (a', x) ∧ I' 11 11 = 0 ∧ cs_A I' L' K te a') ∨ (∃ f, sp_pair K P V nm a = .inr f ∧ ¬ f = 0 ∧ I' 11 11 = f))) := by
    intro y1 J G jF jf jA 
    have jW := cs_W_t hW jF
    have jF1 : ∀ p k, (p ≠ 11 ∧ p ≠ 19) → J p k = I p k := fun p k h => jF.1 p k h.1 h.2
    have jF2 := jF.2
    refine yi_D_run 1 (18, [(1, .inl y1), (0, .inr (.inr (some 11)))], [.inr (.inr (some 11))], (J, G, R, Y), 0, 0) (fun _ => rfl) ?_
    refine yi_D_callv rfl (p_advance_z jW jf jA) ?_
    rintro _ ⟨I21, L22, rfl, hGa23, hf24, hA25⟩
    rw [sp_nx_lt (cs_lt jW.2.1 jA.2.1 (by omega))] at hA25
    have hA25 : cs_A I21 L22 K te (a + 1) := hA25
    have hW26 := cs_W_t jW (cs_G_F hGa23)
    have hF27 := cs_F_t jF (cs_G_F hGa23)
    show yi_D zi_Ms d zi_m260 k (21, [(1, .inl y1), (0, .inr (.inr (some 11)))], [], (I21, L22, R, Y), 0, 0) _
    refine yi_D_run 1 (22, [(1, .inl y1), (0, .inr (.inr (some 11)))], [.inr (.inr (some 11))], (I21, L22, R, Y), 0, 0) (fun _ => rfl) ?_
    
    refine yi_D_gl (v := L22 16 (a + 1)) rfl rfl rfl hA25.2.2.2 (fun _ => ?_)
    refine yi_D_run 3 (28, [(2, .inr (.inl (L22 16 (a + 1)))), (1, .inl y1), (0, .inr (.inr (some 11)))], [.inr (.inr (some 11)), .inr (.inr (some 11))], (I21, L22, R, Y), 0, 0) (fun _ => rfl) ?_
    refine yi_D_gr (v := some q) rfl rfl rfl hW.2.2.1.2.1 (fun _ => ?_)
    refine yi_D_gr (v := some (q + 1)) rfl rfl (Nat.ble_eq_true_of_le (by omega)) (hW.2.2.1.2.2.1 0 (by omega)) (fun _ => ?_)
    refine yi_D_run 1 (35, [(2, .inr (.inl (L22 16 (a + 1)))), (1, .inl y1), (0, .inr (.inr (some 11)))], [.inr (.inr (some 11)), .inr (.inr (some (q + 1))), .inr (.inr (some 11))], (I21, L22, R, Y), 0, 0) (fun _ => rfl) ?_
    refine yi_D_gr (v := some q) rfl rfl rfl hW.2.2.1.2.1 (fun _ => ?_)
    have r28 : I21 q 15 = ld 1 := by rw [hGa23.1 q 15 (by omega), jF1 q 15 (by omega), hW.2.2.2.1.2.1]
    refine yi_D_gi (v := ld 1) rfl rfl (Nat.ble_eq_true_of_le (by omega)) r28 (fun _ => ?_)
    refine yi_D_callv rfl (p_takeName_z (by omega) ⟨by omega, by omega, by omega⟩ hW26 hf24 hA25 (by omega) hW26.2.2.2.2.2.2.2.1.1) ?_
    rintro _ (⟨c29, c30, I31, L32, rfl, hGa33, hf34, hA35⟩ | ⟨c36, z41, I37, L38, rfl, hGa39, he40⟩ | ⟨c42, z47, I43, L44, rfl, hGa45, he46⟩)
    · have hA35 : cs_A I31 L32 K te (a + 2) := hA35
      have hW48 := cs_W_t hW26 (cs_G_F hGa33)
      have hF49 := cs_F_t hF27 (cs_G_F hGa33)
      show yi_D zi_Ms d zi_m260 k (44, [(2, .inr (.inl (L22 16 (a + 1)))), (1, .inl y1), (0, .inr (.inr (some 11)))], [.inl (nm (V (a + 1)) - 0)], (I31, L32, R, Y), 0, 0) _
      refine yi_D_run 2 (47, [(4, .inl (nm (V (a + 1)) - 0)), (2, .inr (.inl (L22 16 (a + 1)))), (1, .inl y1), (0, .inr (.inr (some 11)))], [.inr (.inr (some 11))], (I31, L32, R, Y), 0, 0) (fun _ => rfl) ?_
      refine yi_D_gi (v := K (a + 2)) rfl rfl rfl hA35.2.2.1 (fun _ => ?_)
      refine yi_D_run 1 (51, [(4, .inl (nm (V (a + 1)) - 0)), (2, .inr (.inl (L22 16 (a + 1)))), (1, .inl y1), (0, .inr (.inr (some 11)))], [.inl 3, .inl (K (a + 2))], (I31, L32, R, Y), 0, 0) (fun _ => rfl) ?_
      by_cases h50 : (K (a + 2)) = 3
      · refine yi_D_if2 false rfl (yi_ne_f h50) ?_
        refine yi_D_run 1 (55, [(4, .inl (nm (V (a + 1)) - 0)), (2, .inr (.inl (L22 16 (a + 1)))), (1, .inl y1), (0, .inr (.inr (some 11)))], [.inr (.inr (some 11))], (I31, L32, R, Y), 0, 0) (fun _ => rfl) ?_
        refine yi_D_gl (v := L32 16 (a + 2)) rfl rfl rfl hA35.2.2.2 (fun _ => ?_)
        refine yi_D_run 2 (60, [(4, .inl (nm (V (a + 1)) - 0)), (2, .inr (.inl (L22 16 (a + 1)))), (1, .inl y1), (0, .inr (.inr (some 11)))], [.inl (yi_lcmp (L32 16 (a + 2)) (L22 16 (a + 1)))], (I31, L32, R, Y), 0, 0) (fun _ => rfl) ?_
        have hl1 := hF27.2 16 (a + 1) (by omega)
        have hl2 := hF49.2 16 (a + 2) (by omega)
        have hla := hA35.2.1
        have hw1 := (hW.2.1.2.2.1 (a + 1) (by omega)).2.2.2.2.1 (by omega)
        have hw2 : K (a + 2) = 3 → sp_WR (L 16 (a + 2)) (V (a + 2)) := (hW.2.1.2.2.1 (a + 2) (by omega)).2.2.2.2.1
        by_cases h51 : (L32 16 (a + 2)) = (L22 16 (a + 1))
        · refine yi_D_if1 false rfl (yi_Lne_f h51) ?_
          have hv : V (a + 2) = V (a + 1) := sp_WR_v (hw2 (by omega)) (by rw [show L 16 (a + 2) = L 16 (a + 1) by omega]; exact hw1)
          have hvn : nm (V (a + 2)) = nm (V (a + 1)) := by rw [hv]
          refine yi_D_run 2 (65, [(4, .inl (nm (V (a + 1)) - 0)), (2, .inr (.inl (L22 16 (a + 1)))), (1, .inl y1), (0, .inr (.inr (some 11)))], [.inl 3, .inr (.inr (some 11))], (I31, L32, R, Y), 0, 0) (fun _ => rfl) ?_
          refine yi_D_callv rfl (p_wrong_z ⟨by omega, by omega⟩ hW48 hf34 hA35) ?_
          rintro _ ⟨I52, rfl, hg53, he54⟩
          have hGw55 : cs_G I31 L32 I52 L32 := ⟨fun p k hp => hg53 p k (by omega), fun _ _ _ => rfl⟩
          have hW56 := cs_W_t hW48 (cs_G_F hGw55)
          have hF57 := cs_F_t hF49 (cs_G_F hGw55)
          have hz58 : ¬ sp_f P (a + 2) 3 = 0 := sp_f_ne hW48 hA35.2.1 (by omega)
          have hn59 : ¬ I52 11 11 = 0 := by rw [he54]; exact hz58
          have hx60 : sp_pair K P V nm a = .inr (sp_f P (a + 2) 3) := by
            first
            | (exfalso; omega)
            | (unfold sp_pair; repeat (first | rw [if_pos (by omega)] | rw [if_neg (by omega)]))
          show yi_D zi_Ms d zi_m260 k (68, [(4, .inl (nm (V (a + 1)) - 0)), (2, .inr (.inl (L22 16 (a + 1)))), (1, .inl y1), (0, .inr (.inr (some 11)))], [], (I52, L32, R, Y), 0, 0) _
          exact yi_D_mono (jn68f (nm (V (a + 1)) - 0) (L22 16 (a + 1)) y1 _ _ _ hF57 he54 hz58 hx60 ) (by omega)
        · refine yi_D_if1 true rfl (yi_Lne_t h51) ?_
          have hne : ¬ nm (V (a + 2)) = nm (V (a + 1)) := fun e => by
            have hv := cs_N_v hW.2.2.2.2.2.2.2.1.1 (v := V (a + 1)) (by omega) e
            have hx := sp_WR_x (hw2 (by omega)) (by rw [hv]; exact hw1)
            omega
          refine yi_D_run 2 (70, [(4, .inl (nm (V (a + 1)) - 0)), (2, .inr (.inl (L22 16 (a + 1)))), (1, .inl y1), (0, .inr (.inr (some 11)))], [.inr (.inr (some 11)), .inr (.inr (some 11))], (I31, L32, R, Y), 0, 0) (fun _ => rfl) ?_
          refine yi_D_gr (v := some q) rfl rfl rfl hW.2.2.1.2.1 (fun _ => ?_)
          refine yi_D_gr (v := some (q + 1)) rfl rfl (Nat.ble_eq_true_of_le (by omega)) (hW.2.2.1.2.2.1 0 (by omega)) (fun _ => ?_)
          refine yi_D_run 1 (77, [(4, .inl (nm (V (a + 1)) - 0)), (2, .inr (.inl (L22 16 (a + 1)))), (1, .inl y1), (0, .inr (.inr (some 11)))], [.inr (.inr (some 11)), .inr (.inr (some (q + 1))), .inr (.inr (some 11))], (I31, L32, R, Y), 0, 0) (fun _ => rfl) ?_
          refine yi_D_gr (v := some q) rfl rfl rfl hW.2.2.1.2.1 (fun _ => ?_)
          have r61 : I31 q 15 = ld 1 := by rw [hGa33.1 q 15 (by omega), hGa23.1 q 15 (by omega), jF1 q 15 (by omega), hW.2.2.2.1.2.1]
          refine yi_D_gi (v := ld 1) rfl rfl (Nat.ble_eq_true_of_le (by omega)) r61 (fun _ => ?_)
          refine yi_D_callv rfl (p_takeName_z (by omega) ⟨by omega, by omega, by omega⟩ hW48 hf34 hA35 (by omega) hW48.2.2.2.2.2.2.2.1.1) ?_
          rintro _ (⟨c62, c63, I64, L65, rfl, hGa66, hf67, hA68⟩ | ⟨c69, z74, I70, L71, rfl, hGa72, he73⟩ | ⟨c75, z80, I76, L77, rfl, hGa78, he79⟩)
          · have hA68 : cs_A I64 L65 K te (a + 3) := hA68
            have hW81 := cs_W_t hW48 (cs_G_F hGa66)
            have hF82 := cs_F_t hF49 (cs_G_F hGa66)
            show yi_D zi_Ms d zi_m260 k (86, [(4, .inl (nm (V (a + 1)) - 0)), (2, .inr (.inl (L22 16 (a + 1)))), (1, .inl y1), (0, .inr (.inr (some 11)))], [.inl (nm (V (a + 2)) - 0)], (I64, L65, R, Y), 0, 0) _
            refine yi_D_run 3 (90, [(5, .inl (nm (V (a + 2)) - 0)), (4, .inl (nm (V (a + 1)) - 0)), (2, .inr (.inl (L22 16 (a + 1)))), (1, .inl y1), (0, .inr (.inr (some 11)))], [.inr (.inr (some 11)), .inr (.inr (some 11))], (I64, L65, R, Y), 0, 0) (fun _ => rfl) ?_
            refine yi_D_gr (v := some q) rfl rfl rfl hW.2.2.1.2.1 (fun _ => ?_)
            refine yi_D_gr (v := some (q + 2)) rfl rfl (Nat.ble_eq_true_of_le (by omega)) (hW.2.2.1.2.2.1 1 (by omega)) (fun _ => ?_)
            refine yi_D_run 1 (97, [(5, .inl (nm (V (a + 2)) - 0)), (4, .inl (nm (V (a + 1)) - 0)), (2, .inr (.inl (L22 16 (a + 1)))), (1, .inl y1), (0, .inr (.inr (some 11)))], [.inr (.inr (some 11)), .inr (.inr (some (q + 2))), .inr (.inr (some 11))], (I64, L65, R, Y), 0, 0) (fun _ => rfl) ?_
            refine yi_D_gr (v := some q) rfl rfl rfl hW.2.2.1.2.1 (fun _ => ?_)
            have r83 : I64 q 16 = ld 2 := by rw [hGa66.1 q 16 (by omega), hGa33.1 q 16 (by omega), hGa23.1 q 16 (by omega), jF1 q 16 (by omega), hW.2.2.2.1.2.2.1]
            refine yi_D_gi (v := ld 2) rfl rfl (Nat.ble_eq_true_of_le (by omega)) r83 (fun _ => ?_)
            refine yi_D_callv rfl (p_takeName_z (by omega) ⟨by omega, by omega, by omega⟩ hW81 hf67 hA68 (by omega) hW81.2.2.2.2.2.2.2.1.2.1) ?_
            rintro _ (⟨c84, c85, I86, L87, rfl, hGa88, hf89, hA90⟩ | ⟨c91, z96, I92, L93, rfl, hGa94, he95⟩ | ⟨c97, z102, I98, L99, rfl, hGa100, he101⟩)
            · have hA90 : cs_A I86 L87 K te (a + 4) := hA90
              have hW103 := cs_W_t hW81 (cs_G_F hGa88)
              have hF104 := cs_F_t hF82 (cs_G_F hGa88)
              show yi_D zi_Ms d zi_m260 k (106, [(5, .inl (nm (V (a + 2)) - 0)), (4, .inl (nm (V (a + 1)) - 0)), (2, .inr (.inl (L22 16 (a + 1)))), (1, .inl y1), (0, .inr (.inr (some 11)))], [.inl (nm (V (a + 3)) - 4)], (I86, L87, R, Y), 0, 0) _
              refine yi_D_run 3 (110, [(6, .inl (nm (V (a + 3)) - 4)), (5, .inl (nm (V (a + 2)) - 0)), (4, .inl (nm (V (a + 1)) - 0)), (2, .inr (.inl (L22 16 (a + 1)))), (1, .inl y1), (0, .inr (.inr (some 11)))], [.inl 1, .inr (.inr (some 11))], (I86, L87, R, Y), 0, 0) (fun _ => rfl) ?_
              refine yi_D_pi rfl (fun _ => ?_)
              generalize w106 : yi_u I86 11 5 1 = I105
              have hE107 : cs_E I86 I105 := fun p k hp0 hp1 => by rw [← w106, yi_u_ne _ _ (by omega)]
              have hW108 := cs_W_t hW103 (cs_E_F (L := L87) hE107)
              have hF109 := cs_F_t hF104 (cs_E_F hE107)
              have hf110 : I105 11 11 = 0 := (hE107 11 11 (by omega) (by omega)).trans hf89
              have hA111 := cs_A_e hA90 hE107
              refine yi_D_run 6 (122, [(6, .inl (nm (V (a + 3)) - 4)), (5, .inl (nm (V (a + 2)) - 0)), (4, .inl (nm (V (a + 1)) - 0)), (2, .inr (.inl (L22 16 (a + 1)))), (1, .inl y1), (0, .inr (.inr (some 11)))], [.inl 0, .inl (nm (V (a + 2)) - 0), .inl (nm (V (a + 3)) - 4), .inl (nm (V (a + 1)) - 0), .inl y1, .inr (.inr (some 11))], (I105, L87, R, Y), 0, 0) (fun _ => rfl) ?_
              refine yi_D_calls rfl (p_clauseCode) ?_
              rintro _ ⟨z112, rfl⟩
              show yi_D zi_Ms d zi_m260 k (125, [(6, .inl (nm (V (a + 3)) - 4)), (5, .inl (nm (V (a + 2)) - 0)), (4, .inl (nm (V (a + 1)) - 0)), (2, .inr (.inl (L22 16 (a + 1)))), (1, .inl y1), (0, .inr (.inr (some 11)))], [.inl z112, .inr (.inr (some 11))], (I105, L87, R, Y), 0, 0) _
              refine yi_D_callv rfl (p_emit hW108) ?_
              rintro _ ⟨I113, rfl, hE114⟩
              have hW115 := cs_W_t hW108 (cs_E_F (L := L87) hE114)
              have hF116 := cs_F_t hF109 (cs_E_F hE114)
              have hf117 : I113 11 11 = 0 := (hE114 11 11 (by omega) (by omega)).trans hf110
              have hA118 := cs_A_e hA111 hE114
              show yi_D zi_Ms d zi_m260 k (128, [(6, .inl (nm (V (a + 3)) - 4)), (5, .inl (nm (V (a + 2)) - 0)), (4, .inl (nm (V (a + 1)) - 0)), (2, .inr (.inl (L22 16 (a + 1)))), (1, .inl y1), (0, .inr (.inr (some 11)))], [], (I113, L87, R, Y), 0, 0) _
              refine yi_D_retv rfl ?_
              first
              | (exfalso; omega)
              | (refine ⟨_, _, rfl, hF116, Or.inl ⟨_, sp_cc (nm (V (a + 1))) (nm (V (a + 3)) - 4) (if K a = 16 then 7 else 8) (nm (V (a + 2))), ?_, hf117, hA118⟩⟩; unfold sp_pair; repeat (first | rw [if_pos (by omega)] | rw [if_neg (by omega)]))
            · have hW119 := cs_W_t hW81 (cs_G_F hGa94)
              have hF120 := cs_F_t hF82 (cs_G_F hGa94)
              have hz121 : ¬ sp_f P (a + 3) 1 = 0 := sp_f_ne hW81 hA68.2.1 (by omega)
              have hn122 : ¬ I92 11 11 = 0 := by rw [he95]; exact hz121
              have hx123 : sp_pair K P V nm a = .inr (sp_f P (a + 3) 1) := by
                first
                | (exfalso; omega)
                | (unfold sp_pair; repeat (first | rw [if_pos (by omega)] | rw [if_neg (by omega)]))
              show yi_D zi_Ms d zi_m260 k (106, [(5, .inl (nm (V (a + 2)) - 0)), (4, .inl (nm (V (a + 1)) - 0)), (2, .inr (.inl (L22 16 (a + 1)))), (1, .inl y1), (0, .inr (.inr (some 11)))], [.inl z96], (I92, L93, R, Y), 0, 0) _
              refine yi_D_run 1 (108, [(6, .inl z96), (5, .inl (nm (V (a + 2)) - 0)), (4, .inl (nm (V (a + 1)) - 0)), (2, .inr (.inl (L22 16 (a + 1)))), (1, .inl y1), (0, .inr (.inr (some 11)))], [], (I92, L93, R, Y), 0, 0) (fun _ => rfl) ?_
              exact yi_D_mono (jn108f z96 (nm (V (a + 2)) - 0) (nm (V (a + 1)) - 0) (L22 16 (a + 1)) y1 _ _ _ hF120 he95 hz121 hx123 ) (by omega)
            · have hW124 := cs_W_t hW81 (cs_G_F hGa100)
              have hF125 := cs_F_t hF82 (cs_G_F hGa100)
              have hz126 : ¬ sp_f P (a + 3) 2 = 0 := sp_f_ne hW81 hA68.2.1 (by omega)
              have hn127 : ¬ I98 11 11 = 0 := by rw [he101]; exact hz126
              have hx128 : sp_pair K P V nm a = .inr (sp_f P (a + 3) 2) := by
                first
                | (exfalso; omega)
                | (unfold sp_pair; repeat (first | rw [if_pos (by omega)] | rw [if_neg (by omega)]))
              show yi_D zi_Ms d zi_m260 k (106, [(5, .inl (nm (V (a + 2)) - 0)), (4, .inl (nm (V (a + 1)) - 0)), (2, .inr (.inl (L22 16 (a + 1)))), (1, .inl y1), (0, .inr (.inr (some 11)))], [.inl z102], (I98, L99, R, Y), 0, 0) _
              refine yi_D_run 1 (108, [(6, .inl z102), (5, .inl (nm (V (a + 2)) - 0)), (4, .inl (nm (V (a + 1)) - 0)), (2, .inr (.inl (L22 16 (a + 1)))), (1, .inl y1), (0, .inr (.inr (some 11)))], [], (I98, L99, R, Y), 0, 0) (fun _ => rfl) ?_
              exact yi_D_mono (jn108f z102 (nm (V (a + 2)) - 0) (nm (V (a + 1)) - 0) (L22 16 (a + 1)) y1 _ _ _ hF125 he101 hz126 hx128 ) (by omega)
          · exfalso; omega
          · have hW129 := cs_W_t hW48 (cs_G_F hGa78)
            have hF130 := cs_F_t hF49 (cs_G_F hGa78)
            have hz131 : ¬ sp_f P (a + 2) 2 = 0 := sp_f_ne hW48 hA35.2.1 (by omega)
            have hn132 : ¬ I76 11 11 = 0 := by rw [he79]; exact hz131
            have hx133 : sp_pair K P V nm a = .inr (sp_f P (a + 2) 2) := by
              first
              | (exfalso; omega)
              | (unfold sp_pair; repeat (first | rw [if_pos (by omega)] | rw [if_neg (by omega)]))
            show yi_D zi_Ms d zi_m260 k (86, [(4, .inl (nm (V (a + 1)) - 0)), (2, .inr (.inl (L22 16 (a + 1)))), (1, .inl y1), (0, .inr (.inr (some 11)))], [.inl z80], (I76, L77, R, Y), 0, 0) _
            refine yi_D_run 1 (88, [(5, .inl z80), (4, .inl (nm (V (a + 1)) - 0)), (2, .inr (.inl (L22 16 (a + 1)))), (1, .inl y1), (0, .inr (.inr (some 11)))], [], (I76, L77, R, Y), 0, 0) (fun _ => rfl) ?_
            exact yi_D_mono (jn88f z80 (nm (V (a + 1)) - 0) (L22 16 (a + 1)) y1 _ _ _ hF130 he79 hz131 hx133 ) (by omega)
      · refine yi_D_if2 true rfl (yi_ne_t h50) ?_
        
        refine yi_D_run 2 (70, [(4, .inl (nm (V (a + 1)) - 0)), (2, .inr (.inl (L22 16 (a + 1)))), (1, .inl y1), (0, .inr (.inr (some 11)))], [.inr (.inr (some 11)), .inr (.inr (some 11))], (I31, L32, R, Y), 0, 0) (fun _ => rfl) ?_
        refine yi_D_gr (v := some q) rfl rfl rfl hW.2.2.1.2.1 (fun _ => ?_)
        refine yi_D_gr (v := some (q + 1)) rfl rfl (Nat.ble_eq_true_of_le (by omega)) (hW.2.2.1.2.2.1 0 (by omega)) (fun _ => ?_)
        refine yi_D_run 1 (77, [(4, .inl (nm (V (a + 1)) - 0)), (2, .inr (.inl (L22 16 (a + 1)))), (1, .inl y1), (0, .inr (.inr (some 11)))], [.inr (.inr (some 11)), .inr (.inr (some (q + 1))), .inr (.inr (some 11))], (I31, L32, R, Y), 0, 0) (fun _ => rfl) ?_
        refine yi_D_gr (v := some q) rfl rfl rfl hW.2.2.1.2.1 (fun _ => ?_)
        have r134 : I31 q 15 = ld 1 := by rw [hGa33.1 q 15 (by omega), hGa23.1 q 15 (by omega), jF1 q 15 (by omega), hW.2.2.2.1.2.1]
        refine yi_D_gi (v := ld 1) rfl rfl (Nat.ble_eq_true_of_le (by omega)) r134 (fun _ => ?_)
        refine yi_D_callv rfl (p_takeName_z (by omega) ⟨by omega, by omega, by omega⟩ hW48 hf34 hA35 (by omega) hW48.2.2.2.2.2.2.2.1.1) ?_
        rintro _ (⟨c135, c136, I137, L138, rfl, hGa139, hf140, hA141⟩ | ⟨c142, z147, I143, L144, rfl, hGa145, he146⟩ | ⟨c148, z153, I149, L150, rfl, hGa151, he152⟩)
        · exfalso; omega
        · have hW154 := cs_W_t hW48 (cs_G_F hGa145)
          have hF155 := cs_F_t hF49 (cs_G_F hGa145)
          have hz156 : ¬ sp_f P (a + 2) 1 = 0 := sp_f_ne hW48 hA35.2.1 (by omega)
          have hn157 : ¬ I143 11 11 = 0 := by rw [he146]; exact hz156
          have hx158 : sp_pair K P V nm a = .inr (sp_f P (a + 2) 1) := by
            first
            | (exfalso; omega)
            | (unfold sp_pair; repeat (first | rw [if_pos (by omega)] | rw [if_neg (by omega)]))
          show yi_D zi_Ms d zi_m260 k (86, [(4, .inl (nm (V (a + 1)) - 0)), (2, .inr (.inl (L22 16 (a + 1)))), (1, .inl y1), (0, .inr (.inr (some 11)))], [.inl z147], (I143, L144, R, Y), 0, 0) _
          refine yi_D_run 1 (88, [(5, .inl z147), (4, .inl (nm (V (a + 1)) - 0)), (2, .inr (.inl (L22 16 (a + 1)))), (1, .inl y1), (0, .inr (.inr (some 11)))], [], (I143, L144, R, Y), 0, 0) (fun _ => rfl) ?_
          exact yi_D_mono (jn88f z147 (nm (V (a + 1)) - 0) (L22 16 (a + 1)) y1 _ _ _ hF155 he146 hz156 hx158 ) (by omega)
        · exfalso; omega
    · have hW159 := cs_W_t hW26 (cs_G_F hGa39)
      have hF160 := cs_F_t hF27 (cs_G_F hGa39)
      have hz161 : ¬ sp_f P (a + 1) 1 = 0 := sp_f_ne hW26 hA25.2.1 (by omega)
      have hn162 : ¬ I37 11 11 = 0 := by rw [he40]; exact hz161
      have hx163 : sp_pair K P V nm a = .inr (sp_f P (a + 1) 1) := by
        first
        | (exfalso; omega)
        | (unfold sp_pair; repeat (first | rw [if_pos (by omega)] | rw [if_neg (by omega)]))
      show yi_D zi_Ms d zi_m260 k (44, [(2, .inr (.inl (L22 16 (a + 1)))), (1, .inl y1), (0, .inr (.inr (some 11)))], [.inl z41], (I37, L38, R, Y), 0, 0) _
      refine yi_D_run 1 (46, [(4, .inl z41), (2, .inr (.inl (L22 16 (a + 1)))), (1, .inl y1), (0, .inr (.inr (some 11)))], [], (I37, L38, R, Y), 0, 0) (fun _ => rfl) ?_
      exact yi_D_mono (jn46f z41 (L22 16 (a + 1)) y1 _ _ _ hF160 he40 hz161 hx163 ) (by omega)
    · have hW164 := cs_W_t hW26 (cs_G_F hGa45)
      have hF165 := cs_F_t hF27 (cs_G_F hGa45)
      have hz166 : ¬ sp_f P (a + 1) 2 = 0 := sp_f_ne hW26 hA25.2.1 (by omega)
      have hn167 : ¬ I43 11 11 = 0 := by rw [he46]; exact hz166
      have hx168 : sp_pair K P V nm a = .inr (sp_f P (a + 1) 2) := by
        first
        | (exfalso; omega)
        | (unfold sp_pair; repeat (first | rw [if_pos (by omega)] | rw [if_neg (by omega)]))
      show yi_D zi_Ms d zi_m260 k (44, [(2, .inr (.inl (L22 16 (a + 1)))), (1, .inl y1), (0, .inr (.inr (some 11)))], [.inl z47], (I43, L44, R, Y), 0, 0) _
      refine yi_D_run 1 (46, [(4, .inl z47), (2, .inr (.inl (L22 16 (a + 1)))), (1, .inl y1), (0, .inr (.inr (some 11)))], [], (I43, L44, R, Y), 0, 0) (fun _ => rfl) ?_
      exact yi_D_mono (jn46f z47 (L22 16 (a + 1)) y1 _ _ _ hF165 he46 hz166 hx168 ) (by omega)
  show yi_D zi_Ms d zi_m260 k (0, [(0, .inr (.inr (some 11)))], [], (I, L, R, Y), 0, 0) _
  refine yi_D_run 1 (1, [(0, .inr (.inr (some 11)))], [.inr (.inr (some 11))], (I, L, R, Y), 0, 0) (fun _ => rfl) ?_
  refine yi_D_gi (v := K a) rfl rfl rfl hA.2.2.1 (fun _ => ?_)
  refine yi_D_run 1 (6, [(0, .inr (.inr (some 11)))], [.inl 16, .inl (K a)], (I, L, R, Y), 0, 0) (fun _ => rfl) ?_
  by_cases h169 : (K a) = 16
  · refine yi_D_if2 false rfl (yi_ne_f h169) ?_
    refine yi_D_run 3 (17, [(1, .inl 6), (0, .inr (.inr (some 11)))], [], (I, L, R, Y), 0, 0) (fun _ => rfl) ?_
    exact yi_D_mono (jn17z 6 _ _ (cs_F_r I L) hf hA ) (by omega)
  · refine yi_D_if2 true rfl (yi_ne_t h169) ?_
    refine yi_D_run 2 (17, [(1, .inl 7), (0, .inr (.inr (some 11)))], [], (I, L, R, Y), 0, 0) (fun _ => rfl) ?_
    exact yi_D_mono (jn17z 7 _ _ (cs_F_r I L) hf hA ) (by omega)
/-- what reading with a pile gives -/
def cs_QR (I L : Nat → Nat → Int) (R : Nat → Nat → Option Nat) (Y : (Nat → Nat) × (Nat → Nat) × Nat) (K P V : Nat → Int) (te : Nat) (c : sp_C) (e a dp : Nat) (sk : List Nat) (ld : Nat → Int) (nm : Int → Int) (r : yi_R) : Prop := ∃ I' L', r = (none, (I', L', R, Y), 0, 0) ∧ cs_F I L I' L' ∧ ((∃ a' cs', sp_R K P V c (.inl (e, a', dp, sk, ld, nm, cs')) ∧ a < a' ∧ I' 11 11 = 0 ∧ cs_A I' L' K te a') ∨ (∃ f, sp_R K P V c (.inr f) ∧ ¬ f = 0 ∧ I' 11 11 = f))
def cs_RI (d : Nat) : Prop := ∀ {I L : Nat → Nat → Int} {R : Nat → Nat → Option Nat} {Y : (Nat → Nat) × (Nat → Nat) × Nat} {K P V : Nat → Int} {te q a : Nat} {ld : Nat → Int} {nm : Int → Int} (dp : Nat) (sk : List Nat) (cs : List (Int × Int)), cs_W I L R Y K P V te q ld nm → I 11 11 = 0 → cs_A I L K te a → dp ≤ 5 → yi_P zi_Ms d 257 [.inr (.inr (some 11)), .inl (dp : Int)] (I, L, R, Y) (cs_QR I L R Y K P V te (3, a, dp, sk, ld, nm, cs) 4 a dp sk ld nm)
def cs_RF (d : Nat) : Prop := ∀ {I L : Nat → Nat → Int} {R : Nat → Nat → Option Nat} {Y : (Nat → Nat) × (Nat → Nat) × Nat} {K P V : Nat → Int} {te q a : Nat} {ld : Nat → Int} {nm : Int → Int} (dp : Nat) (sk : List Nat) (cs : List (Int × Int)), cs_W I L R Y K P V te q ld nm → I 11 11 = 0 → cs_A I L K te a → dp ≤ 5 → yi_P zi_Ms d 256 [.inr (.inr (some 11)), .inl (dp : Int)] (I, L, R, Y) (cs_QR I L R Y K P V te (3, a, dp, 10 :: sk, ld, nm, cs) 7 a dp sk ld nm)
theorem p_readItem_f {d : Nat} {I L : Nat → Nat → Int} {R : Nat → Nat → Option Nat} {Y : (Nat → Nat) × (Nat → Nat) × Nat} {w : Int} {K P V : Nat → Int} {te q : Nat} {ld : Nat → Int} {nm : Int → Int} (hW : cs_W I L R Y K P V te q ld nm) (hf : ¬ I 11 11 = 0) : yi_P zi_Ms d 257 [.inr (.inr (some 11)), .inl w] (I, L, R, Y) (fun r => r = (none, (I, L, R, Y), 0, 0)) := by
  refine yi_P_of (M := zi_m257) rfl (fun d k => ?_)
  obtain ⟨ly1, ly2, ly3, ly4⟩ := hW.2.2.1.2.2.2
  have lb := hW.2.2.2.2.1
  have hq0 := hW.2.2.1.1
  show yi_D zi_Ms d zi_m257 k (0, [(0, .inr (.inr (some 11))), (1, .inl w)], [], (I, L, R, Y), 0, 0) _
  refine yi_D_run 1 (1, [(0, .inr (.inr (some 11))), (1, .inl w)], [.inr (.inr (some 11))], (I, L, R, Y), 0, 0) (fun _ => rfl) ?_
  refine yi_D_gi (v := I 11 9) rfl rfl rfl rfl (fun _ => ?_)
  refine yi_D_run 3 (8, [(2, .inl (I 11 9)), (0, .inr (.inr (some 11))), (1, .inl w)], [.inl 16, .inl (I 11 9)], (I, L, R, Y), 0, 0) (fun _ => rfl) ?_
  by_cases h1 : (I 11 9) = 16
  · refine yi_D_if2 true rfl (yi_eq_t h1) ?_
    refine yi_D_run 5 (25, [(3, .inl 1), (2, .inl (I 11 9)), (0, .inr (.inr (some 11))), (1, .inl w)], [.inl 3, .inl (I 11 9)], (I, L, R, Y), 0, 0) (fun _ => rfl) ?_
    have h2 : ¬ ((I 11 9) = 3) := by omega
    refine yi_D_if2 false rfl (yi_eq_f h2) ?_
    refine yi_D_run 2 (31, [(3, .inl 1), (2, .inl (I 11 9)), (0, .inr (.inr (some 11))), (1, .inl w)], [.inl 14, .inl (I 11 9)], (I, L, R, Y), 0, 0) (fun _ => rfl) ?_
    have h3 : ¬ ((I 11 9) = 14) := by omega
    refine yi_D_if2 false rfl (yi_eq_f h3) ?_
    refine yi_D_run 2 (37, [(3, .inl 1), (2, .inl (I 11 9)), (0, .inr (.inr (some 11))), (1, .inl w)], [.inl 15, .inl (I 11 9)], (I, L, R, Y), 0, 0) (fun _ => rfl) ?_
    have h4 : ¬ ((I 11 9) = 15) := by omega
    refine yi_D_if2 true rfl (yi_ne_t h4) ?_
    refine yi_D_run 4 (50, [(4, .inl 0), (3, .inl 1), (2, .inl (I 11 9)), (0, .inr (.inr (some 11))), (1, .inl w)], [.inl 30, .inl (I 11 9)], (I, L, R, Y), 0, 0) (fun _ => rfl) ?_
    have h5 : ¬ ((I 11 9) = 30) := by omega
    refine yi_D_if2 false rfl (yi_eq_f h5) ?_
    refine yi_D_run 2 (56, [(4, .inl 0), (3, .inl 1), (2, .inl (I 11 9)), (0, .inr (.inr (some 11))), (1, .inl w)], [.inl 40, .inl (I 11 9)], (I, L, R, Y), 0, 0) (fun _ => rfl) ?_
    have h6 : ¬ ((I 11 9) = 40) := by omega
    refine yi_D_if2 false rfl (yi_eq_f h6) ?_
    refine yi_D_run 1 (60, [(4, .inl 0), (3, .inl 1), (2, .inl (I 11 9)), (0, .inr (.inr (some 11))), (1, .inl w)], [.inl 1], (I, L, R, Y), 0, 0) (fun _ => rfl) ?_
    refine yi_D_if1 true rfl (by decide) ?_
    refine yi_D_run 2 (78, [(4, .inl 0), (3, .inl 1), (2, .inl (I 11 9)), (0, .inr (.inr (some 11))), (1, .inl w)], [.inl 3, .inl (I 11 9)], (I, L, R, Y), 0, 0) (fun _ => rfl) ?_
    have h7 : ¬ ((I 11 9) = 3) := by omega
    refine yi_D_if2 true rfl (yi_ne_t h7) ?_
    refine yi_D_run 2 (116, [(4, .inl 0), (3, .inl 1), (2, .inl (I 11 9)), (0, .inr (.inr (some 11))), (1, .inl w)], [.inl 5, .inl w], (I, L, R, Y), 0, 0) (fun _ => rfl) ?_
    by_cases h8 : w < 5
    · refine yi_D_if2 true rfl (yi_lt_t h8) ?_
      refine yi_D_run 1 (125, [(4, .inl 0), (3, .inl 1), (2, .inl (I 11 9)), (0, .inr (.inr (some 11))), (1, .inl w)], [.inr (.inr (some 11))], (I, L, R, Y), 0, 0) (fun _ => rfl) ?_
      refine yi_D_gi (v := I 11 11) rfl rfl rfl rfl (fun _ => ?_)
      have h9 : ¬ ((I 11 11) = 0) := by omega
      refine yi_D_if1 false rfl (yi_eq_f h9) ?_
      refine yi_D_retv rfl ?_
      rfl
    · refine yi_D_if2 false rfl (yi_lt_f h8) ?_
      refine yi_D_run 2 (121, [(4, .inl 0), (3, .inl 1), (2, .inl (I 11 9)), (0, .inr (.inr (some 11))), (1, .inl w)], [.inl 5, .inr (.inr (some 11))], (I, L, R, Y), 0, 0) (fun _ => rfl) ?_
      refine yi_D_callv rfl (p_wrong_f hW hf) ?_
      rintro _ rfl
      show yi_D zi_Ms d zi_m257 k (124, [(4, .inl 0), (3, .inl 1), (2, .inl (I 11 9)), (0, .inr (.inr (some 11))), (1, .inl w)], [], (I, L, R, Y), 0, 0) _
      refine yi_D_run 1 (125, [(4, .inl 0), (3, .inl 1), (2, .inl (I 11 9)), (0, .inr (.inr (some 11))), (1, .inl w)], [.inr (.inr (some 11))], (I, L, R, Y), 0, 0) (fun _ => rfl) ?_
      refine yi_D_gi (v := I 11 11) rfl rfl rfl rfl (fun _ => ?_)
      have h10 : ¬ ((I 11 11) = 0) := by omega
      refine yi_D_if1 false rfl (yi_eq_f h10) ?_
      refine yi_D_retv rfl ?_
      rfl
  · refine yi_D_if2 false rfl (yi_eq_f h1) ?_
    refine yi_D_run 2 (14, [(2, .inl (I 11 9)), (0, .inr (.inr (some 11))), (1, .inl w)], [.inl 17, .inl (I 11 9)], (I, L, R, Y), 0, 0) (fun _ => rfl) ?_
    by_cases h11 : (I 11 9) = 17
    · refine yi_D_if2 false rfl (yi_ne_f h11) ?_
      refine yi_D_run 5 (25, [(3, .inl 1), (2, .inl (I 11 9)), (0, .inr (.inr (some 11))), (1, .inl w)], [.inl 3, .inl (I 11 9)], (I, L, R, Y), 0, 0) (fun _ => rfl) ?_
      have h12 : ¬ ((I 11 9) = 3) := by omega
      refine yi_D_if2 false rfl (yi_eq_f h12) ?_
      refine yi_D_run 2 (31, [(3, .inl 1), (2, .inl (I 11 9)), (0, .inr (.inr (some 11))), (1, .inl w)], [.inl 14, .inl (I 11 9)], (I, L, R, Y), 0, 0) (fun _ => rfl) ?_
      have h13 : ¬ ((I 11 9) = 14) := by omega
      refine yi_D_if2 false rfl (yi_eq_f h13) ?_
      refine yi_D_run 2 (37, [(3, .inl 1), (2, .inl (I 11 9)), (0, .inr (.inr (some 11))), (1, .inl w)], [.inl 15, .inl (I 11 9)], (I, L, R, Y), 0, 0) (fun _ => rfl) ?_
      have h14 : ¬ ((I 11 9) = 15) := by omega
      refine yi_D_if2 true rfl (yi_ne_t h14) ?_
      refine yi_D_run 4 (50, [(4, .inl 0), (3, .inl 1), (2, .inl (I 11 9)), (0, .inr (.inr (some 11))), (1, .inl w)], [.inl 30, .inl (I 11 9)], (I, L, R, Y), 0, 0) (fun _ => rfl) ?_
      have h15 : ¬ ((I 11 9) = 30) := by omega
      refine yi_D_if2 false rfl (yi_eq_f h15) ?_
      refine yi_D_run 2 (56, [(4, .inl 0), (3, .inl 1), (2, .inl (I 11 9)), (0, .inr (.inr (some 11))), (1, .inl w)], [.inl 40, .inl (I 11 9)], (I, L, R, Y), 0, 0) (fun _ => rfl) ?_
      have h16 : ¬ ((I 11 9) = 40) := by omega
      refine yi_D_if2 false rfl (yi_eq_f h16) ?_
      refine yi_D_run 1 (60, [(4, .inl 0), (3, .inl 1), (2, .inl (I 11 9)), (0, .inr (.inr (some 11))), (1, .inl w)], [.inl 1], (I, L, R, Y), 0, 0) (fun _ => rfl) ?_
      refine yi_D_if1 true rfl (by decide) ?_
      refine yi_D_run 2 (78, [(4, .inl 0), (3, .inl 1), (2, .inl (I 11 9)), (0, .inr (.inr (some 11))), (1, .inl w)], [.inl 3, .inl (I 11 9)], (I, L, R, Y), 0, 0) (fun _ => rfl) ?_
      have h17 : ¬ ((I 11 9) = 3) := by omega
      refine yi_D_if2 true rfl (yi_ne_t h17) ?_
      refine yi_D_run 2 (116, [(4, .inl 0), (3, .inl 1), (2, .inl (I 11 9)), (0, .inr (.inr (some 11))), (1, .inl w)], [.inl 5, .inl w], (I, L, R, Y), 0, 0) (fun _ => rfl) ?_
      by_cases h18 : w < 5
      · refine yi_D_if2 true rfl (yi_lt_t h18) ?_
        refine yi_D_run 1 (125, [(4, .inl 0), (3, .inl 1), (2, .inl (I 11 9)), (0, .inr (.inr (some 11))), (1, .inl w)], [.inr (.inr (some 11))], (I, L, R, Y), 0, 0) (fun _ => rfl) ?_
        refine yi_D_gi (v := I 11 11) rfl rfl rfl rfl (fun _ => ?_)
        have h19 : ¬ ((I 11 11) = 0) := by omega
        refine yi_D_if1 false rfl (yi_eq_f h19) ?_
        refine yi_D_retv rfl ?_
        rfl
      · refine yi_D_if2 false rfl (yi_lt_f h18) ?_
        refine yi_D_run 2 (121, [(4, .inl 0), (3, .inl 1), (2, .inl (I 11 9)), (0, .inr (.inr (some 11))), (1, .inl w)], [.inl 5, .inr (.inr (some 11))], (I, L, R, Y), 0, 0) (fun _ => rfl) ?_
        refine yi_D_callv rfl (p_wrong_f hW hf) ?_
        rintro _ rfl
        show yi_D zi_Ms d zi_m257 k (124, [(4, .inl 0), (3, .inl 1), (2, .inl (I 11 9)), (0, .inr (.inr (some 11))), (1, .inl w)], [], (I, L, R, Y), 0, 0) _
        refine yi_D_run 1 (125, [(4, .inl 0), (3, .inl 1), (2, .inl (I 11 9)), (0, .inr (.inr (some 11))), (1, .inl w)], [.inr (.inr (some 11))], (I, L, R, Y), 0, 0) (fun _ => rfl) ?_
        refine yi_D_gi (v := I 11 11) rfl rfl rfl rfl (fun _ => ?_)
        have h20 : ¬ ((I 11 11) = 0) := by omega
        refine yi_D_if1 false rfl (yi_eq_f h20) ?_
        refine yi_D_retv rfl ?_
        rfl
    · refine yi_D_if2 true rfl (yi_ne_t h11) ?_
      refine yi_D_run 4 (25, [(3, .inl 0), (2, .inl (I 11 9)), (0, .inr (.inr (some 11))), (1, .inl w)], [.inl 3, .inl (I 11 9)], (I, L, R, Y), 0, 0) (fun _ => rfl) ?_
      by_cases h21 : (I 11 9) = 3
      · refine yi_D_if2 true rfl (yi_eq_t h21) ?_
        refine yi_D_run 5 (50, [(4, .inl 1), (3, .inl 0), (2, .inl (I 11 9)), (0, .inr (.inr (some 11))), (1, .inl w)], [.inl 30, .inl (I 11 9)], (I, L, R, Y), 0, 0) (fun _ => rfl) ?_
        have h22 : ¬ ((I 11 9) = 30) := by omega
        refine yi_D_if2 false rfl (yi_eq_f h22) ?_
        refine yi_D_run 2 (56, [(4, .inl 1), (3, .inl 0), (2, .inl (I 11 9)), (0, .inr (.inr (some 11))), (1, .inl w)], [.inl 40, .inl (I 11 9)], (I, L, R, Y), 0, 0) (fun _ => rfl) ?_
        have h23 : ¬ ((I 11 9) = 40) := by omega
        refine yi_D_if2 false rfl (yi_eq_f h23) ?_
        refine yi_D_run 1 (60, [(4, .inl 1), (3, .inl 0), (2, .inl (I 11 9)), (0, .inr (.inr (some 11))), (1, .inl w)], [.inl 0], (I, L, R, Y), 0, 0) (fun _ => rfl) ?_
        refine yi_D_if1 false rfl (by decide) ?_
        refine yi_D_run 1 (65, [(4, .inl 1), (3, .inl 0), (2, .inl (I 11 9)), (0, .inr (.inr (some 11))), (1, .inl w)], [.inl 1], (I, L, R, Y), 0, 0) (fun _ => rfl) ?_
        refine yi_D_if1 true rfl (by decide) ?_
        refine yi_D_run 2 (78, [(4, .inl 1), (3, .inl 0), (2, .inl (I 11 9)), (0, .inr (.inr (some 11))), (1, .inl w)], [.inl 3, .inl (I 11 9)], (I, L, R, Y), 0, 0) (fun _ => rfl) ?_
        have h24 : (I 11 9) = 3 := by omega
        refine yi_D_if2 false rfl (yi_ne_f h24) ?_
        refine yi_D_run 1 (82, [(4, .inl 1), (3, .inl 0), (2, .inl (I 11 9)), (0, .inr (.inr (some 11))), (1, .inl w)], [.inr (.inr (some 11))], (I, L, R, Y), 0, 0) (fun _ => rfl) ?_
        refine yi_D_gr (v := some q) rfl rfl rfl hW.2.2.1.2.1 (fun _ => ?_)
        refine yi_D_gr (v := some (q + 1)) rfl rfl (Nat.ble_eq_true_of_le (by omega)) (hW.2.2.1.2.2.1 0 (by omega)) (fun _ => ?_)
        refine yi_D_run 1 (89, [(4, .inl 1), (3, .inl 0), (2, .inl (I 11 9)), (0, .inr (.inr (some 11))), (1, .inl w)], [.inr (.inr (some 11)), .inr (.inr (some (q + 1)))], (I, L, R, Y), 0, 0) (fun _ => rfl) ?_
        refine yi_D_gr (v := some q) rfl rfl rfl hW.2.2.1.2.1 (fun _ => ?_)
        refine yi_D_gi (v := ld 1) rfl rfl (Nat.ble_eq_true_of_le (by omega)) hW.2.2.2.1.2.1 (fun _ => ?_)
        refine yi_D_run 1 (96, [(4, .inl 1), (3, .inl 0), (2, .inl (I 11 9)), (0, .inr (.inr (some 11))), (1, .inl w)], [.inr (.inr (some 11)), .inl (ld 1), .inr (.inr (some (q + 1)))], (I, L, R, Y), 0, 0) (fun _ => rfl) ?_
        refine yi_D_gl (v := L 11 10) rfl rfl rfl rfl (fun _ => ?_)
        refine yi_D_calls rfl (p_find (by omega) ⟨by omega, by omega, by omega⟩) ?_
        rintro _ ⟨z25, rfl, hz26⟩
        show yi_D zi_Ms d zi_m257 k (102, [(4, .inl 1), (3, .inl 0), (2, .inl (I 11 9)), (0, .inr (.inr (some 11))), (1, .inl w)], [.inl z25], (I, L, R, Y), 0, 0) _
        refine yi_D_run 1 (103, [(4, .inl 1), (3, .inl 0), (2, .inl (I 11 9)), (0, .inr (.inr (some 11))), (1, .inl w)], [.inl (-1), .inl z25], (I, L, R, Y), 0, 0) (fun _ => rfl) ?_
        by_cases h27 : z25 = (-1)
        · refine yi_D_if2 false rfl (yi_ne_f h27) ?_
          refine yi_D_run 2 (108, [(4, .inl 1), (3, .inl 0), (2, .inl (I 11 9)), (0, .inr (.inr (some 11))), (1, .inl w)], [.inl 2, .inr (.inr (some 11))], (I, L, R, Y), 0, 0) (fun _ => rfl) ?_
          refine yi_D_callv rfl (p_wrong_f hW hf) ?_
          rintro _ rfl
          show yi_D zi_Ms d zi_m257 k (111, [(4, .inl 1), (3, .inl 0), (2, .inl (I 11 9)), (0, .inr (.inr (some 11))), (1, .inl w)], [], (I, L, R, Y), 0, 0) _
          refine yi_D_run 2 (125, [(4, .inl 1), (3, .inl 0), (2, .inl (I 11 9)), (0, .inr (.inr (some 11))), (1, .inl w)], [.inr (.inr (some 11))], (I, L, R, Y), 0, 0) (fun _ => rfl) ?_
          refine yi_D_gi (v := I 11 11) rfl rfl rfl rfl (fun _ => ?_)
          have h28 : ¬ ((I 11 11) = 0) := by omega
          refine yi_D_if1 false rfl (yi_eq_f h28) ?_
          refine yi_D_retv rfl ?_
          rfl
        · refine yi_D_if2 true rfl (yi_ne_t h27) ?_
          refine yi_D_run 2 (116, [(4, .inl 1), (3, .inl 0), (2, .inl (I 11 9)), (0, .inr (.inr (some 11))), (1, .inl w)], [.inl 5, .inl w], (I, L, R, Y), 0, 0) (fun _ => rfl) ?_
          by_cases h29 : w < 5
          · refine yi_D_if2 true rfl (yi_lt_t h29) ?_
            refine yi_D_run 1 (125, [(4, .inl 1), (3, .inl 0), (2, .inl (I 11 9)), (0, .inr (.inr (some 11))), (1, .inl w)], [.inr (.inr (some 11))], (I, L, R, Y), 0, 0) (fun _ => rfl) ?_
            refine yi_D_gi (v := I 11 11) rfl rfl rfl rfl (fun _ => ?_)
            have h30 : ¬ ((I 11 11) = 0) := by omega
            refine yi_D_if1 false rfl (yi_eq_f h30) ?_
            refine yi_D_retv rfl ?_
            rfl
          · refine yi_D_if2 false rfl (yi_lt_f h29) ?_
            refine yi_D_run 2 (121, [(4, .inl 1), (3, .inl 0), (2, .inl (I 11 9)), (0, .inr (.inr (some 11))), (1, .inl w)], [.inl 5, .inr (.inr (some 11))], (I, L, R, Y), 0, 0) (fun _ => rfl) ?_
            refine yi_D_callv rfl (p_wrong_f hW hf) ?_
            rintro _ rfl
            show yi_D zi_Ms d zi_m257 k (124, [(4, .inl 1), (3, .inl 0), (2, .inl (I 11 9)), (0, .inr (.inr (some 11))), (1, .inl w)], [], (I, L, R, Y), 0, 0) _
            refine yi_D_run 1 (125, [(4, .inl 1), (3, .inl 0), (2, .inl (I 11 9)), (0, .inr (.inr (some 11))), (1, .inl w)], [.inr (.inr (some 11))], (I, L, R, Y), 0, 0) (fun _ => rfl) ?_
            refine yi_D_gi (v := I 11 11) rfl rfl rfl rfl (fun _ => ?_)
            have h31 : ¬ ((I 11 11) = 0) := by omega
            refine yi_D_if1 false rfl (yi_eq_f h31) ?_
            refine yi_D_retv rfl ?_
            rfl
      · refine yi_D_if2 false rfl (yi_eq_f h21) ?_
        refine yi_D_run 2 (31, [(3, .inl 0), (2, .inl (I 11 9)), (0, .inr (.inr (some 11))), (1, .inl w)], [.inl 14, .inl (I 11 9)], (I, L, R, Y), 0, 0) (fun _ => rfl) ?_
        by_cases h32 : (I 11 9) = 14
        · refine yi_D_if2 true rfl (yi_eq_t h32) ?_
          refine yi_D_run 5 (50, [(4, .inl 1), (3, .inl 0), (2, .inl (I 11 9)), (0, .inr (.inr (some 11))), (1, .inl w)], [.inl 30, .inl (I 11 9)], (I, L, R, Y), 0, 0) (fun _ => rfl) ?_
          have h33 : ¬ ((I 11 9) = 30) := by omega
          refine yi_D_if2 false rfl (yi_eq_f h33) ?_
          refine yi_D_run 2 (56, [(4, .inl 1), (3, .inl 0), (2, .inl (I 11 9)), (0, .inr (.inr (some 11))), (1, .inl w)], [.inl 40, .inl (I 11 9)], (I, L, R, Y), 0, 0) (fun _ => rfl) ?_
          have h34 : ¬ ((I 11 9) = 40) := by omega
          refine yi_D_if2 false rfl (yi_eq_f h34) ?_
          refine yi_D_run 1 (60, [(4, .inl 1), (3, .inl 0), (2, .inl (I 11 9)), (0, .inr (.inr (some 11))), (1, .inl w)], [.inl 0], (I, L, R, Y), 0, 0) (fun _ => rfl) ?_
          refine yi_D_if1 false rfl (by decide) ?_
          refine yi_D_run 1 (65, [(4, .inl 1), (3, .inl 0), (2, .inl (I 11 9)), (0, .inr (.inr (some 11))), (1, .inl w)], [.inl 1], (I, L, R, Y), 0, 0) (fun _ => rfl) ?_
          refine yi_D_if1 true rfl (by decide) ?_
          refine yi_D_run 2 (78, [(4, .inl 1), (3, .inl 0), (2, .inl (I 11 9)), (0, .inr (.inr (some 11))), (1, .inl w)], [.inl 3, .inl (I 11 9)], (I, L, R, Y), 0, 0) (fun _ => rfl) ?_
          have h35 : ¬ ((I 11 9) = 3) := by omega
          refine yi_D_if2 true rfl (yi_ne_t h35) ?_
          refine yi_D_run 2 (116, [(4, .inl 1), (3, .inl 0), (2, .inl (I 11 9)), (0, .inr (.inr (some 11))), (1, .inl w)], [.inl 5, .inl w], (I, L, R, Y), 0, 0) (fun _ => rfl) ?_
          by_cases h36 : w < 5
          · refine yi_D_if2 true rfl (yi_lt_t h36) ?_
            refine yi_D_run 1 (125, [(4, .inl 1), (3, .inl 0), (2, .inl (I 11 9)), (0, .inr (.inr (some 11))), (1, .inl w)], [.inr (.inr (some 11))], (I, L, R, Y), 0, 0) (fun _ => rfl) ?_
            refine yi_D_gi (v := I 11 11) rfl rfl rfl rfl (fun _ => ?_)
            have h37 : ¬ ((I 11 11) = 0) := by omega
            refine yi_D_if1 false rfl (yi_eq_f h37) ?_
            refine yi_D_retv rfl ?_
            rfl
          · refine yi_D_if2 false rfl (yi_lt_f h36) ?_
            refine yi_D_run 2 (121, [(4, .inl 1), (3, .inl 0), (2, .inl (I 11 9)), (0, .inr (.inr (some 11))), (1, .inl w)], [.inl 5, .inr (.inr (some 11))], (I, L, R, Y), 0, 0) (fun _ => rfl) ?_
            refine yi_D_callv rfl (p_wrong_f hW hf) ?_
            rintro _ rfl
            show yi_D zi_Ms d zi_m257 k (124, [(4, .inl 1), (3, .inl 0), (2, .inl (I 11 9)), (0, .inr (.inr (some 11))), (1, .inl w)], [], (I, L, R, Y), 0, 0) _
            refine yi_D_run 1 (125, [(4, .inl 1), (3, .inl 0), (2, .inl (I 11 9)), (0, .inr (.inr (some 11))), (1, .inl w)], [.inr (.inr (some 11))], (I, L, R, Y), 0, 0) (fun _ => rfl) ?_
            refine yi_D_gi (v := I 11 11) rfl rfl rfl rfl (fun _ => ?_)
            have h38 : ¬ ((I 11 11) = 0) := by omega
            refine yi_D_if1 false rfl (yi_eq_f h38) ?_
            refine yi_D_retv rfl ?_
            rfl
        · refine yi_D_if2 false rfl (yi_eq_f h32) ?_
          refine yi_D_run 2 (37, [(3, .inl 0), (2, .inl (I 11 9)), (0, .inr (.inr (some 11))), (1, .inl w)], [.inl 15, .inl (I 11 9)], (I, L, R, Y), 0, 0) (fun _ => rfl) ?_
          by_cases h39 : (I 11 9) = 15
          · refine yi_D_if2 false rfl (yi_ne_f h39) ?_
            refine yi_D_run 5 (50, [(4, .inl 1), (3, .inl 0), (2, .inl (I 11 9)), (0, .inr (.inr (some 11))), (1, .inl w)], [.inl 30, .inl (I 11 9)], (I, L, R, Y), 0, 0) (fun _ => rfl) ?_
            have h40 : ¬ ((I 11 9) = 30) := by omega
            refine yi_D_if2 false rfl (yi_eq_f h40) ?_
            refine yi_D_run 2 (56, [(4, .inl 1), (3, .inl 0), (2, .inl (I 11 9)), (0, .inr (.inr (some 11))), (1, .inl w)], [.inl 40, .inl (I 11 9)], (I, L, R, Y), 0, 0) (fun _ => rfl) ?_
            have h41 : ¬ ((I 11 9) = 40) := by omega
            refine yi_D_if2 false rfl (yi_eq_f h41) ?_
            refine yi_D_run 1 (60, [(4, .inl 1), (3, .inl 0), (2, .inl (I 11 9)), (0, .inr (.inr (some 11))), (1, .inl w)], [.inl 0], (I, L, R, Y), 0, 0) (fun _ => rfl) ?_
            refine yi_D_if1 false rfl (by decide) ?_
            refine yi_D_run 1 (65, [(4, .inl 1), (3, .inl 0), (2, .inl (I 11 9)), (0, .inr (.inr (some 11))), (1, .inl w)], [.inl 1], (I, L, R, Y), 0, 0) (fun _ => rfl) ?_
            refine yi_D_if1 true rfl (by decide) ?_
            refine yi_D_run 2 (78, [(4, .inl 1), (3, .inl 0), (2, .inl (I 11 9)), (0, .inr (.inr (some 11))), (1, .inl w)], [.inl 3, .inl (I 11 9)], (I, L, R, Y), 0, 0) (fun _ => rfl) ?_
            have h42 : ¬ ((I 11 9) = 3) := by omega
            refine yi_D_if2 true rfl (yi_ne_t h42) ?_
            refine yi_D_run 2 (116, [(4, .inl 1), (3, .inl 0), (2, .inl (I 11 9)), (0, .inr (.inr (some 11))), (1, .inl w)], [.inl 5, .inl w], (I, L, R, Y), 0, 0) (fun _ => rfl) ?_
            by_cases h43 : w < 5
            · refine yi_D_if2 true rfl (yi_lt_t h43) ?_
              refine yi_D_run 1 (125, [(4, .inl 1), (3, .inl 0), (2, .inl (I 11 9)), (0, .inr (.inr (some 11))), (1, .inl w)], [.inr (.inr (some 11))], (I, L, R, Y), 0, 0) (fun _ => rfl) ?_
              refine yi_D_gi (v := I 11 11) rfl rfl rfl rfl (fun _ => ?_)
              have h44 : ¬ ((I 11 11) = 0) := by omega
              refine yi_D_if1 false rfl (yi_eq_f h44) ?_
              refine yi_D_retv rfl ?_
              rfl
            · refine yi_D_if2 false rfl (yi_lt_f h43) ?_
              refine yi_D_run 2 (121, [(4, .inl 1), (3, .inl 0), (2, .inl (I 11 9)), (0, .inr (.inr (some 11))), (1, .inl w)], [.inl 5, .inr (.inr (some 11))], (I, L, R, Y), 0, 0) (fun _ => rfl) ?_
              refine yi_D_callv rfl (p_wrong_f hW hf) ?_
              rintro _ rfl
              show yi_D zi_Ms d zi_m257 k (124, [(4, .inl 1), (3, .inl 0), (2, .inl (I 11 9)), (0, .inr (.inr (some 11))), (1, .inl w)], [], (I, L, R, Y), 0, 0) _
              refine yi_D_run 1 (125, [(4, .inl 1), (3, .inl 0), (2, .inl (I 11 9)), (0, .inr (.inr (some 11))), (1, .inl w)], [.inr (.inr (some 11))], (I, L, R, Y), 0, 0) (fun _ => rfl) ?_
              refine yi_D_gi (v := I 11 11) rfl rfl rfl rfl (fun _ => ?_)
              have h45 : ¬ ((I 11 11) = 0) := by omega
              refine yi_D_if1 false rfl (yi_eq_f h45) ?_
              refine yi_D_retv rfl ?_
              rfl
          · refine yi_D_if2 true rfl (yi_ne_t h39) ?_
            refine yi_D_run 4 (50, [(4, .inl 0), (3, .inl 0), (2, .inl (I 11 9)), (0, .inr (.inr (some 11))), (1, .inl w)], [.inl 30, .inl (I 11 9)], (I, L, R, Y), 0, 0) (fun _ => rfl) ?_
            by_cases h46 : (I 11 9) = 30
            · refine yi_D_if2 true rfl (yi_eq_t h46) ?_
              refine yi_D_run 2 (78, [(4, .inl 0), (3, .inl 0), (2, .inl (I 11 9)), (0, .inr (.inr (some 11))), (1, .inl w)], [.inl 3, .inl (I 11 9)], (I, L, R, Y), 0, 0) (fun _ => rfl) ?_
              have h47 : ¬ ((I 11 9) = 3) := by omega
              refine yi_D_if2 true rfl (yi_ne_t h47) ?_
              refine yi_D_run 2 (116, [(4, .inl 0), (3, .inl 0), (2, .inl (I 11 9)), (0, .inr (.inr (some 11))), (1, .inl w)], [.inl 5, .inl w], (I, L, R, Y), 0, 0) (fun _ => rfl) ?_
              by_cases h48 : w < 5
              · refine yi_D_if2 true rfl (yi_lt_t h48) ?_
                refine yi_D_run 1 (125, [(4, .inl 0), (3, .inl 0), (2, .inl (I 11 9)), (0, .inr (.inr (some 11))), (1, .inl w)], [.inr (.inr (some 11))], (I, L, R, Y), 0, 0) (fun _ => rfl) ?_
                refine yi_D_gi (v := I 11 11) rfl rfl rfl rfl (fun _ => ?_)
                have h49 : ¬ ((I 11 11) = 0) := by omega
                refine yi_D_if1 false rfl (yi_eq_f h49) ?_
                refine yi_D_retv rfl ?_
                rfl
              · refine yi_D_if2 false rfl (yi_lt_f h48) ?_
                refine yi_D_run 2 (121, [(4, .inl 0), (3, .inl 0), (2, .inl (I 11 9)), (0, .inr (.inr (some 11))), (1, .inl w)], [.inl 5, .inr (.inr (some 11))], (I, L, R, Y), 0, 0) (fun _ => rfl) ?_
                refine yi_D_callv rfl (p_wrong_f hW hf) ?_
                rintro _ rfl
                show yi_D zi_Ms d zi_m257 k (124, [(4, .inl 0), (3, .inl 0), (2, .inl (I 11 9)), (0, .inr (.inr (some 11))), (1, .inl w)], [], (I, L, R, Y), 0, 0) _
                refine yi_D_run 1 (125, [(4, .inl 0), (3, .inl 0), (2, .inl (I 11 9)), (0, .inr (.inr (some 11))), (1, .inl w)], [.inr (.inr (some 11))], (I, L, R, Y), 0, 0) (fun _ => rfl) ?_
                refine yi_D_gi (v := I 11 11) rfl rfl rfl rfl (fun _ => ?_)
                have h50 : ¬ ((I 11 11) = 0) := by omega
                refine yi_D_if1 false rfl (yi_eq_f h50) ?_
                refine yi_D_retv rfl ?_
                rfl
            · refine yi_D_if2 false rfl (yi_eq_f h46) ?_
              refine yi_D_run 2 (56, [(4, .inl 0), (3, .inl 0), (2, .inl (I 11 9)), (0, .inr (.inr (some 11))), (1, .inl w)], [.inl 40, .inl (I 11 9)], (I, L, R, Y), 0, 0) (fun _ => rfl) ?_
              by_cases h51 : (I 11 9) = 40
              · refine yi_D_if2 true rfl (yi_eq_t h51) ?_
                refine yi_D_run 2 (78, [(4, .inl 0), (3, .inl 0), (2, .inl (I 11 9)), (0, .inr (.inr (some 11))), (1, .inl w)], [.inl 3, .inl (I 11 9)], (I, L, R, Y), 0, 0) (fun _ => rfl) ?_
                have h52 : ¬ ((I 11 9) = 3) := by omega
                refine yi_D_if2 true rfl (yi_ne_t h52) ?_
                refine yi_D_run 2 (116, [(4, .inl 0), (3, .inl 0), (2, .inl (I 11 9)), (0, .inr (.inr (some 11))), (1, .inl w)], [.inl 5, .inl w], (I, L, R, Y), 0, 0) (fun _ => rfl) ?_
                by_cases h53 : w < 5
                · refine yi_D_if2 true rfl (yi_lt_t h53) ?_
                  refine yi_D_run 1 (125, [(4, .inl 0), (3, .inl 0), (2, .inl (I 11 9)), (0, .inr (.inr (some 11))), (1, .inl w)], [.inr (.inr (some 11))], (I, L, R, Y), 0, 0) (fun _ => rfl) ?_
                  refine yi_D_gi (v := I 11 11) rfl rfl rfl rfl (fun _ => ?_)
                  have h54 : ¬ ((I 11 11) = 0) := by omega
                  refine yi_D_if1 false rfl (yi_eq_f h54) ?_
                  refine yi_D_retv rfl ?_
                  rfl
                · refine yi_D_if2 false rfl (yi_lt_f h53) ?_
                  refine yi_D_run 2 (121, [(4, .inl 0), (3, .inl 0), (2, .inl (I 11 9)), (0, .inr (.inr (some 11))), (1, .inl w)], [.inl 5, .inr (.inr (some 11))], (I, L, R, Y), 0, 0) (fun _ => rfl) ?_
                  refine yi_D_callv rfl (p_wrong_f hW hf) ?_
                  rintro _ rfl
                  show yi_D zi_Ms d zi_m257 k (124, [(4, .inl 0), (3, .inl 0), (2, .inl (I 11 9)), (0, .inr (.inr (some 11))), (1, .inl w)], [], (I, L, R, Y), 0, 0) _
                  refine yi_D_run 1 (125, [(4, .inl 0), (3, .inl 0), (2, .inl (I 11 9)), (0, .inr (.inr (some 11))), (1, .inl w)], [.inr (.inr (some 11))], (I, L, R, Y), 0, 0) (fun _ => rfl) ?_
                  refine yi_D_gi (v := I 11 11) rfl rfl rfl rfl (fun _ => ?_)
                  have h55 : ¬ ((I 11 11) = 0) := by omega
                  refine yi_D_if1 false rfl (yi_eq_f h55) ?_
                  refine yi_D_retv rfl ?_
                  rfl
              · refine yi_D_if2 false rfl (yi_eq_f h51) ?_
                refine yi_D_run 1 (60, [(4, .inl 0), (3, .inl 0), (2, .inl (I 11 9)), (0, .inr (.inr (some 11))), (1, .inl w)], [.inl 0], (I, L, R, Y), 0, 0) (fun _ => rfl) ?_
                refine yi_D_if1 false rfl (by decide) ?_
                refine yi_D_run 1 (65, [(4, .inl 0), (3, .inl 0), (2, .inl (I 11 9)), (0, .inr (.inr (some 11))), (1, .inl w)], [.inl 0], (I, L, R, Y), 0, 0) (fun _ => rfl) ?_
                refine yi_D_if1 false rfl (by decide) ?_
                refine yi_D_run 2 (70, [(4, .inl 0), (3, .inl 0), (2, .inl (I 11 9)), (0, .inr (.inr (some 11))), (1, .inl w)], [.inl 1, .inr (.inr (some 11))], (I, L, R, Y), 0, 0) (fun _ => rfl) ?_
                refine yi_D_callv rfl (p_wrong_f hW hf) ?_
                rintro _ rfl
                show yi_D zi_Ms d zi_m257 k (73, [(4, .inl 0), (3, .inl 0), (2, .inl (I 11 9)), (0, .inr (.inr (some 11))), (1, .inl w)], [], (I, L, R, Y), 0, 0) _
                refine yi_D_run 2 (125, [(4, .inl 0), (3, .inl 0), (2, .inl (I 11 9)), (0, .inr (.inr (some 11))), (1, .inl w)], [.inr (.inr (some 11))], (I, L, R, Y), 0, 0) (fun _ => rfl) ?_
                refine yi_D_gi (v := I 11 11) rfl rfl rfl rfl (fun _ => ?_)
                have h56 : ¬ ((I 11 11) = 0) := by omega
                refine yi_D_if1 false rfl (yi_eq_f h56) ?_
                refine yi_D_retv rfl ?_
                rfl
theorem p_readFormula_f {d : Nat} {I L : Nat → Nat → Int} {R : Nat → Nat → Option Nat} {Y : (Nat → Nat) × (Nat → Nat) × Nat} {w : Int} {K P V : Nat → Int} {te q : Nat} {ld : Nat → Int} {nm : Int → Int} (hW : cs_W I L R Y K P V te q ld nm) (hf : ¬ I 11 11 = 0) : yi_P zi_Ms d 256 [.inr (.inr (some 11)), .inl w] (I, L, R, Y) (fun r => r = (none, (I, L, R, Y), 0, 0)) := by
  refine yi_P_of (M := zi_m256) rfl (fun d k => ?_)
  show yi_D zi_Ms d zi_m256 k (0, [(0, .inr (.inr (some 11))), (1, .inl w)], [], (I, L, R, Y), 0, 0) _
  refine yi_D_run 4 (4, [(2, .inl 0), (0, .inr (.inr (some 11))), (1, .inl w)], [.inl w, .inr (.inr (some 11))], (I, L, R, Y), 0, 0) (fun _ => rfl) ?_
  refine yi_D_callv rfl (p_readItem_f hW hf) ?_
  rintro _ rfl
  show yi_D zi_Ms d zi_m256 k (7, [(2, .inl 0), (0, .inr (.inr (some 11))), (1, .inl w)], [], (I, L, R, Y), 0, 0) _
  refine yi_D_run 4 (13, [(3, .inl 0), (2, .inl 0), (0, .inr (.inr (some 11))), (1, .inl w)], [.inl 1000, .inl 0], (I, L, R, Y), 0, 0) (fun _ => rfl) ?_
  refine yi_D_if2 false rfl (by decide) ?_
  refine yi_D_run 1 (17, [(3, .inl 0), (2, .inl 0), (0, .inr (.inr (some 11))), (1, .inl w)], [.inr (.inr (some 11))], (I, L, R, Y), 0, 0) (fun _ => rfl) ?_
  refine yi_D_gi (v := I 11 11) rfl rfl rfl rfl (fun _ => ?_)
  have h1 : ¬ ((I 11 11) = 0) := by omega
  refine yi_D_if1 true rfl (yi_ne_t h1) ?_
  refine yi_D_run 1 (112, [(3, .inl 0), (2, .inl 0), (0, .inr (.inr (some 11))), (1, .inl w)], [.inl 0], (I, L, R, Y), 0, 0) (fun _ => rfl) ?_
  refine yi_D_if1 true rfl (by decide) ?_
  refine yi_D_retv rfl ?_
  rfl
theorem sp_single_lt {K P V : Nat → Int} {ld : Nat → Int} {nm : Int → Int} {a a' : Nat} {x : Int} (h : sp_single K P V ld nm a = .inl (a', x)) : a < a' := by
  unfold sp_single at h
  repeat (split at h; · cases h)
  split at h
  · cases h; omega
  · repeat (split at h; · cases h)
    cases h
    omega
theorem sp_pair_lt {K P V : Nat → Int} {nm : Int → Int} {a a' : Nat} {x : Int} (h : sp_pair K P V nm a = .inl (a', x)) : a < a' := by
  unfold sp_pair at h
  repeat (split at h; · cases h)
  cases h
  omega
theorem p_readItem_s {d : Nat} {I L : Nat → Nat → Int} {R : Nat → Nat → Option Nat} {Y : (Nat → Nat) × (Nat → Nat) × Nat} (hRI : cs_RI d) (hRF : cs_RF d) {K P V : Nat → Int} {te q a : Nat} {ld : Nat → Int} {nm : Int → Int} (hW : cs_W I L R Y K P V te q ld nm) (hf : I 11 11 = 0) (hA : cs_A I L K te a) (dp : Nat) (sk : List Nat) (cs : List (Int × Int)) (hd : dp ≤ 5) : yi_P zi_Ms (d + 1) 257 [.inr (.inr (some 11)), .inl (dp : Int)] (I, L, R, Y) (cs_QR I L R Y K P V te (3, a, dp, sk, ld, nm, cs) 4 a dp sk ld nm) := by
  refine yi_P_s (M := zi_m257) rfl (fun k => ?_)
  obtain ⟨ly1, ly2, ly3, ly4⟩ := hW.2.2.1.2.2.2
  have lb := hW.2.2.2.2.1
  have hq0 := hW.2.2.1.1
  have hp := hW.2.1.2.2.1 a hA.2.1
  show yi_D zi_Ms d zi_m257 k (0, [(0, .inr (.inr (some 11))), (1, .inl (dp : Int))], [], (I, L, R, Y), 0, 0) _
  refine yi_D_run 1 (1, [(0, .inr (.inr (some 11))), (1, .inl (dp : Int))], [.inr (.inr (some 11))], (I, L, R, Y), 0, 0) (fun _ => rfl) ?_
  refine yi_D_gi (v := K a) rfl rfl rfl hA.2.2.1 (fun _ => ?_)
  refine yi_D_run 3 (8, [(2, .inl (K a)), (0, .inr (.inr (some 11))), (1, .inl (dp : Int))], [.inl 16, .inl (K a)], (I, L, R, Y), 0, 0) (fun _ => rfl) ?_
  by_cases h1 : (K a) = 16
  · refine yi_D_if2 true rfl (yi_eq_t h1) ?_
    refine yi_D_run 5 (25, [(3, .inl 1), (2, .inl (K a)), (0, .inr (.inr (some 11))), (1, .inl (dp : Int))], [.inl 3, .inl (K a)], (I, L, R, Y), 0, 0) (fun _ => rfl) ?_
    have h2 : ¬ ((K a) = 3) := by omega
    refine yi_D_if2 false rfl (yi_eq_f h2) ?_
    refine yi_D_run 2 (31, [(3, .inl 1), (2, .inl (K a)), (0, .inr (.inr (some 11))), (1, .inl (dp : Int))], [.inl 14, .inl (K a)], (I, L, R, Y), 0, 0) (fun _ => rfl) ?_
    have h3 : ¬ ((K a) = 14) := by omega
    refine yi_D_if2 false rfl (yi_eq_f h3) ?_
    refine yi_D_run 2 (37, [(3, .inl 1), (2, .inl (K a)), (0, .inr (.inr (some 11))), (1, .inl (dp : Int))], [.inl 15, .inl (K a)], (I, L, R, Y), 0, 0) (fun _ => rfl) ?_
    have h4 : ¬ ((K a) = 15) := by omega
    refine yi_D_if2 true rfl (yi_ne_t h4) ?_
    refine yi_D_run 4 (50, [(4, .inl 0), (3, .inl 1), (2, .inl (K a)), (0, .inr (.inr (some 11))), (1, .inl (dp : Int))], [.inl 30, .inl (K a)], (I, L, R, Y), 0, 0) (fun _ => rfl) ?_
    have h5 : ¬ ((K a) = 30) := by omega
    refine yi_D_if2 false rfl (yi_eq_f h5) ?_
    refine yi_D_run 2 (56, [(4, .inl 0), (3, .inl 1), (2, .inl (K a)), (0, .inr (.inr (some 11))), (1, .inl (dp : Int))], [.inl 40, .inl (K a)], (I, L, R, Y), 0, 0) (fun _ => rfl) ?_
    have h6 : ¬ ((K a) = 40) := by omega
    refine yi_D_if2 false rfl (yi_eq_f h6) ?_
    refine yi_D_run 1 (60, [(4, .inl 0), (3, .inl 1), (2, .inl (K a)), (0, .inr (.inr (some 11))), (1, .inl (dp : Int))], [.inl 1], (I, L, R, Y), 0, 0) (fun _ => rfl) ?_
    refine yi_D_if1 true rfl (by decide) ?_
    refine yi_D_run 2 (78, [(4, .inl 0), (3, .inl 1), (2, .inl (K a)), (0, .inr (.inr (some 11))), (1, .inl (dp : Int))], [.inl 3, .inl (K a)], (I, L, R, Y), 0, 0) (fun _ => rfl) ?_
    have h7 : ¬ ((K a) = 3) := by omega
    refine yi_D_if2 true rfl (yi_ne_t h7) ?_
    refine yi_D_run 2 (116, [(4, .inl 0), (3, .inl 1), (2, .inl (K a)), (0, .inr (.inr (some 11))), (1, .inl (dp : Int))], [.inl 5, .inl (dp : Int)], (I, L, R, Y), 0, 0) (fun _ => rfl) ?_
    by_cases h8 : (dp : Int) < 5
    · refine yi_D_if2 true rfl (yi_lt_t h8) ?_
      refine yi_D_run 1 (125, [(4, .inl 0), (3, .inl 1), (2, .inl (K a)), (0, .inr (.inr (some 11))), (1, .inl (dp : Int))], [.inr (.inr (some 11))], (I, L, R, Y), 0, 0) (fun _ => rfl) ?_
      refine yi_D_gi (v := 0) rfl rfl rfl hf (fun _ => ?_)
      refine yi_D_if1 true rfl (by decide) ?_
      refine yi_D_run 2 (135, [(4, .inl 0), (3, .inl 1), (2, .inl (K a)), (0, .inr (.inr (some 11))), (1, .inl (dp : Int))], [.inl 30, .inl (K a)], (I, L, R, Y), 0, 0) (fun _ => rfl) ?_
      have h9 : ¬ ((K a) = 30) := by omega
      refine yi_D_if2 true rfl (yi_ne_t h9) ?_
      refine yi_D_run 2 (160, [(4, .inl 0), (3, .inl 1), (2, .inl (K a)), (0, .inr (.inr (some 11))), (1, .inl (dp : Int))], [.inl 40, .inl (K a)], (I, L, R, Y), 0, 0) (fun _ => rfl) ?_
      have h10 : ¬ ((K a) = 40) := by omega
      refine yi_D_if2 true rfl (yi_ne_t h10) ?_
      refine yi_D_run 1 (184, [(4, .inl 0), (3, .inl 1), (2, .inl (K a)), (0, .inr (.inr (some 11))), (1, .inl (dp : Int))], [.inl 1], (I, L, R, Y), 0, 0) (fun _ => rfl) ?_
      refine yi_D_if1 false rfl (by decide) ?_
      refine yi_D_run 1 (188, [(4, .inl 0), (3, .inl 1), (2, .inl (K a)), (0, .inr (.inr (some 11))), (1, .inl (dp : Int))], [.inr (.inr (some 11))], (I, L, R, Y), 0, 0) (fun _ => rfl) ?_
      have hk : K a = 16 ∨ K a = 17 := by omega
      refine yi_D_callv rfl (p_readPair hW hf hA hk) ?_
      rintro _ ⟨I11, L12, rfl, hFr13, (⟨a14, x15, hs16, hf17, hA18⟩ | ⟨f19, hs20, hz21, he22⟩)⟩
      · have hW23 := cs_W_t hW hFr13
        have hF24 := hFr13
        have hF25 : ∀ p k, (p ≠ 11 ∧ p ≠ 19) → I11 p k = I p k := fun p k h => hFr13.1 p k h.1 h.2
        have hR26 : sp_R K P V (3, a, dp, sk, ld, nm, cs) (.inl (4, a14, dp, sk, ld, nm, cs ++ [(11, x15)])) := sp_R_1 (by
          show sp_item K P V a dp sk ld nm cs = _
          unfold sp_item
          repeat (first | rw [if_pos (by omega)] | rw [if_neg (by omega)])
          unfold sp_cl
          rw [if_pos (by omega), hs16])
        have lt27 : a < a14 := sp_pair_lt hs16
        show yi_D zi_Ms d zi_m257 k (191, [(4, .inl 0), (3, .inl 1), (2, .inl (K a)), (0, .inr (.inr (some 11))), (1, .inl (dp : Int))], [], (I11, L12, R, Y), 0, 0) _
        refine yi_D_run 1 (198, [(4, .inl 0), (3, .inl 1), (2, .inl (K a)), (0, .inr (.inr (some 11))), (1, .inl (dp : Int))], [], (I11, L12, R, Y), 0, 0) (fun _ => rfl) ?_
        refine yi_D_retv rfl ?_
        exact ⟨_, _, rfl, hF24, Or.inl ⟨_, _, hR26, by omega, hf17, hA18⟩⟩
      · have hW28 := cs_W_t hW hFr13
        have hF29 := hFr13
        have hF30 : ∀ p k, (p ≠ 11 ∧ p ≠ 19) → I11 p k = I p k := fun p k h => hFr13.1 p k h.1 h.2
        have hn31 : ¬ I11 11 11 = 0 := by rw [he22]; exact hz21
        have hx32 : sp_R K P V (3, a, dp, sk, ld, nm, cs) (.inr f19) := sp_R_1 (by
          show sp_item K P V a dp sk ld nm cs = _
          unfold sp_item
          repeat (first | rw [if_pos (by omega)] | rw [if_neg (by omega)])
          unfold sp_cl
          rw [if_pos (by omega), hs20])
        show yi_D zi_Ms d zi_m257 k (191, [(4, .inl 0), (3, .inl 1), (2, .inl (K a)), (0, .inr (.inr (some 11))), (1, .inl (dp : Int))], [], (I11, L12, R, Y), 0, 0) _
        refine yi_D_run 1 (198, [(4, .inl 0), (3, .inl 1), (2, .inl (K a)), (0, .inr (.inr (some 11))), (1, .inl (dp : Int))], [], (I11, L12, R, Y), 0, 0) (fun _ => rfl) ?_
        refine yi_D_retv rfl ?_
        exact ⟨_, _, rfl, hF29, Or.inr ⟨_, hx32, hz21, he22⟩⟩
    · refine yi_D_if2 false rfl (yi_lt_f h8) ?_
      refine yi_D_run 2 (121, [(4, .inl 0), (3, .inl 1), (2, .inl (K a)), (0, .inr (.inr (some 11))), (1, .inl (dp : Int))], [.inl 5, .inr (.inr (some 11))], (I, L, R, Y), 0, 0) (fun _ => rfl) ?_
      refine yi_D_callv rfl (p_wrong_z ⟨by omega, by omega⟩ hW hf hA) ?_
      rintro _ ⟨I33, rfl, hg34, he35⟩
      have hGw36 : cs_G I L I33 L := ⟨fun p k hp => hg34 p k (by omega), fun _ _ _ => rfl⟩
      have hW37 := cs_W_t hW (cs_G_F hGw36)
      have hF38 := (cs_G_F hGw36)
      have hG39 := hGw36
      have hz40 : ¬ sp_f P a 5 = 0 := sp_f_ne hW hA.2.1 (by omega)
      have hn41 : ¬ I33 11 11 = 0 := by rw [he35]; exact hz40
      have hx42 : sp_R K P V (3, a, dp, sk, ld, nm, cs) (.inr (sp_f P a 5)) := sp_R_1 (by
        show sp_item K P V a dp sk ld nm cs = _
        first
        | (exfalso; omega)
        | (unfold sp_item; repeat (first | rw [if_pos (by omega)] | rw [if_neg (by omega)])))
      show yi_D zi_Ms d zi_m257 k (124, [(4, .inl 0), (3, .inl 1), (2, .inl (K a)), (0, .inr (.inr (some 11))), (1, .inl (dp : Int))], [], (I33, L, R, Y), 0, 0) _
      refine yi_D_run 1 (125, [(4, .inl 0), (3, .inl 1), (2, .inl (K a)), (0, .inr (.inr (some 11))), (1, .inl (dp : Int))], [.inr (.inr (some 11))], (I33, L, R, Y), 0, 0) (fun _ => rfl) ?_
      refine yi_D_gi (v := I33 11 11) rfl rfl rfl rfl (fun _ => ?_)
      have h43 : ¬ ((I33 11 11) = 0) := by omega
      refine yi_D_if1 false rfl (yi_eq_f h43) ?_
      refine yi_D_retv rfl ?_
      exact ⟨_, _, rfl, hF38, Or.inr ⟨_, hx42, hz40, he35⟩⟩
  · refine yi_D_if2 false rfl (yi_eq_f h1) ?_
    refine yi_D_run 2 (14, [(2, .inl (K a)), (0, .inr (.inr (some 11))), (1, .inl (dp : Int))], [.inl 17, .inl (K a)], (I, L, R, Y), 0, 0) (fun _ => rfl) ?_
    by_cases h44 : (K a) = 17
    · refine yi_D_if2 false rfl (yi_ne_f h44) ?_
      refine yi_D_run 5 (25, [(3, .inl 1), (2, .inl (K a)), (0, .inr (.inr (some 11))), (1, .inl (dp : Int))], [.inl 3, .inl (K a)], (I, L, R, Y), 0, 0) (fun _ => rfl) ?_
      have h45 : ¬ ((K a) = 3) := by omega
      refine yi_D_if2 false rfl (yi_eq_f h45) ?_
      refine yi_D_run 2 (31, [(3, .inl 1), (2, .inl (K a)), (0, .inr (.inr (some 11))), (1, .inl (dp : Int))], [.inl 14, .inl (K a)], (I, L, R, Y), 0, 0) (fun _ => rfl) ?_
      have h46 : ¬ ((K a) = 14) := by omega
      refine yi_D_if2 false rfl (yi_eq_f h46) ?_
      refine yi_D_run 2 (37, [(3, .inl 1), (2, .inl (K a)), (0, .inr (.inr (some 11))), (1, .inl (dp : Int))], [.inl 15, .inl (K a)], (I, L, R, Y), 0, 0) (fun _ => rfl) ?_
      have h47 : ¬ ((K a) = 15) := by omega
      refine yi_D_if2 true rfl (yi_ne_t h47) ?_
      refine yi_D_run 4 (50, [(4, .inl 0), (3, .inl 1), (2, .inl (K a)), (0, .inr (.inr (some 11))), (1, .inl (dp : Int))], [.inl 30, .inl (K a)], (I, L, R, Y), 0, 0) (fun _ => rfl) ?_
      have h48 : ¬ ((K a) = 30) := by omega
      refine yi_D_if2 false rfl (yi_eq_f h48) ?_
      refine yi_D_run 2 (56, [(4, .inl 0), (3, .inl 1), (2, .inl (K a)), (0, .inr (.inr (some 11))), (1, .inl (dp : Int))], [.inl 40, .inl (K a)], (I, L, R, Y), 0, 0) (fun _ => rfl) ?_
      have h49 : ¬ ((K a) = 40) := by omega
      refine yi_D_if2 false rfl (yi_eq_f h49) ?_
      refine yi_D_run 1 (60, [(4, .inl 0), (3, .inl 1), (2, .inl (K a)), (0, .inr (.inr (some 11))), (1, .inl (dp : Int))], [.inl 1], (I, L, R, Y), 0, 0) (fun _ => rfl) ?_
      refine yi_D_if1 true rfl (by decide) ?_
      refine yi_D_run 2 (78, [(4, .inl 0), (3, .inl 1), (2, .inl (K a)), (0, .inr (.inr (some 11))), (1, .inl (dp : Int))], [.inl 3, .inl (K a)], (I, L, R, Y), 0, 0) (fun _ => rfl) ?_
      have h50 : ¬ ((K a) = 3) := by omega
      refine yi_D_if2 true rfl (yi_ne_t h50) ?_
      refine yi_D_run 2 (116, [(4, .inl 0), (3, .inl 1), (2, .inl (K a)), (0, .inr (.inr (some 11))), (1, .inl (dp : Int))], [.inl 5, .inl (dp : Int)], (I, L, R, Y), 0, 0) (fun _ => rfl) ?_
      by_cases h51 : (dp : Int) < 5
      · refine yi_D_if2 true rfl (yi_lt_t h51) ?_
        refine yi_D_run 1 (125, [(4, .inl 0), (3, .inl 1), (2, .inl (K a)), (0, .inr (.inr (some 11))), (1, .inl (dp : Int))], [.inr (.inr (some 11))], (I, L, R, Y), 0, 0) (fun _ => rfl) ?_
        refine yi_D_gi (v := 0) rfl rfl rfl hf (fun _ => ?_)
        refine yi_D_if1 true rfl (by decide) ?_
        refine yi_D_run 2 (135, [(4, .inl 0), (3, .inl 1), (2, .inl (K a)), (0, .inr (.inr (some 11))), (1, .inl (dp : Int))], [.inl 30, .inl (K a)], (I, L, R, Y), 0, 0) (fun _ => rfl) ?_
        have h52 : ¬ ((K a) = 30) := by omega
        refine yi_D_if2 true rfl (yi_ne_t h52) ?_
        refine yi_D_run 2 (160, [(4, .inl 0), (3, .inl 1), (2, .inl (K a)), (0, .inr (.inr (some 11))), (1, .inl (dp : Int))], [.inl 40, .inl (K a)], (I, L, R, Y), 0, 0) (fun _ => rfl) ?_
        have h53 : ¬ ((K a) = 40) := by omega
        refine yi_D_if2 true rfl (yi_ne_t h53) ?_
        refine yi_D_run 1 (184, [(4, .inl 0), (3, .inl 1), (2, .inl (K a)), (0, .inr (.inr (some 11))), (1, .inl (dp : Int))], [.inl 1], (I, L, R, Y), 0, 0) (fun _ => rfl) ?_
        refine yi_D_if1 false rfl (by decide) ?_
        refine yi_D_run 1 (188, [(4, .inl 0), (3, .inl 1), (2, .inl (K a)), (0, .inr (.inr (some 11))), (1, .inl (dp : Int))], [.inr (.inr (some 11))], (I, L, R, Y), 0, 0) (fun _ => rfl) ?_
        have hk : K a = 16 ∨ K a = 17 := by omega
        refine yi_D_callv rfl (p_readPair hW hf hA hk) ?_
        rintro _ ⟨I54, L55, rfl, hFr56, (⟨a57, x58, hs59, hf60, hA61⟩ | ⟨f62, hs63, hz64, he65⟩)⟩
        · have hW66 := cs_W_t hW hFr56
          have hF67 := hFr56
          have hF68 : ∀ p k, (p ≠ 11 ∧ p ≠ 19) → I54 p k = I p k := fun p k h => hFr56.1 p k h.1 h.2
          have hR69 : sp_R K P V (3, a, dp, sk, ld, nm, cs) (.inl (4, a57, dp, sk, ld, nm, cs ++ [(11, x58)])) := sp_R_1 (by
            show sp_item K P V a dp sk ld nm cs = _
            unfold sp_item
            repeat (first | rw [if_pos (by omega)] | rw [if_neg (by omega)])
            unfold sp_cl
            rw [if_pos (by omega), hs59])
          have lt70 : a < a57 := sp_pair_lt hs59
          show yi_D zi_Ms d zi_m257 k (191, [(4, .inl 0), (3, .inl 1), (2, .inl (K a)), (0, .inr (.inr (some 11))), (1, .inl (dp : Int))], [], (I54, L55, R, Y), 0, 0) _
          refine yi_D_run 1 (198, [(4, .inl 0), (3, .inl 1), (2, .inl (K a)), (0, .inr (.inr (some 11))), (1, .inl (dp : Int))], [], (I54, L55, R, Y), 0, 0) (fun _ => rfl) ?_
          refine yi_D_retv rfl ?_
          exact ⟨_, _, rfl, hF67, Or.inl ⟨_, _, hR69, by omega, hf60, hA61⟩⟩
        · have hW71 := cs_W_t hW hFr56
          have hF72 := hFr56
          have hF73 : ∀ p k, (p ≠ 11 ∧ p ≠ 19) → I54 p k = I p k := fun p k h => hFr56.1 p k h.1 h.2
          have hn74 : ¬ I54 11 11 = 0 := by rw [he65]; exact hz64
          have hx75 : sp_R K P V (3, a, dp, sk, ld, nm, cs) (.inr f62) := sp_R_1 (by
            show sp_item K P V a dp sk ld nm cs = _
            unfold sp_item
            repeat (first | rw [if_pos (by omega)] | rw [if_neg (by omega)])
            unfold sp_cl
            rw [if_pos (by omega), hs63])
          show yi_D zi_Ms d zi_m257 k (191, [(4, .inl 0), (3, .inl 1), (2, .inl (K a)), (0, .inr (.inr (some 11))), (1, .inl (dp : Int))], [], (I54, L55, R, Y), 0, 0) _
          refine yi_D_run 1 (198, [(4, .inl 0), (3, .inl 1), (2, .inl (K a)), (0, .inr (.inr (some 11))), (1, .inl (dp : Int))], [], (I54, L55, R, Y), 0, 0) (fun _ => rfl) ?_
          refine yi_D_retv rfl ?_
          exact ⟨_, _, rfl, hF72, Or.inr ⟨_, hx75, hz64, he65⟩⟩
      · refine yi_D_if2 false rfl (yi_lt_f h51) ?_
        refine yi_D_run 2 (121, [(4, .inl 0), (3, .inl 1), (2, .inl (K a)), (0, .inr (.inr (some 11))), (1, .inl (dp : Int))], [.inl 5, .inr (.inr (some 11))], (I, L, R, Y), 0, 0) (fun _ => rfl) ?_
        refine yi_D_callv rfl (p_wrong_z ⟨by omega, by omega⟩ hW hf hA) ?_
        rintro _ ⟨I76, rfl, hg77, he78⟩
        have hGw79 : cs_G I L I76 L := ⟨fun p k hp => hg77 p k (by omega), fun _ _ _ => rfl⟩
        have hW80 := cs_W_t hW (cs_G_F hGw79)
        have hF81 := (cs_G_F hGw79)
        have hG82 := hGw79
        have hz83 : ¬ sp_f P a 5 = 0 := sp_f_ne hW hA.2.1 (by omega)
        have hn84 : ¬ I76 11 11 = 0 := by rw [he78]; exact hz83
        have hx85 : sp_R K P V (3, a, dp, sk, ld, nm, cs) (.inr (sp_f P a 5)) := sp_R_1 (by
          show sp_item K P V a dp sk ld nm cs = _
          first
          | (exfalso; omega)
          | (unfold sp_item; repeat (first | rw [if_pos (by omega)] | rw [if_neg (by omega)])))
        show yi_D zi_Ms d zi_m257 k (124, [(4, .inl 0), (3, .inl 1), (2, .inl (K a)), (0, .inr (.inr (some 11))), (1, .inl (dp : Int))], [], (I76, L, R, Y), 0, 0) _
        refine yi_D_run 1 (125, [(4, .inl 0), (3, .inl 1), (2, .inl (K a)), (0, .inr (.inr (some 11))), (1, .inl (dp : Int))], [.inr (.inr (some 11))], (I76, L, R, Y), 0, 0) (fun _ => rfl) ?_
        refine yi_D_gi (v := I76 11 11) rfl rfl rfl rfl (fun _ => ?_)
        have h86 : ¬ ((I76 11 11) = 0) := by omega
        refine yi_D_if1 false rfl (yi_eq_f h86) ?_
        refine yi_D_retv rfl ?_
        exact ⟨_, _, rfl, hF81, Or.inr ⟨_, hx85, hz83, he78⟩⟩
    · refine yi_D_if2 true rfl (yi_ne_t h44) ?_
      refine yi_D_run 4 (25, [(3, .inl 0), (2, .inl (K a)), (0, .inr (.inr (some 11))), (1, .inl (dp : Int))], [.inl 3, .inl (K a)], (I, L, R, Y), 0, 0) (fun _ => rfl) ?_
      by_cases h87 : (K a) = 3
      · refine yi_D_if2 true rfl (yi_eq_t h87) ?_
        refine yi_D_run 5 (50, [(4, .inl 1), (3, .inl 0), (2, .inl (K a)), (0, .inr (.inr (some 11))), (1, .inl (dp : Int))], [.inl 30, .inl (K a)], (I, L, R, Y), 0, 0) (fun _ => rfl) ?_
        have h88 : ¬ ((K a) = 30) := by omega
        refine yi_D_if2 false rfl (yi_eq_f h88) ?_
        refine yi_D_run 2 (56, [(4, .inl 1), (3, .inl 0), (2, .inl (K a)), (0, .inr (.inr (some 11))), (1, .inl (dp : Int))], [.inl 40, .inl (K a)], (I, L, R, Y), 0, 0) (fun _ => rfl) ?_
        have h89 : ¬ ((K a) = 40) := by omega
        refine yi_D_if2 false rfl (yi_eq_f h89) ?_
        refine yi_D_run 1 (60, [(4, .inl 1), (3, .inl 0), (2, .inl (K a)), (0, .inr (.inr (some 11))), (1, .inl (dp : Int))], [.inl 0], (I, L, R, Y), 0, 0) (fun _ => rfl) ?_
        refine yi_D_if1 false rfl (by decide) ?_
        refine yi_D_run 1 (65, [(4, .inl 1), (3, .inl 0), (2, .inl (K a)), (0, .inr (.inr (some 11))), (1, .inl (dp : Int))], [.inl 1], (I, L, R, Y), 0, 0) (fun _ => rfl) ?_
        refine yi_D_if1 true rfl (by decide) ?_
        refine yi_D_run 2 (78, [(4, .inl 1), (3, .inl 0), (2, .inl (K a)), (0, .inr (.inr (some 11))), (1, .inl (dp : Int))], [.inl 3, .inl (K a)], (I, L, R, Y), 0, 0) (fun _ => rfl) ?_
        have h90 : (K a) = 3 := by omega
        refine yi_D_if2 false rfl (yi_ne_f h90) ?_
        refine yi_D_run 1 (82, [(4, .inl 1), (3, .inl 0), (2, .inl (K a)), (0, .inr (.inr (some 11))), (1, .inl (dp : Int))], [.inr (.inr (some 11))], (I, L, R, Y), 0, 0) (fun _ => rfl) ?_
        refine yi_D_gr (v := some q) rfl rfl rfl hW.2.2.1.2.1 (fun _ => ?_)
        refine yi_D_gr (v := some (q + 1)) rfl rfl (Nat.ble_eq_true_of_le (by omega)) (hW.2.2.1.2.2.1 0 (by omega)) (fun _ => ?_)
        refine yi_D_run 1 (89, [(4, .inl 1), (3, .inl 0), (2, .inl (K a)), (0, .inr (.inr (some 11))), (1, .inl (dp : Int))], [.inr (.inr (some 11)), .inr (.inr (some (q + 1)))], (I, L, R, Y), 0, 0) (fun _ => rfl) ?_
        refine yi_D_gr (v := some q) rfl rfl rfl hW.2.2.1.2.1 (fun _ => ?_)
        refine yi_D_gi (v := ld 1) rfl rfl (Nat.ble_eq_true_of_le (by omega)) hW.2.2.2.1.2.1 (fun _ => ?_)
        refine yi_D_run 1 (96, [(4, .inl 1), (3, .inl 0), (2, .inl (K a)), (0, .inr (.inr (some 11))), (1, .inl (dp : Int))], [.inr (.inr (some 11)), .inl (ld 1), .inr (.inr (some (q + 1)))], (I, L, R, Y), 0, 0) (fun _ => rfl) ?_
        refine yi_D_gl (v := L 16 a) rfl rfl rfl hA.2.2.2 (fun _ => ?_)
        refine yi_D_calls rfl (p_find (by omega) ⟨by omega, by omega, by omega⟩) ?_
        rintro _ ⟨z91, rfl, hz92⟩
        show yi_D zi_Ms d zi_m257 k (102, [(4, .inl 1), (3, .inl 0), (2, .inl (K a)), (0, .inr (.inr (some 11))), (1, .inl (dp : Int))], [.inl z91], (I, L, R, Y), 0, 0) _
        refine yi_D_run 1 (103, [(4, .inl 1), (3, .inl 0), (2, .inl (K a)), (0, .inr (.inr (some 11))), (1, .inl (dp : Int))], [.inl (-1), .inl z91], (I, L, R, Y), 0, 0) (fun _ => rfl) ?_
        have hq93 := cs_N_fd hW.2.2.2.2.2.2.2.1.1 (hp.2.2.2.2.1 (by omega)) hz92
        have hq93b : (z91 = nm (V a) - 0 ∧ 0 ≤ nm (V a) ∧ nm (V a) ≤ 3) ∨ (z91 = -1 ∧ ¬ (0 ≤ nm (V a) ∧ nm (V a) ≤ 3)) := by
          by_cases hc : 0 ≤ nm (V a) ∧ nm (V a) ≤ 3
          · rw [if_pos hc] at hq93; exact Or.inl ⟨hq93, hc⟩
          · rw [if_neg hc] at hq93; exact Or.inr ⟨hq93, hc⟩
        by_cases h94 : z91 = (-1)
        · refine yi_D_if2 false rfl (yi_ne_f h94) ?_
          refine yi_D_run 2 (108, [(4, .inl 1), (3, .inl 0), (2, .inl (K a)), (0, .inr (.inr (some 11))), (1, .inl (dp : Int))], [.inl 2, .inr (.inr (some 11))], (I, L, R, Y), 0, 0) (fun _ => rfl) ?_
          refine yi_D_callv rfl (p_wrong_z ⟨by omega, by omega⟩ hW hf hA) ?_
          rintro _ ⟨I95, rfl, hg96, he97⟩
          have hGw98 : cs_G I L I95 L := ⟨fun p k hp => hg96 p k (by omega), fun _ _ _ => rfl⟩
          have hW99 := cs_W_t hW (cs_G_F hGw98)
          have hF100 := (cs_G_F hGw98)
          have hG101 := hGw98
          have hz102 : ¬ sp_f P a 2 = 0 := sp_f_ne hW hA.2.1 (by omega)
          have hn103 : ¬ I95 11 11 = 0 := by rw [he97]; exact hz102
          have hx104 : sp_R K P V (3, a, dp, sk, ld, nm, cs) (.inr (sp_f P a 2)) := sp_R_1 (by
            show sp_item K P V a dp sk ld nm cs = _
            first
            | (exfalso; omega)
            | (unfold sp_item; repeat (first | rw [if_pos (by omega)] | rw [if_neg (by omega)])))
          show yi_D zi_Ms d zi_m257 k (111, [(4, .inl 1), (3, .inl 0), (2, .inl (K a)), (0, .inr (.inr (some 11))), (1, .inl (dp : Int))], [], (I95, L, R, Y), 0, 0) _
          refine yi_D_run 2 (125, [(4, .inl 1), (3, .inl 0), (2, .inl (K a)), (0, .inr (.inr (some 11))), (1, .inl (dp : Int))], [.inr (.inr (some 11))], (I95, L, R, Y), 0, 0) (fun _ => rfl) ?_
          refine yi_D_gi (v := I95 11 11) rfl rfl rfl rfl (fun _ => ?_)
          have h105 : ¬ ((I95 11 11) = 0) := by omega
          refine yi_D_if1 false rfl (yi_eq_f h105) ?_
          refine yi_D_retv rfl ?_
          exact ⟨_, _, rfl, hF100, Or.inr ⟨_, hx104, hz102, he97⟩⟩
        · refine yi_D_if2 true rfl (yi_ne_t h94) ?_
          refine yi_D_run 2 (116, [(4, .inl 1), (3, .inl 0), (2, .inl (K a)), (0, .inr (.inr (some 11))), (1, .inl (dp : Int))], [.inl 5, .inl (dp : Int)], (I, L, R, Y), 0, 0) (fun _ => rfl) ?_
          by_cases h106 : (dp : Int) < 5
          · refine yi_D_if2 true rfl (yi_lt_t h106) ?_
            refine yi_D_run 1 (125, [(4, .inl 1), (3, .inl 0), (2, .inl (K a)), (0, .inr (.inr (some 11))), (1, .inl (dp : Int))], [.inr (.inr (some 11))], (I, L, R, Y), 0, 0) (fun _ => rfl) ?_
            refine yi_D_gi (v := 0) rfl rfl rfl hf (fun _ => ?_)
            refine yi_D_if1 true rfl (by decide) ?_
            refine yi_D_run 2 (135, [(4, .inl 1), (3, .inl 0), (2, .inl (K a)), (0, .inr (.inr (some 11))), (1, .inl (dp : Int))], [.inl 30, .inl (K a)], (I, L, R, Y), 0, 0) (fun _ => rfl) ?_
            have h107 : ¬ ((K a) = 30) := by omega
            refine yi_D_if2 true rfl (yi_ne_t h107) ?_
            refine yi_D_run 2 (160, [(4, .inl 1), (3, .inl 0), (2, .inl (K a)), (0, .inr (.inr (some 11))), (1, .inl (dp : Int))], [.inl 40, .inl (K a)], (I, L, R, Y), 0, 0) (fun _ => rfl) ?_
            have h108 : ¬ ((K a) = 40) := by omega
            refine yi_D_if2 true rfl (yi_ne_t h108) ?_
            refine yi_D_run 1 (184, [(4, .inl 1), (3, .inl 0), (2, .inl (K a)), (0, .inr (.inr (some 11))), (1, .inl (dp : Int))], [.inl 0], (I, L, R, Y), 0, 0) (fun _ => rfl) ?_
            refine yi_D_if1 true rfl (by decide) ?_
            refine yi_D_run 1 (195, [(4, .inl 1), (3, .inl 0), (2, .inl (K a)), (0, .inr (.inr (some 11))), (1, .inl (dp : Int))], [.inr (.inr (some 11))], (I, L, R, Y), 0, 0) (fun _ => rfl) ?_
            refine yi_D_callv rfl (p_readSingle hW hf hA (by omega) (by omega)) ?_
            rintro _ ⟨I109, L110, rfl, hFr111, (⟨a112, x113, hs114, hf115, hA116⟩ | ⟨f117, hs118, hz119, he120⟩)⟩
            · have hW121 := cs_W_t hW hFr111
              have hF122 := hFr111
              have hF123 : ∀ p k, (p ≠ 11 ∧ p ≠ 19) → I109 p k = I p k := fun p k h => hFr111.1 p k h.1 h.2
              have hR124 : sp_R K P V (3, a, dp, sk, ld, nm, cs) (.inl (4, a112, dp, sk, ld, nm, cs ++ [(11, x113)])) := sp_R_1 (by
                show sp_item K P V a dp sk ld nm cs = _
                unfold sp_item
                repeat (first | rw [if_pos (by omega)] | rw [if_neg (by omega)])
                unfold sp_cl
                rw [if_neg (by omega), hs114])
              have lt125 : a < a112 := sp_single_lt hs114
              show yi_D zi_Ms d zi_m257 k (198, [(4, .inl 1), (3, .inl 0), (2, .inl (K a)), (0, .inr (.inr (some 11))), (1, .inl (dp : Int))], [], (I109, L110, R, Y), 0, 0) _
              refine yi_D_retv rfl ?_
              exact ⟨_, _, rfl, hF122, Or.inl ⟨_, _, hR124, by omega, hf115, hA116⟩⟩
            · have hW126 := cs_W_t hW hFr111
              have hF127 := hFr111
              have hF128 : ∀ p k, (p ≠ 11 ∧ p ≠ 19) → I109 p k = I p k := fun p k h => hFr111.1 p k h.1 h.2
              have hn129 : ¬ I109 11 11 = 0 := by rw [he120]; exact hz119
              have hx130 : sp_R K P V (3, a, dp, sk, ld, nm, cs) (.inr f117) := sp_R_1 (by
                show sp_item K P V a dp sk ld nm cs = _
                unfold sp_item
                repeat (first | rw [if_pos (by omega)] | rw [if_neg (by omega)])
                unfold sp_cl
                rw [if_neg (by omega), hs118])
              show yi_D zi_Ms d zi_m257 k (198, [(4, .inl 1), (3, .inl 0), (2, .inl (K a)), (0, .inr (.inr (some 11))), (1, .inl (dp : Int))], [], (I109, L110, R, Y), 0, 0) _
              refine yi_D_retv rfl ?_
              exact ⟨_, _, rfl, hF127, Or.inr ⟨_, hx130, hz119, he120⟩⟩
          · refine yi_D_if2 false rfl (yi_lt_f h106) ?_
            refine yi_D_run 2 (121, [(4, .inl 1), (3, .inl 0), (2, .inl (K a)), (0, .inr (.inr (some 11))), (1, .inl (dp : Int))], [.inl 5, .inr (.inr (some 11))], (I, L, R, Y), 0, 0) (fun _ => rfl) ?_
            refine yi_D_callv rfl (p_wrong_z ⟨by omega, by omega⟩ hW hf hA) ?_
            rintro _ ⟨I131, rfl, hg132, he133⟩
            have hGw134 : cs_G I L I131 L := ⟨fun p k hp => hg132 p k (by omega), fun _ _ _ => rfl⟩
            have hW135 := cs_W_t hW (cs_G_F hGw134)
            have hF136 := (cs_G_F hGw134)
            have hG137 := hGw134
            have hz138 : ¬ sp_f P a 5 = 0 := sp_f_ne hW hA.2.1 (by omega)
            have hn139 : ¬ I131 11 11 = 0 := by rw [he133]; exact hz138
            have hx140 : sp_R K P V (3, a, dp, sk, ld, nm, cs) (.inr (sp_f P a 5)) := sp_R_1 (by
              show sp_item K P V a dp sk ld nm cs = _
              first
              | (exfalso; omega)
              | (unfold sp_item; repeat (first | rw [if_pos (by omega)] | rw [if_neg (by omega)])))
            show yi_D zi_Ms d zi_m257 k (124, [(4, .inl 1), (3, .inl 0), (2, .inl (K a)), (0, .inr (.inr (some 11))), (1, .inl (dp : Int))], [], (I131, L, R, Y), 0, 0) _
            refine yi_D_run 1 (125, [(4, .inl 1), (3, .inl 0), (2, .inl (K a)), (0, .inr (.inr (some 11))), (1, .inl (dp : Int))], [.inr (.inr (some 11))], (I131, L, R, Y), 0, 0) (fun _ => rfl) ?_
            refine yi_D_gi (v := I131 11 11) rfl rfl rfl rfl (fun _ => ?_)
            have h141 : ¬ ((I131 11 11) = 0) := by omega
            refine yi_D_if1 false rfl (yi_eq_f h141) ?_
            refine yi_D_retv rfl ?_
            exact ⟨_, _, rfl, hF136, Or.inr ⟨_, hx140, hz138, he133⟩⟩
      · refine yi_D_if2 false rfl (yi_eq_f h87) ?_
        refine yi_D_run 2 (31, [(3, .inl 0), (2, .inl (K a)), (0, .inr (.inr (some 11))), (1, .inl (dp : Int))], [.inl 14, .inl (K a)], (I, L, R, Y), 0, 0) (fun _ => rfl) ?_
        by_cases h142 : (K a) = 14
        · refine yi_D_if2 true rfl (yi_eq_t h142) ?_
          refine yi_D_run 5 (50, [(4, .inl 1), (3, .inl 0), (2, .inl (K a)), (0, .inr (.inr (some 11))), (1, .inl (dp : Int))], [.inl 30, .inl (K a)], (I, L, R, Y), 0, 0) (fun _ => rfl) ?_
          have h143 : ¬ ((K a) = 30) := by omega
          refine yi_D_if2 false rfl (yi_eq_f h143) ?_
          refine yi_D_run 2 (56, [(4, .inl 1), (3, .inl 0), (2, .inl (K a)), (0, .inr (.inr (some 11))), (1, .inl (dp : Int))], [.inl 40, .inl (K a)], (I, L, R, Y), 0, 0) (fun _ => rfl) ?_
          have h144 : ¬ ((K a) = 40) := by omega
          refine yi_D_if2 false rfl (yi_eq_f h144) ?_
          refine yi_D_run 1 (60, [(4, .inl 1), (3, .inl 0), (2, .inl (K a)), (0, .inr (.inr (some 11))), (1, .inl (dp : Int))], [.inl 0], (I, L, R, Y), 0, 0) (fun _ => rfl) ?_
          refine yi_D_if1 false rfl (by decide) ?_
          refine yi_D_run 1 (65, [(4, .inl 1), (3, .inl 0), (2, .inl (K a)), (0, .inr (.inr (some 11))), (1, .inl (dp : Int))], [.inl 1], (I, L, R, Y), 0, 0) (fun _ => rfl) ?_
          refine yi_D_if1 true rfl (by decide) ?_
          refine yi_D_run 2 (78, [(4, .inl 1), (3, .inl 0), (2, .inl (K a)), (0, .inr (.inr (some 11))), (1, .inl (dp : Int))], [.inl 3, .inl (K a)], (I, L, R, Y), 0, 0) (fun _ => rfl) ?_
          have h145 : ¬ ((K a) = 3) := by omega
          refine yi_D_if2 true rfl (yi_ne_t h145) ?_
          refine yi_D_run 2 (116, [(4, .inl 1), (3, .inl 0), (2, .inl (K a)), (0, .inr (.inr (some 11))), (1, .inl (dp : Int))], [.inl 5, .inl (dp : Int)], (I, L, R, Y), 0, 0) (fun _ => rfl) ?_
          by_cases h146 : (dp : Int) < 5
          · refine yi_D_if2 true rfl (yi_lt_t h146) ?_
            refine yi_D_run 1 (125, [(4, .inl 1), (3, .inl 0), (2, .inl (K a)), (0, .inr (.inr (some 11))), (1, .inl (dp : Int))], [.inr (.inr (some 11))], (I, L, R, Y), 0, 0) (fun _ => rfl) ?_
            refine yi_D_gi (v := 0) rfl rfl rfl hf (fun _ => ?_)
            refine yi_D_if1 true rfl (by decide) ?_
            refine yi_D_run 2 (135, [(4, .inl 1), (3, .inl 0), (2, .inl (K a)), (0, .inr (.inr (some 11))), (1, .inl (dp : Int))], [.inl 30, .inl (K a)], (I, L, R, Y), 0, 0) (fun _ => rfl) ?_
            have h147 : ¬ ((K a) = 30) := by omega
            refine yi_D_if2 true rfl (yi_ne_t h147) ?_
            refine yi_D_run 2 (160, [(4, .inl 1), (3, .inl 0), (2, .inl (K a)), (0, .inr (.inr (some 11))), (1, .inl (dp : Int))], [.inl 40, .inl (K a)], (I, L, R, Y), 0, 0) (fun _ => rfl) ?_
            have h148 : ¬ ((K a) = 40) := by omega
            refine yi_D_if2 true rfl (yi_ne_t h148) ?_
            refine yi_D_run 1 (184, [(4, .inl 1), (3, .inl 0), (2, .inl (K a)), (0, .inr (.inr (some 11))), (1, .inl (dp : Int))], [.inl 0], (I, L, R, Y), 0, 0) (fun _ => rfl) ?_
            refine yi_D_if1 true rfl (by decide) ?_
            refine yi_D_run 1 (195, [(4, .inl 1), (3, .inl 0), (2, .inl (K a)), (0, .inr (.inr (some 11))), (1, .inl (dp : Int))], [.inr (.inr (some 11))], (I, L, R, Y), 0, 0) (fun _ => rfl) ?_
            refine yi_D_callv rfl (p_readSingle hW hf hA (by omega) (by omega)) ?_
            rintro _ ⟨I149, L150, rfl, hFr151, (⟨a152, x153, hs154, hf155, hA156⟩ | ⟨f157, hs158, hz159, he160⟩)⟩
            · have hW161 := cs_W_t hW hFr151
              have hF162 := hFr151
              have hF163 : ∀ p k, (p ≠ 11 ∧ p ≠ 19) → I149 p k = I p k := fun p k h => hFr151.1 p k h.1 h.2
              have hR164 : sp_R K P V (3, a, dp, sk, ld, nm, cs) (.inl (4, a152, dp, sk, ld, nm, cs ++ [(11, x153)])) := sp_R_1 (by
                show sp_item K P V a dp sk ld nm cs = _
                unfold sp_item
                repeat (first | rw [if_pos (by omega)] | rw [if_neg (by omega)])
                unfold sp_cl
                rw [if_neg (by omega), hs154])
              have lt165 : a < a152 := sp_single_lt hs154
              show yi_D zi_Ms d zi_m257 k (198, [(4, .inl 1), (3, .inl 0), (2, .inl (K a)), (0, .inr (.inr (some 11))), (1, .inl (dp : Int))], [], (I149, L150, R, Y), 0, 0) _
              refine yi_D_retv rfl ?_
              exact ⟨_, _, rfl, hF162, Or.inl ⟨_, _, hR164, by omega, hf155, hA156⟩⟩
            · have hW166 := cs_W_t hW hFr151
              have hF167 := hFr151
              have hF168 : ∀ p k, (p ≠ 11 ∧ p ≠ 19) → I149 p k = I p k := fun p k h => hFr151.1 p k h.1 h.2
              have hn169 : ¬ I149 11 11 = 0 := by rw [he160]; exact hz159
              have hx170 : sp_R K P V (3, a, dp, sk, ld, nm, cs) (.inr f157) := sp_R_1 (by
                show sp_item K P V a dp sk ld nm cs = _
                unfold sp_item
                repeat (first | rw [if_pos (by omega)] | rw [if_neg (by omega)])
                unfold sp_cl
                rw [if_neg (by omega), hs158])
              show yi_D zi_Ms d zi_m257 k (198, [(4, .inl 1), (3, .inl 0), (2, .inl (K a)), (0, .inr (.inr (some 11))), (1, .inl (dp : Int))], [], (I149, L150, R, Y), 0, 0) _
              refine yi_D_retv rfl ?_
              exact ⟨_, _, rfl, hF167, Or.inr ⟨_, hx170, hz159, he160⟩⟩
          · refine yi_D_if2 false rfl (yi_lt_f h146) ?_
            refine yi_D_run 2 (121, [(4, .inl 1), (3, .inl 0), (2, .inl (K a)), (0, .inr (.inr (some 11))), (1, .inl (dp : Int))], [.inl 5, .inr (.inr (some 11))], (I, L, R, Y), 0, 0) (fun _ => rfl) ?_
            refine yi_D_callv rfl (p_wrong_z ⟨by omega, by omega⟩ hW hf hA) ?_
            rintro _ ⟨I171, rfl, hg172, he173⟩
            have hGw174 : cs_G I L I171 L := ⟨fun p k hp => hg172 p k (by omega), fun _ _ _ => rfl⟩
            have hW175 := cs_W_t hW (cs_G_F hGw174)
            have hF176 := (cs_G_F hGw174)
            have hG177 := hGw174
            have hz178 : ¬ sp_f P a 5 = 0 := sp_f_ne hW hA.2.1 (by omega)
            have hn179 : ¬ I171 11 11 = 0 := by rw [he173]; exact hz178
            have hx180 : sp_R K P V (3, a, dp, sk, ld, nm, cs) (.inr (sp_f P a 5)) := sp_R_1 (by
              show sp_item K P V a dp sk ld nm cs = _
              first
              | (exfalso; omega)
              | (unfold sp_item; repeat (first | rw [if_pos (by omega)] | rw [if_neg (by omega)])))
            show yi_D zi_Ms d zi_m257 k (124, [(4, .inl 1), (3, .inl 0), (2, .inl (K a)), (0, .inr (.inr (some 11))), (1, .inl (dp : Int))], [], (I171, L, R, Y), 0, 0) _
            refine yi_D_run 1 (125, [(4, .inl 1), (3, .inl 0), (2, .inl (K a)), (0, .inr (.inr (some 11))), (1, .inl (dp : Int))], [.inr (.inr (some 11))], (I171, L, R, Y), 0, 0) (fun _ => rfl) ?_
            refine yi_D_gi (v := I171 11 11) rfl rfl rfl rfl (fun _ => ?_)
            have h181 : ¬ ((I171 11 11) = 0) := by omega
            refine yi_D_if1 false rfl (yi_eq_f h181) ?_
            refine yi_D_retv rfl ?_
            exact ⟨_, _, rfl, hF176, Or.inr ⟨_, hx180, hz178, he173⟩⟩
        · refine yi_D_if2 false rfl (yi_eq_f h142) ?_
          refine yi_D_run 2 (37, [(3, .inl 0), (2, .inl (K a)), (0, .inr (.inr (some 11))), (1, .inl (dp : Int))], [.inl 15, .inl (K a)], (I, L, R, Y), 0, 0) (fun _ => rfl) ?_
          by_cases h182 : (K a) = 15
          · refine yi_D_if2 false rfl (yi_ne_f h182) ?_
            refine yi_D_run 5 (50, [(4, .inl 1), (3, .inl 0), (2, .inl (K a)), (0, .inr (.inr (some 11))), (1, .inl (dp : Int))], [.inl 30, .inl (K a)], (I, L, R, Y), 0, 0) (fun _ => rfl) ?_
            have h183 : ¬ ((K a) = 30) := by omega
            refine yi_D_if2 false rfl (yi_eq_f h183) ?_
            refine yi_D_run 2 (56, [(4, .inl 1), (3, .inl 0), (2, .inl (K a)), (0, .inr (.inr (some 11))), (1, .inl (dp : Int))], [.inl 40, .inl (K a)], (I, L, R, Y), 0, 0) (fun _ => rfl) ?_
            have h184 : ¬ ((K a) = 40) := by omega
            refine yi_D_if2 false rfl (yi_eq_f h184) ?_
            refine yi_D_run 1 (60, [(4, .inl 1), (3, .inl 0), (2, .inl (K a)), (0, .inr (.inr (some 11))), (1, .inl (dp : Int))], [.inl 0], (I, L, R, Y), 0, 0) (fun _ => rfl) ?_
            refine yi_D_if1 false rfl (by decide) ?_
            refine yi_D_run 1 (65, [(4, .inl 1), (3, .inl 0), (2, .inl (K a)), (0, .inr (.inr (some 11))), (1, .inl (dp : Int))], [.inl 1], (I, L, R, Y), 0, 0) (fun _ => rfl) ?_
            refine yi_D_if1 true rfl (by decide) ?_
            refine yi_D_run 2 (78, [(4, .inl 1), (3, .inl 0), (2, .inl (K a)), (0, .inr (.inr (some 11))), (1, .inl (dp : Int))], [.inl 3, .inl (K a)], (I, L, R, Y), 0, 0) (fun _ => rfl) ?_
            have h185 : ¬ ((K a) = 3) := by omega
            refine yi_D_if2 true rfl (yi_ne_t h185) ?_
            refine yi_D_run 2 (116, [(4, .inl 1), (3, .inl 0), (2, .inl (K a)), (0, .inr (.inr (some 11))), (1, .inl (dp : Int))], [.inl 5, .inl (dp : Int)], (I, L, R, Y), 0, 0) (fun _ => rfl) ?_
            by_cases h186 : (dp : Int) < 5
            · refine yi_D_if2 true rfl (yi_lt_t h186) ?_
              refine yi_D_run 1 (125, [(4, .inl 1), (3, .inl 0), (2, .inl (K a)), (0, .inr (.inr (some 11))), (1, .inl (dp : Int))], [.inr (.inr (some 11))], (I, L, R, Y), 0, 0) (fun _ => rfl) ?_
              refine yi_D_gi (v := 0) rfl rfl rfl hf (fun _ => ?_)
              refine yi_D_if1 true rfl (by decide) ?_
              refine yi_D_run 2 (135, [(4, .inl 1), (3, .inl 0), (2, .inl (K a)), (0, .inr (.inr (some 11))), (1, .inl (dp : Int))], [.inl 30, .inl (K a)], (I, L, R, Y), 0, 0) (fun _ => rfl) ?_
              have h187 : ¬ ((K a) = 30) := by omega
              refine yi_D_if2 true rfl (yi_ne_t h187) ?_
              refine yi_D_run 2 (160, [(4, .inl 1), (3, .inl 0), (2, .inl (K a)), (0, .inr (.inr (some 11))), (1, .inl (dp : Int))], [.inl 40, .inl (K a)], (I, L, R, Y), 0, 0) (fun _ => rfl) ?_
              have h188 : ¬ ((K a) = 40) := by omega
              refine yi_D_if2 true rfl (yi_ne_t h188) ?_
              refine yi_D_run 1 (184, [(4, .inl 1), (3, .inl 0), (2, .inl (K a)), (0, .inr (.inr (some 11))), (1, .inl (dp : Int))], [.inl 0], (I, L, R, Y), 0, 0) (fun _ => rfl) ?_
              refine yi_D_if1 true rfl (by decide) ?_
              refine yi_D_run 1 (195, [(4, .inl 1), (3, .inl 0), (2, .inl (K a)), (0, .inr (.inr (some 11))), (1, .inl (dp : Int))], [.inr (.inr (some 11))], (I, L, R, Y), 0, 0) (fun _ => rfl) ?_
              refine yi_D_callv rfl (p_readSingle hW hf hA (by omega) (by omega)) ?_
              rintro _ ⟨I189, L190, rfl, hFr191, (⟨a192, x193, hs194, hf195, hA196⟩ | ⟨f197, hs198, hz199, he200⟩)⟩
              · have hW201 := cs_W_t hW hFr191
                have hF202 := hFr191
                have hF203 : ∀ p k, (p ≠ 11 ∧ p ≠ 19) → I189 p k = I p k := fun p k h => hFr191.1 p k h.1 h.2
                have hR204 : sp_R K P V (3, a, dp, sk, ld, nm, cs) (.inl (4, a192, dp, sk, ld, nm, cs ++ [(11, x193)])) := sp_R_1 (by
                  show sp_item K P V a dp sk ld nm cs = _
                  unfold sp_item
                  repeat (first | rw [if_pos (by omega)] | rw [if_neg (by omega)])
                  unfold sp_cl
                  rw [if_neg (by omega), hs194])
                have lt205 : a < a192 := sp_single_lt hs194
                show yi_D zi_Ms d zi_m257 k (198, [(4, .inl 1), (3, .inl 0), (2, .inl (K a)), (0, .inr (.inr (some 11))), (1, .inl (dp : Int))], [], (I189, L190, R, Y), 0, 0) _
                refine yi_D_retv rfl ?_
                exact ⟨_, _, rfl, hF202, Or.inl ⟨_, _, hR204, by omega, hf195, hA196⟩⟩
              · have hW206 := cs_W_t hW hFr191
                have hF207 := hFr191
                have hF208 : ∀ p k, (p ≠ 11 ∧ p ≠ 19) → I189 p k = I p k := fun p k h => hFr191.1 p k h.1 h.2
                have hn209 : ¬ I189 11 11 = 0 := by rw [he200]; exact hz199
                have hx210 : sp_R K P V (3, a, dp, sk, ld, nm, cs) (.inr f197) := sp_R_1 (by
                  show sp_item K P V a dp sk ld nm cs = _
                  unfold sp_item
                  repeat (first | rw [if_pos (by omega)] | rw [if_neg (by omega)])
                  unfold sp_cl
                  rw [if_neg (by omega), hs198])
                show yi_D zi_Ms d zi_m257 k (198, [(4, .inl 1), (3, .inl 0), (2, .inl (K a)), (0, .inr (.inr (some 11))), (1, .inl (dp : Int))], [], (I189, L190, R, Y), 0, 0) _
                refine yi_D_retv rfl ?_
                exact ⟨_, _, rfl, hF207, Or.inr ⟨_, hx210, hz199, he200⟩⟩
            · refine yi_D_if2 false rfl (yi_lt_f h186) ?_
              refine yi_D_run 2 (121, [(4, .inl 1), (3, .inl 0), (2, .inl (K a)), (0, .inr (.inr (some 11))), (1, .inl (dp : Int))], [.inl 5, .inr (.inr (some 11))], (I, L, R, Y), 0, 0) (fun _ => rfl) ?_
              refine yi_D_callv rfl (p_wrong_z ⟨by omega, by omega⟩ hW hf hA) ?_
              rintro _ ⟨I211, rfl, hg212, he213⟩
              have hGw214 : cs_G I L I211 L := ⟨fun p k hp => hg212 p k (by omega), fun _ _ _ => rfl⟩
              have hW215 := cs_W_t hW (cs_G_F hGw214)
              have hF216 := (cs_G_F hGw214)
              have hG217 := hGw214
              have hz218 : ¬ sp_f P a 5 = 0 := sp_f_ne hW hA.2.1 (by omega)
              have hn219 : ¬ I211 11 11 = 0 := by rw [he213]; exact hz218
              have hx220 : sp_R K P V (3, a, dp, sk, ld, nm, cs) (.inr (sp_f P a 5)) := sp_R_1 (by
                show sp_item K P V a dp sk ld nm cs = _
                first
                | (exfalso; omega)
                | (unfold sp_item; repeat (first | rw [if_pos (by omega)] | rw [if_neg (by omega)])))
              show yi_D zi_Ms d zi_m257 k (124, [(4, .inl 1), (3, .inl 0), (2, .inl (K a)), (0, .inr (.inr (some 11))), (1, .inl (dp : Int))], [], (I211, L, R, Y), 0, 0) _
              refine yi_D_run 1 (125, [(4, .inl 1), (3, .inl 0), (2, .inl (K a)), (0, .inr (.inr (some 11))), (1, .inl (dp : Int))], [.inr (.inr (some 11))], (I211, L, R, Y), 0, 0) (fun _ => rfl) ?_
              refine yi_D_gi (v := I211 11 11) rfl rfl rfl rfl (fun _ => ?_)
              have h221 : ¬ ((I211 11 11) = 0) := by omega
              refine yi_D_if1 false rfl (yi_eq_f h221) ?_
              refine yi_D_retv rfl ?_
              exact ⟨_, _, rfl, hF216, Or.inr ⟨_, hx220, hz218, he213⟩⟩
          · refine yi_D_if2 true rfl (yi_ne_t h182) ?_
            refine yi_D_run 4 (50, [(4, .inl 0), (3, .inl 0), (2, .inl (K a)), (0, .inr (.inr (some 11))), (1, .inl (dp : Int))], [.inl 30, .inl (K a)], (I, L, R, Y), 0, 0) (fun _ => rfl) ?_
            by_cases h222 : (K a) = 30
            · refine yi_D_if2 true rfl (yi_eq_t h222) ?_
              refine yi_D_run 2 (78, [(4, .inl 0), (3, .inl 0), (2, .inl (K a)), (0, .inr (.inr (some 11))), (1, .inl (dp : Int))], [.inl 3, .inl (K a)], (I, L, R, Y), 0, 0) (fun _ => rfl) ?_
              have h223 : ¬ ((K a) = 3) := by omega
              refine yi_D_if2 true rfl (yi_ne_t h223) ?_
              refine yi_D_run 2 (116, [(4, .inl 0), (3, .inl 0), (2, .inl (K a)), (0, .inr (.inr (some 11))), (1, .inl (dp : Int))], [.inl 5, .inl (dp : Int)], (I, L, R, Y), 0, 0) (fun _ => rfl) ?_
              by_cases h224 : (dp : Int) < 5
              · refine yi_D_if2 true rfl (yi_lt_t h224) ?_
                refine yi_D_run 1 (125, [(4, .inl 0), (3, .inl 0), (2, .inl (K a)), (0, .inr (.inr (some 11))), (1, .inl (dp : Int))], [.inr (.inr (some 11))], (I, L, R, Y), 0, 0) (fun _ => rfl) ?_
                refine yi_D_gi (v := 0) rfl rfl rfl hf (fun _ => ?_)
                refine yi_D_if1 true rfl (by decide) ?_
                refine yi_D_run 2 (135, [(4, .inl 0), (3, .inl 0), (2, .inl (K a)), (0, .inr (.inr (some 11))), (1, .inl (dp : Int))], [.inl 30, .inl (K a)], (I, L, R, Y), 0, 0) (fun _ => rfl) ?_
                have h225 : (K a) = 30 := by omega
                refine yi_D_if2 false rfl (yi_ne_f h225) ?_
                refine yi_D_run 1 (139, [(4, .inl 0), (3, .inl 0), (2, .inl (K a)), (0, .inr (.inr (some 11))), (1, .inl (dp : Int))], [.inr (.inr (some 11))], (I, L, R, Y), 0, 0) (fun _ => rfl) ?_
                refine yi_D_callv rfl (p_advance_z hW hf hA) ?_
                rintro _ ⟨I226, L227, rfl, hGa228, hf229, hA230⟩
                rw [sp_nx_lt (cs_lt hW.2.1 hA.2.1 (by omega))] at hA230
                have hA230 : cs_A I226 L227 K te (a + 1) := hA230
                have hW231 := cs_W_t hW (cs_G_F hGa228)
                have hF232 := (cs_G_F hGa228)
                have hG233 := hGa228
                show yi_D zi_Ms d zi_m257 k (142, [(4, .inl 0), (3, .inl 0), (2, .inl (K a)), (0, .inr (.inr (some 11))), (1, .inl (dp : Int))], [], (I226, L227, R, Y), 0, 0) _
                refine yi_D_run 3 (145, [(4, .inl 0), (3, .inl 0), (2, .inl (K a)), (0, .inr (.inr (some 11))), (1, .inl (dp : Int))], [.inl 1, .inl (dp : Int), .inr (.inr (some 11))], (I226, L227, R, Y), 0, 0) (fun _ => rfl) ?_
                refine yi_D_iadd rfl ((dp : Int) + 1) (yi_wn (by omega) (by omega)) ?_
                have hst234 : sp_R K P V (3, a, dp, sk, ld, nm, cs) (.inl (3, a + 1, dp + 1, 0 :: sk, ld, nm, cs)) := sp_R_1 (by
                  show sp_item K P V a dp sk ld nm cs = _
                  unfold sp_item
                  repeat (first | rw [if_pos (by omega)] | rw [if_neg (by omega)]))
                refine yi_D_callv rfl (hRI (dp + 1) (0 :: sk) cs hW231 hf229 hA230 (by omega)) ?_
                rintro _ ⟨I235, L236, rfl, hFr237, (⟨a238, cs239, hR240, lt241, hf242, hA243⟩ | ⟨f244, hR245, hz246, he247⟩)⟩
                · have hW248 := cs_W_t hW231 hFr237
                  have hF249 := cs_F_t hF232 hFr237
                  have hF250 : ∀ p k, (p ≠ 11 ∧ p ≠ 19) → I235 p k = I226 p k := fun p k h => hFr237.1 p k h.1 h.2
                  have hR251 : sp_R K P V (3, a, dp, sk, ld, nm, cs) (.inl (4, a238, dp, sk, ld, nm, cs239 ++ [(3, 0)])) := sp_R_s (sp_R_t hst234 hR240) rfl
                  show yi_D zi_Ms d zi_m257 k (149, [(4, .inl 0), (3, .inl 0), (2, .inl (K a)), (0, .inr (.inr (some 11))), (1, .inl (dp : Int))], [], (I235, L236, R, Y), 0, 0) _
                  refine yi_D_run 2 (151, [(4, .inl 0), (3, .inl 0), (2, .inl (K a)), (0, .inr (.inr (some 11))), (1, .inl (dp : Int))], [.inl 1, .inr (.inr (some 11))], (I235, L236, R, Y), 0, 0) (fun _ => rfl) ?_
                  refine yi_D_callv rfl (p_emit hW248) ?_
                  rintro _ ⟨I252, rfl, hE253⟩
                  have hW254 := cs_W_t hW248 (cs_E_F (L := L236) hE253)
                  have hF255 := cs_F_t hF249 (cs_E_F hE253)
                  have hf256 : I252 11 11 = 0 := (hE253 11 11 (by omega) (by omega)).trans hf242
                  have hA257 := cs_A_e hA243 hE253
                  show yi_D zi_Ms d zi_m257 k (154, [(4, .inl 0), (3, .inl 0), (2, .inl (K a)), (0, .inr (.inr (some 11))), (1, .inl (dp : Int))], [], (I252, L236, R, Y), 0, 0) _
                  refine yi_D_run 1 (198, [(4, .inl 0), (3, .inl 0), (2, .inl (K a)), (0, .inr (.inr (some 11))), (1, .inl (dp : Int))], [], (I252, L236, R, Y), 0, 0) (fun _ => rfl) ?_
                  refine yi_D_retv rfl ?_
                  exact ⟨_, _, rfl, hF255, Or.inl ⟨_, _, hR251, by omega, hf256, hA257⟩⟩
                · have hW258 := cs_W_t hW231 hFr237
                  have hF259 := cs_F_t hF232 hFr237
                  have hF260 : ∀ p k, (p ≠ 11 ∧ p ≠ 19) → I235 p k = I226 p k := fun p k h => hFr237.1 p k h.1 h.2
                  have hn261 : ¬ I235 11 11 = 0 := by rw [he247]; exact hz246
                  have hx262 : sp_R K P V (3, a, dp, sk, ld, nm, cs) (.inr f244) := sp_R_t hst234 hR245
                  show yi_D zi_Ms d zi_m257 k (149, [(4, .inl 0), (3, .inl 0), (2, .inl (K a)), (0, .inr (.inr (some 11))), (1, .inl (dp : Int))], [], (I235, L236, R, Y), 0, 0) _
                  refine yi_D_run 2 (151, [(4, .inl 0), (3, .inl 0), (2, .inl (K a)), (0, .inr (.inr (some 11))), (1, .inl (dp : Int))], [.inl 1, .inr (.inr (some 11))], (I235, L236, R, Y), 0, 0) (fun _ => rfl) ?_
                  refine yi_D_callv rfl (p_emit hW258) ?_
                  rintro _ ⟨I263, rfl, hE264⟩
                  have hW265 := cs_W_t hW258 (cs_E_F (L := L236) hE264)
                  have hF266 := cs_F_t hF259 (cs_E_F hE264)
                  have hf267 : ¬ I263 11 11 = 0 := by rw [hE264 11 11 (by omega) (by omega)]; exact hn261
                  have he268 := (hE264 11 11 (by omega) (by omega)).trans he247
                  show yi_D zi_Ms d zi_m257 k (154, [(4, .inl 0), (3, .inl 0), (2, .inl (K a)), (0, .inr (.inr (some 11))), (1, .inl (dp : Int))], [], (I263, L236, R, Y), 0, 0) _
                  refine yi_D_run 1 (198, [(4, .inl 0), (3, .inl 0), (2, .inl (K a)), (0, .inr (.inr (some 11))), (1, .inl (dp : Int))], [], (I263, L236, R, Y), 0, 0) (fun _ => rfl) ?_
                  refine yi_D_retv rfl ?_
                  exact ⟨_, _, rfl, hF266, Or.inr ⟨_, hx262, hz246, he268⟩⟩
              · refine yi_D_if2 false rfl (yi_lt_f h224) ?_
                refine yi_D_run 2 (121, [(4, .inl 0), (3, .inl 0), (2, .inl (K a)), (0, .inr (.inr (some 11))), (1, .inl (dp : Int))], [.inl 5, .inr (.inr (some 11))], (I, L, R, Y), 0, 0) (fun _ => rfl) ?_
                refine yi_D_callv rfl (p_wrong_z ⟨by omega, by omega⟩ hW hf hA) ?_
                rintro _ ⟨I269, rfl, hg270, he271⟩
                have hGw272 : cs_G I L I269 L := ⟨fun p k hp => hg270 p k (by omega), fun _ _ _ => rfl⟩
                have hW273 := cs_W_t hW (cs_G_F hGw272)
                have hF274 := (cs_G_F hGw272)
                have hG275 := hGw272
                have hz276 : ¬ sp_f P a 5 = 0 := sp_f_ne hW hA.2.1 (by omega)
                have hn277 : ¬ I269 11 11 = 0 := by rw [he271]; exact hz276
                have hx278 : sp_R K P V (3, a, dp, sk, ld, nm, cs) (.inr (sp_f P a 5)) := sp_R_1 (by
                  show sp_item K P V a dp sk ld nm cs = _
                  first
                  | (exfalso; omega)
                  | (unfold sp_item; repeat (first | rw [if_pos (by omega)] | rw [if_neg (by omega)])))
                show yi_D zi_Ms d zi_m257 k (124, [(4, .inl 0), (3, .inl 0), (2, .inl (K a)), (0, .inr (.inr (some 11))), (1, .inl (dp : Int))], [], (I269, L, R, Y), 0, 0) _
                refine yi_D_run 1 (125, [(4, .inl 0), (3, .inl 0), (2, .inl (K a)), (0, .inr (.inr (some 11))), (1, .inl (dp : Int))], [.inr (.inr (some 11))], (I269, L, R, Y), 0, 0) (fun _ => rfl) ?_
                refine yi_D_gi (v := I269 11 11) rfl rfl rfl rfl (fun _ => ?_)
                have h279 : ¬ ((I269 11 11) = 0) := by omega
                refine yi_D_if1 false rfl (yi_eq_f h279) ?_
                refine yi_D_retv rfl ?_
                exact ⟨_, _, rfl, hF274, Or.inr ⟨_, hx278, hz276, he271⟩⟩
            · refine yi_D_if2 false rfl (yi_eq_f h222) ?_
              refine yi_D_run 2 (56, [(4, .inl 0), (3, .inl 0), (2, .inl (K a)), (0, .inr (.inr (some 11))), (1, .inl (dp : Int))], [.inl 40, .inl (K a)], (I, L, R, Y), 0, 0) (fun _ => rfl) ?_
              by_cases h280 : (K a) = 40
              · refine yi_D_if2 true rfl (yi_eq_t h280) ?_
                refine yi_D_run 2 (78, [(4, .inl 0), (3, .inl 0), (2, .inl (K a)), (0, .inr (.inr (some 11))), (1, .inl (dp : Int))], [.inl 3, .inl (K a)], (I, L, R, Y), 0, 0) (fun _ => rfl) ?_
                have h281 : ¬ ((K a) = 3) := by omega
                refine yi_D_if2 true rfl (yi_ne_t h281) ?_
                refine yi_D_run 2 (116, [(4, .inl 0), (3, .inl 0), (2, .inl (K a)), (0, .inr (.inr (some 11))), (1, .inl (dp : Int))], [.inl 5, .inl (dp : Int)], (I, L, R, Y), 0, 0) (fun _ => rfl) ?_
                by_cases h282 : (dp : Int) < 5
                · refine yi_D_if2 true rfl (yi_lt_t h282) ?_
                  refine yi_D_run 1 (125, [(4, .inl 0), (3, .inl 0), (2, .inl (K a)), (0, .inr (.inr (some 11))), (1, .inl (dp : Int))], [.inr (.inr (some 11))], (I, L, R, Y), 0, 0) (fun _ => rfl) ?_
                  refine yi_D_gi (v := 0) rfl rfl rfl hf (fun _ => ?_)
                  refine yi_D_if1 true rfl (by decide) ?_
                  refine yi_D_run 2 (135, [(4, .inl 0), (3, .inl 0), (2, .inl (K a)), (0, .inr (.inr (some 11))), (1, .inl (dp : Int))], [.inl 30, .inl (K a)], (I, L, R, Y), 0, 0) (fun _ => rfl) ?_
                  have h283 : ¬ ((K a) = 30) := by omega
                  refine yi_D_if2 true rfl (yi_ne_t h283) ?_
                  refine yi_D_run 2 (160, [(4, .inl 0), (3, .inl 0), (2, .inl (K a)), (0, .inr (.inr (some 11))), (1, .inl (dp : Int))], [.inl 40, .inl (K a)], (I, L, R, Y), 0, 0) (fun _ => rfl) ?_
                  have h284 : (K a) = 40 := by omega
                  refine yi_D_if2 false rfl (yi_ne_f h284) ?_
                  refine yi_D_run 1 (164, [(4, .inl 0), (3, .inl 0), (2, .inl (K a)), (0, .inr (.inr (some 11))), (1, .inl (dp : Int))], [.inr (.inr (some 11))], (I, L, R, Y), 0, 0) (fun _ => rfl) ?_
                  refine yi_D_callv rfl (p_advance_z hW hf hA) ?_
                  rintro _ ⟨I285, L286, rfl, hGa287, hf288, hA289⟩
                  rw [sp_nx_lt (cs_lt hW.2.1 hA.2.1 (by omega))] at hA289
                  have hA289 : cs_A I285 L286 K te (a + 1) := hA289
                  have hW290 := cs_W_t hW (cs_G_F hGa287)
                  have hF291 := (cs_G_F hGa287)
                  have hG292 := hGa287
                  show yi_D zi_Ms d zi_m257 k (167, [(4, .inl 0), (3, .inl 0), (2, .inl (K a)), (0, .inr (.inr (some 11))), (1, .inl (dp : Int))], [], (I285, L286, R, Y), 0, 0) _
                  refine yi_D_run 3 (170, [(4, .inl 0), (3, .inl 0), (2, .inl (K a)), (0, .inr (.inr (some 11))), (1, .inl (dp : Int))], [.inl 1, .inl (dp : Int), .inr (.inr (some 11))], (I285, L286, R, Y), 0, 0) (fun _ => rfl) ?_
                  refine yi_D_iadd rfl ((dp : Int) + 1) (yi_wn (by omega) (by omega)) ?_
                  have hst293 : sp_R K P V (3, a, dp, sk, ld, nm, cs) (.inl (3, a + 1, dp + 1, 10 :: 1 :: sk, ld, nm, cs)) := sp_R_1 (by
                    show sp_item K P V a dp sk ld nm cs = _
                    unfold sp_item
                    repeat (first | rw [if_pos (by omega)] | rw [if_neg (by omega)]))
                  refine yi_D_callv rfl (hRF (dp + 1) (1 :: sk) cs hW290 hf288 hA289 (by omega)) ?_
                  rintro _ ⟨I294, L295, rfl, hFr296, (⟨a297, cs298, hR299, lt300, hf301, hA302⟩ | ⟨f303, hR304, hz305, he306⟩)⟩
                  · have hW307 := cs_W_t hW290 hFr296
                    have hF308 := cs_F_t hF291 hFr296
                    have hF309 : ∀ p k, (p ≠ 11 ∧ p ≠ 19) → I294 p k = I285 p k := fun p k h => hFr296.1 p k h.1 h.2
                    have hR310 := sp_R_t hst293 hR299
                    show yi_D zi_Ms d zi_m257 k (174, [(4, .inl 0), (3, .inl 0), (2, .inl (K a)), (0, .inr (.inr (some 11))), (1, .inl (dp : Int))], [], (I294, L295, R, Y), 0, 0) _
                    refine yi_D_run 2 (177, [(4, .inl 0), (3, .inl 0), (2, .inl (K a)), (0, .inr (.inr (some 11))), (1, .inl (dp : Int))], [.inl 41, .inr (.inr (some 11))], (I294, L295, R, Y), 0, 0) (fun _ => rfl) ?_
                    refine yi_D_callv rfl (p_takeKind_z (by omega) hW307 hf301 hA302) ?_
                    rintro _ (⟨c311, I312, L313, rfl, hGa314, hf315, hA316⟩ | ⟨c317, I318, L319, rfl, hGa320, he321⟩)
                    · have hA316 : cs_A I312 L313 K te (a297 + 1) := hA316
                      have hW322 := cs_W_t hW307 (cs_G_F hGa314)
                      have hF323 := cs_F_t hF308 (cs_G_F hGa314)
                      have hR324 : sp_R K P V (3, a, dp, sk, ld, nm, cs) (.inl (4, a297 + 1, dp, sk, ld, nm, cs298)) := sp_R_s hR310 (by
                        show (if K _ = 41 then _ else _) = _
                        rw [if_pos (by omega)]
                        rfl)
                      show yi_D zi_Ms d zi_m257 k (180, [(4, .inl 0), (3, .inl 0), (2, .inl (K a)), (0, .inr (.inr (some 11))), (1, .inl (dp : Int))], [], (I312, L313, R, Y), 0, 0) _
                      refine yi_D_run 1 (198, [(4, .inl 0), (3, .inl 0), (2, .inl (K a)), (0, .inr (.inr (some 11))), (1, .inl (dp : Int))], [], (I312, L313, R, Y), 0, 0) (fun _ => rfl) ?_
                      refine yi_D_retv rfl ?_
                      exact ⟨_, _, rfl, hF323, Or.inl ⟨_, _, hR324, by omega, hf315, hA316⟩⟩
                    · have hW325 := cs_W_t hW307 (cs_G_F hGa320)
                      have hF326 := cs_F_t hF308 (cs_G_F hGa320)
                      have hz327 : ¬ sp_f P a297 1 = 0 := sp_f_ne hW307 hA302.2.1 (by omega)
                      have hn328 : ¬ I318 11 11 = 0 := by rw [he321]; exact hz327
                      have hx329 : sp_R K P V (3, a, dp, sk, ld, nm, cs) (.inr (sp_f P a297 1)) := sp_R_s hR310 (by
                        show (if K _ = _ then _ else _) = _
                        rw [if_neg (by omega)])
                      show yi_D zi_Ms d zi_m257 k (180, [(4, .inl 0), (3, .inl 0), (2, .inl (K a)), (0, .inr (.inr (some 11))), (1, .inl (dp : Int))], [], (I318, L319, R, Y), 0, 0) _
                      refine yi_D_run 1 (198, [(4, .inl 0), (3, .inl 0), (2, .inl (K a)), (0, .inr (.inr (some 11))), (1, .inl (dp : Int))], [], (I318, L319, R, Y), 0, 0) (fun _ => rfl) ?_
                      refine yi_D_retv rfl ?_
                      exact ⟨_, _, rfl, hF326, Or.inr ⟨_, hx329, hz327, he321⟩⟩
                  · have hW330 := cs_W_t hW290 hFr296
                    have hF331 := cs_F_t hF291 hFr296
                    have hF332 : ∀ p k, (p ≠ 11 ∧ p ≠ 19) → I294 p k = I285 p k := fun p k h => hFr296.1 p k h.1 h.2
                    have hn333 : ¬ I294 11 11 = 0 := by rw [he306]; exact hz305
                    have hx334 : sp_R K P V (3, a, dp, sk, ld, nm, cs) (.inr f303) := sp_R_t hst293 hR304
                    show yi_D zi_Ms d zi_m257 k (174, [(4, .inl 0), (3, .inl 0), (2, .inl (K a)), (0, .inr (.inr (some 11))), (1, .inl (dp : Int))], [], (I294, L295, R, Y), 0, 0) _
                    refine yi_D_run 2 (177, [(4, .inl 0), (3, .inl 0), (2, .inl (K a)), (0, .inr (.inr (some 11))), (1, .inl (dp : Int))], [.inl 41, .inr (.inr (some 11))], (I294, L295, R, Y), 0, 0) (fun _ => rfl) ?_
                    refine yi_D_callv rfl (p_takeKind_f hW330 hn333) ?_
                    rintro _ rfl
                    show yi_D zi_Ms d zi_m257 k (180, [(4, .inl 0), (3, .inl 0), (2, .inl (K a)), (0, .inr (.inr (some 11))), (1, .inl (dp : Int))], [], (I294, L295, R, Y), 0, 0) _
                    refine yi_D_run 1 (198, [(4, .inl 0), (3, .inl 0), (2, .inl (K a)), (0, .inr (.inr (some 11))), (1, .inl (dp : Int))], [], (I294, L295, R, Y), 0, 0) (fun _ => rfl) ?_
                    refine yi_D_retv rfl ?_
                    exact ⟨_, _, rfl, hF331, Or.inr ⟨_, hx334, hz305, he306⟩⟩
                · refine yi_D_if2 false rfl (yi_lt_f h282) ?_
                  refine yi_D_run 2 (121, [(4, .inl 0), (3, .inl 0), (2, .inl (K a)), (0, .inr (.inr (some 11))), (1, .inl (dp : Int))], [.inl 5, .inr (.inr (some 11))], (I, L, R, Y), 0, 0) (fun _ => rfl) ?_
                  refine yi_D_callv rfl (p_wrong_z ⟨by omega, by omega⟩ hW hf hA) ?_
                  rintro _ ⟨I335, rfl, hg336, he337⟩
                  have hGw338 : cs_G I L I335 L := ⟨fun p k hp => hg336 p k (by omega), fun _ _ _ => rfl⟩
                  have hW339 := cs_W_t hW (cs_G_F hGw338)
                  have hF340 := (cs_G_F hGw338)
                  have hG341 := hGw338
                  have hz342 : ¬ sp_f P a 5 = 0 := sp_f_ne hW hA.2.1 (by omega)
                  have hn343 : ¬ I335 11 11 = 0 := by rw [he337]; exact hz342
                  have hx344 : sp_R K P V (3, a, dp, sk, ld, nm, cs) (.inr (sp_f P a 5)) := sp_R_1 (by
                    show sp_item K P V a dp sk ld nm cs = _
                    first
                    | (exfalso; omega)
                    | (unfold sp_item; repeat (first | rw [if_pos (by omega)] | rw [if_neg (by omega)])))
                  show yi_D zi_Ms d zi_m257 k (124, [(4, .inl 0), (3, .inl 0), (2, .inl (K a)), (0, .inr (.inr (some 11))), (1, .inl (dp : Int))], [], (I335, L, R, Y), 0, 0) _
                  refine yi_D_run 1 (125, [(4, .inl 0), (3, .inl 0), (2, .inl (K a)), (0, .inr (.inr (some 11))), (1, .inl (dp : Int))], [.inr (.inr (some 11))], (I335, L, R, Y), 0, 0) (fun _ => rfl) ?_
                  refine yi_D_gi (v := I335 11 11) rfl rfl rfl rfl (fun _ => ?_)
                  have h345 : ¬ ((I335 11 11) = 0) := by omega
                  refine yi_D_if1 false rfl (yi_eq_f h345) ?_
                  refine yi_D_retv rfl ?_
                  exact ⟨_, _, rfl, hF340, Or.inr ⟨_, hx344, hz342, he337⟩⟩
              · refine yi_D_if2 false rfl (yi_eq_f h280) ?_
                refine yi_D_run 1 (60, [(4, .inl 0), (3, .inl 0), (2, .inl (K a)), (0, .inr (.inr (some 11))), (1, .inl (dp : Int))], [.inl 0], (I, L, R, Y), 0, 0) (fun _ => rfl) ?_
                refine yi_D_if1 false rfl (by decide) ?_
                refine yi_D_run 1 (65, [(4, .inl 0), (3, .inl 0), (2, .inl (K a)), (0, .inr (.inr (some 11))), (1, .inl (dp : Int))], [.inl 0], (I, L, R, Y), 0, 0) (fun _ => rfl) ?_
                refine yi_D_if1 false rfl (by decide) ?_
                refine yi_D_run 2 (70, [(4, .inl 0), (3, .inl 0), (2, .inl (K a)), (0, .inr (.inr (some 11))), (1, .inl (dp : Int))], [.inl 1, .inr (.inr (some 11))], (I, L, R, Y), 0, 0) (fun _ => rfl) ?_
                refine yi_D_callv rfl (p_wrong_z ⟨by omega, by omega⟩ hW hf hA) ?_
                rintro _ ⟨I346, rfl, hg347, he348⟩
                have hGw349 : cs_G I L I346 L := ⟨fun p k hp => hg347 p k (by omega), fun _ _ _ => rfl⟩
                have hW350 := cs_W_t hW (cs_G_F hGw349)
                have hF351 := (cs_G_F hGw349)
                have hG352 := hGw349
                have hz353 : ¬ sp_f P a 1 = 0 := sp_f_ne hW hA.2.1 (by omega)
                have hn354 : ¬ I346 11 11 = 0 := by rw [he348]; exact hz353
                have hx355 : sp_R K P V (3, a, dp, sk, ld, nm, cs) (.inr (sp_f P a 1)) := sp_R_1 (by
                  show sp_item K P V a dp sk ld nm cs = _
                  first
                  | (exfalso; omega)
                  | (unfold sp_item; repeat (first | rw [if_pos (by omega)] | rw [if_neg (by omega)])))
                show yi_D zi_Ms d zi_m257 k (73, [(4, .inl 0), (3, .inl 0), (2, .inl (K a)), (0, .inr (.inr (some 11))), (1, .inl (dp : Int))], [], (I346, L, R, Y), 0, 0) _
                refine yi_D_run 2 (125, [(4, .inl 0), (3, .inl 0), (2, .inl (K a)), (0, .inr (.inr (some 11))), (1, .inl (dp : Int))], [.inr (.inr (some 11))], (I346, L, R, Y), 0, 0) (fun _ => rfl) ?_
                refine yi_D_gi (v := I346 11 11) rfl rfl rfl rfl (fun _ => ?_)
                have h356 : ¬ ((I346 11 11) = 0) := by omega
                refine yi_D_if1 false rfl (yi_eq_f h356) ?_
                refine yi_D_retv rfl ?_
                exact ⟨_, _, rfl, hF351, Or.inr ⟨_, hx355, hz353, he348⟩⟩
