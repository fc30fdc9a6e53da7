/-! The class reader: days, laws, wishes, prices; the whole text. -/
theorem p_readDays {d : Nat} {I L : Nat → Nat → Int} {R : Nat → Nat → Option Nat} {Y : (Nat → Nat) × (Nat → Nat) × Nat} {K P V : Nat → Int} {te q a : Nat} {ld : Nat → Int} {nm : Int → Int} (hW : cs_W I L R Y K P V te q ld nm) (hf : I 11 11 = 0) (hA : cs_A I L K te a) (cs : List (Int × Int)) : yi_P zi_Ms d 253 [.inr (.inr (some 11))] (I, L, R, Y) (cs_QL I L R Y K P V te (0, a, 0, [], ld, nm, cs) q a) := by
  refine yi_P_of (M := zi_m253) rfl (fun d k => ?_)
  obtain ⟨ly1, ly2, ly3, ly4⟩ := hW.2.2.1.2.2.2
  have lb := hW.2.2.2.2.1
  have hq0 := hW.2.2.1.1
  show yi_D zi_Ms d zi_m253 k (0, [(0, .inr (.inr (some 11)))], [], (I, L, R, Y), 0, 0) _
  refine yi_D_run 2 (2, [(0, .inr (.inr (some 11)))], [.inl 4, .inr (.inr (some 11))], (I, L, R, Y), 0, 0) (fun _ => rfl) ?_
  refine yi_D_callv rfl (p_takeKind_z (by omega) hW hf hA) ?_
  rintro _ (⟨c1, I2, L3, rfl, hGa4, hf5, hA6⟩ | ⟨c7, I8, L9, rfl, hGa10, he11⟩)
  · have hA6 : cs_A I2 L3 K te (a + 1) := hA6
    have hW12 := cs_W_t hW (cs_G_F hGa4)
    have hF13 := (cs_G_F hGa4)
    have hG14 := hGa4
    show yi_D zi_Ms d zi_m253 k (5, [(0, .inr (.inr (some 11)))], [], (I2, L3, R, Y), 0, 0) _
    refine yi_D_run 3 (9, [(0, .inr (.inr (some 11)))], [.inl 6, .inl 1, .inr (.inr (some 11))], (I2, L3, R, Y), 0, 0) (fun _ => rfl) ?_
    refine yi_D_callv rfl (p_takeNumber_z (lo := 1) (hi := 6) hW12 hf5 hA6) ?_
    rintro _ (⟨c15, c16, I17, L18, rfl, hGa19, hf20, hA21⟩ | ⟨c22, z27, I23, L24, rfl, hGa25, he26⟩ | ⟨c28, z33, I29, L30, rfl, hGa31, he32⟩)
    · have hA21 : cs_A I17 L18 K te (a + 2) := hA21
      have hW34 := cs_W_t hW12 (cs_G_F hGa19)
      have hF35 := cs_F_t hF13 (cs_G_F hGa19)
      have hG36 := cs_G_t hG14 hGa19
      show yi_D zi_Ms d zi_m253 k (12, [(0, .inr (.inr (some 11)))], [.inl (V (a + 1))], (I17, L18, R, Y), 0, 0) _
      refine yi_D_run 3 (16, [(1, .inl (V (a + 1))), (0, .inr (.inr (some 11)))], [.inl 59, .inr (.inr (some 11))], (I17, L18, R, Y), 0, 0) (fun _ => rfl) ?_
      have hR37 : sp_R K P V (0, a, 0, [], ld, nm, cs) (.inl (1, a + 2, 0, [], sp_up ld 0 (V (a + 1)), nm, cs)) := sp_R_1 (by
        show sp_s0 K P V a ld nm cs = _
        unfold sp_s0
        repeat (first | rw [if_pos (by omega)] | rw [if_neg (by omega)]))
      refine yi_D_callv rfl (p_takeKind_z (by omega) hW34 hf20 hA21) ?_
      rintro _ (⟨c38, I39, L40, rfl, hGa41, hf42, hA43⟩ | ⟨c44, I45, L46, rfl, hGa47, he48⟩)
      · have hA43 : cs_A I39 L40 K te (a + 3) := hA43
        have hW49 := cs_W_t hW34 (cs_G_F hGa41)
        have hF50 := cs_F_t hF35 (cs_G_F hGa41)
        have hG51 := cs_G_t hG36 hGa41
        have hR52 : sp_R K P V (0, a, 0, [], ld, nm, cs) (.inl (2, (a + 2) + 1, 0, [], sp_up ld 0 (V (a + 1)), nm, cs)) := sp_R_s hR37 (by
          show (if K _ = 59 then _ else _) = _
          rw [if_pos (by omega)])
        show yi_D zi_Ms d zi_m253 k (19, [(1, .inl (V (a + 1))), (0, .inr (.inr (some 11)))], [], (I39, L40, R, Y), 0, 0) _
        refine yi_D_run 1 (20, [(1, .inl (V (a + 1))), (0, .inr (.inr (some 11)))], [.inr (.inr (some 11))], (I39, L40, R, Y), 0, 0) (fun _ => rfl) ?_
        refine yi_D_gi (v := 0) rfl rfl rfl hf42 (fun _ => ?_)
        refine yi_D_if1 false rfl (by decide) ?_
        refine yi_D_run 1 (27, [(1, .inl (V (a + 1))), (0, .inr (.inr (some 11)))], [.inr (.inr (some 11))], (I39, L40, R, Y), 0, 0) (fun _ => rfl) ?_
        refine yi_D_gr (v := some q) rfl rfl rfl hW.2.2.1.2.1 (fun _ => ?_)
        refine yi_D_run 1 (31, [(1, .inl (V (a + 1))), (0, .inr (.inr (some 11)))], [.inl (V (a + 1)), .inr (.inr (some q))], (I39, L40, R, Y), 0, 0) (fun _ => rfl) ?_
        refine yi_D_pi rfl (fun _ => ?_)
        generalize w54 : yi_u I39 q 14 (V (a + 1)) = I53
        refine yi_D_retv rfl ?_
        have hfin := cs_fin (I2 := I53) (L2 := L40) hF50 hW49 hf42 hA43 (fun p k _ h => ⟨by rw [← w54, yi_u_ne _ _ (by omega)], rfl⟩) (fun _ _ _ => rfl) ⟨Nat.le_refl _, fun _ _ => ⟨rfl, rfl⟩⟩ (cs_Ld_days (v := V (a + 1)) hW49.2.2 ⟨by omega, by omega⟩ (by rw [← w54, yi_u_eq]) (fun p k hp => by rw [← w54, yi_u_ne _ _ hp]))
        exact ⟨_, _, _, _, _, _, rfl, hfin.1, Or.inl ⟨_, _, _, _, hR52, by omega, hfin.2.1, hfin.2.2.1, hfin.2.2.2⟩⟩
      · have hW55 := cs_W_t hW34 (cs_G_F hGa47)
        have hF56 := cs_F_t hF35 (cs_G_F hGa47)
        have hG57 := cs_G_t hG36 hGa47
        have hz58 : ¬ sp_f P (a + 2) 1 = 0 := sp_f_ne hW34 hA21.2.1 (by omega)
        have hn59 : ¬ I45 11 11 = 0 := by rw [he48]; exact hz58
        have hx60 : sp_R K P V (0, a, 0, [], ld, nm, cs) (.inr (sp_f P (a + 2) 1)) := sp_R_s hR37 (by
          show (if K _ = 59 then _ else _) = _
          rw [if_neg (by omega)])
        show yi_D zi_Ms d zi_m253 k (19, [(1, .inl (V (a + 1))), (0, .inr (.inr (some 11)))], [], (I45, L46, R, Y), 0, 0) _
        refine yi_D_run 1 (20, [(1, .inl (V (a + 1))), (0, .inr (.inr (some 11)))], [.inr (.inr (some 11))], (I45, L46, R, Y), 0, 0) (fun _ => rfl) ?_
        refine yi_D_gi (v := I45 11 11) rfl rfl rfl rfl (fun _ => ?_)
        have h61 : ¬ ((I45 11 11) = 0) := by omega
        refine yi_D_if1 true rfl (yi_ne_t h61) ?_
        refine yi_D_retv rfl ?_
        exact ⟨_, _, _, _, _, _, rfl, cs_H_F hF56, Or.inr ⟨_, hx60, hz58, he48⟩⟩
    · have hW62 := cs_W_t hW12 (cs_G_F hGa25)
      have hF63 := cs_F_t hF13 (cs_G_F hGa25)
      have hG64 := cs_G_t hG14 hGa25
      have hz65 : ¬ sp_f P (a + 1) 1 = 0 := sp_f_ne hW12 hA6.2.1 (by omega)
      have hn66 : ¬ I23 11 11 = 0 := by rw [he26]; exact hz65
      have hx67 : sp_R K P V (0, a, 0, [], ld, nm, cs) (.inr (sp_f P (a + 1) 1)) := sp_R_1 (by
        show sp_s0 K P V a ld nm cs = _
        first
        | (exfalso; omega)
        | (unfold sp_s0; repeat (first | rw [if_pos (by omega)] | rw [if_neg (by omega)])))
      show yi_D zi_Ms d zi_m253 k (12, [(0, .inr (.inr (some 11)))], [.inl z27], (I23, L24, R, Y), 0, 0) _
      refine yi_D_run 3 (16, [(1, .inl z27), (0, .inr (.inr (some 11)))], [.inl 59, .inr (.inr (some 11))], (I23, L24, R, Y), 0, 0) (fun _ => rfl) ?_
      
      refine yi_D_callv rfl (p_takeKind_f hW62 hn66) ?_
      rintro _ rfl
      show yi_D zi_Ms d zi_m253 k (19, [(1, .inl z27), (0, .inr (.inr (some 11)))], [], (I23, L24, R, Y), 0, 0) _
      refine yi_D_run 1 (20, [(1, .inl z27), (0, .inr (.inr (some 11)))], [.inr (.inr (some 11))], (I23, L24, R, Y), 0, 0) (fun _ => rfl) ?_
      refine yi_D_gi (v := I23 11 11) rfl rfl rfl rfl (fun _ => ?_)
      have h68 : ¬ ((I23 11 11) = 0) := by omega
      refine yi_D_if1 true rfl (yi_ne_t h68) ?_
      refine yi_D_retv rfl ?_
      exact ⟨_, _, _, _, _, _, rfl, cs_H_F hF63, Or.inr ⟨_, hx67, hz65, he26⟩⟩
    · have hW69 := cs_W_t hW12 (cs_G_F hGa31)
      have hF70 := cs_F_t hF13 (cs_G_F hGa31)
      have hG71 := cs_G_t hG14 hGa31
      have hz72 : ¬ sp_f P (a + 1) 4 = 0 := sp_f_ne hW12 hA6.2.1 (by omega)
      have hn73 : ¬ I29 11 11 = 0 := by rw [he32]; exact hz72
      have hx74 : sp_R K P V (0, a, 0, [], ld, nm, cs) (.inr (sp_f P (a + 1) 4)) := sp_R_1 (by
        show sp_s0 K P V a ld nm cs = _
        first
        | (exfalso; omega)
        | (unfold sp_s0; repeat (first | rw [if_pos (by omega)] | rw [if_neg (by omega)])))
      show yi_D zi_Ms d zi_m253 k (12, [(0, .inr (.inr (some 11)))], [.inl z33], (I29, L30, R, Y), 0, 0) _
      refine yi_D_run 3 (16, [(1, .inl z33), (0, .inr (.inr (some 11)))], [.inl 59, .inr (.inr (some 11))], (I29, L30, R, Y), 0, 0) (fun _ => rfl) ?_
      
      refine yi_D_callv rfl (p_takeKind_f hW69 hn73) ?_
      rintro _ rfl
      show yi_D zi_Ms d zi_m253 k (19, [(1, .inl z33), (0, .inr (.inr (some 11)))], [], (I29, L30, R, Y), 0, 0) _
      refine yi_D_run 1 (20, [(1, .inl z33), (0, .inr (.inr (some 11)))], [.inr (.inr (some 11))], (I29, L30, R, Y), 0, 0) (fun _ => rfl) ?_
      refine yi_D_gi (v := I29 11 11) rfl rfl rfl rfl (fun _ => ?_)
      have h75 : ¬ ((I29 11 11) = 0) := by omega
      refine yi_D_if1 true rfl (yi_ne_t h75) ?_
      refine yi_D_retv rfl ?_
      exact ⟨_, _, _, _, _, _, rfl, cs_H_F hF70, Or.inr ⟨_, hx74, hz72, he32⟩⟩
  · have hW76 := cs_W_t hW (cs_G_F hGa10)
    have hF77 := (cs_G_F hGa10)
    have hG78 := hGa10
    have hz79 : ¬ sp_f P a 1 = 0 := sp_f_ne hW hA.2.1 (by omega)
    have hn80 : ¬ I8 11 11 = 0 := by rw [he11]; exact hz79
    have hx81 : sp_R K P V (0, a, 0, [], ld, nm, cs) (.inr (sp_f P a 1)) := sp_R_1 (by
      show sp_s0 K P V a ld nm cs = _
      first
      | (exfalso; omega)
      | (unfold sp_s0; repeat (first | rw [if_pos (by omega)] | rw [if_neg (by omega)])))
    show yi_D zi_Ms d zi_m253 k (5, [(0, .inr (.inr (some 11)))], [], (I8, L9, R, Y), 0, 0) _
    refine yi_D_run 3 (9, [(0, .inr (.inr (some 11)))], [.inl 6, .inl 1, .inr (.inr (some 11))], (I8, L9, R, Y), 0, 0) (fun _ => rfl) ?_
    refine yi_D_callv rfl (p_takeNumber_f hW76 hn80) ?_
    rintro _ ⟨z82, rfl⟩
    show yi_D zi_Ms d zi_m253 k (12, [(0, .inr (.inr (some 11)))], [.inl z82], (I8, L9, R, Y), 0, 0) _
    refine yi_D_run 3 (16, [(1, .inl z82), (0, .inr (.inr (some 11)))], [.inl 59, .inr (.inr (some 11))], (I8, L9, R, Y), 0, 0) (fun _ => rfl) ?_
    
    refine yi_D_callv rfl (p_takeKind_f hW76 hn80) ?_
    rintro _ rfl
    show yi_D zi_Ms d zi_m253 k (19, [(1, .inl z82), (0, .inr (.inr (some 11)))], [], (I8, L9, R, Y), 0, 0) _
    refine yi_D_run 1 (20, [(1, .inl z82), (0, .inr (.inr (some 11)))], [.inr (.inr (some 11))], (I8, L9, R, Y), 0, 0) (fun _ => rfl) ?_
    refine yi_D_gi (v := I8 11 11) rfl rfl rfl rfl (fun _ => ?_)
    have h83 : ¬ ((I8 11 11) = 0) := by omega
    refine yi_D_if1 true rfl (yi_ne_t h83) ?_
    refine yi_D_retv rfl ?_
    exact ⟨_, _, _, _, _, _, rfl, cs_H_F hF77, Or.inr ⟨_, hx81, hz79, he11⟩⟩
theorem p_readLaw {d : Nat} {I L : Nat → Nat → Int} {R : Nat → Nat → Option Nat} {Y : (Nat → Nat) × (Nat → Nat) × Nat} {K P V : Nat → Int} {te q a : Nat} {ld : Nat → Int} {nm : Int → Int} (hW : cs_W I L R Y K P V te q ld nm) (hf : I 11 11 = 0) (hA : cs_A I L K te a) (cs : List (Int × Int)) (hk : K a = 10) : yi_P zi_Ms d 259 [.inr (.inr (some 11))] (I, L, R, Y) (cs_QL I L R Y K P V te (2, a, 0, [], ld, nm, cs) q a) := by
  refine yi_P_of (M := zi_m259) rfl (fun d k => ?_)
  obtain ⟨ly1, ly2, ly3, ly4⟩ := hW.2.2.1.2.2.2
  have lb := hW.2.2.2.2.1
  have hq0 := hW.2.2.1.1
  show yi_D zi_Ms d zi_m259 k (0, [(0, .inr (.inr (some 11)))], [], (I, L, R, Y), 0, 0) _
  refine yi_D_run 1 (1, [(0, .inr (.inr (some 11)))], [.inr (.inr (some 11))], (I, L, R, Y), 0, 0) (fun _ => rfl) ?_
  refine yi_D_gr (v := some q) rfl rfl rfl hW.2.2.1.2.1 (fun _ => ?_)
  refine yi_D_gi (v := ld 4) rfl rfl (Nat.ble_eq_true_of_le (by omega)) hW.2.2.2.1.2.2.2.2.1 (fun _ => ?_)
  refine yi_D_run 1 (8, [(0, .inr (.inr (some 11)))], [.inl 4, .inl (ld 4)], (I, L, R, Y), 0, 0) (fun _ => rfl) ?_
  by_cases h1 : (ld 4) < 4
  · refine yi_D_if2 true rfl (yi_lt_t h1) ?_
    refine yi_D_run 2 (19, [(0, .inr (.inr (some 11)))], [.inl 10, .inr (.inr (some 11))], (I, L, R, Y), 0, 0) (fun _ => rfl) ?_
    refine yi_D_callv rfl (p_takeKind_z (by omega) hW hf hA) ?_
    rintro _ (⟨c2, I3, L4, rfl, hGa5, hf6, hA7⟩ | ⟨c8, I9, L10, rfl, hGa11, he12⟩)
    · have hA7 : cs_A I3 L4 K te (a + 1) := hA7
      have hW13 := cs_W_t hW (cs_G_F hGa5)
      have hF14 := (cs_G_F hGa5)
      have hG15 := hGa5
      show yi_D zi_Ms d zi_m259 k (22, [(0, .inr (.inr (some 11)))], [], (I3, L4, R, Y), 0, 0) _
      refine yi_D_run 1 (23, [(0, .inr (.inr (some 11)))], [.inr (.inr (some 11))], (I3, L4, R, Y), 0, 0) (fun _ => rfl) ?_
      have r16 : I3 11 3 = I 11 3 := by rw [hGa5.1 11 3 (by omega)]
      refine yi_D_gi (v := I 11 3) rfl rfl rfl r16 (fun _ => ?_)
      refine yi_D_run 3 (29, [(1, .inl (I 11 3)), (0, .inr (.inr (some 11)))], [.inl 0, .inr (.inr (some 11))], (I3, L4, R, Y), 0, 0) (fun _ => rfl) ?_
      have hst17 : sp_R K P V (2, a, 0, [], ld, nm, cs) (.inl (3, a + 1, 0, [10, 20], sp_up ld (21 + (ld 4).toNat) cs.length, nm, cs)) := sp_R_1 (by
        show sp_line K P V a ld nm cs = _
        unfold sp_line
        repeat (first | rw [if_pos (by omega)] | rw [if_neg (by omega)]))
      have hW18 := cs_W_ld (ld' := sp_up ld (21 + (ld 4).toNat) cs.length) hW13 (fun j hj => by repeat rw [sp_up_n _ _ (by omega)])
      refine yi_D_callv rfl (p_readFormula_z 0 [20] cs hW18 hf6 hA7 (by omega)) ?_
      rintro _ ⟨I19, L20, rfl, hFr21, (⟨a22, cs23, hR24, lt25, hf26, hA27⟩ | ⟨f28, hR29, hz30, he31⟩)⟩
      · have hW32 := cs_W_t hW18 hFr21
        have hF33 := cs_F_t hF14 hFr21
        have hF34 : ∀ p k, (p ≠ 11 ∧ p ≠ 19) → I19 p k = I3 p k := fun p k h => hFr21.1 p k h.1 h.2
        have hR35 : sp_R K P V (2, a, 0, [], ld, nm, cs) (.inl (1, a22, 0, [], sp_up (sp_up ld (21 + (ld 4).toNat) cs.length) 4 ((sp_up ld (21 + (ld 4).toNat) cs.length) 4 + 1), nm, cs23 ++ [(0, 0)])) := sp_R_s (sp_R_t hst17 hR24) rfl
        show yi_D zi_Ms d zi_m259 k (32, [(1, .inl (I 11 3)), (0, .inr (.inr (some 11)))], [], (I19, L20, R, Y), 0, 0) _
        refine yi_D_run 2 (35, [(1, .inl (I 11 3)), (0, .inr (.inr (some 11)))], [.inl 59, .inr (.inr (some 11))], (I19, L20, R, Y), 0, 0) (fun _ => rfl) ?_
        refine yi_D_callv rfl (p_takeKind_z (by omega) hW32 hf26 hA27) ?_
        rintro _ (⟨c36, I37, L38, rfl, hGa39, hf40, hA41⟩ | ⟨c42, I43, L44, rfl, hGa45, he46⟩)
        · have hA41 : cs_A I37 L38 K te (a22 + 1) := hA41
          have hW47 := cs_W_t hW32 (cs_G_F hGa39)
          have hF48 := cs_F_t hF33 (cs_G_F hGa39)
          have hR49 : sp_R K P V (2, a, 0, [], ld, nm, cs) (.inl (2, a22 + 1, 0, [], sp_up (sp_up ld (21 + (ld 4).toNat) cs.length) 4 ((sp_up ld (21 + (ld 4).toNat) cs.length) 4 + 1), nm, cs23 ++ [(0, 0)])) := sp_R_s hR35 (by
            show (if K _ = 59 then _ else _) = _
            rw [if_pos (by omega)])
          show yi_D zi_Ms d zi_m259 k (38, [(1, .inl (I 11 3)), (0, .inr (.inr (some 11)))], [], (I37, L38, R, Y), 0, 0) _
          refine yi_D_run 1 (39, [(1, .inl (I 11 3)), (0, .inr (.inr (some 11)))], [.inr (.inr (some 11))], (I37, L38, R, Y), 0, 0) (fun _ => rfl) ?_
          refine yi_D_gi (v := 0) rfl rfl rfl hf40 (fun _ => ?_)
          refine yi_D_if1 false rfl (by decide) ?_
          refine yi_D_run 1 (46, [(1, .inl (I 11 3)), (0, .inr (.inr (some 11)))], [.inr (.inr (some 11))], (I37, L38, R, Y), 0, 0) (fun _ => rfl) ?_
          refine yi_D_gr (v := some q) rfl rfl rfl hW.2.2.1.2.1 (fun _ => ?_)
          refine yi_D_run 2 (51, [(1, .inl (I 11 3)), (0, .inr (.inr (some 11)))], [.inr (.inr (some 11)), .inl (I 11 3), .inr (.inr (some q))], (I37, L38, R, Y), 0, 0) (fun _ => rfl) ?_
          have r50 : I37 11 3 = I19 11 3 := by rw [hGa39.1 11 3 (by omega)]
          refine yi_D_gi (v := I19 11 3) rfl rfl rfl r50 (fun _ => ?_)
          have h54 : (sp_up ld (21 + (ld 4).toNat) cs.length) 4 < 4 := by
            repeat rw [sp_up_n _ _ (by omega)]
            omega
          refine yi_D_callv rfl (p_addLaw hW47 h54) ?_
          rintro _ ⟨I51, rfl, ho52, e53⟩
          show yi_D zi_Ms d zi_m259 k (57, [(1, .inl (I 11 3)), (0, .inr (.inr (some 11)))], [], (I51, L38, R, Y), 0, 0) _
          refine yi_D_retv rfl ?_
          have hfin := cs_fin hF48 hW47 hf40 hA41 (fun p k _ h => ⟨ho52 p k (by omega), rfl⟩) (fun _ _ _ => rfl) ⟨Nat.le_refl _, fun _ _ => ⟨rfl, rfl⟩⟩ (cs_Ld_law hW47.2.2 h54 e53 ho52)
          exact ⟨_, _, _, _, _, _, rfl, hfin.1, Or.inl ⟨_, _, _, _, hR49, by omega, hfin.2.1, hfin.2.2.1, hfin.2.2.2⟩⟩
        · have hW55 := cs_W_t hW32 (cs_G_F hGa45)
          have hF56 := cs_F_t hF33 (cs_G_F hGa45)
          have hz57 : ¬ sp_f P a22 1 = 0 := sp_f_ne hW32 hA27.2.1 (by omega)
          have hn58 : ¬ I43 11 11 = 0 := by rw [he46]; exact hz57
          have hx59 : sp_R K P V (2, a, 0, [], ld, nm, cs) (.inr (sp_f P a22 1)) := sp_R_s hR35 (by
            show (if K _ = 59 then _ else _) = _
            rw [if_neg (by omega)])
          show yi_D zi_Ms d zi_m259 k (38, [(1, .inl (I 11 3)), (0, .inr (.inr (some 11)))], [], (I43, L44, R, Y), 0, 0) _
          refine yi_D_run 1 (39, [(1, .inl (I 11 3)), (0, .inr (.inr (some 11)))], [.inr (.inr (some 11))], (I43, L44, R, Y), 0, 0) (fun _ => rfl) ?_
          refine yi_D_gi (v := I43 11 11) rfl rfl rfl rfl (fun _ => ?_)
          have h60 : ¬ ((I43 11 11) = 0) := by omega
          refine yi_D_if1 true rfl (yi_ne_t h60) ?_
          refine yi_D_retv rfl ?_
          exact ⟨_, _, _, _, _, _, rfl, cs_H_F hF56, Or.inr ⟨_, hx59, hz57, he46⟩⟩
      · have hW61 := cs_W_t hW18 hFr21
        have hF62 := cs_F_t hF14 hFr21
        have hF63 : ∀ p k, (p ≠ 11 ∧ p ≠ 19) → I19 p k = I3 p k := fun p k h => hFr21.1 p k h.1 h.2
        have hn64 : ¬ I19 11 11 = 0 := by rw [he31]; exact hz30
        have hx65 : sp_R K P V (2, a, 0, [], ld, nm, cs) (.inr f28) := sp_R_t hst17 hR29
        show yi_D zi_Ms d zi_m259 k (32, [(1, .inl (I 11 3)), (0, .inr (.inr (some 11)))], [], (I19, L20, R, Y), 0, 0) _
        refine yi_D_run 2 (35, [(1, .inl (I 11 3)), (0, .inr (.inr (some 11)))], [.inl 59, .inr (.inr (some 11))], (I19, L20, R, Y), 0, 0) (fun _ => rfl) ?_
        refine yi_D_callv rfl (p_takeKind_f hW61 hn64) ?_
        rintro _ rfl
        show yi_D zi_Ms d zi_m259 k (38, [(1, .inl (I 11 3)), (0, .inr (.inr (some 11)))], [], (I19, L20, R, Y), 0, 0) _
        refine yi_D_run 1 (39, [(1, .inl (I 11 3)), (0, .inr (.inr (some 11)))], [.inr (.inr (some 11))], (I19, L20, R, Y), 0, 0) (fun _ => rfl) ?_
        refine yi_D_gi (v := I19 11 11) rfl rfl rfl rfl (fun _ => ?_)
        have h66 : ¬ ((I19 11 11) = 0) := by omega
        refine yi_D_if1 true rfl (yi_ne_t h66) ?_
        refine yi_D_retv rfl ?_
        exact ⟨_, _, _, _, _, _, rfl, cs_H_F hF62, Or.inr ⟨_, hx65, hz30, he31⟩⟩
    · exfalso; omega
  · refine yi_D_if2 false rfl (yi_lt_f h1) ?_
    refine yi_D_run 2 (13, [(0, .inr (.inr (some 11)))], [.inl 5, .inr (.inr (some 11))], (I, L, R, Y), 0, 0) (fun _ => rfl) ?_
    refine yi_D_callv rfl (p_wrong_z ⟨by omega, by omega⟩ hW hf hA) ?_
    rintro _ ⟨I67, rfl, hg68, he69⟩
    have hGw70 : cs_G I L I67 L := ⟨fun p k hp => hg68 p k (by omega), fun _ _ _ => rfl⟩
    have hW71 := cs_W_t hW (cs_G_F hGw70)
    have hF72 := (cs_G_F hGw70)
    have hG73 := hGw70
    have hz74 : ¬ sp_f P a 5 = 0 := sp_f_ne hW hA.2.1 (by omega)
    have hn75 : ¬ I67 11 11 = 0 := by rw [he69]; exact hz74
    have hx76 : sp_R K P V (2, a, 0, [], ld, nm, cs) (.inr (sp_f P a 5)) := sp_R_1 (by
      show sp_line K P V a ld nm cs = _
      first
      | (exfalso; omega)
      | (unfold sp_line; repeat (first | rw [if_pos (by omega)] | rw [if_neg (by omega)])))
    show yi_D zi_Ms d zi_m259 k (16, [(0, .inr (.inr (some 11)))], [], (I67, L, R, Y), 0, 0) _
    refine yi_D_run 2 (19, [(0, .inr (.inr (some 11)))], [.inl 10, .inr (.inr (some 11))], (I67, L, R, Y), 0, 0) (fun _ => rfl) ?_
    refine yi_D_callv rfl (p_takeKind_f hW71 hn75) ?_
    rintro _ rfl
    show yi_D zi_Ms d zi_m259 k (22, [(0, .inr (.inr (some 11)))], [], (I67, L, R, Y), 0, 0) _
    refine yi_D_run 1 (23, [(0, .inr (.inr (some 11)))], [.inr (.inr (some 11))], (I67, L, R, Y), 0, 0) (fun _ => rfl) ?_
    have r77 : I67 11 3 = I 11 3 := by rw [hGw70.1 11 3 (by omega)]
    refine yi_D_gi (v := I 11 3) rfl rfl rfl r77 (fun _ => ?_)
    refine yi_D_run 3 (29, [(1, .inl (I 11 3)), (0, .inr (.inr (some 11)))], [.inl 0, .inr (.inr (some 11))], (I67, L, R, Y), 0, 0) (fun _ => rfl) ?_
    refine yi_D_callv rfl (p_readFormula_f hW71 hn75) ?_
    rintro _ rfl
    show yi_D zi_Ms d zi_m259 k (32, [(1, .inl (I 11 3)), (0, .inr (.inr (some 11)))], [], (I67, L, R, Y), 0, 0) _
    refine yi_D_run 2 (35, [(1, .inl (I 11 3)), (0, .inr (.inr (some 11)))], [.inl 59, .inr (.inr (some 11))], (I67, L, R, Y), 0, 0) (fun _ => rfl) ?_
    refine yi_D_callv rfl (p_takeKind_f hW71 hn75) ?_
    rintro _ rfl
    show yi_D zi_Ms d zi_m259 k (38, [(1, .inl (I 11 3)), (0, .inr (.inr (some 11)))], [], (I67, L, R, Y), 0, 0) _
    refine yi_D_run 1 (39, [(1, .inl (I 11 3)), (0, .inr (.inr (some 11)))], [.inr (.inr (some 11))], (I67, L, R, Y), 0, 0) (fun _ => rfl) ?_
    refine yi_D_gi (v := I67 11 11) rfl rfl rfl rfl (fun _ => ?_)
    have h78 : ¬ ((I67 11 11) = 0) := by omega
    refine yi_D_if1 true rfl (yi_ne_t h78) ?_
    refine yi_D_retv rfl ?_
    exact ⟨_, _, _, _, _, _, rfl, cs_H_F hF72, Or.inr ⟨_, hx76, hz74, he69⟩⟩
theorem p_isProphet_w {d : Nat} {I L : Nat → Nat → Int} {R : Nat → Nat → Option Nat} {Y : (Nat → Nat) × (Nat → Nat) × Nat} {x : Int} {K P V : Nat → Int} {te q : Nat} {ld : Nat → Int} {nm : Int → Int} (hW : cs_W I L R Y K P V te q ld nm) : yi_P zi_Ms d 231 [.inr (.inr (some q)), .inl x] (I, L, R, Y) (fun r => ∃ z, r = (some (.inl z), (I, L, R, Y), 0, 0)) := by
  refine yi_P_of (M := zi_m231) rfl (fun d k => ?_)
  obtain ⟨ly1, ly2, ly3, ly4⟩ := hW.2.2.1.2.2.2
  have lb := hW.2.2.2.2.1
  have hq0 := hW.2.2.1.1
  show yi_D zi_Ms d zi_m231 k (0, [(0, .inr (.inr (some q))), (1, .inl x)], [], (I, L, R, Y), 0, 0) _
  refine yi_D_run 1 (1, [(0, .inr (.inr (some q))), (1, .inl x)], [.inl x], (I, L, R, Y), 0, 0) (fun _ => rfl) ?_
  by_cases h1 : x < 0
  · refine yi_D_if1 true rfl (yi_lt_t h1) ?_
    refine yi_D_run 1 (22, [(0, .inr (.inr (some q))), (1, .inl x)], [.inl 0], (I, L, R, Y), 0, 0) (fun _ => rfl) ?_
    refine yi_D_reti rfl ?_
    exact ⟨_, rfl⟩
  · refine yi_D_if1 false rfl (yi_lt_f h1) ?_
    refine yi_D_run 2 (6, [(0, .inr (.inr (some q))), (1, .inl x)], [.inr (.inr (some q)), .inl x], (I, L, R, Y), 0, 0) (fun _ => rfl) ?_
    refine yi_D_gi (v := ld 3) rfl rfl (Nat.ble_eq_true_of_le (by omega)) hW.2.2.2.1.2.2.2.1 (fun _ => ?_)
    by_cases h2 : (ld 3) ≤ x
    · refine yi_D_if2 true rfl (yi_ge_t h2) ?_
      refine yi_D_run 1 (22, [(0, .inr (.inr (some q))), (1, .inl x)], [.inl 0], (I, L, R, Y), 0, 0) (fun _ => rfl) ?_
      refine yi_D_reti rfl ?_
      exact ⟨_, rfl⟩
    · refine yi_D_if2 false rfl (yi_ge_f h2) ?_
      refine yi_D_run 2 (14, [(0, .inr (.inr (some q))), (1, .inl x)], [.inl 5, .inl x], (I, L, R, Y), 0, 0) (fun _ => rfl) ?_
      by_cases h3 : 5 ≤ x
      · refine yi_D_if2 true rfl (yi_ge_t h3) ?_
        refine yi_D_run 1 (22, [(0, .inr (.inr (some q))), (1, .inl x)], [.inl 0], (I, L, R, Y), 0, 0) (fun _ => rfl) ?_
        refine yi_D_reti rfl ?_
        exact ⟨_, rfl⟩
      · refine yi_D_if2 false rfl (yi_ge_f h3) ?_
        refine yi_D_run 2 (22, [(0, .inr (.inr (some q))), (1, .inl x)], [.inl 1], (I, L, R, Y), 0, 0) (fun _ => rfl) ?_
        refine yi_D_reti rfl ?_
        exact ⟨_, rfl⟩
theorem p_kindOf_w {d : Nat} {I L : Nat → Nat → Int} {R : Nat → Nat → Option Nat} {Y : (Nat → Nat) × (Nat → Nat) × Nat} {x : Int} {K P V : Nat → Int} {te q : Nat} {ld : Nat → Int} {nm : Int → Int} (hW : cs_W I L R Y K P V te q ld nm) : yi_P zi_Ms d 234 [.inr (.inr (some q)), .inl x] (I, L, R, Y) (fun r => ∃ z, r = (some (.inl z), (I, L, R, Y), 0, 0)) := by
  refine yi_P_of (M := zi_m234) rfl (fun d k => ?_)
  obtain ⟨ly1, ly2, ly3, ly4⟩ := hW.2.2.1.2.2.2
  have lb := hW.2.2.2.2.1
  have hq0 := hW.2.2.1.1
  show yi_D zi_Ms d zi_m234 k (0, [(0, .inr (.inr (some q))), (1, .inl x)], [], (I, L, R, Y), 0, 0) _
  refine yi_D_run 2 (2, [(0, .inr (.inr (some q))), (1, .inl x)], [.inl x, .inr (.inr (some q))], (I, L, R, Y), 0, 0) (fun _ => rfl) ?_
  refine yi_D_callv rfl (p_isProphet_w hW) ?_
  rintro _ ⟨zz, rfl⟩
  show yi_D zi_Ms d zi_m234 k (5, [(0, .inr (.inr (some q))), (1, .inl x)], [.inl zz], (I, L, R, Y), 0, 0) _
  by_cases h1 : zz = 0
  · refine yi_D_if1 true rfl (yi_eq_t h1) ?_
    refine yi_D_run 1 (18, [(0, .inr (.inr (some q))), (1, .inl x)], [.inl (-1)], (I, L, R, Y), 0, 0) (fun _ => rfl) ?_
    refine yi_D_reti rfl ?_
    exact ⟨_, rfl⟩
  · refine yi_D_if1 false rfl (yi_eq_f h1) ?_
    refine yi_D_run 1 (9, [(0, .inr (.inr (some q))), (1, .inl x)], [.inr (.inr (some q))], (I, L, R, Y), 0, 0) (fun _ => rfl) ?_
    refine yi_D_gr (v := some (q + 5)) rfl rfl (Nat.ble_eq_true_of_le (by omega)) (hW.2.2.1.2.2.1 4 (by omega)) (fun _ => ?_)
    refine yi_D_run 1 (13, [(0, .inr (.inr (some q))), (1, .inl x)], [.inl x, .inr (.inr (some (q + 5)))], (I, L, R, Y), 0, 0) (fun _ => rfl) ?_
    refine yi_D_il (v := I (q + 5) (x.toNat)) rfl (Nat.ble_eq_true_of_le (by omega)) rfl (fun _ _ => ?_)
    refine yi_D_run 1 (18, [(0, .inr (.inr (some q))), (1, .inl x)], [.inl (I (q + 5) (x.toNat))], (I, L, R, Y), 0, 0) (fun _ => rfl) ?_
    refine yi_D_reti rfl ?_
    exact ⟨_, rfl⟩
theorem p_readWish {d : Nat} {I L : Nat → Nat → Int} {R : Nat → Nat → Option Nat} {Y : (Nat → Nat) × (Nat → Nat) × Nat} {K P V : Nat → Int} {te q a : Nat} {ld : Nat → Int} {nm : Int → Int} (hW : cs_W I L R Y K P V te q ld nm) (hf : I 11 11 = 0) (hA : cs_A I L K te a) (cs : List (Int × Int)) (hk : K a = 11) : yi_P zi_Ms d 267 [.inr (.inr (some 11))] (I, L, R, Y) (cs_QL I L R Y K P V te (2, a, 0, [], ld, nm, cs) q a) := by
  refine yi_P_of (M := zi_m267) rfl (fun d k => ?_)
  obtain ⟨ly1, ly2, ly3, ly4⟩ := hW.2.2.1.2.2.2
  have lb := hW.2.2.2.2.1
  have hq0 := hW.2.2.1.1
  have jn138f : ∀ (y4 : Int) (y3 : Int) (y2 : Int) (y1 : Int) (J G : Nat → Nat → Int) (f : Int), cs_F I L J G → J 11 11 = f → ¬ f = 0 → sp_R K P V (2, a, 0, [], ld, nm, cs) (.inr f) → yi_D zi_Ms d zi_m267 k (138, [(4, .inl y4), (3, .inl y3), (2, .inl y2), (1, .inl y1), (0, .inr (.inr (some 11)))], [], (J, G, R, Y), 0, 0) (cs_QL I L R Y K P V te (2, a, 0, [], ld, nm, cs) q a) := by
    intro y4 y3 y2 y1 J G f jF je jn jsp 
    have jW := cs_W_t hW jF
    have jf : ¬ J 11 11 = 0 := by rw [je]; exact jn
    have jF1 : ∀ p k, (p ≠ 11 ∧ p ≠ 19) → J p k = I p k := fun p k h => jF.1 p k h.1 h.2
    have jF2 := jF.2
    refine yi_D_run 1 (139, [(4, .inl y4), (3, .inl y3), (2, .inl y2), (1, .inl y1), (0, .inr (.inr (some 11)))], [.inr (.inr (some 11))], (J, G, R, Y), 0, 0) (fun _ => rfl) ?_
    refine yi_D_gi (v := J 11 11) rfl rfl rfl rfl (fun _ => ?_)
    have h1 : ¬ ((J 11 11) = 0) := by omega
    refine yi_D_if1 true rfl (yi_ne_t h1) ?_
    refine yi_D_retv rfl ?_
    exact ⟨_, _, _, _, _, _, rfl, cs_H_F jF, Or.inr ⟨_, jsp, jn, je⟩⟩
  have jn106f : ∀ (y4 : Int) (y3 : Int) (y2 : Int) (y1 : Int) (J G : Nat → Nat → Int) (f : Int), cs_F I L J G → J 11 11 = f → ¬ f = 0 → sp_R K P V (2, a, 0, [], ld, nm, cs) (.inr f) → yi_D zi_Ms d zi_m267 k (106, [(4, .inl y4), (3, .inl y3), (2, .inl y2), (1, .inl y1), (0, .inr (.inr (some 11)))], [], (J, G, R, Y), 0, 0) (cs_QL I L R Y K P V te (2, a, 0, [], ld, nm, cs) q a) := by
    intro y4 y3 y2 y1 J G f jF je jn jsp 
    have jW := cs_W_t hW jF
    have jf : ¬ J 11 11 = 0 := by rw [je]; exact jn
    have jF1 : ∀ p k, (p ≠ 11 ∧ p ≠ 19) → J p k = I p k := fun p k h => jF.1 p k h.1 h.2
    have jF2 := jF.2
    refine yi_D_run 2 (108, [(4, .inl y4), (3, .inl y3), (2, .inl y2), (1, .inl y1), (0, .inr (.inr (some 11)))], [.inl 2, .inl y2], (J, G, R, Y), 0, 0) (fun _ => rfl) ?_
    by_cases h2 : y2 = 2
    · refine yi_D_if2 false rfl (yi_ne_f h2) ?_
      refine yi_D_run 2 (113, [(4, .inl y4), (3, .inl y3), (2, .inl y2), (1, .inl y1), (0, .inr (.inr (some 11)))], [.inl 1, .inr (.inr (some 11))], (J, G, R, Y), 0, 0) (fun _ => rfl) ?_
      refine yi_D_callv rfl (p_emit jW) ?_
      rintro _ ⟨I3, rfl, hE4⟩
      have hW5 := cs_W_t jW (cs_E_F (L := G) hE4)
      have hF6 := cs_F_t jF (cs_E_F hE4)
      have hf7 : ¬ I3 11 11 = 0 := by rw [hE4 11 11 (by omega) (by omega)]; exact jf
      have he8 := (hE4 11 11 (by omega) (by omega)).trans je
      show yi_D zi_Ms d zi_m267 k (116, [(4, .inl y4), (3, .inl y3), (2, .inl y2), (1, .inl y1), (0, .inr (.inr (some 11)))], [], (I3, G, R, Y), 0, 0) _
      refine yi_D_run 2 (118, [(4, .inl y4), (3, .inl y3), (2, .inl y2), (1, .inl y1), (0, .inr (.inr (some 11)))], [.inl 4, .inl y2], (I3, G, R, Y), 0, 0) (fun _ => rfl) ?_
      have h9 : ¬ (y2 = 4) := by omega
      refine yi_D_if2 true rfl (yi_ne_t h9) ?_
      exact yi_D_mono (jn138f y4 y3 y2 y1 _ _ _ hF6 he8 jn jsp ) (by omega)
    · refine yi_D_if2 true rfl (yi_ne_t h2) ?_
      refine yi_D_run 2 (118, [(4, .inl y4), (3, .inl y3), (2, .inl y2), (1, .inl y1), (0, .inr (.inr (some 11)))], [.inl 4, .inl y2], (J, G, R, Y), 0, 0) (fun _ => rfl) ?_
      by_cases h10 : y2 = 4
      · refine yi_D_if2 false rfl (yi_ne_f h10) ?_
        refine yi_D_run 1 (122, [(4, .inl y4), (3, .inl y3), (2, .inl y2), (1, .inl y1), (0, .inr (.inr (some 11)))], [.inr (.inr (some 11))], (J, G, R, Y), 0, 0) (fun _ => rfl) ?_
        refine yi_D_gi (v := J 11 5) rfl rfl rfl rfl (fun _ => ?_)
        by_cases h11 : (J 11 5) = 0
        · refine yi_D_if1 true rfl (yi_eq_t h11) ?_
          exact yi_D_mono (jn138f y4 y3 y2 y1 _ _ _ jF je jn jsp ) (by omega)
        · refine yi_D_if1 false rfl (yi_eq_f h11) ?_
          refine yi_D_run 2 (130, [(4, .inl y4), (3, .inl y3), (2, .inl y2), (1, .inl y1), (0, .inr (.inr (some 11)))], [.inl 0, .inr (.inr (some 11))], (J, G, R, Y), 0, 0) (fun _ => rfl) ?_
          refine yi_D_callv rfl (p_emit jW) ?_
          rintro _ ⟨I12, rfl, hE13⟩
          have hW14 := cs_W_t jW (cs_E_F (L := G) hE13)
          have hF15 := cs_F_t jF (cs_E_F hE13)
          have hf16 : ¬ I12 11 11 = 0 := by rw [hE13 11 11 (by omega) (by omega)]; exact jf
          have he17 := (hE13 11 11 (by omega) (by omega)).trans je
          show yi_D zi_Ms d zi_m267 k (133, [(4, .inl y4), (3, .inl y3), (2, .inl y2), (1, .inl y1), (0, .inr (.inr (some 11)))], [], (I12, G, R, Y), 0, 0) _
          refine yi_D_run 2 (135, [(4, .inl y4), (3, .inl y3), (2, .inl y2), (1, .inl y1), (0, .inr (.inr (some 11)))], [.inl 2, .inr (.inr (some 11))], (I12, G, R, Y), 0, 0) (fun _ => rfl) ?_
          refine yi_D_callv rfl (p_emit hW14) ?_
          rintro _ ⟨I18, rfl, hE19⟩
          have hW20 := cs_W_t hW14 (cs_E_F (L := G) hE19)
          have hF21 := cs_F_t hF15 (cs_E_F hE19)
          have hf22 : ¬ I18 11 11 = 0 := by rw [hE19 11 11 (by omega) (by omega)]; exact hf16
          have he23 := (hE19 11 11 (by omega) (by omega)).trans he17
          show yi_D zi_Ms d zi_m267 k (138, [(4, .inl y4), (3, .inl y3), (2, .inl y2), (1, .inl y1), (0, .inr (.inr (some 11)))], [], (I18, G, R, Y), 0, 0) _
          exact yi_D_mono (jn138f y4 y3 y2 y1 _ _ _ hF21 he23 jn jsp ) (by omega)
      · refine yi_D_if2 true rfl (yi_ne_t h10) ?_
        exact yi_D_mono (jn138f y4 y3 y2 y1 _ _ _ jF je jn jsp ) (by omega)
  have jn90f : ∀ (y4 : Int) (y3 : Int) (y2 : Int) (y1 : Int) (J G : Nat → Nat → Int) (f : Int), cs_F I L J G → J 11 11 = f → ¬ f = 0 → sp_R K P V (2, a, 0, [], ld, nm, cs) (.inr f) → yi_D zi_Ms d zi_m267 k (90, [(4, .inl y4), (3, .inl y3), (2, .inl y2), (1, .inl y1), (0, .inr (.inr (some 11)))], [], (J, G, R, Y), 0, 0) (cs_QL I L R Y K P V te (2, a, 0, [], ld, nm, cs) q a) := by
    intro y4 y3 y2 y1 J G f jF je jn jsp 
    have jW := cs_W_t hW jF
    have jf : ¬ J 11 11 = 0 := by rw [je]; exact jn
    have jF1 : ∀ p k, (p ≠ 11 ∧ p ≠ 19) → J p k = I p k := fun p k h => jF.1 p k h.1 h.2
    have jF2 := jF.2
    refine yi_D_run 2 (92, [(4, .inl y4), (3, .inl y3), (2, .inl y2), (1, .inl y1), (0, .inr (.inr (some 11)))], [.inl 0, .inr (.inr (some 11))], (J, G, R, Y), 0, 0) (fun _ => rfl) ?_
    refine yi_D_callv rfl (p_readFormula_f jW jf) ?_
    rintro _ rfl
    show yi_D zi_Ms d zi_m267 k (95, [(4, .inl y4), (3, .inl y3), (2, .inl y2), (1, .inl y1), (0, .inr (.inr (some 11)))], [], (J, G, R, Y), 0, 0) _
    refine yi_D_run 2 (97, [(4, .inl y4), (3, .inl y3), (2, .inl y2), (1, .inl y1), (0, .inr (.inr (some 11)))], [.inl 0, .inr (.inr (some 11))], (J, G, R, Y), 0, 0) (fun _ => rfl) ?_
    refine yi_D_pi rfl (fun _ => ?_)
    generalize w25 : yi_u J 11 7 0 = I24
    have hE26 : cs_E J I24 := fun p k hp0 hp1 => by rw [← w25, yi_u_ne _ _ (by omega)]
    have hW27 := cs_W_t jW (cs_E_F (L := G) hE26)
    have hF28 := cs_F_t jF (cs_E_F hE26)
    have hf29 : ¬ I24 11 11 = 0 := by rw [hE26 11 11 (by omega) (by omega)]; exact jf
    have he30 := (hE26 11 11 (by omega) (by omega)).trans je
    refine yi_D_run 2 (103, [(4, .inl y4), (3, .inl y3), (2, .inl y2), (1, .inl y1), (0, .inr (.inr (some 11)))], [.inl 59, .inr (.inr (some 11))], (I24, G, R, Y), 0, 0) (fun _ => rfl) ?_
    refine yi_D_callv rfl (p_takeKind_f hW27 hf29) ?_
    rintro _ rfl
    show yi_D zi_Ms d zi_m267 k (106, [(4, .inl y4), (3, .inl y3), (2, .inl y2), (1, .inl y1), (0, .inr (.inr (some 11)))], [], (I24, G, R, Y), 0, 0) _
    exact yi_D_mono (jn106f y4 y3 y2 y1 _ _ _ hF28 he30 jn jsp ) (by omega)
  have jn51f : ∀ (y2 : Int) (y1 : Int) (J G : Nat → Nat → Int) (f : Int), cs_F I L J G → J 11 11 = f → ¬ f = 0 → sp_R K P V (2, a, 0, [], ld, nm, cs) (.inr f) → yi_D zi_Ms d zi_m267 k (51, [(2, .inl y2), (1, .inl y1), (0, .inr (.inr (some 11)))], [], (J, G, R, Y), 0, 0) (cs_QL I L R Y K P V te (2, a, 0, [], ld, nm, cs) q a) := by
    intro y2 y1 J G f jF je jn jsp 
    have jW := cs_W_t hW jF
    have jf : ¬ J 11 11 = 0 := by rw [je]; exact jn
    have jF1 : ∀ p k, (p ≠ 11 ∧ p ≠ 19) → J p k = I p k := fun p k h => jF.1 p k h.1 h.2
    have jF2 := jF.2
    refine yi_D_run 2 (54, [(2, .inl y2), (1, .inl y1), (0, .inr (.inr (some 11)))], [.inl 12, .inr (.inr (some 11))], (J, G, R, Y), 0, 0) (fun _ => rfl) ?_
    refine yi_D_callv rfl (p_takeKind_f jW jf) ?_
    rintro _ rfl
    show yi_D zi_Ms d zi_m267 k (57, [(2, .inl y2), (1, .inl y1), (0, .inr (.inr (some 11)))], [], (J, G, R, Y), 0, 0) _
    refine yi_D_run 3 (61, [(2, .inl y2), (1, .inl y1), (0, .inr (.inr (some 11)))], [.inl 99, .inl 0, .inr (.inr (some 11))], (J, G, R, Y), 0, 0) (fun _ => rfl) ?_
    refine yi_D_callv rfl (p_takeNumber_f jW jf) ?_
    rintro _ ⟨z31, rfl⟩
    show yi_D zi_Ms d zi_m267 k (64, [(2, .inl y2), (1, .inl y1), (0, .inr (.inr (some 11)))], [.inl z31], (J, G, R, Y), 0, 0) _
    refine yi_D_run 2 (66, [(3, .inl z31), (2, .inl y2), (1, .inl y1), (0, .inr (.inr (some 11)))], [.inr (.inr (some 11))], (J, G, R, Y), 0, 0) (fun _ => rfl) ?_
    
    refine yi_D_gi (v := J 11 3) rfl rfl rfl rfl (fun _ => ?_)
    refine yi_D_run 3 (73, [(4, .inl (J 11 3)), (3, .inl z31), (2, .inl y2), (1, .inl y1), (0, .inr (.inr (some 11)))], [.inl 0, .inr (.inr (some 11))], (J, G, R, Y), 0, 0) (fun _ => rfl) ?_
    refine yi_D_pi rfl (fun _ => ?_)
    generalize w33 : yi_u J 11 5 0 = I32
    have hE34 : cs_E J I32 := fun p k hp0 hp1 => by rw [← w33, yi_u_ne _ _ (by omega)]
    have hW35 := cs_W_t jW (cs_E_F (L := G) hE34)
    have hF36 := cs_F_t jF (cs_E_F hE34)
    have hf37 : ¬ I32 11 11 = 0 := by rw [hE34 11 11 (by omega) (by omega)]; exact jf
    have he38 := (hE34 11 11 (by omega) (by omega)).trans je
    refine yi_D_run 3 (79, [(4, .inl (J 11 3)), (3, .inl z31), (2, .inl y2), (1, .inl y1), (0, .inr (.inr (some 11)))], [.inl 1, .inl y2, .inr (.inr (some 11))], (I32, G, R, Y), 0, 0) (fun _ => rfl) ?_
    by_cases h39 : y2 = 1
    · refine yi_D_if2 false rfl (yi_ne_f h39) ?_
      refine yi_D_run 2 (87, [(4, .inl (J 11 3)), (3, .inl z31), (2, .inl y2), (1, .inl y1), (0, .inr (.inr (some 11)))], [.inl 1, .inr (.inr (some 11))], (I32, G, R, Y), 0, 0) (fun _ => rfl) ?_
      refine yi_D_pi rfl (fun _ => ?_)
      generalize w41 : yi_u I32 11 7 1 = I40
      have hE42 : cs_E I32 I40 := fun p k hp0 hp1 => by rw [← w41, yi_u_ne _ _ (by omega)]
      have hW43 := cs_W_t hW35 (cs_E_F (L := G) hE42)
      have hF44 := cs_F_t hF36 (cs_E_F hE42)
      have hf45 : ¬ I40 11 11 = 0 := by rw [hE42 11 11 (by omega) (by omega)]; exact hf37
      have he46 := (hE42 11 11 (by omega) (by omega)).trans he38
      exact yi_D_mono (jn90f (J 11 3) z31 y2 y1 _ _ _ hF44 he46 jn jsp ) (by omega)
    · refine yi_D_if2 true rfl (yi_ne_t h39) ?_
      refine yi_D_run 1 (87, [(4, .inl (J 11 3)), (3, .inl z31), (2, .inl y2), (1, .inl y1), (0, .inr (.inr (some 11)))], [.inl 0, .inr (.inr (some 11))], (I32, G, R, Y), 0, 0) (fun _ => rfl) ?_
      refine yi_D_pi rfl (fun _ => ?_)
      generalize w48 : yi_u I32 11 7 0 = I47
      have hE49 : cs_E I32 I47 := fun p k hp0 hp1 => by rw [← w48, yi_u_ne _ _ (by omega)]
      have hW50 := cs_W_t hW35 (cs_E_F (L := G) hE49)
      have hF51 := cs_F_t hF36 (cs_E_F hE49)
      have hf52 : ¬ I47 11 11 = 0 := by rw [hE49 11 11 (by omega) (by omega)]; exact hf37
      have he53 := (hE49 11 11 (by omega) (by omega)).trans he38
      exact yi_D_mono (jn90f (J 11 3) z31 y2 y1 _ _ _ hF51 he53 jn jsp ) (by omega)
  have jn90z : ∀ (y4 : Int) (y3 : Int) (y2 : Int) (y1 : Int) (J G : Nat → Nat → Int), cs_F I L J G → J 11 11 = 0 → cs_A J G K te (a + 4) → (sp_R K P V (2, a, 0, [], ld, nm, cs) (.inl (3, a + 4, 0, [10, 21], sp_up (sp_up (sp_up ld (25 + 3 * (ld 5).toNat) (nm (V (a + 1)) - 8)) (26 + 3 * (ld 5).toNat) (V (a + 3))) (27 + 3 * (ld 5).toNat) cs.length, nm, cs))) → (ld 5 < 6) → yi_D zi_Ms d zi_m267 k (90, [(4, .inl y4), (3, .inl y3), (2, .inl y2), (1, .inl y1), (0, .inr (.inr (some 11)))], [], (J, G, R, Y), 0, 0) (cs_QL I L R Y K P V te (2, a, 0, [], ld, nm, cs) q a) := by
    intro y4 y3 y2 y1 J G jF jf jA jR j5
    have jW := cs_W_t hW jF
    have jF1 : ∀ p k, (p ≠ 11 ∧ p ≠ 19) → J p k = I p k := fun p k h => jF.1 p k h.1 h.2
    have jF2 := jF.2
    refine yi_D_run 2 (92, [(4, .inl y4), (3, .inl y3), (2, .inl y2), (1, .inl y1), (0, .inr (.inr (some 11)))], [.inl 0, .inr (.inr (some 11))], (J, G, R, Y), 0, 0) (fun _ => rfl) ?_
    have hW54 := cs_W_ld (ld' := sp_up (sp_up (sp_up ld (25 + 3 * (ld 5).toNat) (nm (V (a + 1)) - 8)) (26 + 3 * (ld 5).toNat) (V (a + 3))) (27 + 3 * (ld 5).toNat) cs.length) jW (fun j hj => by repeat rw [sp_up_n _ _ (by omega)])
    refine yi_D_callv rfl (p_readFormula_z 0 [21] cs hW54 jf jA (by omega)) ?_
    rintro _ ⟨I55, L56, rfl, hFr57, (⟨a58, cs59, hR60, lt61, hf62, hA63⟩ | ⟨f64, hR65, hz66, he67⟩)⟩
    · have hW68 := cs_W_t hW54 hFr57
      have hF69 := cs_F_t jF hFr57
      have hF70 : ∀ p k, (p ≠ 11 ∧ p ≠ 19) → I55 p k = J p k := fun p k h => hFr57.1 p k h.1 h.2
      have hR71 : sp_R K P V (2, a, 0, [], ld, nm, cs) (.inl (1, a58, 0, [], sp_up (sp_up (sp_up (sp_up ld (25 + 3 * (ld 5).toNat) (nm (V (a + 1)) - 8)) (26 + 3 * (ld 5).toNat) (V (a + 3))) (27 + 3 * (ld 5).toNat) cs.length) 5 ((sp_up (sp_up (sp_up ld (25 + 3 * (ld 5).toNat) (nm (V (a + 1)) - 8)) (26 + 3 * (ld 5).toNat) (V (a + 3))) (27 + 3 * (ld 5).toNat) cs.length) 5 + 1), nm, cs59 ++ [(0, 0)])) := sp_R_s (sp_R_t jR hR60) rfl
      show yi_D zi_Ms d zi_m267 k (95, [(4, .inl y4), (3, .inl y3), (2, .inl y2), (1, .inl y1), (0, .inr (.inr (some 11)))], [], (I55, L56, R, Y), 0, 0) _
      refine yi_D_run 2 (97, [(4, .inl y4), (3, .inl y3), (2, .inl y2), (1, .inl y1), (0, .inr (.inr (some 11)))], [.inl 0, .inr (.inr (some 11))], (I55, L56, R, Y), 0, 0) (fun _ => rfl) ?_
      refine yi_D_pi rfl (fun _ => ?_)
      generalize w73 : yi_u I55 11 7 0 = I72
      have hE74 : cs_E I55 I72 := fun p k hp0 hp1 => by rw [← w73, yi_u_ne _ _ (by omega)]
      have hW75 := cs_W_t hW68 (cs_E_F (L := L56) hE74)
      have hF76 := cs_F_t hF69 (cs_E_F hE74)
      have hf77 : I72 11 11 = 0 := (hE74 11 11 (by omega) (by omega)).trans hf62
      have hA78 := cs_A_e hA63 hE74
      refine yi_D_run 2 (103, [(4, .inl y4), (3, .inl y3), (2, .inl y2), (1, .inl y1), (0, .inr (.inr (some 11)))], [.inl 59, .inr (.inr (some 11))], (I72, L56, R, Y), 0, 0) (fun _ => rfl) ?_
      refine yi_D_callv rfl (p_takeKind_z (by omega) hW75 hf77 hA78) ?_
      rintro _ (⟨c79, I80, L81, rfl, hGa82, hf83, hA84⟩ | ⟨c85, I86, L87, rfl, hGa88, he89⟩)
      · have hA84 : cs_A I80 L81 K te (a58 + 1) := hA84
        have hW90 := cs_W_t hW75 (cs_G_F hGa82)
        have hF91 := cs_F_t hF76 (cs_G_F hGa82)
        have hR92 : sp_R K P V (2, a, 0, [], ld, nm, cs) (.inl (2, a58 + 1, 0, [], sp_up (sp_up (sp_up (sp_up ld (25 + 3 * (ld 5).toNat) (nm (V (a + 1)) - 8)) (26 + 3 * (ld 5).toNat) (V (a + 3))) (27 + 3 * (ld 5).toNat) cs.length) 5 ((sp_up (sp_up (sp_up ld (25 + 3 * (ld 5).toNat) (nm (V (a + 1)) - 8)) (26 + 3 * (ld 5).toNat) (V (a + 3))) (27 + 3 * (ld 5).toNat) cs.length) 5 + 1), nm, cs59 ++ [(0, 0)])) := sp_R_s hR71 (by
          show (if K _ = 59 then _ else _) = _
          rw [if_pos (by omega)])
        show yi_D zi_Ms d zi_m267 k (106, [(4, .inl y4), (3, .inl y3), (2, .inl y2), (1, .inl y1), (0, .inr (.inr (some 11)))], [], (I80, L81, R, Y), 0, 0) _
        refine yi_D_run 2 (108, [(4, .inl y4), (3, .inl y3), (2, .inl y2), (1, .inl y1), (0, .inr (.inr (some 11)))], [.inl 2, .inl y2], (I80, L81, R, Y), 0, 0) (fun _ => rfl) ?_
        by_cases h93 : y2 = 2
        · refine yi_D_if2 false rfl (yi_ne_f h93) ?_
          refine yi_D_run 2 (113, [(4, .inl y4), (3, .inl y3), (2, .inl y2), (1, .inl y1), (0, .inr (.inr (some 11)))], [.inl 1, .inr (.inr (some 11))], (I80, L81, R, Y), 0, 0) (fun _ => rfl) ?_
          refine yi_D_callv rfl (p_emit hW90) ?_
          rintro _ ⟨I94, rfl, hE95⟩
          have hW96 := cs_W_t hW90 (cs_E_F (L := L81) hE95)
          have hF97 := cs_F_t hF91 (cs_E_F hE95)
          have hf98 : I94 11 11 = 0 := (hE95 11 11 (by omega) (by omega)).trans hf83
          have hA99 := cs_A_e hA84 hE95
          show yi_D zi_Ms d zi_m267 k (116, [(4, .inl y4), (3, .inl y3), (2, .inl y2), (1, .inl y1), (0, .inr (.inr (some 11)))], [], (I94, L81, R, Y), 0, 0) _
          refine yi_D_run 2 (118, [(4, .inl y4), (3, .inl y3), (2, .inl y2), (1, .inl y1), (0, .inr (.inr (some 11)))], [.inl 4, .inl y2], (I94, L81, R, Y), 0, 0) (fun _ => rfl) ?_
          have h100 : ¬ (y2 = 4) := by omega
          refine yi_D_if2 true rfl (yi_ne_t h100) ?_
          refine yi_D_run 1 (139, [(4, .inl y4), (3, .inl y3), (2, .inl y2), (1, .inl y1), (0, .inr (.inr (some 11)))], [.inr (.inr (some 11))], (I94, L81, R, Y), 0, 0) (fun _ => rfl) ?_
          refine yi_D_gi (v := 0) rfl rfl rfl hf98 (fun _ => ?_)
          refine yi_D_if1 false rfl (by decide) ?_
          refine yi_D_run 1 (146, [(4, .inl y4), (3, .inl y3), (2, .inl y2), (1, .inl y1), (0, .inr (.inr (some 11)))], [.inr (.inr (some 11))], (I94, L81, R, Y), 0, 0) (fun _ => rfl) ?_
          refine yi_D_gr (v := some q) rfl rfl rfl hW.2.2.1.2.1 (fun _ => ?_)
          refine yi_D_run 4 (154, [(4, .inl y4), (3, .inl y3), (2, .inl y2), (1, .inl y1), (0, .inr (.inr (some 11)))], [.inr (.inr (some 11)), .inl y4, .inl y3, .inl y1, .inr (.inr (some q))], (I94, L81, R, Y), 0, 0) (fun _ => rfl) ?_
          refine yi_D_gi (v := I94 11 3) rfl rfl rfl rfl (fun _ => ?_)
          have h104 : (sp_up (sp_up (sp_up ld (25 + 3 * (ld 5).toNat) (nm (V (a + 1)) - 8)) (26 + 3 * (ld 5).toNat) (V (a + 3))) (27 + 3 * (ld 5).toNat) cs.length) 5 < 6 := by
            repeat rw [sp_up_n _ _ (by omega)]
            omega
          refine yi_D_callv rfl (p_addWish hW96 h104) ?_
          rintro _ ⟨I101, rfl, ho102, e103⟩
          show yi_D zi_Ms d zi_m267 k (160, [(4, .inl y4), (3, .inl y3), (2, .inl y2), (1, .inl y1), (0, .inr (.inr (some 11)))], [], (I101, L81, R, Y), 0, 0) _
          refine yi_D_retv rfl ?_
          have hfin := cs_fin hF97 hW96 hf98 hA99 (fun p k _ h => ⟨ho102 p k (by omega), rfl⟩) (fun _ _ _ => rfl) ⟨Nat.le_refl _, fun _ _ => ⟨rfl, rfl⟩⟩ (cs_Ld_wish hW96.2.2 h104 e103 ho102)
          exact ⟨_, _, _, _, _, _, rfl, hfin.1, Or.inl ⟨_, _, _, _, hR92, by omega, hfin.2.1, hfin.2.2.1, hfin.2.2.2⟩⟩
        · refine yi_D_if2 true rfl (yi_ne_t h93) ?_
          refine yi_D_run 2 (118, [(4, .inl y4), (3, .inl y3), (2, .inl y2), (1, .inl y1), (0, .inr (.inr (some 11)))], [.inl 4, .inl y2], (I80, L81, R, Y), 0, 0) (fun _ => rfl) ?_
          by_cases h105 : y2 = 4
          · refine yi_D_if2 false rfl (yi_ne_f h105) ?_
            refine yi_D_run 1 (122, [(4, .inl y4), (3, .inl y3), (2, .inl y2), (1, .inl y1), (0, .inr (.inr (some 11)))], [.inr (.inr (some 11))], (I80, L81, R, Y), 0, 0) (fun _ => rfl) ?_
            have r106 : I80 11 5 = I55 11 5 := by rw [hGa82.1 11 5 (by omega), ← w73, yi_u_ne _ _ (by omega)]
            refine yi_D_gi (v := I55 11 5) rfl rfl rfl r106 (fun _ => ?_)
            by_cases h107 : (I55 11 5) = 0
            · refine yi_D_if1 true rfl (yi_eq_t h107) ?_
              refine yi_D_run 1 (139, [(4, .inl y4), (3, .inl y3), (2, .inl y2), (1, .inl y1), (0, .inr (.inr (some 11)))], [.inr (.inr (some 11))], (I80, L81, R, Y), 0, 0) (fun _ => rfl) ?_
              refine yi_D_gi (v := 0) rfl rfl rfl hf83 (fun _ => ?_)
              refine yi_D_if1 false rfl (by decide) ?_
              refine yi_D_run 1 (146, [(4, .inl y4), (3, .inl y3), (2, .inl y2), (1, .inl y1), (0, .inr (.inr (some 11)))], [.inr (.inr (some 11))], (I80, L81, R, Y), 0, 0) (fun _ => rfl) ?_
              refine yi_D_gr (v := some q) rfl rfl rfl hW.2.2.1.2.1 (fun _ => ?_)
              refine yi_D_run 4 (154, [(4, .inl y4), (3, .inl y3), (2, .inl y2), (1, .inl y1), (0, .inr (.inr (some 11)))], [.inr (.inr (some 11)), .inl y4, .inl y3, .inl y1, .inr (.inr (some q))], (I80, L81, R, Y), 0, 0) (fun _ => rfl) ?_
              have r108 : I80 11 3 = I55 11 3 := by rw [hGa82.1 11 3 (by omega), ← w73, yi_u_ne _ _ (by omega)]
              refine yi_D_gi (v := I55 11 3) rfl rfl rfl r108 (fun _ => ?_)
              have h112 : (sp_up (sp_up (sp_up ld (25 + 3 * (ld 5).toNat) (nm (V (a + 1)) - 8)) (26 + 3 * (ld 5).toNat) (V (a + 3))) (27 + 3 * (ld 5).toNat) cs.length) 5 < 6 := by
                repeat rw [sp_up_n _ _ (by omega)]
                omega
              refine yi_D_callv rfl (p_addWish hW90 h112) ?_
              rintro _ ⟨I109, rfl, ho110, e111⟩
              show yi_D zi_Ms d zi_m267 k (160, [(4, .inl y4), (3, .inl y3), (2, .inl y2), (1, .inl y1), (0, .inr (.inr (some 11)))], [], (I109, L81, R, Y), 0, 0) _
              refine yi_D_retv rfl ?_
              have hfin := cs_fin hF91 hW90 hf83 hA84 (fun p k _ h => ⟨ho110 p k (by omega), rfl⟩) (fun _ _ _ => rfl) ⟨Nat.le_refl _, fun _ _ => ⟨rfl, rfl⟩⟩ (cs_Ld_wish hW90.2.2 h112 e111 ho110)
              exact ⟨_, _, _, _, _, _, rfl, hfin.1, Or.inl ⟨_, _, _, _, hR92, by omega, hfin.2.1, hfin.2.2.1, hfin.2.2.2⟩⟩
            · refine yi_D_if1 false rfl (yi_eq_f h107) ?_
              refine yi_D_run 2 (130, [(4, .inl y4), (3, .inl y3), (2, .inl y2), (1, .inl y1), (0, .inr (.inr (some 11)))], [.inl 0, .inr (.inr (some 11))], (I80, L81, R, Y), 0, 0) (fun _ => rfl) ?_
              refine yi_D_callv rfl (p_emit hW90) ?_
              rintro _ ⟨I113, rfl, hE114⟩
              have hW115 := cs_W_t hW90 (cs_E_F (L := L81) hE114)
              have hF116 := cs_F_t hF91 (cs_E_F hE114)
              have hf117 : I113 11 11 = 0 := (hE114 11 11 (by omega) (by omega)).trans hf83
              have hA118 := cs_A_e hA84 hE114
              show yi_D zi_Ms d zi_m267 k (133, [(4, .inl y4), (3, .inl y3), (2, .inl y2), (1, .inl y1), (0, .inr (.inr (some 11)))], [], (I113, L81, R, Y), 0, 0) _
              refine yi_D_run 2 (135, [(4, .inl y4), (3, .inl y3), (2, .inl y2), (1, .inl y1), (0, .inr (.inr (some 11)))], [.inl 2, .inr (.inr (some 11))], (I113, L81, R, Y), 0, 0) (fun _ => rfl) ?_
              refine yi_D_callv rfl (p_emit hW115) ?_
              rintro _ ⟨I119, rfl, hE120⟩
              have hW121 := cs_W_t hW115 (cs_E_F (L := L81) hE120)
              have hF122 := cs_F_t hF116 (cs_E_F hE120)
              have hf123 : I119 11 11 = 0 := (hE120 11 11 (by omega) (by omega)).trans hf117
              have hA124 := cs_A_e hA118 hE120
              show yi_D zi_Ms d zi_m267 k (138, [(4, .inl y4), (3, .inl y3), (2, .inl y2), (1, .inl y1), (0, .inr (.inr (some 11)))], [], (I119, L81, R, Y), 0, 0) _
              refine yi_D_run 1 (139, [(4, .inl y4), (3, .inl y3), (2, .inl y2), (1, .inl y1), (0, .inr (.inr (some 11)))], [.inr (.inr (some 11))], (I119, L81, R, Y), 0, 0) (fun _ => rfl) ?_
              refine yi_D_gi (v := 0) rfl rfl rfl hf123 (fun _ => ?_)
              refine yi_D_if1 false rfl (by decide) ?_
              refine yi_D_run 1 (146, [(4, .inl y4), (3, .inl y3), (2, .inl y2), (1, .inl y1), (0, .inr (.inr (some 11)))], [.inr (.inr (some 11))], (I119, L81, R, Y), 0, 0) (fun _ => rfl) ?_
              refine yi_D_gr (v := some q) rfl rfl rfl hW.2.2.1.2.1 (fun _ => ?_)
              refine yi_D_run 4 (154, [(4, .inl y4), (3, .inl y3), (2, .inl y2), (1, .inl y1), (0, .inr (.inr (some 11)))], [.inr (.inr (some 11)), .inl y4, .inl y3, .inl y1, .inr (.inr (some q))], (I119, L81, R, Y), 0, 0) (fun _ => rfl) ?_
              refine yi_D_gi (v := I119 11 3) rfl rfl rfl rfl (fun _ => ?_)
              have h128 : (sp_up (sp_up (sp_up ld (25 + 3 * (ld 5).toNat) (nm (V (a + 1)) - 8)) (26 + 3 * (ld 5).toNat) (V (a + 3))) (27 + 3 * (ld 5).toNat) cs.length) 5 < 6 := by
                repeat rw [sp_up_n _ _ (by omega)]
                omega
              refine yi_D_callv rfl (p_addWish hW121 h128) ?_
              rintro _ ⟨I125, rfl, ho126, e127⟩
              show yi_D zi_Ms d zi_m267 k (160, [(4, .inl y4), (3, .inl y3), (2, .inl y2), (1, .inl y1), (0, .inr (.inr (some 11)))], [], (I125, L81, R, Y), 0, 0) _
              refine yi_D_retv rfl ?_
              have hfin := cs_fin hF122 hW121 hf123 hA124 (fun p k _ h => ⟨ho126 p k (by omega), rfl⟩) (fun _ _ _ => rfl) ⟨Nat.le_refl _, fun _ _ => ⟨rfl, rfl⟩⟩ (cs_Ld_wish hW121.2.2 h128 e127 ho126)
              exact ⟨_, _, _, _, _, _, rfl, hfin.1, Or.inl ⟨_, _, _, _, hR92, by omega, hfin.2.1, hfin.2.2.1, hfin.2.2.2⟩⟩
          · refine yi_D_if2 true rfl (yi_ne_t h105) ?_
            refine yi_D_run 1 (139, [(4, .inl y4), (3, .inl y3), (2, .inl y2), (1, .inl y1), (0, .inr (.inr (some 11)))], [.inr (.inr (some 11))], (I80, L81, R, Y), 0, 0) (fun _ => rfl) ?_
            refine yi_D_gi (v := 0) rfl rfl rfl hf83 (fun _ => ?_)
            refine yi_D_if1 false rfl (by decide) ?_
            refine yi_D_run 1 (146, [(4, .inl y4), (3, .inl y3), (2, .inl y2), (1, .inl y1), (0, .inr (.inr (some 11)))], [.inr (.inr (some 11))], (I80, L81, R, Y), 0, 0) (fun _ => rfl) ?_
            refine yi_D_gr (v := some q) rfl rfl rfl hW.2.2.1.2.1 (fun _ => ?_)
            refine yi_D_run 4 (154, [(4, .inl y4), (3, .inl y3), (2, .inl y2), (1, .inl y1), (0, .inr (.inr (some 11)))], [.inr (.inr (some 11)), .inl y4, .inl y3, .inl y1, .inr (.inr (some q))], (I80, L81, R, Y), 0, 0) (fun _ => rfl) ?_
            have r129 : I80 11 3 = I55 11 3 := by rw [hGa82.1 11 3 (by omega), ← w73, yi_u_ne _ _ (by omega)]
            refine yi_D_gi (v := I55 11 3) rfl rfl rfl r129 (fun _ => ?_)
            have h133 : (sp_up (sp_up (sp_up ld (25 + 3 * (ld 5).toNat) (nm (V (a + 1)) - 8)) (26 + 3 * (ld 5).toNat) (V (a + 3))) (27 + 3 * (ld 5).toNat) cs.length) 5 < 6 := by
              repeat rw [sp_up_n _ _ (by omega)]
              omega
            refine yi_D_callv rfl (p_addWish hW90 h133) ?_
            rintro _ ⟨I130, rfl, ho131, e132⟩
            show yi_D zi_Ms d zi_m267 k (160, [(4, .inl y4), (3, .inl y3), (2, .inl y2), (1, .inl y1), (0, .inr (.inr (some 11)))], [], (I130, L81, R, Y), 0, 0) _
            refine yi_D_retv rfl ?_
            have hfin := cs_fin hF91 hW90 hf83 hA84 (fun p k _ h => ⟨ho131 p k (by omega), rfl⟩) (fun _ _ _ => rfl) ⟨Nat.le_refl _, fun _ _ => ⟨rfl, rfl⟩⟩ (cs_Ld_wish hW90.2.2 h133 e132 ho131)
            exact ⟨_, _, _, _, _, _, rfl, hfin.1, Or.inl ⟨_, _, _, _, hR92, by omega, hfin.2.1, hfin.2.2.1, hfin.2.2.2⟩⟩
      · have hW134 := cs_W_t hW75 (cs_G_F hGa88)
        have hF135 := cs_F_t hF76 (cs_G_F hGa88)
        have hz136 : ¬ sp_f P a58 1 = 0 := sp_f_ne hW75 hA78.2.1 (by omega)
        have hn137 : ¬ I86 11 11 = 0 := by rw [he89]; exact hz136
        have hx138 : sp_R K P V (2, a, 0, [], ld, nm, cs) (.inr (sp_f P a58 1)) := sp_R_s hR71 (by
          show (if K _ = 59 then _ else _) = _
          rw [if_neg (by omega)])
        show yi_D zi_Ms d zi_m267 k (106, [(4, .inl y4), (3, .inl y3), (2, .inl y2), (1, .inl y1), (0, .inr (.inr (some 11)))], [], (I86, L87, R, Y), 0, 0) _
        exact yi_D_mono (jn106f y4 y3 y2 y1 _ _ _ hF135 he89 hz136 hx138 ) (by omega)
    · have hW139 := cs_W_t hW54 hFr57
      have hF140 := cs_F_t jF hFr57
      have hF141 : ∀ p k, (p ≠ 11 ∧ p ≠ 19) → I55 p k = J p k := fun p k h => hFr57.1 p k h.1 h.2
      have hn142 : ¬ I55 11 11 = 0 := by rw [he67]; exact hz66
      have hx143 : sp_R K P V (2, a, 0, [], ld, nm, cs) (.inr f64) := sp_R_t jR hR65
      show yi_D zi_Ms d zi_m267 k (95, [(4, .inl y4), (3, .inl y3), (2, .inl y2), (1, .inl y1), (0, .inr (.inr (some 11)))], [], (I55, L56, R, Y), 0, 0) _
      refine yi_D_run 2 (97, [(4, .inl y4), (3, .inl y3), (2, .inl y2), (1, .inl y1), (0, .inr (.inr (some 11)))], [.inl 0, .inr (.inr (some 11))], (I55, L56, R, Y), 0, 0) (fun _ => rfl) ?_
      refine yi_D_pi rfl (fun _ => ?_)
      generalize w145 : yi_u I55 11 7 0 = I144
      have hE146 : cs_E I55 I144 := fun p k hp0 hp1 => by rw [← w145, yi_u_ne _ _ (by omega)]
      have hW147 := cs_W_t hW139 (cs_E_F (L := L56) hE146)
      have hF148 := cs_F_t hF140 (cs_E_F hE146)
      have hf149 : ¬ I144 11 11 = 0 := by rw [hE146 11 11 (by omega) (by omega)]; exact hn142
      have he150 := (hE146 11 11 (by omega) (by omega)).trans he67
      refine yi_D_run 2 (103, [(4, .inl y4), (3, .inl y3), (2, .inl y2), (1, .inl y1), (0, .inr (.inr (some 11)))], [.inl 59, .inr (.inr (some 11))], (I144, L56, R, Y), 0, 0) (fun _ => rfl) ?_
      refine yi_D_callv rfl (p_takeKind_f hW147 hf149) ?_
      rintro _ rfl
      show yi_D zi_Ms d zi_m267 k (106, [(4, .inl y4), (3, .inl y3), (2, .inl y2), (1, .inl y1), (0, .inr (.inr (some 11)))], [], (I144, L56, R, Y), 0, 0) _
      exact yi_D_mono (jn106f y4 y3 y2 y1 _ _ _ hF148 he150 hz66 hx143 ) (by omega)
  show yi_D zi_Ms d zi_m267 k (0, [(0, .inr (.inr (some 11)))], [], (I, L, R, Y), 0, 0) _
  refine yi_D_run 1 (1, [(0, .inr (.inr (some 11)))], [.inr (.inr (some 11))], (I, L, R, Y), 0, 0) (fun _ => rfl) ?_
  refine yi_D_gr (v := some q) rfl rfl rfl hW.2.2.1.2.1 (fun _ => ?_)
  refine yi_D_gi (v := ld 5) rfl rfl (Nat.ble_eq_true_of_le (by omega)) hW.2.2.2.1.2.2.2.2.2 (fun _ => ?_)
  refine yi_D_run 1 (9, [(0, .inr (.inr (some 11)))], [.inl 6, .inl (ld 5)], (I, L, R, Y), 0, 0) (fun _ => rfl) ?_
  by_cases h151 : (ld 5) < 6
  · refine yi_D_if2 true rfl (yi_lt_t h151) ?_
    refine yi_D_run 2 (20, [(0, .inr (.inr (some 11)))], [.inl 11, .inr (.inr (some 11))], (I, L, R, Y), 0, 0) (fun _ => rfl) ?_
    refine yi_D_callv rfl (p_takeKind_z (by omega) hW hf hA) ?_
    rintro _ (⟨c152, I153, L154, rfl, hGa155, hf156, hA157⟩ | ⟨c158, I159, L160, rfl, hGa161, he162⟩)
    · have hA157 : cs_A I153 L154 K te (a + 1) := hA157
      have hW163 := cs_W_t hW (cs_G_F hGa155)
      have hF164 := (cs_G_F hGa155)
      have hG165 := hGa155
      show yi_D zi_Ms d zi_m267 k (23, [(0, .inr (.inr (some 11)))], [], (I153, L154, R, Y), 0, 0) _
      refine yi_D_run 2 (25, [(0, .inr (.inr (some 11)))], [.inr (.inr (some 11)), .inr (.inr (some 11))], (I153, L154, R, Y), 0, 0) (fun _ => rfl) ?_
      refine yi_D_gr (v := some q) rfl rfl rfl hW.2.2.1.2.1 (fun _ => ?_)
      refine yi_D_gr (v := some (q + 3)) rfl rfl (Nat.ble_eq_true_of_le (by omega)) (hW.2.2.1.2.2.1 2 (by omega)) (fun _ => ?_)
      refine yi_D_run 1 (32, [(0, .inr (.inr (some 11)))], [.inr (.inr (some 11)), .inr (.inr (some (q + 3))), .inr (.inr (some 11))], (I153, L154, R, Y), 0, 0) (fun _ => rfl) ?_
      refine yi_D_gr (v := some q) rfl rfl rfl hW.2.2.1.2.1 (fun _ => ?_)
      have r166 : I153 q 17 = ld 3 := by rw [hGa155.1 q 17 (by omega), hW.2.2.2.1.2.2.2.1]
      refine yi_D_gi (v := ld 3) rfl rfl (Nat.ble_eq_true_of_le (by omega)) r166 (fun _ => ?_)
      refine yi_D_callv rfl (p_takeName_z (by omega) ⟨by omega, by omega, by omega⟩ hW163 hf156 hA157 (by omega) hW163.2.2.2.2.2.2.2.1.2.2) ?_
      rintro _ (⟨c167, c168, I169, L170, rfl, hGa171, hf172, hA173⟩ | ⟨c174, z179, I175, L176, rfl, hGa177, he178⟩ | ⟨c180, z185, I181, L182, rfl, hGa183, he184⟩)
      · have hA173 : cs_A I169 L170 K te (a + 2) := hA173
        have hW186 := cs_W_t hW163 (cs_G_F hGa171)
        have hF187 := cs_F_t hF164 (cs_G_F hGa171)
        have hG188 := cs_G_t hG165 hGa171
        show yi_D zi_Ms d zi_m267 k (41, [(0, .inr (.inr (some 11)))], [.inl (nm (V (a + 1)) - 8)], (I169, L170, R, Y), 0, 0) _
        refine yi_D_run 2 (43, [(1, .inl (nm (V (a + 1)) - 8)), (0, .inr (.inr (some 11)))], [.inr (.inr (some 11))], (I169, L170, R, Y), 0, 0) (fun _ => rfl) ?_
        refine yi_D_gr (v := some q) rfl rfl rfl hW.2.2.1.2.1 (fun _ => ?_)
        refine yi_D_run 1 (47, [(1, .inl (nm (V (a + 1)) - 8)), (0, .inr (.inr (some 11)))], [.inl (nm (V (a + 1)) - 8), .inr (.inr (some q))], (I169, L170, R, Y), 0, 0) (fun _ => rfl) ?_
        refine yi_D_callv rfl (p_kindOf_w hW186) ?_
        rintro _ ⟨z189, rfl⟩
        show yi_D zi_Ms d zi_m267 k (50, [(1, .inl (nm (V (a + 1)) - 8)), (0, .inr (.inr (some 11)))], [.inl z189], (I169, L170, R, Y), 0, 0) _
        refine yi_D_run 3 (54, [(2, .inl z189), (1, .inl (nm (V (a + 1)) - 8)), (0, .inr (.inr (some 11)))], [.inl 12, .inr (.inr (some 11))], (I169, L170, R, Y), 0, 0) (fun _ => rfl) ?_
        refine yi_D_callv rfl (p_takeKind_z (by omega) hW186 hf172 hA173) ?_
        rintro _ (⟨c190, I191, L192, rfl, hGa193, hf194, hA195⟩ | ⟨c196, I197, L198, rfl, hGa199, he200⟩)
        · have hA195 : cs_A I191 L192 K te (a + 3) := hA195
          have hW201 := cs_W_t hW186 (cs_G_F hGa193)
          have hF202 := cs_F_t hF187 (cs_G_F hGa193)
          have hG203 := cs_G_t hG188 hGa193
          show yi_D zi_Ms d zi_m267 k (57, [(2, .inl z189), (1, .inl (nm (V (a + 1)) - 8)), (0, .inr (.inr (some 11)))], [], (I191, L192, R, Y), 0, 0) _
          refine yi_D_run 3 (61, [(2, .inl z189), (1, .inl (nm (V (a + 1)) - 8)), (0, .inr (.inr (some 11)))], [.inl 99, .inl 0, .inr (.inr (some 11))], (I191, L192, R, Y), 0, 0) (fun _ => rfl) ?_
          refine yi_D_callv rfl (p_takeNumber_z (lo := 0) (hi := 99) hW201 hf194 hA195) ?_
          rintro _ (⟨c204, c205, I206, L207, rfl, hGa208, hf209, hA210⟩ | ⟨c211, z216, I212, L213, rfl, hGa214, he215⟩ | ⟨c217, z222, I218, L219, rfl, hGa220, he221⟩)
          · have hA210 : cs_A I206 L207 K te (a + 4) := hA210
            have hW223 := cs_W_t hW201 (cs_G_F hGa208)
            have hF224 := cs_F_t hF202 (cs_G_F hGa208)
            have hG225 := cs_G_t hG203 hGa208
            show yi_D zi_Ms d zi_m267 k (64, [(2, .inl z189), (1, .inl (nm (V (a + 1)) - 8)), (0, .inr (.inr (some 11)))], [.inl (V (a + 3))], (I206, L207, R, Y), 0, 0) _
            refine yi_D_run 2 (66, [(3, .inl (V (a + 3))), (2, .inl z189), (1, .inl (nm (V (a + 1)) - 8)), (0, .inr (.inr (some 11)))], [.inr (.inr (some 11))], (I206, L207, R, Y), 0, 0) (fun _ => rfl) ?_
            have hst226 : sp_R K P V (2, a, 0, [], ld, nm, cs) (.inl (3, a + 4, 0, [10, 21], sp_up (sp_up (sp_up ld (25 + 3 * (ld 5).toNat) (nm (V (a + 1)) - 8)) (26 + 3 * (ld 5).toNat) (V (a + 3))) (27 + 3 * (ld 5).toNat) cs.length, nm, cs)) := sp_R_1 (by
              show sp_line K P V a ld nm cs = _
              unfold sp_line
              repeat (first | rw [if_pos (by omega)] | rw [if_neg (by omega)])
              unfold sp_wish
              repeat (first | rw [if_pos (by omega)] | rw [if_neg (by omega)]))
            have r227 : I206 11 3 = I 11 3 := by rw [hGa208.1 11 3 (by omega), hGa193.1 11 3 (by omega), hGa171.1 11 3 (by omega), hGa155.1 11 3 (by omega)]
            refine yi_D_gi (v := I 11 3) rfl rfl rfl r227 (fun _ => ?_)
            refine yi_D_run 3 (73, [(4, .inl (I 11 3)), (3, .inl (V (a + 3))), (2, .inl z189), (1, .inl (nm (V (a + 1)) - 8)), (0, .inr (.inr (some 11)))], [.inl 0, .inr (.inr (some 11))], (I206, L207, R, Y), 0, 0) (fun _ => rfl) ?_
            refine yi_D_pi rfl (fun _ => ?_)
            generalize w229 : yi_u I206 11 5 0 = I228
            have hE230 : cs_E I206 I228 := fun p k hp0 hp1 => by rw [← w229, yi_u_ne _ _ (by omega)]
            have hW231 := cs_W_t hW223 (cs_E_F (L := L207) hE230)
            have hF232 := cs_F_t hF224 (cs_E_F hE230)
            have hf233 : I228 11 11 = 0 := (hE230 11 11 (by omega) (by omega)).trans hf209
            have hA234 := cs_A_e hA210 hE230
            refine yi_D_run 3 (79, [(4, .inl (I 11 3)), (3, .inl (V (a + 3))), (2, .inl z189), (1, .inl (nm (V (a + 1)) - 8)), (0, .inr (.inr (some 11)))], [.inl 1, .inl z189, .inr (.inr (some 11))], (I228, L207, R, Y), 0, 0) (fun _ => rfl) ?_
            by_cases h235 : z189 = 1
            · refine yi_D_if2 false rfl (yi_ne_f h235) ?_
              refine yi_D_run 2 (87, [(4, .inl (I 11 3)), (3, .inl (V (a + 3))), (2, .inl z189), (1, .inl (nm (V (a + 1)) - 8)), (0, .inr (.inr (some 11)))], [.inl 1, .inr (.inr (some 11))], (I228, L207, R, Y), 0, 0) (fun _ => rfl) ?_
              refine yi_D_pi rfl (fun _ => ?_)
              generalize w237 : yi_u I228 11 7 1 = I236
              have hE238 : cs_E I228 I236 := fun p k hp0 hp1 => by rw [← w237, yi_u_ne _ _ (by omega)]
              have hW239 := cs_W_t hW231 (cs_E_F (L := L207) hE238)
              have hF240 := cs_F_t hF232 (cs_E_F hE238)
              have hf241 : I236 11 11 = 0 := (hE238 11 11 (by omega) (by omega)).trans hf233
              have hA242 := cs_A_e hA234 hE238
              exact yi_D_mono (jn90z (I 11 3) (V (a + 3)) z189 (nm (V (a + 1)) - 8) _ _ hF240 hf241 hA242 hst226 (by omega)) (by omega)
            · refine yi_D_if2 true rfl (yi_ne_t h235) ?_
              refine yi_D_run 1 (87, [(4, .inl (I 11 3)), (3, .inl (V (a + 3))), (2, .inl z189), (1, .inl (nm (V (a + 1)) - 8)), (0, .inr (.inr (some 11)))], [.inl 0, .inr (.inr (some 11))], (I228, L207, R, Y), 0, 0) (fun _ => rfl) ?_
              refine yi_D_pi rfl (fun _ => ?_)
              generalize w244 : yi_u I228 11 7 0 = I243
              have hE245 : cs_E I228 I243 := fun p k hp0 hp1 => by rw [← w244, yi_u_ne _ _ (by omega)]
              have hW246 := cs_W_t hW231 (cs_E_F (L := L207) hE245)
              have hF247 := cs_F_t hF232 (cs_E_F hE245)
              have hf248 : I243 11 11 = 0 := (hE245 11 11 (by omega) (by omega)).trans hf233
              have hA249 := cs_A_e hA234 hE245
              exact yi_D_mono (jn90z (I 11 3) (V (a + 3)) z189 (nm (V (a + 1)) - 8) _ _ hF247 hf248 hA249 hst226 (by omega)) (by omega)
          · have hW250 := cs_W_t hW201 (cs_G_F hGa214)
            have hF251 := cs_F_t hF202 (cs_G_F hGa214)
            have hG252 := cs_G_t hG203 hGa214
            have hz253 : ¬ sp_f P (a + 3) 1 = 0 := sp_f_ne hW201 hA195.2.1 (by omega)
            have hn254 : ¬ I212 11 11 = 0 := by rw [he215]; exact hz253
            have hx255 : sp_R K P V (2, a, 0, [], ld, nm, cs) (.inr (sp_f P (a + 3) 1)) := sp_R_1 (by
              show sp_line K P V a ld nm cs = _
              first
              | (exfalso; omega)
              | (unfold sp_line; repeat (first | rw [if_pos (by omega)] | rw [if_neg (by omega)]); unfold sp_wish; repeat (first | rw [if_pos (by omega)] | rw [if_neg (by omega)])))
            show yi_D zi_Ms d zi_m267 k (64, [(2, .inl z189), (1, .inl (nm (V (a + 1)) - 8)), (0, .inr (.inr (some 11)))], [.inl z216], (I212, L213, R, Y), 0, 0) _
            refine yi_D_run 2 (66, [(3, .inl z216), (2, .inl z189), (1, .inl (nm (V (a + 1)) - 8)), (0, .inr (.inr (some 11)))], [.inr (.inr (some 11))], (I212, L213, R, Y), 0, 0) (fun _ => rfl) ?_
            
            have r256 : I212 11 3 = I 11 3 := by rw [hGa214.1 11 3 (by omega), hGa193.1 11 3 (by omega), hGa171.1 11 3 (by omega), hGa155.1 11 3 (by omega)]
            refine yi_D_gi (v := I 11 3) rfl rfl rfl r256 (fun _ => ?_)
            refine yi_D_run 3 (73, [(4, .inl (I 11 3)), (3, .inl z216), (2, .inl z189), (1, .inl (nm (V (a + 1)) - 8)), (0, .inr (.inr (some 11)))], [.inl 0, .inr (.inr (some 11))], (I212, L213, R, Y), 0, 0) (fun _ => rfl) ?_
            refine yi_D_pi rfl (fun _ => ?_)
            generalize w258 : yi_u I212 11 5 0 = I257
            have hE259 : cs_E I212 I257 := fun p k hp0 hp1 => by rw [← w258, yi_u_ne _ _ (by omega)]
            have hW260 := cs_W_t hW250 (cs_E_F (L := L213) hE259)
            have hF261 := cs_F_t hF251 (cs_E_F hE259)
            have hf262 : ¬ I257 11 11 = 0 := by rw [hE259 11 11 (by omega) (by omega)]; exact hn254
            have he263 := (hE259 11 11 (by omega) (by omega)).trans he215
            refine yi_D_run 3 (79, [(4, .inl (I 11 3)), (3, .inl z216), (2, .inl z189), (1, .inl (nm (V (a + 1)) - 8)), (0, .inr (.inr (some 11)))], [.inl 1, .inl z189, .inr (.inr (some 11))], (I257, L213, R, Y), 0, 0) (fun _ => rfl) ?_
            by_cases h264 : z189 = 1
            · refine yi_D_if2 false rfl (yi_ne_f h264) ?_
              refine yi_D_run 2 (87, [(4, .inl (I 11 3)), (3, .inl z216), (2, .inl z189), (1, .inl (nm (V (a + 1)) - 8)), (0, .inr (.inr (some 11)))], [.inl 1, .inr (.inr (some 11))], (I257, L213, R, Y), 0, 0) (fun _ => rfl) ?_
              refine yi_D_pi rfl (fun _ => ?_)
              generalize w266 : yi_u I257 11 7 1 = I265
              have hE267 : cs_E I257 I265 := fun p k hp0 hp1 => by rw [← w266, yi_u_ne _ _ (by omega)]
              have hW268 := cs_W_t hW260 (cs_E_F (L := L213) hE267)
              have hF269 := cs_F_t hF261 (cs_E_F hE267)
              have hf270 : ¬ I265 11 11 = 0 := by rw [hE267 11 11 (by omega) (by omega)]; exact hf262
              have he271 := (hE267 11 11 (by omega) (by omega)).trans he263
              exact yi_D_mono (jn90f (I 11 3) z216 z189 (nm (V (a + 1)) - 8) _ _ _ hF269 he271 hz253 hx255 ) (by omega)
            · refine yi_D_if2 true rfl (yi_ne_t h264) ?_
              refine yi_D_run 1 (87, [(4, .inl (I 11 3)), (3, .inl z216), (2, .inl z189), (1, .inl (nm (V (a + 1)) - 8)), (0, .inr (.inr (some 11)))], [.inl 0, .inr (.inr (some 11))], (I257, L213, R, Y), 0, 0) (fun _ => rfl) ?_
              refine yi_D_pi rfl (fun _ => ?_)
              generalize w273 : yi_u I257 11 7 0 = I272
              have hE274 : cs_E I257 I272 := fun p k hp0 hp1 => by rw [← w273, yi_u_ne _ _ (by omega)]
              have hW275 := cs_W_t hW260 (cs_E_F (L := L213) hE274)
              have hF276 := cs_F_t hF261 (cs_E_F hE274)
              have hf277 : ¬ I272 11 11 = 0 := by rw [hE274 11 11 (by omega) (by omega)]; exact hf262
              have he278 := (hE274 11 11 (by omega) (by omega)).trans he263
              exact yi_D_mono (jn90f (I 11 3) z216 z189 (nm (V (a + 1)) - 8) _ _ _ hF276 he278 hz253 hx255 ) (by omega)
          · have hW279 := cs_W_t hW201 (cs_G_F hGa220)
            have hF280 := cs_F_t hF202 (cs_G_F hGa220)
            have hG281 := cs_G_t hG203 hGa220
            have hz282 : ¬ sp_f P (a + 3) 4 = 0 := sp_f_ne hW201 hA195.2.1 (by omega)
            have hn283 : ¬ I218 11 11 = 0 := by rw [he221]; exact hz282
            have hx284 : sp_R K P V (2, a, 0, [], ld, nm, cs) (.inr (sp_f P (a + 3) 4)) := sp_R_1 (by
              show sp_line K P V a ld nm cs = _
              first
              | (exfalso; omega)
              | (unfold sp_line; repeat (first | rw [if_pos (by omega)] | rw [if_neg (by omega)]); unfold sp_wish; repeat (first | rw [if_pos (by omega)] | rw [if_neg (by omega)])))
            show yi_D zi_Ms d zi_m267 k (64, [(2, .inl z189), (1, .inl (nm (V (a + 1)) - 8)), (0, .inr (.inr (some 11)))], [.inl z222], (I218, L219, R, Y), 0, 0) _
            refine yi_D_run 2 (66, [(3, .inl z222), (2, .inl z189), (1, .inl (nm (V (a + 1)) - 8)), (0, .inr (.inr (some 11)))], [.inr (.inr (some 11))], (I218, L219, R, Y), 0, 0) (fun _ => rfl) ?_
            
            have r285 : I218 11 3 = I 11 3 := by rw [hGa220.1 11 3 (by omega), hGa193.1 11 3 (by omega), hGa171.1 11 3 (by omega), hGa155.1 11 3 (by omega)]
            refine yi_D_gi (v := I 11 3) rfl rfl rfl r285 (fun _ => ?_)
            refine yi_D_run 3 (73, [(4, .inl (I 11 3)), (3, .inl z222), (2, .inl z189), (1, .inl (nm (V (a + 1)) - 8)), (0, .inr (.inr (some 11)))], [.inl 0, .inr (.inr (some 11))], (I218, L219, R, Y), 0, 0) (fun _ => rfl) ?_
            refine yi_D_pi rfl (fun _ => ?_)
            generalize w287 : yi_u I218 11 5 0 = I286
            have hE288 : cs_E I218 I286 := fun p k hp0 hp1 => by rw [← w287, yi_u_ne _ _ (by omega)]
            have hW289 := cs_W_t hW279 (cs_E_F (L := L219) hE288)
            have hF290 := cs_F_t hF280 (cs_E_F hE288)
            have hf291 : ¬ I286 11 11 = 0 := by rw [hE288 11 11 (by omega) (by omega)]; exact hn283
            have he292 := (hE288 11 11 (by omega) (by omega)).trans he221
            refine yi_D_run 3 (79, [(4, .inl (I 11 3)), (3, .inl z222), (2, .inl z189), (1, .inl (nm (V (a + 1)) - 8)), (0, .inr (.inr (some 11)))], [.inl 1, .inl z189, .inr (.inr (some 11))], (I286, L219, R, Y), 0, 0) (fun _ => rfl) ?_
            by_cases h293 : z189 = 1
            · refine yi_D_if2 false rfl (yi_ne_f h293) ?_
              refine yi_D_run 2 (87, [(4, .inl (I 11 3)), (3, .inl z222), (2, .inl z189), (1, .inl (nm (V (a + 1)) - 8)), (0, .inr (.inr (some 11)))], [.inl 1, .inr (.inr (some 11))], (I286, L219, R, Y), 0, 0) (fun _ => rfl) ?_
              refine yi_D_pi rfl (fun _ => ?_)
              generalize w295 : yi_u I286 11 7 1 = I294
              have hE296 : cs_E I286 I294 := fun p k hp0 hp1 => by rw [← w295, yi_u_ne _ _ (by omega)]
              have hW297 := cs_W_t hW289 (cs_E_F (L := L219) hE296)
              have hF298 := cs_F_t hF290 (cs_E_F hE296)
              have hf299 : ¬ I294 11 11 = 0 := by rw [hE296 11 11 (by omega) (by omega)]; exact hf291
              have he300 := (hE296 11 11 (by omega) (by omega)).trans he292
              exact yi_D_mono (jn90f (I 11 3) z222 z189 (nm (V (a + 1)) - 8) _ _ _ hF298 he300 hz282 hx284 ) (by omega)
            · refine yi_D_if2 true rfl (yi_ne_t h293) ?_
              refine yi_D_run 1 (87, [(4, .inl (I 11 3)), (3, .inl z222), (2, .inl z189), (1, .inl (nm (V (a + 1)) - 8)), (0, .inr (.inr (some 11)))], [.inl 0, .inr (.inr (some 11))], (I286, L219, R, Y), 0, 0) (fun _ => rfl) ?_
              refine yi_D_pi rfl (fun _ => ?_)
              generalize w302 : yi_u I286 11 7 0 = I301
              have hE303 : cs_E I286 I301 := fun p k hp0 hp1 => by rw [← w302, yi_u_ne _ _ (by omega)]
              have hW304 := cs_W_t hW289 (cs_E_F (L := L219) hE303)
              have hF305 := cs_F_t hF290 (cs_E_F hE303)
              have hf306 : ¬ I301 11 11 = 0 := by rw [hE303 11 11 (by omega) (by omega)]; exact hf291
              have he307 := (hE303 11 11 (by omega) (by omega)).trans he292
              exact yi_D_mono (jn90f (I 11 3) z222 z189 (nm (V (a + 1)) - 8) _ _ _ hF305 he307 hz282 hx284 ) (by omega)
        · have hW308 := cs_W_t hW186 (cs_G_F hGa199)
          have hF309 := cs_F_t hF187 (cs_G_F hGa199)
          have hG310 := cs_G_t hG188 hGa199
          have hz311 : ¬ sp_f P (a + 2) 1 = 0 := sp_f_ne hW186 hA173.2.1 (by omega)
          have hn312 : ¬ I197 11 11 = 0 := by rw [he200]; exact hz311
          have hx313 : sp_R K P V (2, a, 0, [], ld, nm, cs) (.inr (sp_f P (a + 2) 1)) := sp_R_1 (by
            show sp_line K P V a ld nm cs = _
            first
            | (exfalso; omega)
            | (unfold sp_line; repeat (first | rw [if_pos (by omega)] | rw [if_neg (by omega)]); unfold sp_wish; repeat (first | rw [if_pos (by omega)] | rw [if_neg (by omega)])))
          show yi_D zi_Ms d zi_m267 k (57, [(2, .inl z189), (1, .inl (nm (V (a + 1)) - 8)), (0, .inr (.inr (some 11)))], [], (I197, L198, R, Y), 0, 0) _
          refine yi_D_run 3 (61, [(2, .inl z189), (1, .inl (nm (V (a + 1)) - 8)), (0, .inr (.inr (some 11)))], [.inl 99, .inl 0, .inr (.inr (some 11))], (I197, L198, R, Y), 0, 0) (fun _ => rfl) ?_
          refine yi_D_callv rfl (p_takeNumber_f hW308 hn312) ?_
          rintro _ ⟨z314, rfl⟩
          show yi_D zi_Ms d zi_m267 k (64, [(2, .inl z189), (1, .inl (nm (V (a + 1)) - 8)), (0, .inr (.inr (some 11)))], [.inl z314], (I197, L198, R, Y), 0, 0) _
          refine yi_D_run 2 (66, [(3, .inl z314), (2, .inl z189), (1, .inl (nm (V (a + 1)) - 8)), (0, .inr (.inr (some 11)))], [.inr (.inr (some 11))], (I197, L198, R, Y), 0, 0) (fun _ => rfl) ?_
          
          have r315 : I197 11 3 = I 11 3 := by rw [hGa199.1 11 3 (by omega), hGa171.1 11 3 (by omega), hGa155.1 11 3 (by omega)]
          refine yi_D_gi (v := I 11 3) rfl rfl rfl r315 (fun _ => ?_)
          refine yi_D_run 3 (73, [(4, .inl (I 11 3)), (3, .inl z314), (2, .inl z189), (1, .inl (nm (V (a + 1)) - 8)), (0, .inr (.inr (some 11)))], [.inl 0, .inr (.inr (some 11))], (I197, L198, R, Y), 0, 0) (fun _ => rfl) ?_
          refine yi_D_pi rfl (fun _ => ?_)
          generalize w317 : yi_u I197 11 5 0 = I316
          have hE318 : cs_E I197 I316 := fun p k hp0 hp1 => by rw [← w317, yi_u_ne _ _ (by omega)]
          have hW319 := cs_W_t hW308 (cs_E_F (L := L198) hE318)
          have hF320 := cs_F_t hF309 (cs_E_F hE318)
          have hf321 : ¬ I316 11 11 = 0 := by rw [hE318 11 11 (by omega) (by omega)]; exact hn312
          have he322 := (hE318 11 11 (by omega) (by omega)).trans he200
          refine yi_D_run 3 (79, [(4, .inl (I 11 3)), (3, .inl z314), (2, .inl z189), (1, .inl (nm (V (a + 1)) - 8)), (0, .inr (.inr (some 11)))], [.inl 1, .inl z189, .inr (.inr (some 11))], (I316, L198, R, Y), 0, 0) (fun _ => rfl) ?_
          by_cases h323 : z189 = 1
          · refine yi_D_if2 false rfl (yi_ne_f h323) ?_
            refine yi_D_run 2 (87, [(4, .inl (I 11 3)), (3, .inl z314), (2, .inl z189), (1, .inl (nm (V (a + 1)) - 8)), (0, .inr (.inr (some 11)))], [.inl 1, .inr (.inr (some 11))], (I316, L198, R, Y), 0, 0) (fun _ => rfl) ?_
            refine yi_D_pi rfl (fun _ => ?_)
            generalize w325 : yi_u I316 11 7 1 = I324
            have hE326 : cs_E I316 I324 := fun p k hp0 hp1 => by rw [← w325, yi_u_ne _ _ (by omega)]
            have hW327 := cs_W_t hW319 (cs_E_F (L := L198) hE326)
            have hF328 := cs_F_t hF320 (cs_E_F hE326)
            have hf329 : ¬ I324 11 11 = 0 := by rw [hE326 11 11 (by omega) (by omega)]; exact hf321
            have he330 := (hE326 11 11 (by omega) (by omega)).trans he322
            exact yi_D_mono (jn90f (I 11 3) z314 z189 (nm (V (a + 1)) - 8) _ _ _ hF328 he330 hz311 hx313 ) (by omega)
          · refine yi_D_if2 true rfl (yi_ne_t h323) ?_
            refine yi_D_run 1 (87, [(4, .inl (I 11 3)), (3, .inl z314), (2, .inl z189), (1, .inl (nm (V (a + 1)) - 8)), (0, .inr (.inr (some 11)))], [.inl 0, .inr (.inr (some 11))], (I316, L198, R, Y), 0, 0) (fun _ => rfl) ?_
            refine yi_D_pi rfl (fun _ => ?_)
            generalize w332 : yi_u I316 11 7 0 = I331
            have hE333 : cs_E I316 I331 := fun p k hp0 hp1 => by rw [← w332, yi_u_ne _ _ (by omega)]
            have hW334 := cs_W_t hW319 (cs_E_F (L := L198) hE333)
            have hF335 := cs_F_t hF320 (cs_E_F hE333)
            have hf336 : ¬ I331 11 11 = 0 := by rw [hE333 11 11 (by omega) (by omega)]; exact hf321
            have he337 := (hE333 11 11 (by omega) (by omega)).trans he322
            exact yi_D_mono (jn90f (I 11 3) z314 z189 (nm (V (a + 1)) - 8) _ _ _ hF335 he337 hz311 hx313 ) (by omega)
      · have hW338 := cs_W_t hW163 (cs_G_F hGa177)
        have hF339 := cs_F_t hF164 (cs_G_F hGa177)
        have hG340 := cs_G_t hG165 hGa177
        have hz341 : ¬ sp_f P (a + 1) 1 = 0 := sp_f_ne hW163 hA157.2.1 (by omega)
        have hn342 : ¬ I175 11 11 = 0 := by rw [he178]; exact hz341
        have hx343 : sp_R K P V (2, a, 0, [], ld, nm, cs) (.inr (sp_f P (a + 1) 1)) := sp_R_1 (by
          show sp_line K P V a ld nm cs = _
          first
          | (exfalso; omega)
          | (unfold sp_line; repeat (first | rw [if_pos (by omega)] | rw [if_neg (by omega)]); unfold sp_wish; repeat (first | rw [if_pos (by omega)] | rw [if_neg (by omega)])))
        show yi_D zi_Ms d zi_m267 k (41, [(0, .inr (.inr (some 11)))], [.inl z179], (I175, L176, R, Y), 0, 0) _
        refine yi_D_run 2 (43, [(1, .inl z179), (0, .inr (.inr (some 11)))], [.inr (.inr (some 11))], (I175, L176, R, Y), 0, 0) (fun _ => rfl) ?_
        refine yi_D_gr (v := some q) rfl rfl rfl hW.2.2.1.2.1 (fun _ => ?_)
        refine yi_D_run 1 (47, [(1, .inl z179), (0, .inr (.inr (some 11)))], [.inl z179, .inr (.inr (some q))], (I175, L176, R, Y), 0, 0) (fun _ => rfl) ?_
        refine yi_D_callv rfl (p_kindOf_w hW338) ?_
        rintro _ ⟨z344, rfl⟩
        show yi_D zi_Ms d zi_m267 k (50, [(1, .inl z179), (0, .inr (.inr (some 11)))], [.inl z344], (I175, L176, R, Y), 0, 0) _
        refine yi_D_run 1 (51, [(2, .inl z344), (1, .inl z179), (0, .inr (.inr (some 11)))], [], (I175, L176, R, Y), 0, 0) (fun _ => rfl) ?_
        exact yi_D_mono (jn51f z344 z179 _ _ _ hF339 he178 hz341 hx343 ) (by omega)
      · have hW345 := cs_W_t hW163 (cs_G_F hGa183)
        have hF346 := cs_F_t hF164 (cs_G_F hGa183)
        have hG347 := cs_G_t hG165 hGa183
        have hz348 : ¬ sp_f P (a + 1) 2 = 0 := sp_f_ne hW163 hA157.2.1 (by omega)
        have hn349 : ¬ I181 11 11 = 0 := by rw [he184]; exact hz348
        have hx350 : sp_R K P V (2, a, 0, [], ld, nm, cs) (.inr (sp_f P (a + 1) 2)) := sp_R_1 (by
          show sp_line K P V a ld nm cs = _
          first
          | (exfalso; omega)
          | (unfold sp_line; repeat (first | rw [if_pos (by omega)] | rw [if_neg (by omega)]); unfold sp_wish; repeat (first | rw [if_pos (by omega)] | rw [if_neg (by omega)])))
        show yi_D zi_Ms d zi_m267 k (41, [(0, .inr (.inr (some 11)))], [.inl z185], (I181, L182, R, Y), 0, 0) _
        refine yi_D_run 2 (43, [(1, .inl z185), (0, .inr (.inr (some 11)))], [.inr (.inr (some 11))], (I181, L182, R, Y), 0, 0) (fun _ => rfl) ?_
        refine yi_D_gr (v := some q) rfl rfl rfl hW.2.2.1.2.1 (fun _ => ?_)
        refine yi_D_run 1 (47, [(1, .inl z185), (0, .inr (.inr (some 11)))], [.inl z185, .inr (.inr (some q))], (I181, L182, R, Y), 0, 0) (fun _ => rfl) ?_
        refine yi_D_callv rfl (p_kindOf_w hW345) ?_
        rintro _ ⟨z351, rfl⟩
        show yi_D zi_Ms d zi_m267 k (50, [(1, .inl z185), (0, .inr (.inr (some 11)))], [.inl z351], (I181, L182, R, Y), 0, 0) _
        refine yi_D_run 1 (51, [(2, .inl z351), (1, .inl z185), (0, .inr (.inr (some 11)))], [], (I181, L182, R, Y), 0, 0) (fun _ => rfl) ?_
        exact yi_D_mono (jn51f z351 z185 _ _ _ hF346 he184 hz348 hx350 ) (by omega)
    · exfalso; omega
  · refine yi_D_if2 false rfl (yi_lt_f h151) ?_
    refine yi_D_run 2 (14, [(0, .inr (.inr (some 11)))], [.inl 5, .inr (.inr (some 11))], (I, L, R, Y), 0, 0) (fun _ => rfl) ?_
    refine yi_D_callv rfl (p_wrong_z ⟨by omega, by omega⟩ hW hf hA) ?_
    rintro _ ⟨I352, rfl, hg353, he354⟩
    have hGw355 : cs_G I L I352 L := ⟨fun p k hp => hg353 p k (by omega), fun _ _ _ => rfl⟩
    have hW356 := cs_W_t hW (cs_G_F hGw355)
    have hF357 := (cs_G_F hGw355)
    have hG358 := hGw355
    have hz359 : ¬ sp_f P a 5 = 0 := sp_f_ne hW hA.2.1 (by omega)
    have hn360 : ¬ I352 11 11 = 0 := by rw [he354]; exact hz359
    have hx361 : sp_R K P V (2, a, 0, [], ld, nm, cs) (.inr (sp_f P a 5)) := sp_R_1 (by
      show sp_line K P V a ld nm cs = _
      first
      | (exfalso; omega)
      | (unfold sp_line; repeat (first | rw [if_pos (by omega)] | rw [if_neg (by omega)]); unfold sp_wish; repeat (first | rw [if_pos (by omega)] | rw [if_neg (by omega)])))
    show yi_D zi_Ms d zi_m267 k (17, [(0, .inr (.inr (some 11)))], [], (I352, L, R, Y), 0, 0) _
    refine yi_D_run 2 (20, [(0, .inr (.inr (some 11)))], [.inl 11, .inr (.inr (some 11))], (I352, L, R, Y), 0, 0) (fun _ => rfl) ?_
    refine yi_D_callv rfl (p_takeKind_f hW356 hn360) ?_
    rintro _ rfl
    show yi_D zi_Ms d zi_m267 k (23, [(0, .inr (.inr (some 11)))], [], (I352, L, R, Y), 0, 0) _
    refine yi_D_run 2 (25, [(0, .inr (.inr (some 11)))], [.inr (.inr (some 11)), .inr (.inr (some 11))], (I352, L, R, Y), 0, 0) (fun _ => rfl) ?_
    refine yi_D_gr (v := some q) rfl rfl rfl hW.2.2.1.2.1 (fun _ => ?_)
    refine yi_D_gr (v := some (q + 3)) rfl rfl (Nat.ble_eq_true_of_le (by omega)) (hW.2.2.1.2.2.1 2 (by omega)) (fun _ => ?_)
    refine yi_D_run 1 (32, [(0, .inr (.inr (some 11)))], [.inr (.inr (some 11)), .inr (.inr (some (q + 3))), .inr (.inr (some 11))], (I352, L, R, Y), 0, 0) (fun _ => rfl) ?_
    refine yi_D_gr (v := some q) rfl rfl rfl hW.2.2.1.2.1 (fun _ => ?_)
    have r362 : I352 q 17 = ld 3 := by rw [hGw355.1 q 17 (by omega), hW.2.2.2.1.2.2.2.1]
    refine yi_D_gi (v := ld 3) rfl rfl (Nat.ble_eq_true_of_le (by omega)) r362 (fun _ => ?_)
    refine yi_D_callv rfl (p_takeName_f (by omega) ⟨by omega, by omega, by omega⟩ hW356 hn360) ?_
    rintro _ ⟨z363, rfl⟩
    show yi_D zi_Ms d zi_m267 k (41, [(0, .inr (.inr (some 11)))], [.inl z363], (I352, L, R, Y), 0, 0) _
    refine yi_D_run 2 (43, [(1, .inl z363), (0, .inr (.inr (some 11)))], [.inr (.inr (some 11))], (I352, L, R, Y), 0, 0) (fun _ => rfl) ?_
    refine yi_D_gr (v := some q) rfl rfl rfl hW.2.2.1.2.1 (fun _ => ?_)
    refine yi_D_run 1 (47, [(1, .inl z363), (0, .inr (.inr (some 11)))], [.inl z363, .inr (.inr (some q))], (I352, L, R, Y), 0, 0) (fun _ => rfl) ?_
    refine yi_D_callv rfl (p_kindOf_w hW356) ?_
    rintro _ ⟨z364, rfl⟩
    show yi_D zi_Ms d zi_m267 k (50, [(1, .inl z363), (0, .inr (.inr (some 11)))], [.inl z364], (I352, L, R, Y), 0, 0) _
    refine yi_D_run 1 (51, [(2, .inl z364), (1, .inl z363), (0, .inr (.inr (some 11)))], [], (I352, L, R, Y), 0, 0) (fun _ => rfl) ?_
    exact yi_D_mono (jn51f z364 z363 _ _ _ hF357 he354 hz359 hx361 ) (by omega)
theorem p_readPrice {d : Nat} {I L : Nat → Nat → Int} {R : Nat → Nat → Option Nat} {Y : (Nat → Nat) × (Nat → Nat) × Nat} {K P V : Nat → Int} {te q a : Nat} {ld : Nat → Int} {nm : Int → Int} (hW : cs_W I L R Y K P V te q ld nm) (hf : I 11 11 = 0) (hA : cs_A I L K te a) (cs : List (Int × Int)) (hk : K a = 13) : yi_P zi_Ms d 263 [.inr (.inr (some 11))] (I, L, R, Y) (cs_QL I L R Y K P V te (2, a, 0, [], ld, nm, cs) q a) := by
  refine yi_P_of (M := zi_m263) rfl (fun d k => ?_)
  obtain ⟨ly1, ly2, ly3, ly4⟩ := hW.2.2.1.2.2.2
  have lb := hW.2.2.2.2.1
  have hq0 := hW.2.2.1.1
  have hpr := hW.2.2.2.2.2.1
  show yi_D zi_Ms d zi_m263 k (0, [(0, .inr (.inr (some 11)))], [], (I, L, R, Y), 0, 0) _
  refine yi_D_run 1 (1, [(0, .inr (.inr (some 11)))], [.inr (.inr (some 11))], (I, L, R, Y), 0, 0) (fun _ => rfl) ?_
  refine yi_D_gr (v := some q) rfl rfl rfl hW.2.2.1.2.1 (fun _ => ?_)
  refine yi_D_gi (v := I q 13) rfl rfl (Nat.ble_eq_true_of_le (by omega)) rfl (fun _ => ?_)
  by_cases h1 : (I q 13) = 0
  · refine yi_D_if1 true rfl (yi_eq_t h1) ?_
    refine yi_D_run 2 (18, [(0, .inr (.inr (some 11)))], [.inl 13, .inr (.inr (some 11))], (I, L, R, Y), 0, 0) (fun _ => rfl) ?_
    refine yi_D_callv rfl (p_takeKind_z (by omega) hW hf hA) ?_
    rintro _ (⟨c2, I3, L4, rfl, hGa5, hf6, hA7⟩ | ⟨c8, I9, L10, rfl, hGa11, he12⟩)
    · have hA7 : cs_A I3 L4 K te (a + 1) := hA7
      have hW13 := cs_W_t hW (cs_G_F hGa5)
      have hF14 := (cs_G_F hGa5)
      have hG15 := hGa5
      show yi_D zi_Ms d zi_m263 k (21, [(0, .inr (.inr (some 11)))], [], (I3, L4, R, Y), 0, 0) _
      refine yi_D_run 1 (22, [(0, .inr (.inr (some 11)))], [.inr (.inr (some 11))], (I3, L4, R, Y), 0, 0) (fun _ => rfl) ?_
      have r16 : I3 11 3 = I 11 3 := by rw [hGa5.1 11 3 (by omega)]
      refine yi_D_gi (v := I 11 3) rfl rfl rfl r16 (fun _ => ?_)
      refine yi_D_run 4 (29, [(1, .inl (I 11 3)), (0, .inr (.inr (some 11)))], [.inl 0, .inl 0, .inr (.inr (some 11))], (I3, L4, R, Y), 0, 0) (fun _ => rfl) ?_
      have hst17 : sp_R K P V (2, a, 0, [], ld, nm, cs) (.inl (8, a + 1, 0, [7, cs.length], ld, nm, cs)) := sp_R_1 (by
        show sp_line K P V a ld nm cs = _
        unfold sp_line
        repeat (first | rw [if_pos (by omega)] | rw [if_neg (by omega)]))
      refine yi_D_callv rfl (p_readExpression_z 0 [7, cs.length] cs hW13 hf6 hA7 (by omega)) ?_
      rintro _ ⟨I18, L19, rfl, hFr20, (⟨a21, cs22, hR23, lt24, hf25, hA26⟩ | ⟨f27, hR28, hz29, he30⟩)⟩
      · have hW31 := cs_W_t hW13 hFr20
        have hF32 := cs_F_t hF14 hFr20
        have hF33 : ∀ p k, (p ≠ 11 ∧ p ≠ 19) → I18 p k = I3 p k := fun p k h => hFr20.1 p k h.1 h.2
        have hR34 : sp_R K P V (2, a, 0, [], ld, nm, cs) (.inl (1, a21, 0, [], sp_up ld 6 (cs.length : Nat), nm, cs22 ++ [(0, 0)])) := sp_R_s (sp_R_t hst17 hR23) rfl
        show yi_D zi_Ms d zi_m263 k (32, [(1, .inl (I 11 3)), (0, .inr (.inr (some 11)))], [], (I18, L19, R, Y), 0, 0) _
        refine yi_D_run 2 (35, [(1, .inl (I 11 3)), (0, .inr (.inr (some 11)))], [.inl 59, .inr (.inr (some 11))], (I18, L19, R, Y), 0, 0) (fun _ => rfl) ?_
        refine yi_D_callv rfl (p_takeKind_z (by omega) hW31 hf25 hA26) ?_
        rintro _ (⟨c35, I36, L37, rfl, hGa38, hf39, hA40⟩ | ⟨c41, I42, L43, rfl, hGa44, he45⟩)
        · have hA40 : cs_A I36 L37 K te (a21 + 1) := hA40
          have hW46 := cs_W_t hW31 (cs_G_F hGa38)
          have hF47 := cs_F_t hF32 (cs_G_F hGa38)
          have hR48 : sp_R K P V (2, a, 0, [], ld, nm, cs) (.inl (2, a21 + 1, 0, [], sp_up ld 6 (cs.length : Nat), nm, cs22 ++ [(0, 0)])) := sp_R_s hR34 (by
            show (if K _ = 59 then _ else _) = _
            rw [if_pos (by omega)])
          show yi_D zi_Ms d zi_m263 k (38, [(1, .inl (I 11 3)), (0, .inr (.inr (some 11)))], [], (I36, L37, R, Y), 0, 0) _
          refine yi_D_run 1 (39, [(1, .inl (I 11 3)), (0, .inr (.inr (some 11)))], [.inr (.inr (some 11))], (I36, L37, R, Y), 0, 0) (fun _ => rfl) ?_
          refine yi_D_gi (v := 0) rfl rfl rfl hf39 (fun _ => ?_)
          refine yi_D_if1 false rfl (by decide) ?_
          refine yi_D_run 1 (46, [(1, .inl (I 11 3)), (0, .inr (.inr (some 11)))], [.inr (.inr (some 11))], (I36, L37, R, Y), 0, 0) (fun _ => rfl) ?_
          refine yi_D_gr (v := some q) rfl rfl rfl hW.2.2.1.2.1 (fun _ => ?_)
          refine yi_D_run 1 (50, [(1, .inl (I 11 3)), (0, .inr (.inr (some 11)))], [.inr (.inr (some 11)), .inr (.inr (some q))], (I36, L37, R, Y), 0, 0) (fun _ => rfl) ?_
          refine yi_D_gr (v := some 19) rfl rfl rfl hW.1.1.2.2 (fun _ => ?_)
          refine yi_D_run 2 (55, [(1, .inl (I 11 3)), (0, .inr (.inr (some 11)))], [.inr (.inr (some 11)), .inl (I 11 3), .inr (.inr (some 19)), .inr (.inr (some q))], (I36, L37, R, Y), 0, 0) (fun _ => rfl) ?_
          have r49 : I36 11 3 = I18 11 3 := by rw [hGa38.1 11 3 (by omega)]
          refine yi_D_gi (v := I18 11 3) rfl rfl rfl r49 (fun _ => ?_)
          refine yi_D_callv rfl (p_setPrice hW46) ?_
          rintro _ ⟨I50, L51, R52, Y53, n54, m55, rfl, f56, f57, f58, f59, f60⟩
          show yi_D zi_Ms d zi_m263 k (61, [(1, .inl (I 11 3)), (0, .inr (.inr (some 11)))], [], (I50, L51, R52, Y53), (0 + n54), (0 + m55)) _
          refine yi_D_retv rfl ?_
          have hfin := cs_fin hF47 hW46 hf39 hA40 (fun p k hp h => ⟨f56 p k (by omega), f57 p k hp⟩) f59 f60 (cs_Ld_price (n := cs.length) hW46.2.2 f58 f56 f57 f59 f60)
          exact ⟨_, _, _, _, _, _, rfl, hfin.1, Or.inl ⟨_, _, _, _, hR48, by omega, hfin.2.1, hfin.2.2.1, hfin.2.2.2⟩⟩
        · have hW61 := cs_W_t hW31 (cs_G_F hGa44)
          have hF62 := cs_F_t hF32 (cs_G_F hGa44)
          have hz63 : ¬ sp_f P a21 1 = 0 := sp_f_ne hW31 hA26.2.1 (by omega)
          have hn64 : ¬ I42 11 11 = 0 := by rw [he45]; exact hz63
          have hx65 : sp_R K P V (2, a, 0, [], ld, nm, cs) (.inr (sp_f P a21 1)) := sp_R_s hR34 (by
            show (if K _ = 59 then _ else _) = _
            rw [if_neg (by omega)])
          show yi_D zi_Ms d zi_m263 k (38, [(1, .inl (I 11 3)), (0, .inr (.inr (some 11)))], [], (I42, L43, R, Y), 0, 0) _
          refine yi_D_run 1 (39, [(1, .inl (I 11 3)), (0, .inr (.inr (some 11)))], [.inr (.inr (some 11))], (I42, L43, R, Y), 0, 0) (fun _ => rfl) ?_
          refine yi_D_gi (v := I42 11 11) rfl rfl rfl rfl (fun _ => ?_)
          have h66 : ¬ ((I42 11 11) = 0) := by omega
          refine yi_D_if1 true rfl (yi_ne_t h66) ?_
          refine yi_D_retv rfl ?_
          exact ⟨_, _, _, _, _, _, rfl, cs_H_F hF62, Or.inr ⟨_, hx65, hz63, he45⟩⟩
      · have hW67 := cs_W_t hW13 hFr20
        have hF68 := cs_F_t hF14 hFr20
        have hF69 : ∀ p k, (p ≠ 11 ∧ p ≠ 19) → I18 p k = I3 p k := fun p k h => hFr20.1 p k h.1 h.2
        have hn70 : ¬ I18 11 11 = 0 := by rw [he30]; exact hz29
        have hx71 : sp_R K P V (2, a, 0, [], ld, nm, cs) (.inr f27) := sp_R_t hst17 hR28
        show yi_D zi_Ms d zi_m263 k (32, [(1, .inl (I 11 3)), (0, .inr (.inr (some 11)))], [], (I18, L19, R, Y), 0, 0) _
        refine yi_D_run 2 (35, [(1, .inl (I 11 3)), (0, .inr (.inr (some 11)))], [.inl 59, .inr (.inr (some 11))], (I18, L19, R, Y), 0, 0) (fun _ => rfl) ?_
        refine yi_D_callv rfl (p_takeKind_f hW67 hn70) ?_
        rintro _ rfl
        show yi_D zi_Ms d zi_m263 k (38, [(1, .inl (I 11 3)), (0, .inr (.inr (some 11)))], [], (I18, L19, R, Y), 0, 0) _
        refine yi_D_run 1 (39, [(1, .inl (I 11 3)), (0, .inr (.inr (some 11)))], [.inr (.inr (some 11))], (I18, L19, R, Y), 0, 0) (fun _ => rfl) ?_
        refine yi_D_gi (v := I18 11 11) rfl rfl rfl rfl (fun _ => ?_)
        have h72 : ¬ ((I18 11 11) = 0) := by omega
        refine yi_D_if1 true rfl (yi_ne_t h72) ?_
        refine yi_D_retv rfl ?_
        exact ⟨_, _, _, _, _, _, rfl, cs_H_F hF68, Or.inr ⟨_, hx71, hz29, he30⟩⟩
    · exfalso; omega
  · refine yi_D_if1 false rfl (yi_eq_f h1) ?_
    refine yi_D_run 2 (12, [(0, .inr (.inr (some 11)))], [.inl 3, .inr (.inr (some 11))], (I, L, R, Y), 0, 0) (fun _ => rfl) ?_
    refine yi_D_callv rfl (p_wrong_z ⟨by omega, by omega⟩ hW hf hA) ?_
    rintro _ ⟨I73, rfl, hg74, he75⟩
    have hGw76 : cs_G I L I73 L := ⟨fun p k hp => hg74 p k (by omega), fun _ _ _ => rfl⟩
    have hW77 := cs_W_t hW (cs_G_F hGw76)
    have hF78 := (cs_G_F hGw76)
    have hG79 := hGw76
    have hz80 : ¬ sp_f P a 3 = 0 := sp_f_ne hW hA.2.1 (by omega)
    have hn81 : ¬ I73 11 11 = 0 := by rw [he75]; exact hz80
    have hx82 : sp_R K P V (2, a, 0, [], ld, nm, cs) (.inr (sp_f P a 3)) := sp_R_1 (by
      show sp_line K P V a ld nm cs = _
      first
      | (exfalso; omega)
      | (unfold sp_line; repeat (first | rw [if_pos (by omega)] | rw [if_neg (by omega)])))
    show yi_D zi_Ms d zi_m263 k (15, [(0, .inr (.inr (some 11)))], [], (I73, L, R, Y), 0, 0) _
    refine yi_D_run 2 (18, [(0, .inr (.inr (some 11)))], [.inl 13, .inr (.inr (some 11))], (I73, L, R, Y), 0, 0) (fun _ => rfl) ?_
    refine yi_D_callv rfl (p_takeKind_f hW77 hn81) ?_
    rintro _ rfl
    show yi_D zi_Ms d zi_m263 k (21, [(0, .inr (.inr (some 11)))], [], (I73, L, R, Y), 0, 0) _
    refine yi_D_run 1 (22, [(0, .inr (.inr (some 11)))], [.inr (.inr (some 11))], (I73, L, R, Y), 0, 0) (fun _ => rfl) ?_
    have r83 : I73 11 3 = I 11 3 := by rw [hGw76.1 11 3 (by omega)]
    refine yi_D_gi (v := I 11 3) rfl rfl rfl r83 (fun _ => ?_)
    refine yi_D_run 4 (29, [(1, .inl (I 11 3)), (0, .inr (.inr (some 11)))], [.inl 0, .inl 0, .inr (.inr (some 11))], (I73, L, R, Y), 0, 0) (fun _ => rfl) ?_
    refine yi_D_callv rfl ((p_readExpression_f _) hW77 hn81) ?_
    rintro _ rfl
    show yi_D zi_Ms d zi_m263 k (32, [(1, .inl (I 11 3)), (0, .inr (.inr (some 11)))], [], (I73, L, R, Y), 0, 0) _
    refine yi_D_run 2 (35, [(1, .inl (I 11 3)), (0, .inr (.inr (some 11)))], [.inl 59, .inr (.inr (some 11))], (I73, L, R, Y), 0, 0) (fun _ => rfl) ?_
    refine yi_D_callv rfl (p_takeKind_f hW77 hn81) ?_
    rintro _ rfl
    show yi_D zi_Ms d zi_m263 k (38, [(1, .inl (I 11 3)), (0, .inr (.inr (some 11)))], [], (I73, L, R, Y), 0, 0) _
    refine yi_D_run 1 (39, [(1, .inl (I 11 3)), (0, .inr (.inr (some 11)))], [.inr (.inr (some 11))], (I73, L, R, Y), 0, 0) (fun _ => rfl) ?_
    refine yi_D_gi (v := I73 11 11) rfl rfl rfl rfl (fun _ => ?_)
    have h84 : ¬ ((I73 11 11) = 0) := by omega
    refine yi_D_if1 true rfl (yi_ne_t h84) ?_
    refine yi_D_retv rfl ?_
    exact ⟨_, _, _, _, _, _, rfl, cs_H_F hF78, Or.inr ⟨_, hx82, hz80, he75⟩⟩
