/-! The class reader: the lines. -/
theorem p_readPerson {d : Nat} {I L : Nat → Nat → Int} {R : Nat → Nat → Option Nat} {Y : (Nat → Nat) × (Nat → Nat) × Nat} {K P V : Nat → Int} {te q a : Nat} {ld : Nat → Int} {nm : Int → Int} (hW : cs_W I L R Y K P V te q ld nm) (hf : I 11 11 = 0) (hA : cs_A I L K te a) (cs : List (Int × Int)) (hk : K a = 5) : yi_P zi_Ms d 262 [.inr (.inr (some 11))] (I, L, R, Y) (cs_QL I L R Y K P V te (2, a, 0, [], ld, nm, cs) q a) := by
  refine yi_P_of (M := zi_m262) rfl (fun d k => ?_)
  obtain ⟨ly1, ly2, ly3, ly4⟩ := hW.2.2.1.2.2.2
  have lb := hW.2.2.2.2.1
  have hq0 := hW.2.2.1.1
  show yi_D zi_Ms d zi_m262 k (0, [(0, .inr (.inr (some 11)))], [], (I, L, R, Y), 0, 0) _
  refine yi_D_run 1 (1, [(0, .inr (.inr (some 11)))], [.inr (.inr (some 11))], (I, L, R, Y), 0, 0) (fun _ => rfl) ?_
  refine yi_D_gr (v := some q) rfl rfl rfl hW.2.2.1.2.1 (fun _ => ?_)
  refine yi_D_gi (v := ld 1) rfl rfl (Nat.ble_eq_true_of_le (by omega)) hW.2.2.2.1.2.1 (fun _ => ?_)
  refine yi_D_run 1 (8, [(0, .inr (.inr (some 11)))], [.inl 4, .inl (ld 1)], (I, L, R, Y), 0, 0) (fun _ => rfl) ?_
  by_cases h1 : 4 ≤ (ld 1)
  · refine yi_D_if2 true rfl (yi_ge_t h1) ?_
    refine yi_D_run 2 (41, [(0, .inr (.inr (some 11)))], [.inl 5, .inr (.inr (some 11))], (I, L, R, Y), 0, 0) (fun _ => rfl) ?_
    refine yi_D_callv rfl (p_wrong_z ⟨by omega, by omega⟩ hW hf hA) ?_
    rintro _ ⟨I2, rfl, hg3, he4⟩
    have hGw5 : cs_G I L I2 L := ⟨fun p k hp => hg3 p k (by omega), fun _ _ _ => rfl⟩
    have hW6 := cs_W_t hW (cs_G_F hGw5)
    have hF7 := (cs_G_F hGw5)
    have hG8 := hGw5
    have hz9 : ¬ sp_f P a 5 = 0 := sp_f_ne hW hA.2.1 (by omega)
    have hn10 : ¬ I2 11 11 = 0 := by rw [he4]; exact hz9
    have hx11 : sp_R K P V (2, a, 0, [], ld, nm, cs) (.inr (sp_f P a 5)) := sp_R_1 (by
      show sp_line K P V a ld nm cs = _
      first
      | (exfalso; omega)
      | (unfold sp_line; repeat (first | rw [if_pos (by omega)] | rw [if_neg (by omega)]); unfold sp_person; repeat (first | rw [if_pos (by omega)] | rw [if_neg (by omega)])))
    show yi_D zi_Ms d zi_m262 k (44, [(0, .inr (.inr (some 11)))], [], (I2, L, R, Y), 0, 0) _
    refine yi_D_run 2 (46, [(0, .inr (.inr (some 11)))], [.inl 5, .inr (.inr (some 11))], (I2, L, R, Y), 0, 0) (fun _ => rfl) ?_
    refine yi_D_callv rfl (p_takeKind_f hW6 hn10) ?_
    rintro _ rfl
    show yi_D zi_Ms d zi_m262 k (49, [(0, .inr (.inr (some 11)))], [], (I2, L, R, Y), 0, 0) _
    refine yi_D_run 1 (50, [(0, .inr (.inr (some 11)))], [.inr (.inr (some 11))], (I2, L, R, Y), 0, 0) (fun _ => rfl) ?_
    refine yi_D_callv rfl (p_takeNewName_f hW6 hn10) ?_
    rintro _ ⟨z12, rfl⟩
    show yi_D zi_Ms d zi_m262 k (53, [(0, .inr (.inr (some 11)))], [.inr (.inl z12)], (I2, L, R, Y), 0, 0) _
    refine yi_D_run 3 (57, [(1, .inr (.inl z12)), (0, .inr (.inr (some 11)))], [.inl 6, .inr (.inr (some 11))], (I2, L, R, Y), 0, 0) (fun _ => rfl) ?_
    refine yi_D_callv rfl (p_takeKind_f hW6 hn10) ?_
    rintro _ rfl
    show yi_D zi_Ms d zi_m262 k (60, [(1, .inr (.inl z12)), (0, .inr (.inr (some 11)))], [], (I2, L, R, Y), 0, 0) _
    refine yi_D_run 3 (64, [(1, .inr (.inl z12)), (0, .inr (.inr (some 11)))], [.inl 99, .inl 0, .inr (.inr (some 11))], (I2, L, R, Y), 0, 0) (fun _ => rfl) ?_
    refine yi_D_callv rfl (p_takeNumber_f hW6 hn10) ?_
    rintro _ ⟨z13, rfl⟩
    show yi_D zi_Ms d zi_m262 k (67, [(1, .inr (.inl z12)), (0, .inr (.inr (some 11)))], [.inl z13], (I2, L, R, Y), 0, 0) _
    refine yi_D_run 3 (71, [(3, .inl z13), (1, .inr (.inl z12)), (0, .inr (.inr (some 11)))], [.inl 59, .inr (.inr (some 11))], (I2, L, R, Y), 0, 0) (fun _ => rfl) ?_
    
    refine yi_D_callv rfl (p_takeKind_f hW6 hn10) ?_
    rintro _ rfl
    show yi_D zi_Ms d zi_m262 k (74, [(3, .inl z13), (1, .inr (.inl z12)), (0, .inr (.inr (some 11)))], [], (I2, L, R, Y), 0, 0) _
    refine yi_D_run 1 (75, [(3, .inl z13), (1, .inr (.inl z12)), (0, .inr (.inr (some 11)))], [.inr (.inr (some 11))], (I2, L, R, Y), 0, 0) (fun _ => rfl) ?_
    refine yi_D_gi (v := I2 11 11) rfl rfl rfl rfl (fun _ => ?_)
    have h14 : ¬ ((I2 11 11) = 0) := by omega
    refine yi_D_if1 true rfl (yi_ne_t h14) ?_
    refine yi_D_retv rfl ?_
    exact ⟨_, _, _, _, _, _, rfl, cs_H_F hF7, Or.inr ⟨_, hx11, hz9, he4⟩⟩
  · refine yi_D_if2 false rfl (yi_ge_f h1) ?_
    refine yi_D_run 1 (12, [(0, .inr (.inr (some 11)))], [.inr (.inr (some 11))], (I, L, R, Y), 0, 0) (fun _ => rfl) ?_
    refine yi_D_gr (v := some q) rfl rfl rfl hW.2.2.1.2.1 (fun _ => ?_)
    refine yi_D_run 1 (16, [(0, .inr (.inr (some 11)))], [.inr (.inr (some 11)), .inr (.inr (some q))], (I, L, R, Y), 0, 0) (fun _ => rfl) ?_
    refine yi_D_gr (v := some q) rfl rfl rfl hW.2.2.1.2.1 (fun _ => ?_)
    refine yi_D_gi (v := ld 1) rfl rfl (Nat.ble_eq_true_of_le (by omega)) hW.2.2.2.1.2.1 (fun _ => ?_)
    refine yi_D_run 1 (23, [(0, .inr (.inr (some 11)))], [.inl 1, .inl (ld 1), .inr (.inr (some q))], (I, L, R, Y), 0, 0) (fun _ => rfl) ?_
    refine yi_D_iadd rfl ((ld 1) + 1) (yi_wn (by omega) (by omega)) ?_
    refine yi_D_run 1 (25, [(0, .inr (.inr (some 11)))], [.inr (.inr (some 11)), .inl ((ld 1) + 1), .inr (.inr (some q))], (I, L, R, Y), 0, 0) (fun _ => rfl) ?_
    refine yi_D_gr (v := some q) rfl rfl rfl hW.2.2.1.2.1 (fun _ => ?_)
    refine yi_D_gi (v := ld 2) rfl rfl (Nat.ble_eq_true_of_le (by omega)) hW.2.2.2.1.2.2.1 (fun _ => ?_)
    refine yi_D_callv rfl (p_futuresWith hW ⟨by omega, by omega⟩ ⟨by omega, by omega⟩) ?_
    rintro _ ⟨z15, rfl, hz16⟩
    show yi_D zi_Ms d zi_m262 k (34, [(0, .inr (.inr (some 11)))], [.inl z15], (I, L, R, Y), 0, 0) _
    refine yi_D_ldc (32768) rfl (by decide +kernel) ?_
    by_cases h17 : z15 ≤ 32768
    · refine yi_D_if2 true rfl (yi_le_t h17) ?_
      refine yi_D_run 2 (46, [(0, .inr (.inr (some 11)))], [.inl 5, .inr (.inr (some 11))], (I, L, R, Y), 0, 0) (fun _ => rfl) ?_
      refine yi_D_callv rfl (p_takeKind_z (by omega) hW hf hA) ?_
      rintro _ (⟨c18, I19, L20, rfl, hGa21, hf22, hA23⟩ | ⟨c24, I25, L26, rfl, hGa27, he28⟩)
      · have hA23 : cs_A I19 L20 K te (a + 1) := hA23
        have hW29 := cs_W_t hW (cs_G_F hGa21)
        have hF30 := (cs_G_F hGa21)
        have hG31 := hGa21
        show yi_D zi_Ms d zi_m262 k (49, [(0, .inr (.inr (some 11)))], [], (I19, L20, R, Y), 0, 0) _
        refine yi_D_run 1 (50, [(0, .inr (.inr (some 11)))], [.inr (.inr (some 11))], (I19, L20, R, Y), 0, 0) (fun _ => rfl) ?_
        refine yi_D_callv rfl (p_takeNewName_z hW29 hf22 hA23) ?_
        rintro _ (⟨c32, c33, I34, L35, rfl, hGa36, hf37, hA38⟩ | ⟨c39, z44, I40, L41, rfl, hGa42, he43⟩ | ⟨c45, z50, I46, L47, rfl, hGa48, he49⟩)
        · have hA38 : cs_A I34 L35 K te (a + 2) := hA38
          have hW51 := cs_W_t hW29 (cs_G_F hGa36)
          have hF52 := cs_F_t hF30 (cs_G_F hGa36)
          have hG53 := cs_G_t hG31 hGa36
          have hwr : sp_WR (L20 16 (a + 1)) (V (a + 1)) := by
            rw [hF30.2 16 (a + 1) (by omega)]
            exact (hW.2.1.2.2.1 (a + 1) hA23.2.1).2.2.2.2.1 (by omega)
          show yi_D zi_Ms d zi_m262 k (53, [(0, .inr (.inr (some 11)))], [.inr (.inl (L20 16 (a + 1)))], (I34, L35, R, Y), 0, 0) _
          refine yi_D_run 3 (57, [(1, .inr (.inl (L20 16 (a + 1)))), (0, .inr (.inr (some 11)))], [.inl 6, .inr (.inr (some 11))], (I34, L35, R, Y), 0, 0) (fun _ => rfl) ?_
          refine yi_D_callv rfl (p_takeKind_z (by omega) hW51 hf37 hA38) ?_
          rintro _ (⟨c54, I55, L56, rfl, hGa57, hf58, hA59⟩ | ⟨c60, I61, L62, rfl, hGa63, he64⟩)
          · have hA59 : cs_A I55 L56 K te (a + 3) := hA59
            have hW65 := cs_W_t hW51 (cs_G_F hGa57)
            have hF66 := cs_F_t hF52 (cs_G_F hGa57)
            have hG67 := cs_G_t hG53 hGa57
            show yi_D zi_Ms d zi_m262 k (60, [(1, .inr (.inl (L20 16 (a + 1)))), (0, .inr (.inr (some 11)))], [], (I55, L56, R, Y), 0, 0) _
            refine yi_D_run 3 (64, [(1, .inr (.inl (L20 16 (a + 1)))), (0, .inr (.inr (some 11)))], [.inl 99, .inl 0, .inr (.inr (some 11))], (I55, L56, R, Y), 0, 0) (fun _ => rfl) ?_
            refine yi_D_callv rfl (p_takeNumber_z (lo := 0) (hi := 99) hW65 hf58 hA59) ?_
            rintro _ (⟨c68, c69, I70, L71, rfl, hGa72, hf73, hA74⟩ | ⟨c75, z80, I76, L77, rfl, hGa78, he79⟩ | ⟨c81, z86, I82, L83, rfl, hGa84, he85⟩)
            · have hA74 : cs_A I70 L71 K te (a + 4) := hA74
              have hW87 := cs_W_t hW65 (cs_G_F hGa72)
              have hF88 := cs_F_t hF66 (cs_G_F hGa72)
              have hG89 := cs_G_t hG67 hGa72
              show yi_D zi_Ms d zi_m262 k (67, [(1, .inr (.inl (L20 16 (a + 1)))), (0, .inr (.inr (some 11)))], [.inl (V (a + 3))], (I70, L71, R, Y), 0, 0) _
              refine yi_D_run 3 (71, [(3, .inl (V (a + 3))), (1, .inr (.inl (L20 16 (a + 1)))), (0, .inr (.inr (some 11)))], [.inl 59, .inr (.inr (some 11))], (I70, L71, R, Y), 0, 0) (fun _ => rfl) ?_
              have hR90 : sp_R K P V (2, a, 0, [], ld, nm, cs) (.inl (1, a + 4, 0, [], sp_up (sp_up ld (7 + (ld 1).toNat) (V (a + 3))) 1 (ld 1 + 1), sp_un nm (V (a + 1)) (ld 1), cs)) := sp_R_1 (by
                show sp_line K P V a ld nm cs = _
                unfold sp_line
                repeat (first | rw [if_pos (by omega)] | rw [if_neg (by omega)])
                unfold sp_person
                repeat (first | rw [if_pos (by omega)] | rw [if_neg (by omega)]))
              refine yi_D_callv rfl (p_takeKind_z (by omega) hW87 hf73 hA74) ?_
              rintro _ (⟨c91, I92, L93, rfl, hGa94, hf95, hA96⟩ | ⟨c97, I98, L99, rfl, hGa100, he101⟩)
              · have hA96 : cs_A I92 L93 K te (a + 5) := hA96
                have hW102 := cs_W_t hW87 (cs_G_F hGa94)
                have hF103 := cs_F_t hF88 (cs_G_F hGa94)
                have hG104 := cs_G_t hG89 hGa94
                have hR105 : sp_R K P V (2, a, 0, [], ld, nm, cs) (.inl (2, (a + 4) + 1, 0, [], sp_up (sp_up ld (7 + (ld 1).toNat) (V (a + 3))) 1 (ld 1 + 1), sp_un nm (V (a + 1)) (ld 1), cs)) := sp_R_s hR90 (by
                  show (if K _ = 59 then _ else _) = _
                  rw [if_pos (by omega)])
                show yi_D zi_Ms d zi_m262 k (74, [(3, .inl (V (a + 3))), (1, .inr (.inl (L20 16 (a + 1)))), (0, .inr (.inr (some 11)))], [], (I92, L93, R, Y), 0, 0) _
                refine yi_D_run 1 (75, [(3, .inl (V (a + 3))), (1, .inr (.inl (L20 16 (a + 1)))), (0, .inr (.inr (some 11)))], [.inr (.inr (some 11))], (I92, L93, R, Y), 0, 0) (fun _ => rfl) ?_
                refine yi_D_gi (v := 0) rfl rfl rfl hf95 (fun _ => ?_)
                refine yi_D_if1 false rfl (by decide) ?_
                refine yi_D_run 1 (82, [(3, .inl (V (a + 3))), (1, .inr (.inl (L20 16 (a + 1)))), (0, .inr (.inr (some 11)))], [.inr (.inr (some 11))], (I92, L93, R, Y), 0, 0) (fun _ => rfl) ?_
                refine yi_D_gr (v := some q) rfl rfl rfl hW.2.2.1.2.1 (fun _ => ?_)
                refine yi_D_run 2 (87, [(3, .inl (V (a + 3))), (1, .inr (.inl (L20 16 (a + 1)))), (0, .inr (.inr (some 11)))], [.inl (V (a + 3)), .inr (.inl (L20 16 (a + 1))), .inr (.inr (some q))], (I92, L93, R, Y), 0, 0) (fun _ => rfl) ?_
                refine yi_D_callv rfl (p_addPerson hW102 (by omega)) ?_
                rintro _ ⟨I106, L107, rfl, ho108, e109, e110, e111, e112, e113⟩
                show yi_D zi_Ms d zi_m262 k (90, [(3, .inl (V (a + 3))), (1, .inr (.inl (L20 16 (a + 1)))), (0, .inr (.inr (some 11)))], [], (I106, L107, R, Y), 0, 0) _
                refine yi_D_retv rfl ?_
                have hfin := cs_fin hF103 hW102 hf95 hA96 (fun p k _ h => ho108 p k h) (fun _ _ _ => rfl) ⟨Nat.le_refl _, fun _ _ => ⟨rfl, rfl⟩⟩ (cs_Ld_person hW102.2.2 hwr (by omega) (by omega) e109 e110 e111 e112 e113)
                exact ⟨_, _, _, _, _, _, rfl, hfin.1, Or.inl ⟨_, _, _, _, hR105, by omega, hfin.2.1, hfin.2.2.1, hfin.2.2.2⟩⟩
              · have hW114 := cs_W_t hW87 (cs_G_F hGa100)
                have hF115 := cs_F_t hF88 (cs_G_F hGa100)
                have hG116 := cs_G_t hG89 hGa100
                have hz117 : ¬ sp_f P (a + 4) 1 = 0 := sp_f_ne hW87 hA74.2.1 (by omega)
                have hn118 : ¬ I98 11 11 = 0 := by rw [he101]; exact hz117
                have hx119 : sp_R K P V (2, a, 0, [], ld, nm, cs) (.inr (sp_f P (a + 4) 1)) := sp_R_s hR90 (by
                  show (if K _ = 59 then _ else _) = _
                  rw [if_neg (by omega)])
                show yi_D zi_Ms d zi_m262 k (74, [(3, .inl (V (a + 3))), (1, .inr (.inl (L20 16 (a + 1)))), (0, .inr (.inr (some 11)))], [], (I98, L99, R, Y), 0, 0) _
                refine yi_D_run 1 (75, [(3, .inl (V (a + 3))), (1, .inr (.inl (L20 16 (a + 1)))), (0, .inr (.inr (some 11)))], [.inr (.inr (some 11))], (I98, L99, R, Y), 0, 0) (fun _ => rfl) ?_
                refine yi_D_gi (v := I98 11 11) rfl rfl rfl rfl (fun _ => ?_)
                have h120 : ¬ ((I98 11 11) = 0) := by omega
                refine yi_D_if1 true rfl (yi_ne_t h120) ?_
                refine yi_D_retv rfl ?_
                exact ⟨_, _, _, _, _, _, rfl, cs_H_F hF115, Or.inr ⟨_, hx119, hz117, he101⟩⟩
            · have hW121 := cs_W_t hW65 (cs_G_F hGa78)
              have hF122 := cs_F_t hF66 (cs_G_F hGa78)
              have hG123 := cs_G_t hG67 hGa78
              have hz124 : ¬ sp_f P (a + 3) 1 = 0 := sp_f_ne hW65 hA59.2.1 (by omega)
              have hn125 : ¬ I76 11 11 = 0 := by rw [he79]; exact hz124
              have hx126 : sp_R K P V (2, a, 0, [], ld, nm, cs) (.inr (sp_f P (a + 3) 1)) := sp_R_1 (by
                show sp_line K P V a ld nm cs = _
                first
                | (exfalso; omega)
                | (unfold sp_line; repeat (first | rw [if_pos (by omega)] | rw [if_neg (by omega)]); unfold sp_person; repeat (first | rw [if_pos (by omega)] | rw [if_neg (by omega)])))
              show yi_D zi_Ms d zi_m262 k (67, [(1, .inr (.inl (L20 16 (a + 1)))), (0, .inr (.inr (some 11)))], [.inl z80], (I76, L77, R, Y), 0, 0) _
              refine yi_D_run 3 (71, [(3, .inl z80), (1, .inr (.inl (L20 16 (a + 1)))), (0, .inr (.inr (some 11)))], [.inl 59, .inr (.inr (some 11))], (I76, L77, R, Y), 0, 0) (fun _ => rfl) ?_
              
              refine yi_D_callv rfl (p_takeKind_f hW121 hn125) ?_
              rintro _ rfl
              show yi_D zi_Ms d zi_m262 k (74, [(3, .inl z80), (1, .inr (.inl (L20 16 (a + 1)))), (0, .inr (.inr (some 11)))], [], (I76, L77, R, Y), 0, 0) _
              refine yi_D_run 1 (75, [(3, .inl z80), (1, .inr (.inl (L20 16 (a + 1)))), (0, .inr (.inr (some 11)))], [.inr (.inr (some 11))], (I76, L77, R, Y), 0, 0) (fun _ => rfl) ?_
              refine yi_D_gi (v := I76 11 11) rfl rfl rfl rfl (fun _ => ?_)
              have h127 : ¬ ((I76 11 11) = 0) := by omega
              refine yi_D_if1 true rfl (yi_ne_t h127) ?_
              refine yi_D_retv rfl ?_
              exact ⟨_, _, _, _, _, _, rfl, cs_H_F hF122, Or.inr ⟨_, hx126, hz124, he79⟩⟩
            · have hW128 := cs_W_t hW65 (cs_G_F hGa84)
              have hF129 := cs_F_t hF66 (cs_G_F hGa84)
              have hG130 := cs_G_t hG67 hGa84
              have hz131 : ¬ sp_f P (a + 3) 4 = 0 := sp_f_ne hW65 hA59.2.1 (by omega)
              have hn132 : ¬ I82 11 11 = 0 := by rw [he85]; exact hz131
              have hx133 : sp_R K P V (2, a, 0, [], ld, nm, cs) (.inr (sp_f P (a + 3) 4)) := sp_R_1 (by
                show sp_line K P V a ld nm cs = _
                first
                | (exfalso; omega)
                | (unfold sp_line; repeat (first | rw [if_pos (by omega)] | rw [if_neg (by omega)]); unfold sp_person; repeat (first | rw [if_pos (by omega)] | rw [if_neg (by omega)])))
              show yi_D zi_Ms d zi_m262 k (67, [(1, .inr (.inl (L20 16 (a + 1)))), (0, .inr (.inr (some 11)))], [.inl z86], (I82, L83, R, Y), 0, 0) _
              refine yi_D_run 3 (71, [(3, .inl z86), (1, .inr (.inl (L20 16 (a + 1)))), (0, .inr (.inr (some 11)))], [.inl 59, .inr (.inr (some 11))], (I82, L83, R, Y), 0, 0) (fun _ => rfl) ?_
              
              refine yi_D_callv rfl (p_takeKind_f hW128 hn132) ?_
              rintro _ rfl
              show yi_D zi_Ms d zi_m262 k (74, [(3, .inl z86), (1, .inr (.inl (L20 16 (a + 1)))), (0, .inr (.inr (some 11)))], [], (I82, L83, R, Y), 0, 0) _
              refine yi_D_run 1 (75, [(3, .inl z86), (1, .inr (.inl (L20 16 (a + 1)))), (0, .inr (.inr (some 11)))], [.inr (.inr (some 11))], (I82, L83, R, Y), 0, 0) (fun _ => rfl) ?_
              refine yi_D_gi (v := I82 11 11) rfl rfl rfl rfl (fun _ => ?_)
              have h134 : ¬ ((I82 11 11) = 0) := by omega
              refine yi_D_if1 true rfl (yi_ne_t h134) ?_
              refine yi_D_retv rfl ?_
              exact ⟨_, _, _, _, _, _, rfl, cs_H_F hF129, Or.inr ⟨_, hx133, hz131, he85⟩⟩
          · have hW135 := cs_W_t hW51 (cs_G_F hGa63)
            have hF136 := cs_F_t hF52 (cs_G_F hGa63)
            have hG137 := cs_G_t hG53 hGa63
            have hz138 : ¬ sp_f P (a + 2) 1 = 0 := sp_f_ne hW51 hA38.2.1 (by omega)
            have hn139 : ¬ I61 11 11 = 0 := by rw [he64]; exact hz138
            have hx140 : sp_R K P V (2, a, 0, [], ld, nm, cs) (.inr (sp_f P (a + 2) 1)) := sp_R_1 (by
              show sp_line K P V a ld nm cs = _
              first
              | (exfalso; omega)
              | (unfold sp_line; repeat (first | rw [if_pos (by omega)] | rw [if_neg (by omega)]); unfold sp_person; repeat (first | rw [if_pos (by omega)] | rw [if_neg (by omega)])))
            show yi_D zi_Ms d zi_m262 k (60, [(1, .inr (.inl (L20 16 (a + 1)))), (0, .inr (.inr (some 11)))], [], (I61, L62, R, Y), 0, 0) _
            refine yi_D_run 3 (64, [(1, .inr (.inl (L20 16 (a + 1)))), (0, .inr (.inr (some 11)))], [.inl 99, .inl 0, .inr (.inr (some 11))], (I61, L62, R, Y), 0, 0) (fun _ => rfl) ?_
            refine yi_D_callv rfl (p_takeNumber_f hW135 hn139) ?_
            rintro _ ⟨z141, rfl⟩
            show yi_D zi_Ms d zi_m262 k (67, [(1, .inr (.inl (L20 16 (a + 1)))), (0, .inr (.inr (some 11)))], [.inl z141], (I61, L62, R, Y), 0, 0) _
            refine yi_D_run 3 (71, [(3, .inl z141), (1, .inr (.inl (L20 16 (a + 1)))), (0, .inr (.inr (some 11)))], [.inl 59, .inr (.inr (some 11))], (I61, L62, R, Y), 0, 0) (fun _ => rfl) ?_
            
            refine yi_D_callv rfl (p_takeKind_f hW135 hn139) ?_
            rintro _ rfl
            show yi_D zi_Ms d zi_m262 k (74, [(3, .inl z141), (1, .inr (.inl (L20 16 (a + 1)))), (0, .inr (.inr (some 11)))], [], (I61, L62, R, Y), 0, 0) _
            refine yi_D_run 1 (75, [(3, .inl z141), (1, .inr (.inl (L20 16 (a + 1)))), (0, .inr (.inr (some 11)))], [.inr (.inr (some 11))], (I61, L62, R, Y), 0, 0) (fun _ => rfl) ?_
            refine yi_D_gi (v := I61 11 11) rfl rfl rfl rfl (fun _ => ?_)
            have h142 : ¬ ((I61 11 11) = 0) := by omega
            refine yi_D_if1 true rfl (yi_ne_t h142) ?_
            refine yi_D_retv rfl ?_
            exact ⟨_, _, _, _, _, _, rfl, cs_H_F hF136, Or.inr ⟨_, hx140, hz138, he64⟩⟩
        · have hW143 := cs_W_t hW29 (cs_G_F hGa42)
          have hF144 := cs_F_t hF30 (cs_G_F hGa42)
          have hG145 := cs_G_t hG31 hGa42
          have hz146 : ¬ sp_f P (a + 1) 1 = 0 := sp_f_ne hW29 hA23.2.1 (by omega)
          have hn147 : ¬ I40 11 11 = 0 := by rw [he43]; exact hz146
          have hx148 : sp_R K P V (2, a, 0, [], ld, nm, cs) (.inr (sp_f P (a + 1) 1)) := sp_R_1 (by
            show sp_line K P V a ld nm cs = _
            first
            | (exfalso; omega)
            | (unfold sp_line; repeat (first | rw [if_pos (by omega)] | rw [if_neg (by omega)]); unfold sp_person; repeat (first | rw [if_pos (by omega)] | rw [if_neg (by omega)])))
          show yi_D zi_Ms d zi_m262 k (53, [(0, .inr (.inr (some 11)))], [.inr (.inl z44)], (I40, L41, R, Y), 0, 0) _
          refine yi_D_run 3 (57, [(1, .inr (.inl z44)), (0, .inr (.inr (some 11)))], [.inl 6, .inr (.inr (some 11))], (I40, L41, R, Y), 0, 0) (fun _ => rfl) ?_
          refine yi_D_callv rfl (p_takeKind_f hW143 hn147) ?_
          rintro _ rfl
          show yi_D zi_Ms d zi_m262 k (60, [(1, .inr (.inl z44)), (0, .inr (.inr (some 11)))], [], (I40, L41, R, Y), 0, 0) _
          refine yi_D_run 3 (64, [(1, .inr (.inl z44)), (0, .inr (.inr (some 11)))], [.inl 99, .inl 0, .inr (.inr (some 11))], (I40, L41, R, Y), 0, 0) (fun _ => rfl) ?_
          refine yi_D_callv rfl (p_takeNumber_f hW143 hn147) ?_
          rintro _ ⟨z149, rfl⟩
          show yi_D zi_Ms d zi_m262 k (67, [(1, .inr (.inl z44)), (0, .inr (.inr (some 11)))], [.inl z149], (I40, L41, R, Y), 0, 0) _
          refine yi_D_run 3 (71, [(3, .inl z149), (1, .inr (.inl z44)), (0, .inr (.inr (some 11)))], [.inl 59, .inr (.inr (some 11))], (I40, L41, R, Y), 0, 0) (fun _ => rfl) ?_
          
          refine yi_D_callv rfl (p_takeKind_f hW143 hn147) ?_
          rintro _ rfl
          show yi_D zi_Ms d zi_m262 k (74, [(3, .inl z149), (1, .inr (.inl z44)), (0, .inr (.inr (some 11)))], [], (I40, L41, R, Y), 0, 0) _
          refine yi_D_run 1 (75, [(3, .inl z149), (1, .inr (.inl z44)), (0, .inr (.inr (some 11)))], [.inr (.inr (some 11))], (I40, L41, R, Y), 0, 0) (fun _ => rfl) ?_
          refine yi_D_gi (v := I40 11 11) rfl rfl rfl rfl (fun _ => ?_)
          have h150 : ¬ ((I40 11 11) = 0) := by omega
          refine yi_D_if1 true rfl (yi_ne_t h150) ?_
          refine yi_D_retv rfl ?_
          exact ⟨_, _, _, _, _, _, rfl, cs_H_F hF144, Or.inr ⟨_, hx148, hz146, he43⟩⟩
        · have hW151 := cs_W_t hW29 (cs_G_F hGa48)
          have hF152 := cs_F_t hF30 (cs_G_F hGa48)
          have hG153 := cs_G_t hG31 hGa48
          have hz154 : ¬ sp_f P (a + 1) 3 = 0 := sp_f_ne hW29 hA23.2.1 (by omega)
          have hn155 : ¬ I46 11 11 = 0 := by rw [he49]; exact hz154
          have hx156 : sp_R K P V (2, a, 0, [], ld, nm, cs) (.inr (sp_f P (a + 1) 3)) := sp_R_1 (by
            show sp_line K P V a ld nm cs = _
            first
            | (exfalso; omega)
            | (unfold sp_line; repeat (first | rw [if_pos (by omega)] | rw [if_neg (by omega)]); unfold sp_person; repeat (first | rw [if_pos (by omega)] | rw [if_neg (by omega)])))
          show yi_D zi_Ms d zi_m262 k (53, [(0, .inr (.inr (some 11)))], [.inr (.inl z50)], (I46, L47, R, Y), 0, 0) _
          refine yi_D_run 3 (57, [(1, .inr (.inl z50)), (0, .inr (.inr (some 11)))], [.inl 6, .inr (.inr (some 11))], (I46, L47, R, Y), 0, 0) (fun _ => rfl) ?_
          refine yi_D_callv rfl (p_takeKind_f hW151 hn155) ?_
          rintro _ rfl
          show yi_D zi_Ms d zi_m262 k (60, [(1, .inr (.inl z50)), (0, .inr (.inr (some 11)))], [], (I46, L47, R, Y), 0, 0) _
          refine yi_D_run 3 (64, [(1, .inr (.inl z50)), (0, .inr (.inr (some 11)))], [.inl 99, .inl 0, .inr (.inr (some 11))], (I46, L47, R, Y), 0, 0) (fun _ => rfl) ?_
          refine yi_D_callv rfl (p_takeNumber_f hW151 hn155) ?_
          rintro _ ⟨z157, rfl⟩
          show yi_D zi_Ms d zi_m262 k (67, [(1, .inr (.inl z50)), (0, .inr (.inr (some 11)))], [.inl z157], (I46, L47, R, Y), 0, 0) _
          refine yi_D_run 3 (71, [(3, .inl z157), (1, .inr (.inl z50)), (0, .inr (.inr (some 11)))], [.inl 59, .inr (.inr (some 11))], (I46, L47, R, Y), 0, 0) (fun _ => rfl) ?_
          
          refine yi_D_callv rfl (p_takeKind_f hW151 hn155) ?_
          rintro _ rfl
          show yi_D zi_Ms d zi_m262 k (74, [(3, .inl z157), (1, .inr (.inl z50)), (0, .inr (.inr (some 11)))], [], (I46, L47, R, Y), 0, 0) _
          refine yi_D_run 1 (75, [(3, .inl z157), (1, .inr (.inl z50)), (0, .inr (.inr (some 11)))], [.inr (.inr (some 11))], (I46, L47, R, Y), 0, 0) (fun _ => rfl) ?_
          refine yi_D_gi (v := I46 11 11) rfl rfl rfl rfl (fun _ => ?_)
          have h158 : ¬ ((I46 11 11) = 0) := by omega
          refine yi_D_if1 true rfl (yi_ne_t h158) ?_
          refine yi_D_retv rfl ?_
          exact ⟨_, _, _, _, _, _, rfl, cs_H_F hF152, Or.inr ⟨_, hx156, hz154, he49⟩⟩
      · exfalso; omega
    · refine yi_D_if2 false rfl (yi_le_f h17) ?_
      refine yi_D_run 2 (41, [(0, .inr (.inr (some 11)))], [.inl 5, .inr (.inr (some 11))], (I, L, R, Y), 0, 0) (fun _ => rfl) ?_
      refine yi_D_callv rfl (p_wrong_z ⟨by omega, by omega⟩ hW hf hA) ?_
      rintro _ ⟨I159, rfl, hg160, he161⟩
      have hGw162 : cs_G I L I159 L := ⟨fun p k hp => hg160 p k (by omega), fun _ _ _ => rfl⟩
      have hW163 := cs_W_t hW (cs_G_F hGw162)
      have hF164 := (cs_G_F hGw162)
      have hG165 := hGw162
      have hz166 : ¬ sp_f P a 5 = 0 := sp_f_ne hW hA.2.1 (by omega)
      have hn167 : ¬ I159 11 11 = 0 := by rw [he161]; exact hz166
      have hx168 : sp_R K P V (2, a, 0, [], ld, nm, cs) (.inr (sp_f P a 5)) := sp_R_1 (by
        show sp_line K P V a ld nm cs = _
        first
        | (exfalso; omega)
        | (unfold sp_line; repeat (first | rw [if_pos (by omega)] | rw [if_neg (by omega)]); unfold sp_person; repeat (first | rw [if_pos (by omega)] | rw [if_neg (by omega)])))
      show yi_D zi_Ms d zi_m262 k (44, [(0, .inr (.inr (some 11)))], [], (I159, L, R, Y), 0, 0) _
      refine yi_D_run 2 (46, [(0, .inr (.inr (some 11)))], [.inl 5, .inr (.inr (some 11))], (I159, L, R, Y), 0, 0) (fun _ => rfl) ?_
      refine yi_D_callv rfl (p_takeKind_f hW163 hn167) ?_
      rintro _ rfl
      show yi_D zi_Ms d zi_m262 k (49, [(0, .inr (.inr (some 11)))], [], (I159, L, R, Y), 0, 0) _
      refine yi_D_run 1 (50, [(0, .inr (.inr (some 11)))], [.inr (.inr (some 11))], (I159, L, R, Y), 0, 0) (fun _ => rfl) ?_
      refine yi_D_callv rfl (p_takeNewName_f hW163 hn167) ?_
      rintro _ ⟨z169, rfl⟩
      show yi_D zi_Ms d zi_m262 k (53, [(0, .inr (.inr (some 11)))], [.inr (.inl z169)], (I159, L, R, Y), 0, 0) _
      refine yi_D_run 3 (57, [(1, .inr (.inl z169)), (0, .inr (.inr (some 11)))], [.inl 6, .inr (.inr (some 11))], (I159, L, R, Y), 0, 0) (fun _ => rfl) ?_
      refine yi_D_callv rfl (p_takeKind_f hW163 hn167) ?_
      rintro _ rfl
      show yi_D zi_Ms d zi_m262 k (60, [(1, .inr (.inl z169)), (0, .inr (.inr (some 11)))], [], (I159, L, R, Y), 0, 0) _
      refine yi_D_run 3 (64, [(1, .inr (.inl z169)), (0, .inr (.inr (some 11)))], [.inl 99, .inl 0, .inr (.inr (some 11))], (I159, L, R, Y), 0, 0) (fun _ => rfl) ?_
      refine yi_D_callv rfl (p_takeNumber_f hW163 hn167) ?_
      rintro _ ⟨z170, rfl⟩
      show yi_D zi_Ms d zi_m262 k (67, [(1, .inr (.inl z169)), (0, .inr (.inr (some 11)))], [.inl z170], (I159, L, R, Y), 0, 0) _
      refine yi_D_run 3 (71, [(3, .inl z170), (1, .inr (.inl z169)), (0, .inr (.inr (some 11)))], [.inl 59, .inr (.inr (some 11))], (I159, L, R, Y), 0, 0) (fun _ => rfl) ?_
      
      refine yi_D_callv rfl (p_takeKind_f hW163 hn167) ?_
      rintro _ rfl
      show yi_D zi_Ms d zi_m262 k (74, [(3, .inl z170), (1, .inr (.inl z169)), (0, .inr (.inr (some 11)))], [], (I159, L, R, Y), 0, 0) _
      refine yi_D_run 1 (75, [(3, .inl z170), (1, .inr (.inl z169)), (0, .inr (.inr (some 11)))], [.inr (.inr (some 11))], (I159, L, R, Y), 0, 0) (fun _ => rfl) ?_
      refine yi_D_gi (v := I159 11 11) rfl rfl rfl rfl (fun _ => ?_)
      have h171 : ¬ ((I159 11 11) = 0) := by omega
      refine yi_D_if1 true rfl (yi_ne_t h171) ?_
      refine yi_D_retv rfl ?_
      exact ⟨_, _, _, _, _, _, rfl, cs_H_F hF164, Or.inr ⟨_, hx168, hz166, he161⟩⟩
theorem p_readEvent {d : Nat} {I L : Nat → Nat → Int} {R : Nat → Nat → Option Nat} {Y : (Nat → Nat) × (Nat → Nat) × Nat} {K P V : Nat → Int} {te q a : Nat} {ld : Nat → Int} {nm : Int → Int} (hW : cs_W I L R Y K P V te q ld nm) (hf : I 11 11 = 0) (hA : cs_A I L K te a) (cs : List (Int × Int)) (hk : K a = 7) : yi_P zi_Ms d 254 [.inr (.inr (some 11))] (I, L, R, Y) (cs_QL I L R Y K P V te (2, a, 0, [], ld, nm, cs) q a) := by
  refine yi_P_of (M := zi_m254) rfl (fun d k => ?_)
  obtain ⟨ly1, ly2, ly3, ly4⟩ := hW.2.2.1.2.2.2
  have lb := hW.2.2.2.2.1
  have hq0 := hW.2.2.1.1
  show yi_D zi_Ms d zi_m254 k (0, [(0, .inr (.inr (some 11)))], [], (I, L, R, Y), 0, 0) _
  refine yi_D_run 1 (1, [(0, .inr (.inr (some 11)))], [.inr (.inr (some 11))], (I, L, R, Y), 0, 0) (fun _ => rfl) ?_
  refine yi_D_gr (v := some q) rfl rfl rfl hW.2.2.1.2.1 (fun _ => ?_)
  refine yi_D_gi (v := ld 2) rfl rfl (Nat.ble_eq_true_of_le (by omega)) hW.2.2.2.1.2.2.1 (fun _ => ?_)
  refine yi_D_run 1 (8, [(0, .inr (.inr (some 11)))], [.inl 4, .inl (ld 2)], (I, L, R, Y), 0, 0) (fun _ => rfl) ?_
  by_cases h1 : 4 ≤ (ld 2)
  · refine yi_D_if2 true rfl (yi_ge_t h1) ?_
    refine yi_D_run 2 (41, [(0, .inr (.inr (some 11)))], [.inl 5, .inr (.inr (some 11))], (I, L, R, Y), 0, 0) (fun _ => rfl) ?_
    refine yi_D_callv rfl (p_wrong_z ⟨by omega, by omega⟩ hW hf hA) ?_
    rintro _ ⟨I2, rfl, hg3, he4⟩
    have hGw5 : cs_G I L I2 L := ⟨fun p k hp => hg3 p k (by omega), fun _ _ _ => rfl⟩
    have hW6 := cs_W_t hW (cs_G_F hGw5)
    have hF7 := (cs_G_F hGw5)
    have hG8 := hGw5
    have hz9 : ¬ sp_f P a 5 = 0 := sp_f_ne hW hA.2.1 (by omega)
    have hn10 : ¬ I2 11 11 = 0 := by rw [he4]; exact hz9
    have hx11 : sp_R K P V (2, a, 0, [], ld, nm, cs) (.inr (sp_f P a 5)) := sp_R_1 (by
      show sp_line K P V a ld nm cs = _
      first
      | (exfalso; omega)
      | (unfold sp_line; repeat (first | rw [if_pos (by omega)] | rw [if_neg (by omega)]); unfold sp_event; repeat (first | rw [if_pos (by omega)] | rw [if_neg (by omega)])))
    show yi_D zi_Ms d zi_m254 k (44, [(0, .inr (.inr (some 11)))], [], (I2, L, R, Y), 0, 0) _
    refine yi_D_run 2 (47, [(0, .inr (.inr (some 11)))], [.inl 7, .inr (.inr (some 11))], (I2, L, R, Y), 0, 0) (fun _ => rfl) ?_
    refine yi_D_callv rfl (p_takeKind_f hW6 hn10) ?_
    rintro _ rfl
    show yi_D zi_Ms d zi_m254 k (50, [(0, .inr (.inr (some 11)))], [], (I2, L, R, Y), 0, 0) _
    refine yi_D_run 1 (51, [(0, .inr (.inr (some 11)))], [.inr (.inr (some 11))], (I2, L, R, Y), 0, 0) (fun _ => rfl) ?_
    refine yi_D_callv rfl (p_takeNewName_f hW6 hn10) ?_
    rintro _ ⟨z12, rfl⟩
    show yi_D zi_Ms d zi_m254 k (54, [(0, .inr (.inr (some 11)))], [.inr (.inl z12)], (I2, L, R, Y), 0, 0) _
    refine yi_D_run 3 (58, [(1, .inr (.inl z12)), (0, .inr (.inr (some 11)))], [.inl 59, .inr (.inr (some 11))], (I2, L, R, Y), 0, 0) (fun _ => rfl) ?_
    
    refine yi_D_callv rfl (p_takeKind_f hW6 hn10) ?_
    rintro _ rfl
    show yi_D zi_Ms d zi_m254 k (61, [(1, .inr (.inl z12)), (0, .inr (.inr (some 11)))], [], (I2, L, R, Y), 0, 0) _
    refine yi_D_run 1 (62, [(1, .inr (.inl z12)), (0, .inr (.inr (some 11)))], [.inr (.inr (some 11))], (I2, L, R, Y), 0, 0) (fun _ => rfl) ?_
    refine yi_D_gi (v := I2 11 11) rfl rfl rfl rfl (fun _ => ?_)
    have h13 : ¬ ((I2 11 11) = 0) := by omega
    refine yi_D_if1 true rfl (yi_ne_t h13) ?_
    refine yi_D_retv rfl ?_
    exact ⟨_, _, _, _, _, _, rfl, cs_H_F hF7, Or.inr ⟨_, hx11, hz9, he4⟩⟩
  · refine yi_D_if2 false rfl (yi_ge_f h1) ?_
    refine yi_D_run 1 (12, [(0, .inr (.inr (some 11)))], [.inr (.inr (some 11))], (I, L, R, Y), 0, 0) (fun _ => rfl) ?_
    refine yi_D_gr (v := some q) rfl rfl rfl hW.2.2.1.2.1 (fun _ => ?_)
    refine yi_D_run 1 (16, [(0, .inr (.inr (some 11)))], [.inr (.inr (some 11)), .inr (.inr (some q))], (I, L, R, Y), 0, 0) (fun _ => rfl) ?_
    refine yi_D_gr (v := some q) rfl rfl rfl hW.2.2.1.2.1 (fun _ => ?_)
    refine yi_D_gi (v := ld 1) rfl rfl (Nat.ble_eq_true_of_le (by omega)) hW.2.2.2.1.2.1 (fun _ => ?_)
    refine yi_D_run 1 (23, [(0, .inr (.inr (some 11)))], [.inr (.inr (some 11)), .inl (ld 1), .inr (.inr (some q))], (I, L, R, Y), 0, 0) (fun _ => rfl) ?_
    refine yi_D_gr (v := some q) rfl rfl rfl hW.2.2.1.2.1 (fun _ => ?_)
    refine yi_D_gi (v := ld 2) rfl rfl (Nat.ble_eq_true_of_le (by omega)) hW.2.2.2.1.2.2.1 (fun _ => ?_)
    refine yi_D_run 1 (30, [(0, .inr (.inr (some 11)))], [.inl 1, .inl (ld 2), .inl (ld 1), .inr (.inr (some q))], (I, L, R, Y), 0, 0) (fun _ => rfl) ?_
    refine yi_D_iadd rfl ((ld 2) + 1) (yi_wn (by omega) (by omega)) ?_
    refine yi_D_callv rfl (p_futuresWith hW ⟨by omega, by omega⟩ ⟨by omega, by omega⟩) ?_
    rintro _ ⟨z14, rfl, hz15⟩
    show yi_D zi_Ms d zi_m254 k (34, [(0, .inr (.inr (some 11)))], [.inl z14], (I, L, R, Y), 0, 0) _
    refine yi_D_ldc (32768) rfl (by decide +kernel) ?_
    by_cases h16 : z14 ≤ 32768
    · refine yi_D_if2 true rfl (yi_le_t h16) ?_
      refine yi_D_run 2 (47, [(0, .inr (.inr (some 11)))], [.inl 7, .inr (.inr (some 11))], (I, L, R, Y), 0, 0) (fun _ => rfl) ?_
      refine yi_D_callv rfl (p_takeKind_z (by omega) hW hf hA) ?_
      rintro _ (⟨c17, I18, L19, rfl, hGa20, hf21, hA22⟩ | ⟨c23, I24, L25, rfl, hGa26, he27⟩)
      · have hA22 : cs_A I18 L19 K te (a + 1) := hA22
        have hW28 := cs_W_t hW (cs_G_F hGa20)
        have hF29 := (cs_G_F hGa20)
        have hG30 := hGa20
        show yi_D zi_Ms d zi_m254 k (50, [(0, .inr (.inr (some 11)))], [], (I18, L19, R, Y), 0, 0) _
        refine yi_D_run 1 (51, [(0, .inr (.inr (some 11)))], [.inr (.inr (some 11))], (I18, L19, R, Y), 0, 0) (fun _ => rfl) ?_
        refine yi_D_callv rfl (p_takeNewName_z hW28 hf21 hA22) ?_
        rintro _ (⟨c31, c32, I33, L34, rfl, hGa35, hf36, hA37⟩ | ⟨c38, z43, I39, L40, rfl, hGa41, he42⟩ | ⟨c44, z49, I45, L46, rfl, hGa47, he48⟩)
        · have hA37 : cs_A I33 L34 K te (a + 2) := hA37
          have hW50 := cs_W_t hW28 (cs_G_F hGa35)
          have hF51 := cs_F_t hF29 (cs_G_F hGa35)
          have hG52 := cs_G_t hG30 hGa35
          have hwr : sp_WR (L19 16 (a + 1)) (V (a + 1)) := by
            rw [hF29.2 16 (a + 1) (by omega)]
            exact (hW.2.1.2.2.1 (a + 1) hA22.2.1).2.2.2.2.1 (by omega)
          show yi_D zi_Ms d zi_m254 k (54, [(0, .inr (.inr (some 11)))], [.inr (.inl (L19 16 (a + 1)))], (I33, L34, R, Y), 0, 0) _
          refine yi_D_run 3 (58, [(1, .inr (.inl (L19 16 (a + 1)))), (0, .inr (.inr (some 11)))], [.inl 59, .inr (.inr (some 11))], (I33, L34, R, Y), 0, 0) (fun _ => rfl) ?_
          have hR53 : sp_R K P V (2, a, 0, [], ld, nm, cs) (.inl (1, a + 2, 0, [], sp_up ld 2 (ld 2 + 1), sp_un nm (V (a + 1)) (4 + ld 2), cs)) := sp_R_1 (by
            show sp_line K P V a ld nm cs = _
            unfold sp_line
            repeat (first | rw [if_pos (by omega)] | rw [if_neg (by omega)])
            unfold sp_event
            repeat (first | rw [if_pos (by omega)] | rw [if_neg (by omega)]))
          refine yi_D_callv rfl (p_takeKind_z (by omega) hW50 hf36 hA37) ?_
          rintro _ (⟨c54, I55, L56, rfl, hGa57, hf58, hA59⟩ | ⟨c60, I61, L62, rfl, hGa63, he64⟩)
          · have hA59 : cs_A I55 L56 K te (a + 3) := hA59
            have hW65 := cs_W_t hW50 (cs_G_F hGa57)
            have hF66 := cs_F_t hF51 (cs_G_F hGa57)
            have hG67 := cs_G_t hG52 hGa57
            have hR68 : sp_R K P V (2, a, 0, [], ld, nm, cs) (.inl (2, (a + 2) + 1, 0, [], sp_up ld 2 (ld 2 + 1), sp_un nm (V (a + 1)) (4 + ld 2), cs)) := sp_R_s hR53 (by
              show (if K _ = 59 then _ else _) = _
              rw [if_pos (by omega)])
            show yi_D zi_Ms d zi_m254 k (61, [(1, .inr (.inl (L19 16 (a + 1)))), (0, .inr (.inr (some 11)))], [], (I55, L56, R, Y), 0, 0) _
            refine yi_D_run 1 (62, [(1, .inr (.inl (L19 16 (a + 1)))), (0, .inr (.inr (some 11)))], [.inr (.inr (some 11))], (I55, L56, R, Y), 0, 0) (fun _ => rfl) ?_
            refine yi_D_gi (v := 0) rfl rfl rfl hf58 (fun _ => ?_)
            refine yi_D_if1 false rfl (by decide) ?_
            refine yi_D_run 1 (69, [(1, .inr (.inl (L19 16 (a + 1)))), (0, .inr (.inr (some 11)))], [.inr (.inr (some 11))], (I55, L56, R, Y), 0, 0) (fun _ => rfl) ?_
            refine yi_D_gr (v := some q) rfl rfl rfl hW.2.2.1.2.1 (fun _ => ?_)
            refine yi_D_run 1 (73, [(1, .inr (.inl (L19 16 (a + 1)))), (0, .inr (.inr (some 11)))], [.inr (.inl (L19 16 (a + 1))), .inr (.inr (some q))], (I55, L56, R, Y), 0, 0) (fun _ => rfl) ?_
            refine yi_D_callv rfl (p_addEvent hW65 (by omega)) ?_
            rintro _ ⟨I69, L70, rfl, ho71, e72, e73, e74, e75⟩
            show yi_D zi_Ms d zi_m254 k (76, [(1, .inr (.inl (L19 16 (a + 1)))), (0, .inr (.inr (some 11)))], [], (I69, L70, R, Y), 0, 0) _
            refine yi_D_retv rfl ?_
            have hfin := cs_fin hF66 hW65 hf58 hA59 (fun p k _ h => ho71 p k h) (fun _ _ _ => rfl) ⟨Nat.le_refl _, fun _ _ => ⟨rfl, rfl⟩⟩ (cs_Ld_event hW65.2.2 hwr (by omega) (by omega) e72 e73 e74 e75)
            exact ⟨_, _, _, _, _, _, rfl, hfin.1, Or.inl ⟨_, _, _, _, hR68, by omega, hfin.2.1, hfin.2.2.1, hfin.2.2.2⟩⟩
          · have hW76 := cs_W_t hW50 (cs_G_F hGa63)
            have hF77 := cs_F_t hF51 (cs_G_F hGa63)
            have hG78 := cs_G_t hG52 hGa63
            have hz79 : ¬ sp_f P (a + 2) 1 = 0 := sp_f_ne hW50 hA37.2.1 (by omega)
            have hn80 : ¬ I61 11 11 = 0 := by rw [he64]; exact hz79
            have hx81 : sp_R K P V (2, a, 0, [], ld, nm, cs) (.inr (sp_f P (a + 2) 1)) := sp_R_s hR53 (by
              show (if K _ = 59 then _ else _) = _
              rw [if_neg (by omega)])
            show yi_D zi_Ms d zi_m254 k (61, [(1, .inr (.inl (L19 16 (a + 1)))), (0, .inr (.inr (some 11)))], [], (I61, L62, R, Y), 0, 0) _
            refine yi_D_run 1 (62, [(1, .inr (.inl (L19 16 (a + 1)))), (0, .inr (.inr (some 11)))], [.inr (.inr (some 11))], (I61, L62, R, Y), 0, 0) (fun _ => rfl) ?_
            refine yi_D_gi (v := I61 11 11) rfl rfl rfl rfl (fun _ => ?_)
            have h82 : ¬ ((I61 11 11) = 0) := by omega
            refine yi_D_if1 true rfl (yi_ne_t h82) ?_
            refine yi_D_retv rfl ?_
            exact ⟨_, _, _, _, _, _, rfl, cs_H_F hF77, Or.inr ⟨_, hx81, hz79, he64⟩⟩
        · have hW83 := cs_W_t hW28 (cs_G_F hGa41)
          have hF84 := cs_F_t hF29 (cs_G_F hGa41)
          have hG85 := cs_G_t hG30 hGa41
          have hz86 : ¬ sp_f P (a + 1) 1 = 0 := sp_f_ne hW28 hA22.2.1 (by omega)
          have hn87 : ¬ I39 11 11 = 0 := by rw [he42]; exact hz86
          have hx88 : sp_R K P V (2, a, 0, [], ld, nm, cs) (.inr (sp_f P (a + 1) 1)) := sp_R_1 (by
            show sp_line K P V a ld nm cs = _
            first
            | (exfalso; omega)
            | (unfold sp_line; repeat (first | rw [if_pos (by omega)] | rw [if_neg (by omega)]); unfold sp_event; repeat (first | rw [if_pos (by omega)] | rw [if_neg (by omega)])))
          show yi_D zi_Ms d zi_m254 k (54, [(0, .inr (.inr (some 11)))], [.inr (.inl z43)], (I39, L40, R, Y), 0, 0) _
          refine yi_D_run 3 (58, [(1, .inr (.inl z43)), (0, .inr (.inr (some 11)))], [.inl 59, .inr (.inr (some 11))], (I39, L40, R, Y), 0, 0) (fun _ => rfl) ?_
          
          refine yi_D_callv rfl (p_takeKind_f hW83 hn87) ?_
          rintro _ rfl
          show yi_D zi_Ms d zi_m254 k (61, [(1, .inr (.inl z43)), (0, .inr (.inr (some 11)))], [], (I39, L40, R, Y), 0, 0) _
          refine yi_D_run 1 (62, [(1, .inr (.inl z43)), (0, .inr (.inr (some 11)))], [.inr (.inr (some 11))], (I39, L40, R, Y), 0, 0) (fun _ => rfl) ?_
          refine yi_D_gi (v := I39 11 11) rfl rfl rfl rfl (fun _ => ?_)
          have h89 : ¬ ((I39 11 11) = 0) := by omega
          refine yi_D_if1 true rfl (yi_ne_t h89) ?_
          refine yi_D_retv rfl ?_
          exact ⟨_, _, _, _, _, _, rfl, cs_H_F hF84, Or.inr ⟨_, hx88, hz86, he42⟩⟩
        · have hW90 := cs_W_t hW28 (cs_G_F hGa47)
          have hF91 := cs_F_t hF29 (cs_G_F hGa47)
          have hG92 := cs_G_t hG30 hGa47
          have hz93 : ¬ sp_f P (a + 1) 3 = 0 := sp_f_ne hW28 hA22.2.1 (by omega)
          have hn94 : ¬ I45 11 11 = 0 := by rw [he48]; exact hz93
          have hx95 : sp_R K P V (2, a, 0, [], ld, nm, cs) (.inr (sp_f P (a + 1) 3)) := sp_R_1 (by
            show sp_line K P V a ld nm cs = _
            first
            | (exfalso; omega)
            | (unfold sp_line; repeat (first | rw [if_pos (by omega)] | rw [if_neg (by omega)]); unfold sp_event; repeat (first | rw [if_pos (by omega)] | rw [if_neg (by omega)])))
          show yi_D zi_Ms d zi_m254 k (54, [(0, .inr (.inr (some 11)))], [.inr (.inl z49)], (I45, L46, R, Y), 0, 0) _
          refine yi_D_run 3 (58, [(1, .inr (.inl z49)), (0, .inr (.inr (some 11)))], [.inl 59, .inr (.inr (some 11))], (I45, L46, R, Y), 0, 0) (fun _ => rfl) ?_
          
          refine yi_D_callv rfl (p_takeKind_f hW90 hn94) ?_
          rintro _ rfl
          show yi_D zi_Ms d zi_m254 k (61, [(1, .inr (.inl z49)), (0, .inr (.inr (some 11)))], [], (I45, L46, R, Y), 0, 0) _
          refine yi_D_run 1 (62, [(1, .inr (.inl z49)), (0, .inr (.inr (some 11)))], [.inr (.inr (some 11))], (I45, L46, R, Y), 0, 0) (fun _ => rfl) ?_
          refine yi_D_gi (v := I45 11 11) rfl rfl rfl rfl (fun _ => ?_)
          have h96 : ¬ ((I45 11 11) = 0) := by omega
          refine yi_D_if1 true rfl (yi_ne_t h96) ?_
          refine yi_D_retv rfl ?_
          exact ⟨_, _, _, _, _, _, rfl, cs_H_F hF91, Or.inr ⟨_, hx95, hz93, he48⟩⟩
      · exfalso; omega
    · refine yi_D_if2 false rfl (yi_le_f h16) ?_
      refine yi_D_run 2 (41, [(0, .inr (.inr (some 11)))], [.inl 5, .inr (.inr (some 11))], (I, L, R, Y), 0, 0) (fun _ => rfl) ?_
      refine yi_D_callv rfl (p_wrong_z ⟨by omega, by omega⟩ hW hf hA) ?_
      rintro _ ⟨I97, rfl, hg98, he99⟩
      have hGw100 : cs_G I L I97 L := ⟨fun p k hp => hg98 p k (by omega), fun _ _ _ => rfl⟩
      have hW101 := cs_W_t hW (cs_G_F hGw100)
      have hF102 := (cs_G_F hGw100)
      have hG103 := hGw100
      have hz104 : ¬ sp_f P a 5 = 0 := sp_f_ne hW hA.2.1 (by omega)
      have hn105 : ¬ I97 11 11 = 0 := by rw [he99]; exact hz104
      have hx106 : sp_R K P V (2, a, 0, [], ld, nm, cs) (.inr (sp_f P a 5)) := sp_R_1 (by
        show sp_line K P V a ld nm cs = _
        first
        | (exfalso; omega)
        | (unfold sp_line; repeat (first | rw [if_pos (by omega)] | rw [if_neg (by omega)]); unfold sp_event; repeat (first | rw [if_pos (by omega)] | rw [if_neg (by omega)])))
      show yi_D zi_Ms d zi_m254 k (44, [(0, .inr (.inr (some 11)))], [], (I97, L, R, Y), 0, 0) _
      refine yi_D_run 2 (47, [(0, .inr (.inr (some 11)))], [.inl 7, .inr (.inr (some 11))], (I97, L, R, Y), 0, 0) (fun _ => rfl) ?_
      refine yi_D_callv rfl (p_takeKind_f hW101 hn105) ?_
      rintro _ rfl
      show yi_D zi_Ms d zi_m254 k (50, [(0, .inr (.inr (some 11)))], [], (I97, L, R, Y), 0, 0) _
      refine yi_D_run 1 (51, [(0, .inr (.inr (some 11)))], [.inr (.inr (some 11))], (I97, L, R, Y), 0, 0) (fun _ => rfl) ?_
      refine yi_D_callv rfl (p_takeNewName_f hW101 hn105) ?_
      rintro _ ⟨z107, rfl⟩
      show yi_D zi_Ms d zi_m254 k (54, [(0, .inr (.inr (some 11)))], [.inr (.inl z107)], (I97, L, R, Y), 0, 0) _
      refine yi_D_run 3 (58, [(1, .inr (.inl z107)), (0, .inr (.inr (some 11)))], [.inl 59, .inr (.inr (some 11))], (I97, L, R, Y), 0, 0) (fun _ => rfl) ?_
      
      refine yi_D_callv rfl (p_takeKind_f hW101 hn105) ?_
      rintro _ rfl
      show yi_D zi_Ms d zi_m254 k (61, [(1, .inr (.inl z107)), (0, .inr (.inr (some 11)))], [], (I97, L, R, Y), 0, 0) _
      refine yi_D_run 1 (62, [(1, .inr (.inl z107)), (0, .inr (.inr (some 11)))], [.inr (.inr (some 11))], (I97, L, R, Y), 0, 0) (fun _ => rfl) ?_
      refine yi_D_gi (v := I97 11 11) rfl rfl rfl rfl (fun _ => ?_)
      have h108 : ¬ ((I97 11 11) = 0) := by omega
      refine yi_D_if1 true rfl (yi_ne_t h108) ?_
      refine yi_D_retv rfl ?_
      exact ⟨_, _, _, _, _, _, rfl, cs_H_F hF102, Or.inr ⟨_, hx106, hz104, he99⟩⟩
theorem p_readProphet {d : Nat} {I L : Nat → Nat → Int} {R : Nat → Nat → Option Nat} {Y : (Nat → Nat) × (Nat → Nat) × Nat} {K P V : Nat → Int} {te q a : Nat} {ld : Nat → Int} {nm : Int → Int} (hW : cs_W I L R Y K P V te q ld nm) (hf : I 11 11 = 0) (hA : cs_A I L K te a) (cs : List (Int × Int)) (hk : K a = 8) : yi_P zi_Ms d 264 [.inr (.inr (some 11))] (I, L, R, Y) (cs_QL I L R Y K P V te (2, a, 0, [], ld, nm, cs) q a) := by
  refine yi_P_of (M := zi_m264) rfl (fun d k => ?_)
  obtain ⟨ly1, ly2, ly3, ly4⟩ := hW.2.2.1.2.2.2
  have lb := hW.2.2.2.2.1
  have hq0 := hW.2.2.1.1
  show yi_D zi_Ms d zi_m264 k (0, [(0, .inr (.inr (some 11)))], [], (I, L, R, Y), 0, 0) _
  refine yi_D_run 1 (1, [(0, .inr (.inr (some 11)))], [.inr (.inr (some 11))], (I, L, R, Y), 0, 0) (fun _ => rfl) ?_
  refine yi_D_gr (v := some q) rfl rfl rfl hW.2.2.1.2.1 (fun _ => ?_)
  refine yi_D_gi (v := ld 3) rfl rfl (Nat.ble_eq_true_of_le (by omega)) hW.2.2.2.1.2.2.2.1 (fun _ => ?_)
  refine yi_D_run 1 (8, [(0, .inr (.inr (some 11)))], [.inl 5, .inl (ld 3)], (I, L, R, Y), 0, 0) (fun _ => rfl) ?_
  by_cases h1 : (ld 3) < 5
  · refine yi_D_if2 true rfl (yi_lt_t h1) ?_
    refine yi_D_run 2 (19, [(0, .inr (.inr (some 11)))], [.inl 8, .inr (.inr (some 11))], (I, L, R, Y), 0, 0) (fun _ => rfl) ?_
    refine yi_D_callv rfl (p_takeKind_z (by omega) hW hf hA) ?_
    rintro _ (⟨c2, I3, L4, rfl, hGa5, hf6, hA7⟩ | ⟨c8, I9, L10, rfl, hGa11, he12⟩)
    · have hA7 : cs_A I3 L4 K te (a + 1) := hA7
      have hW13 := cs_W_t hW (cs_G_F hGa5)
      have hF14 := (cs_G_F hGa5)
      have hG15 := hGa5
      show yi_D zi_Ms d zi_m264 k (22, [(0, .inr (.inr (some 11)))], [], (I3, L4, R, Y), 0, 0) _
      refine yi_D_run 1 (23, [(0, .inr (.inr (some 11)))], [.inr (.inr (some 11))], (I3, L4, R, Y), 0, 0) (fun _ => rfl) ?_
      refine yi_D_callv rfl (p_takeNewName_z hW13 hf6 hA7) ?_
      rintro _ (⟨c16, c17, I18, L19, rfl, hGa20, hf21, hA22⟩ | ⟨c23, z28, I24, L25, rfl, hGa26, he27⟩ | ⟨c29, z34, I30, L31, rfl, hGa32, he33⟩)
      · have hA22 : cs_A I18 L19 K te (a + 2) := hA22
        have hW35 := cs_W_t hW13 (cs_G_F hGa20)
        have hF36 := cs_F_t hF14 (cs_G_F hGa20)
        have hG37 := cs_G_t hG15 hGa20
        have hwr : sp_WR (L4 16 (a + 1)) (V (a + 1)) := by
          rw [hF14.2 16 (a + 1) (by omega)]
          exact (hW.2.1.2.2.1 (a + 1) hA7.2.1).2.2.2.2.1 (by omega)
        show yi_D zi_Ms d zi_m264 k (26, [(0, .inr (.inr (some 11)))], [.inr (.inl (L4 16 (a + 1)))], (I18, L19, R, Y), 0, 0) _
        refine yi_D_run 2 (28, [(1, .inr (.inl (L4 16 (a + 1)))), (0, .inr (.inr (some 11)))], [.inr (.inr (some 11))], (I18, L19, R, Y), 0, 0) (fun _ => rfl) ?_
        refine yi_D_gi (v := K (a + 2)) rfl rfl rfl hA22.2.2.1 (fun _ => ?_)
        refine yi_D_run 4 (36, [(3, .inl (yi_w ((K (a + 2)) - 25))), (1, .inr (.inl (L4 16 (a + 1)))), (0, .inr (.inr (some 11)))], [.inr (.inr (some 11))], (I18, L19, R, Y), 0, 0) (fun _ => rfl) ?_
        refine yi_D_gi (v := K (a + 2)) rfl rfl rfl hA22.2.2.1 (fun _ => ?_)
        refine yi_D_run 1 (41, [(3, .inl (yi_w ((K (a + 2)) - 25))), (1, .inr (.inl (L4 16 (a + 1)))), (0, .inr (.inr (some 11)))], [.inl 25, .inl (K (a + 2))], (I18, L19, R, Y), 0, 0) (fun _ => rfl) ?_
        by_cases h38 : (K (a + 2)) < 25
        · refine yi_D_if2 true rfl (yi_lt_t h38) ?_
          refine yi_D_run 2 (55, [(3, .inl (yi_w ((K (a + 2)) - 25))), (1, .inr (.inl (L4 16 (a + 1)))), (0, .inr (.inr (some 11)))], [.inl 1, .inr (.inr (some 11))], (I18, L19, R, Y), 0, 0) (fun _ => rfl) ?_
          refine yi_D_callv rfl (p_wrong_z ⟨by omega, by omega⟩ hW35 hf21 hA22) ?_
          rintro _ ⟨I39, rfl, hg40, he41⟩
          have hGw42 : cs_G I18 L19 I39 L19 := ⟨fun p k hp => hg40 p k (by omega), fun _ _ _ => rfl⟩
          have hW43 := cs_W_t hW35 (cs_G_F hGw42)
          have hF44 := cs_F_t hF36 (cs_G_F hGw42)
          have hG45 := cs_G_t hG37 hGw42
          have hz46 : ¬ sp_f P (a + 2) 1 = 0 := sp_f_ne hW35 hA22.2.1 (by omega)
          have hn47 : ¬ I39 11 11 = 0 := by rw [he41]; exact hz46
          have hx48 : sp_R K P V (2, a, 0, [], ld, nm, cs) (.inr (sp_f P (a + 2) 1)) := sp_R_1 (by
            show sp_line K P V a ld nm cs = _
            first
            | (exfalso; omega)
            | (unfold sp_line; repeat (first | rw [if_pos (by omega)] | rw [if_neg (by omega)]); unfold sp_prophet; repeat (first | rw [if_pos (by omega)] | rw [if_neg (by omega)])))
          show yi_D zi_Ms d zi_m264 k (58, [(3, .inl (yi_w ((K (a + 2)) - 25))), (1, .inr (.inl (L4 16 (a + 1)))), (0, .inr (.inr (some 11)))], [], (I39, L19, R, Y), 0, 0) _
          refine yi_D_run 1 (59, [(3, .inl (yi_w ((K (a + 2)) - 25))), (1, .inr (.inl (L4 16 (a + 1)))), (0, .inr (.inr (some 11)))], [.inr (.inr (some 11))], (I39, L19, R, Y), 0, 0) (fun _ => rfl) ?_
          refine yi_D_callv rfl (p_advance_f hW43 hn47) ?_
          rintro _ rfl
          show yi_D zi_Ms d zi_m264 k (62, [(3, .inl (yi_w ((K (a + 2)) - 25))), (1, .inr (.inl (L4 16 (a + 1)))), (0, .inr (.inr (some 11)))], [], (I39, L19, R, Y), 0, 0) _
          refine yi_D_run 2 (65, [(3, .inl (yi_w ((K (a + 2)) - 25))), (1, .inr (.inl (L4 16 (a + 1)))), (0, .inr (.inr (some 11)))], [.inl 9, .inr (.inr (some 11))], (I39, L19, R, Y), 0, 0) (fun _ => rfl) ?_
          refine yi_D_callv rfl (p_takeKind_f hW43 hn47) ?_
          rintro _ rfl
          show yi_D zi_Ms d zi_m264 k (68, [(3, .inl (yi_w ((K (a + 2)) - 25))), (1, .inr (.inl (L4 16 (a + 1)))), (0, .inr (.inr (some 11)))], [], (I39, L19, R, Y), 0, 0) _
          refine yi_D_run 3 (73, [(3, .inl (yi_w ((K (a + 2)) - 25))), (1, .inr (.inl (L4 16 (a + 1)))), (0, .inr (.inr (some 11)))], [.inl 999, .inl 0, .inr (.inr (some 11))], (I39, L19, R, Y), 0, 0) (fun _ => rfl) ?_
          refine yi_D_callv rfl (p_takeNumber_f hW43 hn47) ?_
          rintro _ ⟨z49, rfl⟩
          show yi_D zi_Ms d zi_m264 k (76, [(3, .inl (yi_w ((K (a + 2)) - 25))), (1, .inr (.inl (L4 16 (a + 1)))), (0, .inr (.inr (some 11)))], [.inl z49], (I39, L19, R, Y), 0, 0) _
          refine yi_D_run 3 (81, [(4, .inl z49), (3, .inl (yi_w ((K (a + 2)) - 25))), (1, .inr (.inl (L4 16 (a + 1)))), (0, .inr (.inr (some 11)))], [.inl 59, .inr (.inr (some 11))], (I39, L19, R, Y), 0, 0) (fun _ => rfl) ?_
          
          refine yi_D_callv rfl (p_takeKind_f hW43 hn47) ?_
          rintro _ rfl
          show yi_D zi_Ms d zi_m264 k (84, [(4, .inl z49), (3, .inl (yi_w ((K (a + 2)) - 25))), (1, .inr (.inl (L4 16 (a + 1)))), (0, .inr (.inr (some 11)))], [], (I39, L19, R, Y), 0, 0) _
          refine yi_D_run 1 (85, [(4, .inl z49), (3, .inl (yi_w ((K (a + 2)) - 25))), (1, .inr (.inl (L4 16 (a + 1)))), (0, .inr (.inr (some 11)))], [.inr (.inr (some 11))], (I39, L19, R, Y), 0, 0) (fun _ => rfl) ?_
          refine yi_D_gi (v := I39 11 11) rfl rfl rfl rfl (fun _ => ?_)
          have h50 : ¬ ((I39 11 11) = 0) := by omega
          refine yi_D_if1 true rfl (yi_ne_t h50) ?_
          refine yi_D_retv rfl ?_
          exact ⟨_, _, _, _, _, _, rfl, cs_H_F hF44, Or.inr ⟨_, hx48, hz46, he41⟩⟩
        · refine yi_D_if2 false rfl (yi_lt_f h38) ?_
          refine yi_D_run 1 (45, [(3, .inl (yi_w ((K (a + 2)) - 25))), (1, .inr (.inl (L4 16 (a + 1)))), (0, .inr (.inr (some 11)))], [.inr (.inr (some 11))], (I18, L19, R, Y), 0, 0) (fun _ => rfl) ?_
          refine yi_D_gi (v := K (a + 2)) rfl rfl rfl hA22.2.2.1 (fun _ => ?_)
          refine yi_D_run 1 (50, [(3, .inl (yi_w ((K (a + 2)) - 25))), (1, .inr (.inl (L4 16 (a + 1)))), (0, .inr (.inr (some 11)))], [.inl 29, .inl (K (a + 2))], (I18, L19, R, Y), 0, 0) (fun _ => rfl) ?_
          by_cases h51 : (K (a + 2)) ≤ 29
          · refine yi_D_if2 true rfl (yi_le_t h51) ?_
            refine yi_D_run 1 (59, [(3, .inl (yi_w ((K (a + 2)) - 25))), (1, .inr (.inl (L4 16 (a + 1)))), (0, .inr (.inr (some 11)))], [.inr (.inr (some 11))], (I18, L19, R, Y), 0, 0) (fun _ => rfl) ?_
            refine yi_D_callv rfl (p_advance_z hW35 hf21 hA22) ?_
            rintro _ ⟨I52, L53, rfl, hGa54, hf55, hA56⟩
            rw [sp_nx_lt (cs_lt hW35.2.1 hA22.2.1 (by omega))] at hA56
            have hA56 : cs_A I52 L53 K te (a + 3) := hA56
            have hW57 := cs_W_t hW35 (cs_G_F hGa54)
            have hF58 := cs_F_t hF36 (cs_G_F hGa54)
            have hG59 := cs_G_t hG37 hGa54
            show yi_D zi_Ms d zi_m264 k (62, [(3, .inl (yi_w ((K (a + 2)) - 25))), (1, .inr (.inl (L4 16 (a + 1)))), (0, .inr (.inr (some 11)))], [], (I52, L53, R, Y), 0, 0) _
            refine yi_D_run 2 (65, [(3, .inl (yi_w ((K (a + 2)) - 25))), (1, .inr (.inl (L4 16 (a + 1)))), (0, .inr (.inr (some 11)))], [.inl 9, .inr (.inr (some 11))], (I52, L53, R, Y), 0, 0) (fun _ => rfl) ?_
            refine yi_D_callv rfl (p_takeKind_z (by omega) hW57 hf55 hA56) ?_
            rintro _ (⟨c60, I61, L62, rfl, hGa63, hf64, hA65⟩ | ⟨c66, I67, L68, rfl, hGa69, he70⟩)
            · have hA65 : cs_A I61 L62 K te (a + 4) := hA65
              have hW71 := cs_W_t hW57 (cs_G_F hGa63)
              have hF72 := cs_F_t hF58 (cs_G_F hGa63)
              have hG73 := cs_G_t hG59 hGa63
              show yi_D zi_Ms d zi_m264 k (68, [(3, .inl (yi_w ((K (a + 2)) - 25))), (1, .inr (.inl (L4 16 (a + 1)))), (0, .inr (.inr (some 11)))], [], (I61, L62, R, Y), 0, 0) _
              refine yi_D_run 3 (73, [(3, .inl (yi_w ((K (a + 2)) - 25))), (1, .inr (.inl (L4 16 (a + 1)))), (0, .inr (.inr (some 11)))], [.inl 999, .inl 0, .inr (.inr (some 11))], (I61, L62, R, Y), 0, 0) (fun _ => rfl) ?_
              refine yi_D_callv rfl (p_takeNumber_z (lo := 0) (hi := 999) hW71 hf64 hA65) ?_
              rintro _ (⟨c74, c75, I76, L77, rfl, hGa78, hf79, hA80⟩ | ⟨c81, z86, I82, L83, rfl, hGa84, he85⟩ | ⟨c87, z92, I88, L89, rfl, hGa90, he91⟩)
              · have hA80 : cs_A I76 L77 K te (a + 5) := hA80
                have hW93 := cs_W_t hW71 (cs_G_F hGa78)
                have hF94 := cs_F_t hF72 (cs_G_F hGa78)
                have hG95 := cs_G_t hG73 hGa78
                show yi_D zi_Ms d zi_m264 k (76, [(3, .inl (yi_w ((K (a + 2)) - 25))), (1, .inr (.inl (L4 16 (a + 1)))), (0, .inr (.inr (some 11)))], [.inl (V (a + 4))], (I76, L77, R, Y), 0, 0) _
                refine yi_D_run 3 (81, [(4, .inl (V (a + 4))), (3, .inl (yi_w ((K (a + 2)) - 25))), (1, .inr (.inl (L4 16 (a + 1)))), (0, .inr (.inr (some 11)))], [.inl 59, .inr (.inr (some 11))], (I76, L77, R, Y), 0, 0) (fun _ => rfl) ?_
                have hR96 : sp_R K P V (2, a, 0, [], ld, nm, cs) (.inl (1, a + 5, 0, [], sp_up (sp_up (sp_up ld (11 + 2 * (ld 3).toNat) (K (a + 2) - 25)) (12 + 2 * (ld 3).toNat) (V (a + 4))) 3 (ld 3 + 1), sp_un nm (V (a + 1)) (8 + ld 3), cs)) := sp_R_1 (by
                  show sp_line K P V a ld nm cs = _
                  unfold sp_line
                  repeat (first | rw [if_pos (by omega)] | rw [if_neg (by omega)])
                  unfold sp_prophet
                  repeat (first | rw [if_pos (by omega)] | rw [if_neg (by omega)]))
                refine yi_D_callv rfl (p_takeKind_z (by omega) hW93 hf79 hA80) ?_
                rintro _ (⟨c97, I98, L99, rfl, hGa100, hf101, hA102⟩ | ⟨c103, I104, L105, rfl, hGa106, he107⟩)
                · have hA102 : cs_A I98 L99 K te (a + 6) := hA102
                  have hW108 := cs_W_t hW93 (cs_G_F hGa100)
                  have hF109 := cs_F_t hF94 (cs_G_F hGa100)
                  have hG110 := cs_G_t hG95 hGa100
                  have hR111 : sp_R K P V (2, a, 0, [], ld, nm, cs) (.inl (2, (a + 5) + 1, 0, [], sp_up (sp_up (sp_up ld (11 + 2 * (ld 3).toNat) (K (a + 2) - 25)) (12 + 2 * (ld 3).toNat) (V (a + 4))) 3 (ld 3 + 1), sp_un nm (V (a + 1)) (8 + ld 3), cs)) := sp_R_s hR96 (by
                    show (if K _ = 59 then _ else _) = _
                    rw [if_pos (by omega)])
                  show yi_D zi_Ms d zi_m264 k (84, [(4, .inl (V (a + 4))), (3, .inl (yi_w ((K (a + 2)) - 25))), (1, .inr (.inl (L4 16 (a + 1)))), (0, .inr (.inr (some 11)))], [], (I98, L99, R, Y), 0, 0) _
                  refine yi_D_run 1 (85, [(4, .inl (V (a + 4))), (3, .inl (yi_w ((K (a + 2)) - 25))), (1, .inr (.inl (L4 16 (a + 1)))), (0, .inr (.inr (some 11)))], [.inr (.inr (some 11))], (I98, L99, R, Y), 0, 0) (fun _ => rfl) ?_
                  refine yi_D_gi (v := 0) rfl rfl rfl hf101 (fun _ => ?_)
                  refine yi_D_if1 false rfl (by decide) ?_
                  refine yi_D_run 1 (92, [(4, .inl (V (a + 4))), (3, .inl (yi_w ((K (a + 2)) - 25))), (1, .inr (.inl (L4 16 (a + 1)))), (0, .inr (.inr (some 11)))], [.inr (.inr (some 11))], (I98, L99, R, Y), 0, 0) (fun _ => rfl) ?_
                  refine yi_D_gr (v := some q) rfl rfl rfl hW.2.2.1.2.1 (fun _ => ?_)
                  refine yi_D_run 3 (99, [(4, .inl (V (a + 4))), (3, .inl (yi_w ((K (a + 2)) - 25))), (1, .inr (.inl (L4 16 (a + 1)))), (0, .inr (.inr (some 11)))], [.inl (V (a + 4)), .inl (yi_w ((K (a + 2)) - 25)), .inr (.inl (L4 16 (a + 1))), .inr (.inr (some q))], (I98, L99, R, Y), 0, 0) (fun _ => rfl) ?_
                  refine yi_D_callv rfl (p_addProphet hW108 (by omega)) ?_
                  rintro _ ⟨I112, L113, rfl, ho114, e115, e116, e117, e118, e119, e120⟩
                  show yi_D zi_Ms d zi_m264 k (102, [(4, .inl (V (a + 4))), (3, .inl (yi_w ((K (a + 2)) - 25))), (1, .inr (.inl (L4 16 (a + 1)))), (0, .inr (.inr (some 11)))], [], (I112, L113, R, Y), 0, 0) _
                  refine yi_D_retv rfl ?_
                  have hfin := cs_fin hF109 hW108 hf101 hA102 (fun p k _ h => ho114 p k h) (fun _ _ _ => rfl) ⟨Nat.le_refl _, fun _ _ => ⟨rfl, rfl⟩⟩ (cs_Ld_prophet hW108.2.2 hwr (by omega) (by omega) e115 e116 e117 e118 e119 e120)
                  rw [show yi_w (K (a + 2) - 25) = K (a + 2) - 25 from yi_wn (by omega) (by omega)] at hfin
                  exact ⟨_, _, _, _, _, _, rfl, hfin.1, Or.inl ⟨_, _, _, _, hR111, by omega, hfin.2.1, hfin.2.2.1, hfin.2.2.2⟩⟩
                · have hW121 := cs_W_t hW93 (cs_G_F hGa106)
                  have hF122 := cs_F_t hF94 (cs_G_F hGa106)
                  have hG123 := cs_G_t hG95 hGa106
                  have hz124 : ¬ sp_f P (a + 5) 1 = 0 := sp_f_ne hW93 hA80.2.1 (by omega)
                  have hn125 : ¬ I104 11 11 = 0 := by rw [he107]; exact hz124
                  have hx126 : sp_R K P V (2, a, 0, [], ld, nm, cs) (.inr (sp_f P (a + 5) 1)) := sp_R_s hR96 (by
                    show (if K _ = 59 then _ else _) = _
                    rw [if_neg (by omega)])
                  show yi_D zi_Ms d zi_m264 k (84, [(4, .inl (V (a + 4))), (3, .inl (yi_w ((K (a + 2)) - 25))), (1, .inr (.inl (L4 16 (a + 1)))), (0, .inr (.inr (some 11)))], [], (I104, L105, R, Y), 0, 0) _
                  refine yi_D_run 1 (85, [(4, .inl (V (a + 4))), (3, .inl (yi_w ((K (a + 2)) - 25))), (1, .inr (.inl (L4 16 (a + 1)))), (0, .inr (.inr (some 11)))], [.inr (.inr (some 11))], (I104, L105, R, Y), 0, 0) (fun _ => rfl) ?_
                  refine yi_D_gi (v := I104 11 11) rfl rfl rfl rfl (fun _ => ?_)
                  have h127 : ¬ ((I104 11 11) = 0) := by omega
                  refine yi_D_if1 true rfl (yi_ne_t h127) ?_
                  refine yi_D_retv rfl ?_
                  exact ⟨_, _, _, _, _, _, rfl, cs_H_F hF122, Or.inr ⟨_, hx126, hz124, he107⟩⟩
              · have hW128 := cs_W_t hW71 (cs_G_F hGa84)
                have hF129 := cs_F_t hF72 (cs_G_F hGa84)
                have hG130 := cs_G_t hG73 hGa84
                have hz131 : ¬ sp_f P (a + 4) 1 = 0 := sp_f_ne hW71 hA65.2.1 (by omega)
                have hn132 : ¬ I82 11 11 = 0 := by rw [he85]; exact hz131
                have hx133 : sp_R K P V (2, a, 0, [], ld, nm, cs) (.inr (sp_f P (a + 4) 1)) := sp_R_1 (by
                  show sp_line K P V a ld nm cs = _
                  first
                  | (exfalso; omega)
                  | (unfold sp_line; repeat (first | rw [if_pos (by omega)] | rw [if_neg (by omega)]); unfold sp_prophet; repeat (first | rw [if_pos (by omega)] | rw [if_neg (by omega)])))
                show yi_D zi_Ms d zi_m264 k (76, [(3, .inl (yi_w ((K (a + 2)) - 25))), (1, .inr (.inl (L4 16 (a + 1)))), (0, .inr (.inr (some 11)))], [.inl z86], (I82, L83, R, Y), 0, 0) _
                refine yi_D_run 3 (81, [(4, .inl z86), (3, .inl (yi_w ((K (a + 2)) - 25))), (1, .inr (.inl (L4 16 (a + 1)))), (0, .inr (.inr (some 11)))], [.inl 59, .inr (.inr (some 11))], (I82, L83, R, Y), 0, 0) (fun _ => rfl) ?_
                
                refine yi_D_callv rfl (p_takeKind_f hW128 hn132) ?_
                rintro _ rfl
                show yi_D zi_Ms d zi_m264 k (84, [(4, .inl z86), (3, .inl (yi_w ((K (a + 2)) - 25))), (1, .inr (.inl (L4 16 (a + 1)))), (0, .inr (.inr (some 11)))], [], (I82, L83, R, Y), 0, 0) _
                refine yi_D_run 1 (85, [(4, .inl z86), (3, .inl (yi_w ((K (a + 2)) - 25))), (1, .inr (.inl (L4 16 (a + 1)))), (0, .inr (.inr (some 11)))], [.inr (.inr (some 11))], (I82, L83, R, Y), 0, 0) (fun _ => rfl) ?_
                refine yi_D_gi (v := I82 11 11) rfl rfl rfl rfl (fun _ => ?_)
                have h134 : ¬ ((I82 11 11) = 0) := by omega
                refine yi_D_if1 true rfl (yi_ne_t h134) ?_
                refine yi_D_retv rfl ?_
                exact ⟨_, _, _, _, _, _, rfl, cs_H_F hF129, Or.inr ⟨_, hx133, hz131, he85⟩⟩
              · have hW135 := cs_W_t hW71 (cs_G_F hGa90)
                have hF136 := cs_F_t hF72 (cs_G_F hGa90)
                have hG137 := cs_G_t hG73 hGa90
                have hz138 : ¬ sp_f P (a + 4) 4 = 0 := sp_f_ne hW71 hA65.2.1 (by omega)
                have hn139 : ¬ I88 11 11 = 0 := by rw [he91]; exact hz138
                have hx140 : sp_R K P V (2, a, 0, [], ld, nm, cs) (.inr (sp_f P (a + 4) 4)) := sp_R_1 (by
                  show sp_line K P V a ld nm cs = _
                  first
                  | (exfalso; omega)
                  | (unfold sp_line; repeat (first | rw [if_pos (by omega)] | rw [if_neg (by omega)]); unfold sp_prophet; repeat (first | rw [if_pos (by omega)] | rw [if_neg (by omega)])))
                show yi_D zi_Ms d zi_m264 k (76, [(3, .inl (yi_w ((K (a + 2)) - 25))), (1, .inr (.inl (L4 16 (a + 1)))), (0, .inr (.inr (some 11)))], [.inl z92], (I88, L89, R, Y), 0, 0) _
                refine yi_D_run 3 (81, [(4, .inl z92), (3, .inl (yi_w ((K (a + 2)) - 25))), (1, .inr (.inl (L4 16 (a + 1)))), (0, .inr (.inr (some 11)))], [.inl 59, .inr (.inr (some 11))], (I88, L89, R, Y), 0, 0) (fun _ => rfl) ?_
                
                refine yi_D_callv rfl (p_takeKind_f hW135 hn139) ?_
                rintro _ rfl
                show yi_D zi_Ms d zi_m264 k (84, [(4, .inl z92), (3, .inl (yi_w ((K (a + 2)) - 25))), (1, .inr (.inl (L4 16 (a + 1)))), (0, .inr (.inr (some 11)))], [], (I88, L89, R, Y), 0, 0) _
                refine yi_D_run 1 (85, [(4, .inl z92), (3, .inl (yi_w ((K (a + 2)) - 25))), (1, .inr (.inl (L4 16 (a + 1)))), (0, .inr (.inr (some 11)))], [.inr (.inr (some 11))], (I88, L89, R, Y), 0, 0) (fun _ => rfl) ?_
                refine yi_D_gi (v := I88 11 11) rfl rfl rfl rfl (fun _ => ?_)
                have h141 : ¬ ((I88 11 11) = 0) := by omega
                refine yi_D_if1 true rfl (yi_ne_t h141) ?_
                refine yi_D_retv rfl ?_
                exact ⟨_, _, _, _, _, _, rfl, cs_H_F hF136, Or.inr ⟨_, hx140, hz138, he91⟩⟩
            · have hW142 := cs_W_t hW57 (cs_G_F hGa69)
              have hF143 := cs_F_t hF58 (cs_G_F hGa69)
              have hG144 := cs_G_t hG59 hGa69
              have hz145 : ¬ sp_f P (a + 3) 1 = 0 := sp_f_ne hW57 hA56.2.1 (by omega)
              have hn146 : ¬ I67 11 11 = 0 := by rw [he70]; exact hz145
              have hx147 : sp_R K P V (2, a, 0, [], ld, nm, cs) (.inr (sp_f P (a + 3) 1)) := sp_R_1 (by
                show sp_line K P V a ld nm cs = _
                first
                | (exfalso; omega)
                | (unfold sp_line; repeat (first | rw [if_pos (by omega)] | rw [if_neg (by omega)]); unfold sp_prophet; repeat (first | rw [if_pos (by omega)] | rw [if_neg (by omega)])))
              show yi_D zi_Ms d zi_m264 k (68, [(3, .inl (yi_w ((K (a + 2)) - 25))), (1, .inr (.inl (L4 16 (a + 1)))), (0, .inr (.inr (some 11)))], [], (I67, L68, R, Y), 0, 0) _
              refine yi_D_run 3 (73, [(3, .inl (yi_w ((K (a + 2)) - 25))), (1, .inr (.inl (L4 16 (a + 1)))), (0, .inr (.inr (some 11)))], [.inl 999, .inl 0, .inr (.inr (some 11))], (I67, L68, R, Y), 0, 0) (fun _ => rfl) ?_
              refine yi_D_callv rfl (p_takeNumber_f hW142 hn146) ?_
              rintro _ ⟨z148, rfl⟩
              show yi_D zi_Ms d zi_m264 k (76, [(3, .inl (yi_w ((K (a + 2)) - 25))), (1, .inr (.inl (L4 16 (a + 1)))), (0, .inr (.inr (some 11)))], [.inl z148], (I67, L68, R, Y), 0, 0) _
              refine yi_D_run 3 (81, [(4, .inl z148), (3, .inl (yi_w ((K (a + 2)) - 25))), (1, .inr (.inl (L4 16 (a + 1)))), (0, .inr (.inr (some 11)))], [.inl 59, .inr (.inr (some 11))], (I67, L68, R, Y), 0, 0) (fun _ => rfl) ?_
              
              refine yi_D_callv rfl (p_takeKind_f hW142 hn146) ?_
              rintro _ rfl
              show yi_D zi_Ms d zi_m264 k (84, [(4, .inl z148), (3, .inl (yi_w ((K (a + 2)) - 25))), (1, .inr (.inl (L4 16 (a + 1)))), (0, .inr (.inr (some 11)))], [], (I67, L68, R, Y), 0, 0) _
              refine yi_D_run 1 (85, [(4, .inl z148), (3, .inl (yi_w ((K (a + 2)) - 25))), (1, .inr (.inl (L4 16 (a + 1)))), (0, .inr (.inr (some 11)))], [.inr (.inr (some 11))], (I67, L68, R, Y), 0, 0) (fun _ => rfl) ?_
              refine yi_D_gi (v := I67 11 11) rfl rfl rfl rfl (fun _ => ?_)
              have h149 : ¬ ((I67 11 11) = 0) := by omega
              refine yi_D_if1 true rfl (yi_ne_t h149) ?_
              refine yi_D_retv rfl ?_
              exact ⟨_, _, _, _, _, _, rfl, cs_H_F hF143, Or.inr ⟨_, hx147, hz145, he70⟩⟩
          · refine yi_D_if2 false rfl (yi_le_f h51) ?_
            refine yi_D_run 2 (55, [(3, .inl (yi_w ((K (a + 2)) - 25))), (1, .inr (.inl (L4 16 (a + 1)))), (0, .inr (.inr (some 11)))], [.inl 1, .inr (.inr (some 11))], (I18, L19, R, Y), 0, 0) (fun _ => rfl) ?_
            refine yi_D_callv rfl (p_wrong_z ⟨by omega, by omega⟩ hW35 hf21 hA22) ?_
            rintro _ ⟨I150, rfl, hg151, he152⟩
            have hGw153 : cs_G I18 L19 I150 L19 := ⟨fun p k hp => hg151 p k (by omega), fun _ _ _ => rfl⟩
            have hW154 := cs_W_t hW35 (cs_G_F hGw153)
            have hF155 := cs_F_t hF36 (cs_G_F hGw153)
            have hG156 := cs_G_t hG37 hGw153
            have hz157 : ¬ sp_f P (a + 2) 1 = 0 := sp_f_ne hW35 hA22.2.1 (by omega)
            have hn158 : ¬ I150 11 11 = 0 := by rw [he152]; exact hz157
            have hx159 : sp_R K P V (2, a, 0, [], ld, nm, cs) (.inr (sp_f P (a + 2) 1)) := sp_R_1 (by
              show sp_line K P V a ld nm cs = _
              first
              | (exfalso; omega)
              | (unfold sp_line; repeat (first | rw [if_pos (by omega)] | rw [if_neg (by omega)]); unfold sp_prophet; repeat (first | rw [if_pos (by omega)] | rw [if_neg (by omega)])))
            show yi_D zi_Ms d zi_m264 k (58, [(3, .inl (yi_w ((K (a + 2)) - 25))), (1, .inr (.inl (L4 16 (a + 1)))), (0, .inr (.inr (some 11)))], [], (I150, L19, R, Y), 0, 0) _
            refine yi_D_run 1 (59, [(3, .inl (yi_w ((K (a + 2)) - 25))), (1, .inr (.inl (L4 16 (a + 1)))), (0, .inr (.inr (some 11)))], [.inr (.inr (some 11))], (I150, L19, R, Y), 0, 0) (fun _ => rfl) ?_
            refine yi_D_callv rfl (p_advance_f hW154 hn158) ?_
            rintro _ rfl
            show yi_D zi_Ms d zi_m264 k (62, [(3, .inl (yi_w ((K (a + 2)) - 25))), (1, .inr (.inl (L4 16 (a + 1)))), (0, .inr (.inr (some 11)))], [], (I150, L19, R, Y), 0, 0) _
            refine yi_D_run 2 (65, [(3, .inl (yi_w ((K (a + 2)) - 25))), (1, .inr (.inl (L4 16 (a + 1)))), (0, .inr (.inr (some 11)))], [.inl 9, .inr (.inr (some 11))], (I150, L19, R, Y), 0, 0) (fun _ => rfl) ?_
            refine yi_D_callv rfl (p_takeKind_f hW154 hn158) ?_
            rintro _ rfl
            show yi_D zi_Ms d zi_m264 k (68, [(3, .inl (yi_w ((K (a + 2)) - 25))), (1, .inr (.inl (L4 16 (a + 1)))), (0, .inr (.inr (some 11)))], [], (I150, L19, R, Y), 0, 0) _
            refine yi_D_run 3 (73, [(3, .inl (yi_w ((K (a + 2)) - 25))), (1, .inr (.inl (L4 16 (a + 1)))), (0, .inr (.inr (some 11)))], [.inl 999, .inl 0, .inr (.inr (some 11))], (I150, L19, R, Y), 0, 0) (fun _ => rfl) ?_
            refine yi_D_callv rfl (p_takeNumber_f hW154 hn158) ?_
            rintro _ ⟨z160, rfl⟩
            show yi_D zi_Ms d zi_m264 k (76, [(3, .inl (yi_w ((K (a + 2)) - 25))), (1, .inr (.inl (L4 16 (a + 1)))), (0, .inr (.inr (some 11)))], [.inl z160], (I150, L19, R, Y), 0, 0) _
            refine yi_D_run 3 (81, [(4, .inl z160), (3, .inl (yi_w ((K (a + 2)) - 25))), (1, .inr (.inl (L4 16 (a + 1)))), (0, .inr (.inr (some 11)))], [.inl 59, .inr (.inr (some 11))], (I150, L19, R, Y), 0, 0) (fun _ => rfl) ?_
            
            refine yi_D_callv rfl (p_takeKind_f hW154 hn158) ?_
            rintro _ rfl
            show yi_D zi_Ms d zi_m264 k (84, [(4, .inl z160), (3, .inl (yi_w ((K (a + 2)) - 25))), (1, .inr (.inl (L4 16 (a + 1)))), (0, .inr (.inr (some 11)))], [], (I150, L19, R, Y), 0, 0) _
            refine yi_D_run 1 (85, [(4, .inl z160), (3, .inl (yi_w ((K (a + 2)) - 25))), (1, .inr (.inl (L4 16 (a + 1)))), (0, .inr (.inr (some 11)))], [.inr (.inr (some 11))], (I150, L19, R, Y), 0, 0) (fun _ => rfl) ?_
            refine yi_D_gi (v := I150 11 11) rfl rfl rfl rfl (fun _ => ?_)
            have h161 : ¬ ((I150 11 11) = 0) := by omega
            refine yi_D_if1 true rfl (yi_ne_t h161) ?_
            refine yi_D_retv rfl ?_
            exact ⟨_, _, _, _, _, _, rfl, cs_H_F hF155, Or.inr ⟨_, hx159, hz157, he152⟩⟩
      · have hW162 := cs_W_t hW13 (cs_G_F hGa26)
        have hF163 := cs_F_t hF14 (cs_G_F hGa26)
        have hG164 := cs_G_t hG15 hGa26
        have hz165 : ¬ sp_f P (a + 1) 1 = 0 := sp_f_ne hW13 hA7.2.1 (by omega)
        have hn166 : ¬ I24 11 11 = 0 := by rw [he27]; exact hz165
        have hx167 : sp_R K P V (2, a, 0, [], ld, nm, cs) (.inr (sp_f P (a + 1) 1)) := sp_R_1 (by
          show sp_line K P V a ld nm cs = _
          first
          | (exfalso; omega)
          | (unfold sp_line; repeat (first | rw [if_pos (by omega)] | rw [if_neg (by omega)]); unfold sp_prophet; repeat (first | rw [if_pos (by omega)] | rw [if_neg (by omega)])))
        show yi_D zi_Ms d zi_m264 k (26, [(0, .inr (.inr (some 11)))], [.inr (.inl z28)], (I24, L25, R, Y), 0, 0) _
        refine yi_D_run 2 (28, [(1, .inr (.inl z28)), (0, .inr (.inr (some 11)))], [.inr (.inr (some 11))], (I24, L25, R, Y), 0, 0) (fun _ => rfl) ?_
        refine yi_D_gi (v := I24 11 9) rfl rfl rfl rfl (fun _ => ?_)
        refine yi_D_run 4 (36, [(3, .inl (yi_w ((I24 11 9) - 25))), (1, .inr (.inl z28)), (0, .inr (.inr (some 11)))], [.inr (.inr (some 11))], (I24, L25, R, Y), 0, 0) (fun _ => rfl) ?_
        refine yi_D_gi (v := I24 11 9) rfl rfl rfl rfl (fun _ => ?_)
        refine yi_D_run 1 (41, [(3, .inl (yi_w ((I24 11 9) - 25))), (1, .inr (.inl z28)), (0, .inr (.inr (some 11)))], [.inl 25, .inl (I24 11 9)], (I24, L25, R, Y), 0, 0) (fun _ => rfl) ?_
        by_cases h168 : (I24 11 9) < 25
        · refine yi_D_if2 true rfl (yi_lt_t h168) ?_
          refine yi_D_run 2 (55, [(3, .inl (yi_w ((I24 11 9) - 25))), (1, .inr (.inl z28)), (0, .inr (.inr (some 11)))], [.inl 1, .inr (.inr (some 11))], (I24, L25, R, Y), 0, 0) (fun _ => rfl) ?_
          refine yi_D_callv rfl (p_wrong_f hW162 hn166) ?_
          rintro _ rfl
          show yi_D zi_Ms d zi_m264 k (58, [(3, .inl (yi_w ((I24 11 9) - 25))), (1, .inr (.inl z28)), (0, .inr (.inr (some 11)))], [], (I24, L25, R, Y), 0, 0) _
          refine yi_D_run 1 (59, [(3, .inl (yi_w ((I24 11 9) - 25))), (1, .inr (.inl z28)), (0, .inr (.inr (some 11)))], [.inr (.inr (some 11))], (I24, L25, R, Y), 0, 0) (fun _ => rfl) ?_
          refine yi_D_callv rfl (p_advance_f hW162 hn166) ?_
          rintro _ rfl
          show yi_D zi_Ms d zi_m264 k (62, [(3, .inl (yi_w ((I24 11 9) - 25))), (1, .inr (.inl z28)), (0, .inr (.inr (some 11)))], [], (I24, L25, R, Y), 0, 0) _
          refine yi_D_run 2 (65, [(3, .inl (yi_w ((I24 11 9) - 25))), (1, .inr (.inl z28)), (0, .inr (.inr (some 11)))], [.inl 9, .inr (.inr (some 11))], (I24, L25, R, Y), 0, 0) (fun _ => rfl) ?_
          refine yi_D_callv rfl (p_takeKind_f hW162 hn166) ?_
          rintro _ rfl
          show yi_D zi_Ms d zi_m264 k (68, [(3, .inl (yi_w ((I24 11 9) - 25))), (1, .inr (.inl z28)), (0, .inr (.inr (some 11)))], [], (I24, L25, R, Y), 0, 0) _
          refine yi_D_run 3 (73, [(3, .inl (yi_w ((I24 11 9) - 25))), (1, .inr (.inl z28)), (0, .inr (.inr (some 11)))], [.inl 999, .inl 0, .inr (.inr (some 11))], (I24, L25, R, Y), 0, 0) (fun _ => rfl) ?_
          refine yi_D_callv rfl (p_takeNumber_f hW162 hn166) ?_
          rintro _ ⟨z169, rfl⟩
          show yi_D zi_Ms d zi_m264 k (76, [(3, .inl (yi_w ((I24 11 9) - 25))), (1, .inr (.inl z28)), (0, .inr (.inr (some 11)))], [.inl z169], (I24, L25, R, Y), 0, 0) _
          refine yi_D_run 3 (81, [(4, .inl z169), (3, .inl (yi_w ((I24 11 9) - 25))), (1, .inr (.inl z28)), (0, .inr (.inr (some 11)))], [.inl 59, .inr (.inr (some 11))], (I24, L25, R, Y), 0, 0) (fun _ => rfl) ?_
          
          refine yi_D_callv rfl (p_takeKind_f hW162 hn166) ?_
          rintro _ rfl
          show yi_D zi_Ms d zi_m264 k (84, [(4, .inl z169), (3, .inl (yi_w ((I24 11 9) - 25))), (1, .inr (.inl z28)), (0, .inr (.inr (some 11)))], [], (I24, L25, R, Y), 0, 0) _
          refine yi_D_run 1 (85, [(4, .inl z169), (3, .inl (yi_w ((I24 11 9) - 25))), (1, .inr (.inl z28)), (0, .inr (.inr (some 11)))], [.inr (.inr (some 11))], (I24, L25, R, Y), 0, 0) (fun _ => rfl) ?_
          refine yi_D_gi (v := I24 11 11) rfl rfl rfl rfl (fun _ => ?_)
          have h170 : ¬ ((I24 11 11) = 0) := by omega
          refine yi_D_if1 true rfl (yi_ne_t h170) ?_
          refine yi_D_retv rfl ?_
          exact ⟨_, _, _, _, _, _, rfl, cs_H_F hF163, Or.inr ⟨_, hx167, hz165, he27⟩⟩
        · refine yi_D_if2 false rfl (yi_lt_f h168) ?_
          refine yi_D_run 1 (45, [(3, .inl (yi_w ((I24 11 9) - 25))), (1, .inr (.inl z28)), (0, .inr (.inr (some 11)))], [.inr (.inr (some 11))], (I24, L25, R, Y), 0, 0) (fun _ => rfl) ?_
          refine yi_D_gi (v := I24 11 9) rfl rfl rfl rfl (fun _ => ?_)
          refine yi_D_run 1 (50, [(3, .inl (yi_w ((I24 11 9) - 25))), (1, .inr (.inl z28)), (0, .inr (.inr (some 11)))], [.inl 29, .inl (I24 11 9)], (I24, L25, R, Y), 0, 0) (fun _ => rfl) ?_
          by_cases h171 : (I24 11 9) ≤ 29
          · refine yi_D_if2 true rfl (yi_le_t h171) ?_
            refine yi_D_run 1 (59, [(3, .inl (yi_w ((I24 11 9) - 25))), (1, .inr (.inl z28)), (0, .inr (.inr (some 11)))], [.inr (.inr (some 11))], (I24, L25, R, Y), 0, 0) (fun _ => rfl) ?_
            refine yi_D_callv rfl (p_advance_f hW162 hn166) ?_
            rintro _ rfl
            show yi_D zi_Ms d zi_m264 k (62, [(3, .inl (yi_w ((I24 11 9) - 25))), (1, .inr (.inl z28)), (0, .inr (.inr (some 11)))], [], (I24, L25, R, Y), 0, 0) _
            refine yi_D_run 2 (65, [(3, .inl (yi_w ((I24 11 9) - 25))), (1, .inr (.inl z28)), (0, .inr (.inr (some 11)))], [.inl 9, .inr (.inr (some 11))], (I24, L25, R, Y), 0, 0) (fun _ => rfl) ?_
            refine yi_D_callv rfl (p_takeKind_f hW162 hn166) ?_
            rintro _ rfl
            show yi_D zi_Ms d zi_m264 k (68, [(3, .inl (yi_w ((I24 11 9) - 25))), (1, .inr (.inl z28)), (0, .inr (.inr (some 11)))], [], (I24, L25, R, Y), 0, 0) _
            refine yi_D_run 3 (73, [(3, .inl (yi_w ((I24 11 9) - 25))), (1, .inr (.inl z28)), (0, .inr (.inr (some 11)))], [.inl 999, .inl 0, .inr (.inr (some 11))], (I24, L25, R, Y), 0, 0) (fun _ => rfl) ?_
            refine yi_D_callv rfl (p_takeNumber_f hW162 hn166) ?_
            rintro _ ⟨z172, rfl⟩
            show yi_D zi_Ms d zi_m264 k (76, [(3, .inl (yi_w ((I24 11 9) - 25))), (1, .inr (.inl z28)), (0, .inr (.inr (some 11)))], [.inl z172], (I24, L25, R, Y), 0, 0) _
            refine yi_D_run 3 (81, [(4, .inl z172), (3, .inl (yi_w ((I24 11 9) - 25))), (1, .inr (.inl z28)), (0, .inr (.inr (some 11)))], [.inl 59, .inr (.inr (some 11))], (I24, L25, R, Y), 0, 0) (fun _ => rfl) ?_
            
            refine yi_D_callv rfl (p_takeKind_f hW162 hn166) ?_
            rintro _ rfl
            show yi_D zi_Ms d zi_m264 k (84, [(4, .inl z172), (3, .inl (yi_w ((I24 11 9) - 25))), (1, .inr (.inl z28)), (0, .inr (.inr (some 11)))], [], (I24, L25, R, Y), 0, 0) _
            refine yi_D_run 1 (85, [(4, .inl z172), (3, .inl (yi_w ((I24 11 9) - 25))), (1, .inr (.inl z28)), (0, .inr (.inr (some 11)))], [.inr (.inr (some 11))], (I24, L25, R, Y), 0, 0) (fun _ => rfl) ?_
            refine yi_D_gi (v := I24 11 11) rfl rfl rfl rfl (fun _ => ?_)
            have h173 : ¬ ((I24 11 11) = 0) := by omega
            refine yi_D_if1 true rfl (yi_ne_t h173) ?_
            refine yi_D_retv rfl ?_
            exact ⟨_, _, _, _, _, _, rfl, cs_H_F hF163, Or.inr ⟨_, hx167, hz165, he27⟩⟩
          · refine yi_D_if2 false rfl (yi_le_f h171) ?_
            refine yi_D_run 2 (55, [(3, .inl (yi_w ((I24 11 9) - 25))), (1, .inr (.inl z28)), (0, .inr (.inr (some 11)))], [.inl 1, .inr (.inr (some 11))], (I24, L25, R, Y), 0, 0) (fun _ => rfl) ?_
            refine yi_D_callv rfl (p_wrong_f hW162 hn166) ?_
            rintro _ rfl
            show yi_D zi_Ms d zi_m264 k (58, [(3, .inl (yi_w ((I24 11 9) - 25))), (1, .inr (.inl z28)), (0, .inr (.inr (some 11)))], [], (I24, L25, R, Y), 0, 0) _
            refine yi_D_run 1 (59, [(3, .inl (yi_w ((I24 11 9) - 25))), (1, .inr (.inl z28)), (0, .inr (.inr (some 11)))], [.inr (.inr (some 11))], (I24, L25, R, Y), 0, 0) (fun _ => rfl) ?_
            refine yi_D_callv rfl (p_advance_f hW162 hn166) ?_
            rintro _ rfl
            show yi_D zi_Ms d zi_m264 k (62, [(3, .inl (yi_w ((I24 11 9) - 25))), (1, .inr (.inl z28)), (0, .inr (.inr (some 11)))], [], (I24, L25, R, Y), 0, 0) _
            refine yi_D_run 2 (65, [(3, .inl (yi_w ((I24 11 9) - 25))), (1, .inr (.inl z28)), (0, .inr (.inr (some 11)))], [.inl 9, .inr (.inr (some 11))], (I24, L25, R, Y), 0, 0) (fun _ => rfl) ?_
            refine yi_D_callv rfl (p_takeKind_f hW162 hn166) ?_
            rintro _ rfl
            show yi_D zi_Ms d zi_m264 k (68, [(3, .inl (yi_w ((I24 11 9) - 25))), (1, .inr (.inl z28)), (0, .inr (.inr (some 11)))], [], (I24, L25, R, Y), 0, 0) _
            refine yi_D_run 3 (73, [(3, .inl (yi_w ((I24 11 9) - 25))), (1, .inr (.inl z28)), (0, .inr (.inr (some 11)))], [.inl 999, .inl 0, .inr (.inr (some 11))], (I24, L25, R, Y), 0, 0) (fun _ => rfl) ?_
            refine yi_D_callv rfl (p_takeNumber_f hW162 hn166) ?_
            rintro _ ⟨z174, rfl⟩
            show yi_D zi_Ms d zi_m264 k (76, [(3, .inl (yi_w ((I24 11 9) - 25))), (1, .inr (.inl z28)), (0, .inr (.inr (some 11)))], [.inl z174], (I24, L25, R, Y), 0, 0) _
            refine yi_D_run 3 (81, [(4, .inl z174), (3, .inl (yi_w ((I24 11 9) - 25))), (1, .inr (.inl z28)), (0, .inr (.inr (some 11)))], [.inl 59, .inr (.inr (some 11))], (I24, L25, R, Y), 0, 0) (fun _ => rfl) ?_
            
            refine yi_D_callv rfl (p_takeKind_f hW162 hn166) ?_
            rintro _ rfl
            show yi_D zi_Ms d zi_m264 k (84, [(4, .inl z174), (3, .inl (yi_w ((I24 11 9) - 25))), (1, .inr (.inl z28)), (0, .inr (.inr (some 11)))], [], (I24, L25, R, Y), 0, 0) _
            refine yi_D_run 1 (85, [(4, .inl z174), (3, .inl (yi_w ((I24 11 9) - 25))), (1, .inr (.inl z28)), (0, .inr (.inr (some 11)))], [.inr (.inr (some 11))], (I24, L25, R, Y), 0, 0) (fun _ => rfl) ?_
            refine yi_D_gi (v := I24 11 11) rfl rfl rfl rfl (fun _ => ?_)
            have h175 : ¬ ((I24 11 11) = 0) := by omega
            refine yi_D_if1 true rfl (yi_ne_t h175) ?_
            refine yi_D_retv rfl ?_
            exact ⟨_, _, _, _, _, _, rfl, cs_H_F hF163, Or.inr ⟨_, hx167, hz165, he27⟩⟩
      · have hW176 := cs_W_t hW13 (cs_G_F hGa32)
        have hF177 := cs_F_t hF14 (cs_G_F hGa32)
        have hG178 := cs_G_t hG15 hGa32
        have hz179 : ¬ sp_f P (a + 1) 3 = 0 := sp_f_ne hW13 hA7.2.1 (by omega)
        have hn180 : ¬ I30 11 11 = 0 := by rw [he33]; exact hz179
        have hx181 : sp_R K P V (2, a, 0, [], ld, nm, cs) (.inr (sp_f P (a + 1) 3)) := sp_R_1 (by
          show sp_line K P V a ld nm cs = _
          first
          | (exfalso; omega)
          | (unfold sp_line; repeat (first | rw [if_pos (by omega)] | rw [if_neg (by omega)]); unfold sp_prophet; repeat (first | rw [if_pos (by omega)] | rw [if_neg (by omega)])))
        show yi_D zi_Ms d zi_m264 k (26, [(0, .inr (.inr (some 11)))], [.inr (.inl z34)], (I30, L31, R, Y), 0, 0) _
        refine yi_D_run 2 (28, [(1, .inr (.inl z34)), (0, .inr (.inr (some 11)))], [.inr (.inr (some 11))], (I30, L31, R, Y), 0, 0) (fun _ => rfl) ?_
        refine yi_D_gi (v := I30 11 9) rfl rfl rfl rfl (fun _ => ?_)
        refine yi_D_run 4 (36, [(3, .inl (yi_w ((I30 11 9) - 25))), (1, .inr (.inl z34)), (0, .inr (.inr (some 11)))], [.inr (.inr (some 11))], (I30, L31, R, Y), 0, 0) (fun _ => rfl) ?_
        refine yi_D_gi (v := I30 11 9) rfl rfl rfl rfl (fun _ => ?_)
        refine yi_D_run 1 (41, [(3, .inl (yi_w ((I30 11 9) - 25))), (1, .inr (.inl z34)), (0, .inr (.inr (some 11)))], [.inl 25, .inl (I30 11 9)], (I30, L31, R, Y), 0, 0) (fun _ => rfl) ?_
        by_cases h182 : (I30 11 9) < 25
        · refine yi_D_if2 true rfl (yi_lt_t h182) ?_
          refine yi_D_run 2 (55, [(3, .inl (yi_w ((I30 11 9) - 25))), (1, .inr (.inl z34)), (0, .inr (.inr (some 11)))], [.inl 1, .inr (.inr (some 11))], (I30, L31, R, Y), 0, 0) (fun _ => rfl) ?_
          refine yi_D_callv rfl (p_wrong_f hW176 hn180) ?_
          rintro _ rfl
          show yi_D zi_Ms d zi_m264 k (58, [(3, .inl (yi_w ((I30 11 9) - 25))), (1, .inr (.inl z34)), (0, .inr (.inr (some 11)))], [], (I30, L31, R, Y), 0, 0) _
          refine yi_D_run 1 (59, [(3, .inl (yi_w ((I30 11 9) - 25))), (1, .inr (.inl z34)), (0, .inr (.inr (some 11)))], [.inr (.inr (some 11))], (I30, L31, R, Y), 0, 0) (fun _ => rfl) ?_
          refine yi_D_callv rfl (p_advance_f hW176 hn180) ?_
          rintro _ rfl
          show yi_D zi_Ms d zi_m264 k (62, [(3, .inl (yi_w ((I30 11 9) - 25))), (1, .inr (.inl z34)), (0, .inr (.inr (some 11)))], [], (I30, L31, R, Y), 0, 0) _
          refine yi_D_run 2 (65, [(3, .inl (yi_w ((I30 11 9) - 25))), (1, .inr (.inl z34)), (0, .inr (.inr (some 11)))], [.inl 9, .inr (.inr (some 11))], (I30, L31, R, Y), 0, 0) (fun _ => rfl) ?_
          refine yi_D_callv rfl (p_takeKind_f hW176 hn180) ?_
          rintro _ rfl
          show yi_D zi_Ms d zi_m264 k (68, [(3, .inl (yi_w ((I30 11 9) - 25))), (1, .inr (.inl z34)), (0, .inr (.inr (some 11)))], [], (I30, L31, R, Y), 0, 0) _
          refine yi_D_run 3 (73, [(3, .inl (yi_w ((I30 11 9) - 25))), (1, .inr (.inl z34)), (0, .inr (.inr (some 11)))], [.inl 999, .inl 0, .inr (.inr (some 11))], (I30, L31, R, Y), 0, 0) (fun _ => rfl) ?_
          refine yi_D_callv rfl (p_takeNumber_f hW176 hn180) ?_
          rintro _ ⟨z183, rfl⟩
          show yi_D zi_Ms d zi_m264 k (76, [(3, .inl (yi_w ((I30 11 9) - 25))), (1, .inr (.inl z34)), (0, .inr (.inr (some 11)))], [.inl z183], (I30, L31, R, Y), 0, 0) _
          refine yi_D_run 3 (81, [(4, .inl z183), (3, .inl (yi_w ((I30 11 9) - 25))), (1, .inr (.inl z34)), (0, .inr (.inr (some 11)))], [.inl 59, .inr (.inr (some 11))], (I30, L31, R, Y), 0, 0) (fun _ => rfl) ?_
          
          refine yi_D_callv rfl (p_takeKind_f hW176 hn180) ?_
          rintro _ rfl
          show yi_D zi_Ms d zi_m264 k (84, [(4, .inl z183), (3, .inl (yi_w ((I30 11 9) - 25))), (1, .inr (.inl z34)), (0, .inr (.inr (some 11)))], [], (I30, L31, R, Y), 0, 0) _
          refine yi_D_run 1 (85, [(4, .inl z183), (3, .inl (yi_w ((I30 11 9) - 25))), (1, .inr (.inl z34)), (0, .inr (.inr (some 11)))], [.inr (.inr (some 11))], (I30, L31, R, Y), 0, 0) (fun _ => rfl) ?_
          refine yi_D_gi (v := I30 11 11) rfl rfl rfl rfl (fun _ => ?_)
          have h184 : ¬ ((I30 11 11) = 0) := by omega
          refine yi_D_if1 true rfl (yi_ne_t h184) ?_
          refine yi_D_retv rfl ?_
          exact ⟨_, _, _, _, _, _, rfl, cs_H_F hF177, Or.inr ⟨_, hx181, hz179, he33⟩⟩
        · refine yi_D_if2 false rfl (yi_lt_f h182) ?_
          refine yi_D_run 1 (45, [(3, .inl (yi_w ((I30 11 9) - 25))), (1, .inr (.inl z34)), (0, .inr (.inr (some 11)))], [.inr (.inr (some 11))], (I30, L31, R, Y), 0, 0) (fun _ => rfl) ?_
          refine yi_D_gi (v := I30 11 9) rfl rfl rfl rfl (fun _ => ?_)
          refine yi_D_run 1 (50, [(3, .inl (yi_w ((I30 11 9) - 25))), (1, .inr (.inl z34)), (0, .inr (.inr (some 11)))], [.inl 29, .inl (I30 11 9)], (I30, L31, R, Y), 0, 0) (fun _ => rfl) ?_
          by_cases h185 : (I30 11 9) ≤ 29
          · refine yi_D_if2 true rfl (yi_le_t h185) ?_
            refine yi_D_run 1 (59, [(3, .inl (yi_w ((I30 11 9) - 25))), (1, .inr (.inl z34)), (0, .inr (.inr (some 11)))], [.inr (.inr (some 11))], (I30, L31, R, Y), 0, 0) (fun _ => rfl) ?_
            refine yi_D_callv rfl (p_advance_f hW176 hn180) ?_
            rintro _ rfl
            show yi_D zi_Ms d zi_m264 k (62, [(3, .inl (yi_w ((I30 11 9) - 25))), (1, .inr (.inl z34)), (0, .inr (.inr (some 11)))], [], (I30, L31, R, Y), 0, 0) _
            refine yi_D_run 2 (65, [(3, .inl (yi_w ((I30 11 9) - 25))), (1, .inr (.inl z34)), (0, .inr (.inr (some 11)))], [.inl 9, .inr (.inr (some 11))], (I30, L31, R, Y), 0, 0) (fun _ => rfl) ?_
            refine yi_D_callv rfl (p_takeKind_f hW176 hn180) ?_
            rintro _ rfl
            show yi_D zi_Ms d zi_m264 k (68, [(3, .inl (yi_w ((I30 11 9) - 25))), (1, .inr (.inl z34)), (0, .inr (.inr (some 11)))], [], (I30, L31, R, Y), 0, 0) _
            refine yi_D_run 3 (73, [(3, .inl (yi_w ((I30 11 9) - 25))), (1, .inr (.inl z34)), (0, .inr (.inr (some 11)))], [.inl 999, .inl 0, .inr (.inr (some 11))], (I30, L31, R, Y), 0, 0) (fun _ => rfl) ?_
            refine yi_D_callv rfl (p_takeNumber_f hW176 hn180) ?_
            rintro _ ⟨z186, rfl⟩
            show yi_D zi_Ms d zi_m264 k (76, [(3, .inl (yi_w ((I30 11 9) - 25))), (1, .inr (.inl z34)), (0, .inr (.inr (some 11)))], [.inl z186], (I30, L31, R, Y), 0, 0) _
            refine yi_D_run 3 (81, [(4, .inl z186), (3, .inl (yi_w ((I30 11 9) - 25))), (1, .inr (.inl z34)), (0, .inr (.inr (some 11)))], [.inl 59, .inr (.inr (some 11))], (I30, L31, R, Y), 0, 0) (fun _ => rfl) ?_
            
            refine yi_D_callv rfl (p_takeKind_f hW176 hn180) ?_
            rintro _ rfl
            show yi_D zi_Ms d zi_m264 k (84, [(4, .inl z186), (3, .inl (yi_w ((I30 11 9) - 25))), (1, .inr (.inl z34)), (0, .inr (.inr (some 11)))], [], (I30, L31, R, Y), 0, 0) _
            refine yi_D_run 1 (85, [(4, .inl z186), (3, .inl (yi_w ((I30 11 9) - 25))), (1, .inr (.inl z34)), (0, .inr (.inr (some 11)))], [.inr (.inr (some 11))], (I30, L31, R, Y), 0, 0) (fun _ => rfl) ?_
            refine yi_D_gi (v := I30 11 11) rfl rfl rfl rfl (fun _ => ?_)
            have h187 : ¬ ((I30 11 11) = 0) := by omega
            refine yi_D_if1 true rfl (yi_ne_t h187) ?_
            refine yi_D_retv rfl ?_
            exact ⟨_, _, _, _, _, _, rfl, cs_H_F hF177, Or.inr ⟨_, hx181, hz179, he33⟩⟩
          · refine yi_D_if2 false rfl (yi_le_f h185) ?_
            refine yi_D_run 2 (55, [(3, .inl (yi_w ((I30 11 9) - 25))), (1, .inr (.inl z34)), (0, .inr (.inr (some 11)))], [.inl 1, .inr (.inr (some 11))], (I30, L31, R, Y), 0, 0) (fun _ => rfl) ?_
            refine yi_D_callv rfl (p_wrong_f hW176 hn180) ?_
            rintro _ rfl
            show yi_D zi_Ms d zi_m264 k (58, [(3, .inl (yi_w ((I30 11 9) - 25))), (1, .inr (.inl z34)), (0, .inr (.inr (some 11)))], [], (I30, L31, R, Y), 0, 0) _
            refine yi_D_run 1 (59, [(3, .inl (yi_w ((I30 11 9) - 25))), (1, .inr (.inl z34)), (0, .inr (.inr (some 11)))], [.inr (.inr (some 11))], (I30, L31, R, Y), 0, 0) (fun _ => rfl) ?_
            refine yi_D_callv rfl (p_advance_f hW176 hn180) ?_
            rintro _ rfl
            show yi_D zi_Ms d zi_m264 k (62, [(3, .inl (yi_w ((I30 11 9) - 25))), (1, .inr (.inl z34)), (0, .inr (.inr (some 11)))], [], (I30, L31, R, Y), 0, 0) _
            refine yi_D_run 2 (65, [(3, .inl (yi_w ((I30 11 9) - 25))), (1, .inr (.inl z34)), (0, .inr (.inr (some 11)))], [.inl 9, .inr (.inr (some 11))], (I30, L31, R, Y), 0, 0) (fun _ => rfl) ?_
            refine yi_D_callv rfl (p_takeKind_f hW176 hn180) ?_
            rintro _ rfl
            show yi_D zi_Ms d zi_m264 k (68, [(3, .inl (yi_w ((I30 11 9) - 25))), (1, .inr (.inl z34)), (0, .inr (.inr (some 11)))], [], (I30, L31, R, Y), 0, 0) _
            refine yi_D_run 3 (73, [(3, .inl (yi_w ((I30 11 9) - 25))), (1, .inr (.inl z34)), (0, .inr (.inr (some 11)))], [.inl 999, .inl 0, .inr (.inr (some 11))], (I30, L31, R, Y), 0, 0) (fun _ => rfl) ?_
            refine yi_D_callv rfl (p_takeNumber_f hW176 hn180) ?_
            rintro _ ⟨z188, rfl⟩
            show yi_D zi_Ms d zi_m264 k (76, [(3, .inl (yi_w ((I30 11 9) - 25))), (1, .inr (.inl z34)), (0, .inr (.inr (some 11)))], [.inl z188], (I30, L31, R, Y), 0, 0) _
            refine yi_D_run 3 (81, [(4, .inl z188), (3, .inl (yi_w ((I30 11 9) - 25))), (1, .inr (.inl z34)), (0, .inr (.inr (some 11)))], [.inl 59, .inr (.inr (some 11))], (I30, L31, R, Y), 0, 0) (fun _ => rfl) ?_
            
            refine yi_D_callv rfl (p_takeKind_f hW176 hn180) ?_
            rintro _ rfl
            show yi_D zi_Ms d zi_m264 k (84, [(4, .inl z188), (3, .inl (yi_w ((I30 11 9) - 25))), (1, .inr (.inl z34)), (0, .inr (.inr (some 11)))], [], (I30, L31, R, Y), 0, 0) _
            refine yi_D_run 1 (85, [(4, .inl z188), (3, .inl (yi_w ((I30 11 9) - 25))), (1, .inr (.inl z34)), (0, .inr (.inr (some 11)))], [.inr (.inr (some 11))], (I30, L31, R, Y), 0, 0) (fun _ => rfl) ?_
            refine yi_D_gi (v := I30 11 11) rfl rfl rfl rfl (fun _ => ?_)
            have h189 : ¬ ((I30 11 11) = 0) := by omega
            refine yi_D_if1 true rfl (yi_ne_t h189) ?_
            refine yi_D_retv rfl ?_
            exact ⟨_, _, _, _, _, _, rfl, cs_H_F hF177, Or.inr ⟨_, hx181, hz179, he33⟩⟩
    · exfalso; omega
  · refine yi_D_if2 false rfl (yi_lt_f h1) ?_
    refine yi_D_run 2 (13, [(0, .inr (.inr (some 11)))], [.inl 5, .inr (.inr (some 11))], (I, L, R, Y), 0, 0) (fun _ => rfl) ?_
    refine yi_D_callv rfl (p_wrong_z ⟨by omega, by omega⟩ hW hf hA) ?_
    rintro _ ⟨I190, rfl, hg191, he192⟩
    have hGw193 : cs_G I L I190 L := ⟨fun p k hp => hg191 p k (by omega), fun _ _ _ => rfl⟩
    have hW194 := cs_W_t hW (cs_G_F hGw193)
    have hF195 := (cs_G_F hGw193)
    have hG196 := hGw193
    have hz197 : ¬ sp_f P a 5 = 0 := sp_f_ne hW hA.2.1 (by omega)
    have hn198 : ¬ I190 11 11 = 0 := by rw [he192]; exact hz197
    have hx199 : sp_R K P V (2, a, 0, [], ld, nm, cs) (.inr (sp_f P a 5)) := sp_R_1 (by
      show sp_line K P V a ld nm cs = _
      first
      | (exfalso; omega)
      | (unfold sp_line; repeat (first | rw [if_pos (by omega)] | rw [if_neg (by omega)]); unfold sp_prophet; repeat (first | rw [if_pos (by omega)] | rw [if_neg (by omega)])))
    show yi_D zi_Ms d zi_m264 k (16, [(0, .inr (.inr (some 11)))], [], (I190, L, R, Y), 0, 0) _
    refine yi_D_run 2 (19, [(0, .inr (.inr (some 11)))], [.inl 8, .inr (.inr (some 11))], (I190, L, R, Y), 0, 0) (fun _ => rfl) ?_
    refine yi_D_callv rfl (p_takeKind_f hW194 hn198) ?_
    rintro _ rfl
    show yi_D zi_Ms d zi_m264 k (22, [(0, .inr (.inr (some 11)))], [], (I190, L, R, Y), 0, 0) _
    refine yi_D_run 1 (23, [(0, .inr (.inr (some 11)))], [.inr (.inr (some 11))], (I190, L, R, Y), 0, 0) (fun _ => rfl) ?_
    refine yi_D_callv rfl (p_takeNewName_f hW194 hn198) ?_
    rintro _ ⟨z200, rfl⟩
    show yi_D zi_Ms d zi_m264 k (26, [(0, .inr (.inr (some 11)))], [.inr (.inl z200)], (I190, L, R, Y), 0, 0) _
    refine yi_D_run 2 (28, [(1, .inr (.inl z200)), (0, .inr (.inr (some 11)))], [.inr (.inr (some 11))], (I190, L, R, Y), 0, 0) (fun _ => rfl) ?_
    refine yi_D_gi (v := I190 11 9) rfl rfl rfl rfl (fun _ => ?_)
    refine yi_D_run 4 (36, [(3, .inl (yi_w ((I190 11 9) - 25))), (1, .inr (.inl z200)), (0, .inr (.inr (some 11)))], [.inr (.inr (some 11))], (I190, L, R, Y), 0, 0) (fun _ => rfl) ?_
    refine yi_D_gi (v := I190 11 9) rfl rfl rfl rfl (fun _ => ?_)
    refine yi_D_run 1 (41, [(3, .inl (yi_w ((I190 11 9) - 25))), (1, .inr (.inl z200)), (0, .inr (.inr (some 11)))], [.inl 25, .inl (I190 11 9)], (I190, L, R, Y), 0, 0) (fun _ => rfl) ?_
    by_cases h201 : (I190 11 9) < 25
    · refine yi_D_if2 true rfl (yi_lt_t h201) ?_
      refine yi_D_run 2 (55, [(3, .inl (yi_w ((I190 11 9) - 25))), (1, .inr (.inl z200)), (0, .inr (.inr (some 11)))], [.inl 1, .inr (.inr (some 11))], (I190, L, R, Y), 0, 0) (fun _ => rfl) ?_
      refine yi_D_callv rfl (p_wrong_f hW194 hn198) ?_
      rintro _ rfl
      show yi_D zi_Ms d zi_m264 k (58, [(3, .inl (yi_w ((I190 11 9) - 25))), (1, .inr (.inl z200)), (0, .inr (.inr (some 11)))], [], (I190, L, R, Y), 0, 0) _
      refine yi_D_run 1 (59, [(3, .inl (yi_w ((I190 11 9) - 25))), (1, .inr (.inl z200)), (0, .inr (.inr (some 11)))], [.inr (.inr (some 11))], (I190, L, R, Y), 0, 0) (fun _ => rfl) ?_
      refine yi_D_callv rfl (p_advance_f hW194 hn198) ?_
      rintro _ rfl
      show yi_D zi_Ms d zi_m264 k (62, [(3, .inl (yi_w ((I190 11 9) - 25))), (1, .inr (.inl z200)), (0, .inr (.inr (some 11)))], [], (I190, L, R, Y), 0, 0) _
      refine yi_D_run 2 (65, [(3, .inl (yi_w ((I190 11 9) - 25))), (1, .inr (.inl z200)), (0, .inr (.inr (some 11)))], [.inl 9, .inr (.inr (some 11))], (I190, L, R, Y), 0, 0) (fun _ => rfl) ?_
      refine yi_D_callv rfl (p_takeKind_f hW194 hn198) ?_
      rintro _ rfl
      show yi_D zi_Ms d zi_m264 k (68, [(3, .inl (yi_w ((I190 11 9) - 25))), (1, .inr (.inl z200)), (0, .inr (.inr (some 11)))], [], (I190, L, R, Y), 0, 0) _
      refine yi_D_run 3 (73, [(3, .inl (yi_w ((I190 11 9) - 25))), (1, .inr (.inl z200)), (0, .inr (.inr (some 11)))], [.inl 999, .inl 0, .inr (.inr (some 11))], (I190, L, R, Y), 0, 0) (fun _ => rfl) ?_
      refine yi_D_callv rfl (p_takeNumber_f hW194 hn198) ?_
      rintro _ ⟨z202, rfl⟩
      show yi_D zi_Ms d zi_m264 k (76, [(3, .inl (yi_w ((I190 11 9) - 25))), (1, .inr (.inl z200)), (0, .inr (.inr (some 11)))], [.inl z202], (I190, L, R, Y), 0, 0) _
      refine yi_D_run 3 (81, [(4, .inl z202), (3, .inl (yi_w ((I190 11 9) - 25))), (1, .inr (.inl z200)), (0, .inr (.inr (some 11)))], [.inl 59, .inr (.inr (some 11))], (I190, L, R, Y), 0, 0) (fun _ => rfl) ?_
      
      refine yi_D_callv rfl (p_takeKind_f hW194 hn198) ?_
      rintro _ rfl
      show yi_D zi_Ms d zi_m264 k (84, [(4, .inl z202), (3, .inl (yi_w ((I190 11 9) - 25))), (1, .inr (.inl z200)), (0, .inr (.inr (some 11)))], [], (I190, L, R, Y), 0, 0) _
      refine yi_D_run 1 (85, [(4, .inl z202), (3, .inl (yi_w ((I190 11 9) - 25))), (1, .inr (.inl z200)), (0, .inr (.inr (some 11)))], [.inr (.inr (some 11))], (I190, L, R, Y), 0, 0) (fun _ => rfl) ?_
      refine yi_D_gi (v := I190 11 11) rfl rfl rfl rfl (fun _ => ?_)
      have h203 : ¬ ((I190 11 11) = 0) := by omega
      refine yi_D_if1 true rfl (yi_ne_t h203) ?_
      refine yi_D_retv rfl ?_
      exact ⟨_, _, _, _, _, _, rfl, cs_H_F hF195, Or.inr ⟨_, hx199, hz197, he192⟩⟩
    · refine yi_D_if2 false rfl (yi_lt_f h201) ?_
      refine yi_D_run 1 (45, [(3, .inl (yi_w ((I190 11 9) - 25))), (1, .inr (.inl z200)), (0, .inr (.inr (some 11)))], [.inr (.inr (some 11))], (I190, L, R, Y), 0, 0) (fun _ => rfl) ?_
      refine yi_D_gi (v := I190 11 9) rfl rfl rfl rfl (fun _ => ?_)
      refine yi_D_run 1 (50, [(3, .inl (yi_w ((I190 11 9) - 25))), (1, .inr (.inl z200)), (0, .inr (.inr (some 11)))], [.inl 29, .inl (I190 11 9)], (I190, L, R, Y), 0, 0) (fun _ => rfl) ?_
      by_cases h204 : (I190 11 9) ≤ 29
      · refine yi_D_if2 true rfl (yi_le_t h204) ?_
        refine yi_D_run 1 (59, [(3, .inl (yi_w ((I190 11 9) - 25))), (1, .inr (.inl z200)), (0, .inr (.inr (some 11)))], [.inr (.inr (some 11))], (I190, L, R, Y), 0, 0) (fun _ => rfl) ?_
        refine yi_D_callv rfl (p_advance_f hW194 hn198) ?_
        rintro _ rfl
        show yi_D zi_Ms d zi_m264 k (62, [(3, .inl (yi_w ((I190 11 9) - 25))), (1, .inr (.inl z200)), (0, .inr (.inr (some 11)))], [], (I190, L, R, Y), 0, 0) _
        refine yi_D_run 2 (65, [(3, .inl (yi_w ((I190 11 9) - 25))), (1, .inr (.inl z200)), (0, .inr (.inr (some 11)))], [.inl 9, .inr (.inr (some 11))], (I190, L, R, Y), 0, 0) (fun _ => rfl) ?_
        refine yi_D_callv rfl (p_takeKind_f hW194 hn198) ?_
        rintro _ rfl
        show yi_D zi_Ms d zi_m264 k (68, [(3, .inl (yi_w ((I190 11 9) - 25))), (1, .inr (.inl z200)), (0, .inr (.inr (some 11)))], [], (I190, L, R, Y), 0, 0) _
        refine yi_D_run 3 (73, [(3, .inl (yi_w ((I190 11 9) - 25))), (1, .inr (.inl z200)), (0, .inr (.inr (some 11)))], [.inl 999, .inl 0, .inr (.inr (some 11))], (I190, L, R, Y), 0, 0) (fun _ => rfl) ?_
        refine yi_D_callv rfl (p_takeNumber_f hW194 hn198) ?_
        rintro _ ⟨z205, rfl⟩
        show yi_D zi_Ms d zi_m264 k (76, [(3, .inl (yi_w ((I190 11 9) - 25))), (1, .inr (.inl z200)), (0, .inr (.inr (some 11)))], [.inl z205], (I190, L, R, Y), 0, 0) _
        refine yi_D_run 3 (81, [(4, .inl z205), (3, .inl (yi_w ((I190 11 9) - 25))), (1, .inr (.inl z200)), (0, .inr (.inr (some 11)))], [.inl 59, .inr (.inr (some 11))], (I190, L, R, Y), 0, 0) (fun _ => rfl) ?_
        
        refine yi_D_callv rfl (p_takeKind_f hW194 hn198) ?_
        rintro _ rfl
        show yi_D zi_Ms d zi_m264 k (84, [(4, .inl z205), (3, .inl (yi_w ((I190 11 9) - 25))), (1, .inr (.inl z200)), (0, .inr (.inr (some 11)))], [], (I190, L, R, Y), 0, 0) _
        refine yi_D_run 1 (85, [(4, .inl z205), (3, .inl (yi_w ((I190 11 9) - 25))), (1, .inr (.inl z200)), (0, .inr (.inr (some 11)))], [.inr (.inr (some 11))], (I190, L, R, Y), 0, 0) (fun _ => rfl) ?_
        refine yi_D_gi (v := I190 11 11) rfl rfl rfl rfl (fun _ => ?_)
        have h206 : ¬ ((I190 11 11) = 0) := by omega
        refine yi_D_if1 true rfl (yi_ne_t h206) ?_
        refine yi_D_retv rfl ?_
        exact ⟨_, _, _, _, _, _, rfl, cs_H_F hF195, Or.inr ⟨_, hx199, hz197, he192⟩⟩
      · refine yi_D_if2 false rfl (yi_le_f h204) ?_
        refine yi_D_run 2 (55, [(3, .inl (yi_w ((I190 11 9) - 25))), (1, .inr (.inl z200)), (0, .inr (.inr (some 11)))], [.inl 1, .inr (.inr (some 11))], (I190, L, R, Y), 0, 0) (fun _ => rfl) ?_
        refine yi_D_callv rfl (p_wrong_f hW194 hn198) ?_
        rintro _ rfl
        show yi_D zi_Ms d zi_m264 k (58, [(3, .inl (yi_w ((I190 11 9) - 25))), (1, .inr (.inl z200)), (0, .inr (.inr (some 11)))], [], (I190, L, R, Y), 0, 0) _
        refine yi_D_run 1 (59, [(3, .inl (yi_w ((I190 11 9) - 25))), (1, .inr (.inl z200)), (0, .inr (.inr (some 11)))], [.inr (.inr (some 11))], (I190, L, R, Y), 0, 0) (fun _ => rfl) ?_
        refine yi_D_callv rfl (p_advance_f hW194 hn198) ?_
        rintro _ rfl
        show yi_D zi_Ms d zi_m264 k (62, [(3, .inl (yi_w ((I190 11 9) - 25))), (1, .inr (.inl z200)), (0, .inr (.inr (some 11)))], [], (I190, L, R, Y), 0, 0) _
        refine yi_D_run 2 (65, [(3, .inl (yi_w ((I190 11 9) - 25))), (1, .inr (.inl z200)), (0, .inr (.inr (some 11)))], [.inl 9, .inr (.inr (some 11))], (I190, L, R, Y), 0, 0) (fun _ => rfl) ?_
        refine yi_D_callv rfl (p_takeKind_f hW194 hn198) ?_
        rintro _ rfl
        show yi_D zi_Ms d zi_m264 k (68, [(3, .inl (yi_w ((I190 11 9) - 25))), (1, .inr (.inl z200)), (0, .inr (.inr (some 11)))], [], (I190, L, R, Y), 0, 0) _
        refine yi_D_run 3 (73, [(3, .inl (yi_w ((I190 11 9) - 25))), (1, .inr (.inl z200)), (0, .inr (.inr (some 11)))], [.inl 999, .inl 0, .inr (.inr (some 11))], (I190, L, R, Y), 0, 0) (fun _ => rfl) ?_
        refine yi_D_callv rfl (p_takeNumber_f hW194 hn198) ?_
        rintro _ ⟨z207, rfl⟩
        show yi_D zi_Ms d zi_m264 k (76, [(3, .inl (yi_w ((I190 11 9) - 25))), (1, .inr (.inl z200)), (0, .inr (.inr (some 11)))], [.inl z207], (I190, L, R, Y), 0, 0) _
        refine yi_D_run 3 (81, [(4, .inl z207), (3, .inl (yi_w ((I190 11 9) - 25))), (1, .inr (.inl z200)), (0, .inr (.inr (some 11)))], [.inl 59, .inr (.inr (some 11))], (I190, L, R, Y), 0, 0) (fun _ => rfl) ?_
        
        refine yi_D_callv rfl (p_takeKind_f hW194 hn198) ?_
        rintro _ rfl
        show yi_D zi_Ms d zi_m264 k (84, [(4, .inl z207), (3, .inl (yi_w ((I190 11 9) - 25))), (1, .inr (.inl z200)), (0, .inr (.inr (some 11)))], [], (I190, L, R, Y), 0, 0) _
        refine yi_D_run 1 (85, [(4, .inl z207), (3, .inl (yi_w ((I190 11 9) - 25))), (1, .inr (.inl z200)), (0, .inr (.inr (some 11)))], [.inr (.inr (some 11))], (I190, L, R, Y), 0, 0) (fun _ => rfl) ?_
        refine yi_D_gi (v := I190 11 11) rfl rfl rfl rfl (fun _ => ?_)
        have h208 : ¬ ((I190 11 11) = 0) := by omega
        refine yi_D_if1 true rfl (yi_ne_t h208) ?_
        refine yi_D_retv rfl ?_
        exact ⟨_, _, _, _, _, _, rfl, cs_H_F hF195, Or.inr ⟨_, hx199, hz197, he192⟩⟩
