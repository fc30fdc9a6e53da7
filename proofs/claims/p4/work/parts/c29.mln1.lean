/-! The check reader: the lines of a land. -/
section SPT
variable {K P V : Nat → Int} {a dp : Nat} {sk : List Nat} {ld : Nat → Int} {nm : Int → Int} {cs : List (Int × Int)} {v : Int}
theorem sp_st20 (h : ld 4 = v) : sp_step K P V (7, a, dp, 20 :: sk, ld, nm, cs) = .inl (1, a, dp, sk, sp_up ld 4 (v + 1), nm, cs ++ [(0, 0)]) := by
  subst h
  rfl
theorem sp_st21 (h : ld 5 = v) : sp_step K P V (7, a, dp, 21 :: sk, ld, nm, cs) = .inl (1, a, dp, sk, sp_up ld 5 (v + 1), nm, cs ++ [(0, 0)]) := by
  subst h
  rfl
end SPT
theorem q_readPerson {d : Nat} {I L : Nat → Nat → Int} {R : Nat → Nat → Option Nat} {Y : (Nat → Nat) × (Nat → Nat) × Nat} {K P V : Nat → Int} {te a : Nat} {ld : Nat → Int} {nm : Int → Int} (hW : mt_W I L R Y K P V te 50 ld nm) (hf : I 82 8 = 0) (hA : mt_A I te a) (cs : List (Int × Int)) (hd0 : 1 ≤ ld 0) (h6 : ld 6 < 0 → I 88 56 < 0) (hk : K a = 5) : yi_P zi_Ms d 101 [.inr (.inr (some 82))] (I, L, R, Y) (mt_QL I L R Y K P V te (2, a, 0, [], ld, nm, cs) a) := by
  refine yi_P_of (M := zi_m101) rfl (fun d k => ?_)
  have hS := hW.1
  have ht := hW.2.1.1
  have ha := hA.2
  have hp := hW.2.1.2.1 a hA.2
  have hbd := hW.2.2.2.2.2.2.1
  have hc3 : I 88 56 < 0 → ld 6 < 0 := hW.2.2.2.2.1
  show yi_D zi_Ms d zi_m101 k (0, [(0, .inr (.inr (some 82)))], [], (I, L, R, Y), 0, 0) _
  refine yi_D_run 1 (1, [(0, .inr (.inr (some 82)))], [.inr (.inr (some 82))], (I, L, R, Y), 0, 0) (fun _ => rfl) ?_
  refine yi_D_gr (v := some 88) rfl rfl rfl (ym_S_at hS (j := 5) rfl).1 (fun _ => ?_)
  refine yi_D_run 1 (6, [(0, .inr (.inr (some 82)))], [.inl 51, .inr (.inr (some 88))], (I, L, R, Y), 0, 0) (fun _ => rfl) ?_
  refine yi_D_il (v := ld 1) rfl rfl (show I 88 51 = ld 1 from hW.2.2.2.1 1 (by omega)) (fun _ _ => ?_)
  refine yi_D_run 3 (10, [(1, .inl (ld 1)), (0, .inr (.inr (some 82)))], [.inl 4, .inl (ld 1)], (I, L, R, Y), 0, 0) (fun _ => rfl) ?_
  by_cases h1 : (ld 1) = 4
  · refine yi_D_if2 true rfl (yi_eq_t h1) ?_
    refine yi_D_run 2 (38, [(1, .inl (ld 1)), (0, .inr (.inr (some 82)))], [.inl 5, .inr (.inr (some 82))], (I, L, R, Y), 0, 0) (fun _ => rfl) ?_
    refine yi_D_callv rfl (q_wrong_z ⟨by omega, by omega⟩ hW hf hA) ?_
    rintro _ ⟨I2, rfl, hg3, he4⟩
    have hGw5 : mt_G I I2 := fun p k hp => hg3 p k (by omega)
    have hW6 := mt_W_t hW (mt_G_F hGw5)
    have hz7 : 0 < sp_f P a 5 := mt_f_ne hW hA.2 (by omega)
    have hn8 : 0 < I2 82 8 := by rw [he4]; exact hz7
    have hx9 : sp_R K P V (2, a, 0, [], ld, nm, cs) (.inr (sp_f P a 5)) := sp_R_1 (by
      show sp_line K P V a ld nm cs = _
      first
      | (exfalso; omega)
      | (unfold sp_line; (repeat (first | rw [if_pos (by omega)] | rw [if_neg (by omega)])); unfold sp_person; (repeat (first | rw [if_pos (by omega)] | rw [if_neg (by omega)])); done))
    show yi_D zi_Ms d zi_m101 k (41, [(1, .inl (ld 1)), (0, .inr (.inr (some 82)))], [], (I2, L, R, Y), 0, 0) _
    refine yi_D_retv rfl ?_
    exact ⟨_, _, rfl, Or.inr ⟨_, hx9, hz7, he4⟩⟩
  · refine yi_D_if2 false rfl (yi_eq_f h1) ?_
    refine yi_D_run 1 (14, [(1, .inl (ld 1)), (0, .inr (.inr (some 82)))], [.inr (.inr (some 82))], (I, L, R, Y), 0, 0) (fun _ => rfl) ?_
    refine yi_D_gr (v := some 88) rfl rfl rfl (ym_S_at hS (j := 5) rfl).1 (fun _ => ?_)
    refine yi_D_run 1 (19, [(1, .inl (ld 1)), (0, .inr (.inr (some 82)))], [.inl 50, .inr (.inr (some 88))], (I, L, R, Y), 0, 0) (fun _ => rfl) ?_
    refine yi_D_il (v := ld 0) rfl rfl (show I 88 50 = ld 0 from hW.2.2.2.1 0 (by omega)) (fun _ _ => ?_)
    refine yi_D_run 2 (22, [(1, .inl (ld 1)), (0, .inr (.inr (some 82)))], [.inl 1, .inl (ld 1), .inl (ld 0)], (I, L, R, Y), 0, 0) (fun _ => rfl) ?_
    refine yi_D_iadd rfl ((ld 1) + 1) (yi_wn (by omega) (by omega)) ?_
    refine yi_D_run 1 (24, [(1, .inl (ld 1)), (0, .inr (.inr (some 82)))], [.inr (.inr (some 82)), .inl ((ld 1) + 1), .inl (ld 0)], (I, L, R, Y), 0, 0) (fun _ => rfl) ?_
    refine yi_D_gr (v := some 88) rfl rfl rfl (ym_S_at hS (j := 5) rfl).1 (fun _ => ?_)
    refine yi_D_run 1 (29, [(1, .inl (ld 1)), (0, .inr (.inr (some 82)))], [.inl 52, .inr (.inr (some 88)), .inl ((ld 1) + 1), .inl (ld 0)], (I, L, R, Y), 0, 0) (fun _ => rfl) ?_
    refine yi_D_il (v := ld 2) rfl rfl (show I 88 52 = ld 2 from hW.2.2.2.1 2 (by omega)) (fun _ _ => ?_)
    refine yi_D_calls rfl (q_futuresOf (by omega) (by omega) (by omega)) ?_
    rintro _ ⟨z10, rfl, hz11⟩
    show yi_D zi_Ms d zi_m101 k (33, [(1, .inl (ld 1)), (0, .inr (.inr (some 82)))], [.inl z10], (I, L, R, Y), 0, 0) _
    by_cases h12 : 0 ≤ z10
    · refine yi_D_if1 true rfl (yi_ge_t h12) ?_
      refine yi_D_run 2 (44, [(1, .inl (ld 1)), (0, .inr (.inr (some 82)))], [.inl (ld 1), .inr (.inr (some 82))], (I, L, R, Y), 0, 0) (fun _ => rfl) ?_
      refine yi_D_callv rfl (q_readName_z ⟨by omega, by omega⟩ hW hf hA (by omega)) ?_
      rintro _ (⟨c15, c16, I13, L14, rfl, h8817, hf18, hA19, hW20⟩ | ⟨c21, I22, rfl, hGa23, he24⟩ | ⟨c25, I26, rfl, hGa27, he28⟩)
      · show yi_D zi_Ms d zi_m101 k (47, [(1, .inl (ld 1)), (0, .inr (.inr (some 82)))], [], (I13, L14, R, Y), 0, 0) _
        refine yi_D_run 1 (48, [(1, .inl (ld 1)), (0, .inr (.inr (some 82)))], [.inr (.inr (some 82))], (I13, L14, R, Y), 0, 0) (fun _ => rfl) ?_
        refine yi_D_gr (v := some 88) rfl rfl rfl (ym_S_at hS (j := 5) rfl).1 (fun _ => ?_)
        refine yi_D_run 2 (54, [(1, .inl (ld 1)), (0, .inr (.inr (some 82)))], [.inl (ld 1), .inl 57, .inr (.inr (some 88))], (I13, L14, R, Y), 0, 0) (fun _ => rfl) ?_
        refine yi_D_iadd rfl (57 + (ld 1)) (yi_wn (by omega) (by omega)) ?_
        refine yi_D_run 4 (60, [(1, .inl (ld 1)), (0, .inr (.inr (some 82)))], [.inl 99, .inl 0, .inl 2, .inr (.inr (some 82)), .inl (57 + (ld 1)), .inr (.inr (some 88))], (I13, L14, R, Y), 0, 0) (fun _ => rfl) ?_
        refine yi_D_callv rfl (q_takeAfter_z (lo := 0) (hi := 99) (by omega) (by omega) hW20 hf18 hA19) ?_
        rintro _ (⟨c29, c30, c31, I32, rfl, hGa33, hf34, hA35⟩ | ⟨c36, z40, I37, rfl, hGa38, he39⟩ | ⟨c41, z45, I42, rfl, hGa43, he44⟩ | ⟨c46, z50, I47, rfl, hGa48, he49⟩)
        · have c29 : K (a + 2) = 4 + 2 := c29
          have c30 : K (a + 3) = 2 := c30
          have c31 : 0 ≤ V (a + 3) ∧ V (a + 3) ≤ 99 := c31
          have hA35 : mt_A I32 te (a + 4) := hA35
          have hW51 := mt_W_t hW20 (mt_G_F hGa33)
          show yi_D zi_Ms d zi_m101 k (63, [(1, .inl (ld 1)), (0, .inr (.inr (some 82)))], [.inl (V (a + 3)), .inl (57 + (ld 1)), .inr (.inr (some 88))], (I32, L14, R, Y), 0, 0) _
          refine yi_D_is rfl (fun _ _ => ?_)
          generalize w53 : yi_u I32 88 ((57 + (ld 1)).toNat) (V (a + 3)) = I52
          have hW54 := mt_W_w (i := 7 + (ld 1).toNat) (I' := I52) (V (a + 3)) hW51 (fun _ => by rw [← w53, show ((57 + (ld 1)).toNat) = 50 + (7 + (ld 1).toNat) by omega, yi_u_eq]; first | done | omega) (fun p k hp => by rw [← w53, yi_u_ne _ _ (by omega)]) (mt_bd hW51 (by omega) _)
          have hf55 : I52 82 8 = 0 := by rw [← w53, yi_u_ne _ _ (by omega)]; exact hf34
          have hA56 : mt_A I52 te (a + 4) := ⟨by rw [← w53, yi_u_ne _ _ (by omega)]; exact hA35.1, hA35.2⟩
          refine yi_D_run 1 (65, [(1, .inl (ld 1)), (0, .inr (.inr (some 82)))], [.inr (.inr (some 82))], (I52, L14, R, Y), 0, 0) (fun _ => rfl) ?_
          refine yi_D_gr (v := some 88) rfl rfl rfl (ym_S_at hS (j := 5) rfl).1 (fun _ => ?_)
          refine yi_D_run 2 (71, [(1, .inl (ld 1)), (0, .inr (.inr (some 82)))], [.inl 51, .inr (.inr (some 88)), .inl 51, .inr (.inr (some 88))], (I52, L14, R, Y), 0, 0) (fun _ => rfl) ?_
          refine yi_D_il (v := ld 1) rfl rfl (show I52 88 51 = ld 1 from (hW54.2.2.2.1 1 (by omega)).trans (by repeat rw [sp_up_n _ _ (by omega)])) (fun _ _ => ?_)
          refine yi_D_run 1 (73, [(1, .inl (ld 1)), (0, .inr (.inr (some 82)))], [.inl 1, .inl (ld 1), .inl 51, .inr (.inr (some 88))], (I52, L14, R, Y), 0, 0) (fun _ => rfl) ?_
          refine yi_D_iadd rfl ((ld 1) + 1) (yi_wn (by omega) (by omega)) ?_
          refine yi_D_is rfl (fun _ _ => ?_)
          show yi_D zi_Ms d zi_m101 k (75, [(1, .inl (ld 1)), (0, .inr (.inr (some 82)))], [], ((yi_u I52 88 51 ((ld 1) + 1)), L14, R, Y), 0, 0) _
          generalize w58 : yi_u I52 88 51 ((ld 1) + 1) = I57
          have hb60 : ((0 ≤ (sp_up ((sp_up ld (7 + (ld 1).toNat) (V (a + 3)))) 1 (ld 1 + 1)) 0 ∧ (sp_up ((sp_up ld (7 + (ld 1).toNat) (V (a + 3)))) 1 (ld 1 + 1)) 0 ≤ 6) ∧ (0 ≤ (sp_up ((sp_up ld (7 + (ld 1).toNat) (V (a + 3)))) 1 (ld 1 + 1)) 1 ∧ (sp_up ((sp_up ld (7 + (ld 1).toNat) (V (a + 3)))) 1 (ld 1 + 1)) 1 ≤ 4) ∧ (0 ≤ (sp_up ((sp_up ld (7 + (ld 1).toNat) (V (a + 3)))) 1 (ld 1 + 1)) 2 ∧ (sp_up ((sp_up ld (7 + (ld 1).toNat) (V (a + 3)))) 1 (ld 1 + 1)) 2 ≤ 4) ∧ (0 ≤ (sp_up ((sp_up ld (7 + (ld 1).toNat) (V (a + 3)))) 1 (ld 1 + 1)) 3 ∧ (sp_up ((sp_up ld (7 + (ld 1).toNat) (V (a + 3)))) 1 (ld 1 + 1)) 3 ≤ 5) ∧ (0 ≤ (sp_up ((sp_up ld (7 + (ld 1).toNat) (V (a + 3)))) 1 (ld 1 + 1)) 4 ∧ (sp_up ((sp_up ld (7 + (ld 1).toNat) (V (a + 3)))) 1 (ld 1 + 1)) 4 ≤ 4) ∧ (0 ≤ (sp_up ((sp_up ld (7 + (ld 1).toNat) (V (a + 3)))) 1 (ld 1 + 1)) 5 ∧ (sp_up ((sp_up ld (7 + (ld 1).toNat) (V (a + 3)))) 1 (ld 1 + 1)) 5 ≤ 6)) := by
            rw [sp_up_e]
            repeat rw [sp_up_n _ _ (by omega)]
            omega
          have hW59 := mt_W_w (i := 1) (I' := I57) (ld 1 + 1) hW54 (fun _ => by rw [← w58, show 51 = 50 + (1) by omega, yi_u_eq]; first | done | omega) (fun p k hp => by rw [← w58, yi_u_ne _ _ (by omega)]) hb60
          have hf61 : I57 82 8 = 0 := by rw [← w58, yi_u_ne _ _ (by omega)]; exact hf55
          have hA62 : mt_A I57 te (a + 4) := ⟨by rw [← w58, yi_u_ne _ _ (by omega)]; exact hA56.1, hA56.2⟩
          refine yi_D_retv rfl ?_
          have hstep : sp_R K P V (2, a, 0, [], ld, nm, cs) (.inl (1, (a + 4), 0, [], (sp_up (sp_up ld (7 + (ld 1).toNat) (V (a + 3))) (1) (ld 1 + 1)), (sp_un nm (V (a + 1)) (ld 1)), cs)) := sp_R_1 (by
            show sp_line K P V a ld nm cs = _
            unfold sp_line; (repeat (first | rw [if_pos (by omega)] | rw [if_neg (by omega)])); unfold sp_person; (repeat (first | rw [if_pos (by omega)] | rw [if_neg (by omega)])))
          exact ⟨_, _, rfl, Or.inl ⟨_, _, _, _, hstep, by omega, hf61, hA62, hW59, (by (repeat rw [sp_up_n _ _ (by omega)]); exact hd0), (fun x => by rw [← w58, yi_u_ne _ _ (by omega), ← w53, yi_u_ne _ _ (by omega), hGa33 88 56 (by omega), h8817 88 56 (by omega)]; exact h6 (by (repeat rw [sp_up_n _ _ (by omega)] at x); exact x))⟩⟩
        · have c36 : ¬ K (a + 2) = 4 + 2 := c36
          have hW63 := mt_W_t hW20 (mt_G_F hGa38)
          have hz64 : 0 < sp_f P (a + 2) 1 := mt_f_ne hW20 hA19.2 (by omega)
          have hn65 : 0 < I37 82 8 := by rw [he39]; exact hz64
          have hx66 : sp_R K P V (2, a, 0, [], ld, nm, cs) (.inr (sp_f P (a + 2) 1)) := sp_R_1 (by
            show sp_line K P V a ld nm cs = _
            first
            | (exfalso; omega)
            | (unfold sp_line; (repeat (first | rw [if_pos (by omega)] | rw [if_neg (by omega)])); unfold sp_person; (repeat (first | rw [if_pos (by omega)] | rw [if_neg (by omega)])); done))
          show yi_D zi_Ms d zi_m101 k (63, [(1, .inl (ld 1)), (0, .inr (.inr (some 82)))], [.inl z40, .inl (57 + (ld 1)), .inr (.inr (some 88))], (I37, L14, R, Y), 0, 0) _
          refine yi_D_is rfl (fun _ _ => ?_)
          generalize w68 : yi_u I37 88 ((57 + (ld 1)).toNat) z40 = I67
          have hW69 := mt_W_w (i := 7 + (ld 1).toNat) (I' := I67) (z40) hW63 (fun _ => by rw [← w68, show ((57 + (ld 1)).toNat) = 50 + (7 + (ld 1).toNat) by omega, yi_u_eq]; first | done | omega) (fun p k hp => by rw [← w68, yi_u_ne _ _ (by omega)]) (mt_bd hW63 (by omega) _)
          have hf70 : 0 < I67 82 8 := by rw [← w68, yi_u_ne _ _ (by omega)]; exact hn65
          have he71 : I67 82 8 = _ := (show I67 82 8 = I37 82 8 by rw [← w68, yi_u_ne _ _ (by omega)]).trans he39
          refine yi_D_run 1 (65, [(1, .inl (ld 1)), (0, .inr (.inr (some 82)))], [.inr (.inr (some 82))], (I67, L14, R, Y), 0, 0) (fun _ => rfl) ?_
          refine yi_D_gr (v := some 88) rfl rfl rfl (ym_S_at hS (j := 5) rfl).1 (fun _ => ?_)
          refine yi_D_run 2 (71, [(1, .inl (ld 1)), (0, .inr (.inr (some 82)))], [.inl 51, .inr (.inr (some 88)), .inl 51, .inr (.inr (some 88))], (I67, L14, R, Y), 0, 0) (fun _ => rfl) ?_
          refine yi_D_il (v := ld 1) rfl rfl (show I67 88 51 = ld 1 from (hW69.2.2.2.1 1 (by omega)).trans (by repeat rw [sp_up_n _ _ (by omega)])) (fun _ _ => ?_)
          refine yi_D_run 1 (73, [(1, .inl (ld 1)), (0, .inr (.inr (some 82)))], [.inl 1, .inl (ld 1), .inl 51, .inr (.inr (some 88))], (I67, L14, R, Y), 0, 0) (fun _ => rfl) ?_
          refine yi_D_iadd rfl ((ld 1) + 1) (yi_wn (by omega) (by omega)) ?_
          refine yi_D_is rfl (fun _ _ => ?_)
          show yi_D zi_Ms d zi_m101 k (75, [(1, .inl (ld 1)), (0, .inr (.inr (some 82)))], [], ((yi_u I67 88 51 ((ld 1) + 1)), L14, R, Y), 0, 0) _
          generalize w73 : yi_u I67 88 51 ((ld 1) + 1) = I72
          have hf74 : 0 < I72 82 8 := by rw [← w73, yi_u_ne _ _ (by omega)]; exact hf70
          have he75 : I72 82 8 = _ := (show I72 82 8 = I67 82 8 by rw [← w73, yi_u_ne _ _ (by omega)]).trans he71
          refine yi_D_retv rfl ?_
          exact ⟨_, _, rfl, Or.inr ⟨_, hx66, hz64, he75⟩⟩
        · have c41 : K (a + 2) = 4 + 2 ∧ ¬ K (a + 3) = 2 := c41
          have hW76 := mt_W_t hW20 (mt_G_F hGa43)
          have hA77 : mt_A I13 te (a + 2) ∨ True := Or.inr trivial
          have hz78 : 0 < sp_f P (a + 3) 1 := mt_f_ne hW20 (mt_lt hW20.2.1 hA19.2 (by omega)) (by omega)
          have hn79 : 0 < I42 82 8 := by rw [he44]; exact hz78
          have hx80 : sp_R K P V (2, a, 0, [], ld, nm, cs) (.inr (sp_f P (a + 3) 1)) := sp_R_1 (by
            show sp_line K P V a ld nm cs = _
            first
            | (exfalso; omega)
            | (unfold sp_line; (repeat (first | rw [if_pos (by omega)] | rw [if_neg (by omega)])); unfold sp_person; (repeat (first | rw [if_pos (by omega)] | rw [if_neg (by omega)])); done))
          show yi_D zi_Ms d zi_m101 k (63, [(1, .inl (ld 1)), (0, .inr (.inr (some 82)))], [.inl z45, .inl (57 + (ld 1)), .inr (.inr (some 88))], (I42, L14, R, Y), 0, 0) _
          refine yi_D_is rfl (fun _ _ => ?_)
          generalize w82 : yi_u I42 88 ((57 + (ld 1)).toNat) z45 = I81
          have hW83 := mt_W_w (i := 7 + (ld 1).toNat) (I' := I81) (z45) hW76 (fun _ => by rw [← w82, show ((57 + (ld 1)).toNat) = 50 + (7 + (ld 1).toNat) by omega, yi_u_eq]; first | done | omega) (fun p k hp => by rw [← w82, yi_u_ne _ _ (by omega)]) (mt_bd hW76 (by omega) _)
          have hf84 : 0 < I81 82 8 := by rw [← w82, yi_u_ne _ _ (by omega)]; exact hn79
          have he85 : I81 82 8 = _ := (show I81 82 8 = I42 82 8 by rw [← w82, yi_u_ne _ _ (by omega)]).trans he44
          refine yi_D_run 1 (65, [(1, .inl (ld 1)), (0, .inr (.inr (some 82)))], [.inr (.inr (some 82))], (I81, L14, R, Y), 0, 0) (fun _ => rfl) ?_
          refine yi_D_gr (v := some 88) rfl rfl rfl (ym_S_at hS (j := 5) rfl).1 (fun _ => ?_)
          refine yi_D_run 2 (71, [(1, .inl (ld 1)), (0, .inr (.inr (some 82)))], [.inl 51, .inr (.inr (some 88)), .inl 51, .inr (.inr (some 88))], (I81, L14, R, Y), 0, 0) (fun _ => rfl) ?_
          refine yi_D_il (v := ld 1) rfl rfl (show I81 88 51 = ld 1 from (hW83.2.2.2.1 1 (by omega)).trans (by repeat rw [sp_up_n _ _ (by omega)])) (fun _ _ => ?_)
          refine yi_D_run 1 (73, [(1, .inl (ld 1)), (0, .inr (.inr (some 82)))], [.inl 1, .inl (ld 1), .inl 51, .inr (.inr (some 88))], (I81, L14, R, Y), 0, 0) (fun _ => rfl) ?_
          refine yi_D_iadd rfl ((ld 1) + 1) (yi_wn (by omega) (by omega)) ?_
          refine yi_D_is rfl (fun _ _ => ?_)
          show yi_D zi_Ms d zi_m101 k (75, [(1, .inl (ld 1)), (0, .inr (.inr (some 82)))], [], ((yi_u I81 88 51 ((ld 1) + 1)), L14, R, Y), 0, 0) _
          generalize w87 : yi_u I81 88 51 ((ld 1) + 1) = I86
          have hf88 : 0 < I86 82 8 := by rw [← w87, yi_u_ne _ _ (by omega)]; exact hf84
          have he89 : I86 82 8 = _ := (show I86 82 8 = I81 82 8 by rw [← w87, yi_u_ne _ _ (by omega)]).trans he85
          refine yi_D_retv rfl ?_
          exact ⟨_, _, rfl, Or.inr ⟨_, hx80, hz78, he89⟩⟩
        · have c46 : K (a + 2) = 4 + 2 ∧ K (a + 3) = 2 ∧ (V (a + 3) < 0 ∨ 99 < V (a + 3)) := c46
          have hW90 := mt_W_t hW20 (mt_G_F hGa48)
          have hA91 : mt_A I13 te (a + 2) ∨ True := Or.inr trivial
          have hz92 : 0 < sp_f P (a + 3) 4 := mt_f_ne hW20 (mt_lt hW20.2.1 hA19.2 (by omega)) (by omega)
          have hn93 : 0 < I47 82 8 := by rw [he49]; exact hz92
          have hx94 : sp_R K P V (2, a, 0, [], ld, nm, cs) (.inr (sp_f P (a + 3) 4)) := sp_R_1 (by
            show sp_line K P V a ld nm cs = _
            first
            | (exfalso; omega)
            | (unfold sp_line; (repeat (first | rw [if_pos (by omega)] | rw [if_neg (by omega)])); unfold sp_person; (repeat (first | rw [if_pos (by omega)] | rw [if_neg (by omega)])); done))
          show yi_D zi_Ms d zi_m101 k (63, [(1, .inl (ld 1)), (0, .inr (.inr (some 82)))], [.inl z50, .inl (57 + (ld 1)), .inr (.inr (some 88))], (I47, L14, R, Y), 0, 0) _
          refine yi_D_is rfl (fun _ _ => ?_)
          generalize w96 : yi_u I47 88 ((57 + (ld 1)).toNat) z50 = I95
          have hW97 := mt_W_w (i := 7 + (ld 1).toNat) (I' := I95) (z50) hW90 (fun _ => by rw [← w96, show ((57 + (ld 1)).toNat) = 50 + (7 + (ld 1).toNat) by omega, yi_u_eq]; first | done | omega) (fun p k hp => by rw [← w96, yi_u_ne _ _ (by omega)]) (mt_bd hW90 (by omega) _)
          have hf98 : 0 < I95 82 8 := by rw [← w96, yi_u_ne _ _ (by omega)]; exact hn93
          have he99 : I95 82 8 = _ := (show I95 82 8 = I47 82 8 by rw [← w96, yi_u_ne _ _ (by omega)]).trans he49
          refine yi_D_run 1 (65, [(1, .inl (ld 1)), (0, .inr (.inr (some 82)))], [.inr (.inr (some 82))], (I95, L14, R, Y), 0, 0) (fun _ => rfl) ?_
          refine yi_D_gr (v := some 88) rfl rfl rfl (ym_S_at hS (j := 5) rfl).1 (fun _ => ?_)
          refine yi_D_run 2 (71, [(1, .inl (ld 1)), (0, .inr (.inr (some 82)))], [.inl 51, .inr (.inr (some 88)), .inl 51, .inr (.inr (some 88))], (I95, L14, R, Y), 0, 0) (fun _ => rfl) ?_
          refine yi_D_il (v := ld 1) rfl rfl (show I95 88 51 = ld 1 from (hW97.2.2.2.1 1 (by omega)).trans (by repeat rw [sp_up_n _ _ (by omega)])) (fun _ _ => ?_)
          refine yi_D_run 1 (73, [(1, .inl (ld 1)), (0, .inr (.inr (some 82)))], [.inl 1, .inl (ld 1), .inl 51, .inr (.inr (some 88))], (I95, L14, R, Y), 0, 0) (fun _ => rfl) ?_
          refine yi_D_iadd rfl ((ld 1) + 1) (yi_wn (by omega) (by omega)) ?_
          refine yi_D_is rfl (fun _ _ => ?_)
          show yi_D zi_Ms d zi_m101 k (75, [(1, .inl (ld 1)), (0, .inr (.inr (some 82)))], [], ((yi_u I95 88 51 ((ld 1) + 1)), L14, R, Y), 0, 0) _
          generalize w101 : yi_u I95 88 51 ((ld 1) + 1) = I100
          have hf102 : 0 < I100 82 8 := by rw [← w101, yi_u_ne _ _ (by omega)]; exact hf98
          have he103 : I100 82 8 = _ := (show I100 82 8 = I95 82 8 by rw [← w101, yi_u_ne _ _ (by omega)]).trans he99
          refine yi_D_retv rfl ?_
          exact ⟨_, _, rfl, Or.inr ⟨_, hx94, hz92, he103⟩⟩
      · have hW104 := mt_W_t hW (mt_G_F hGa23)
        have hz105 : 0 < sp_f P (a + 1) 1 := mt_f_ne hW (mt_lt hW.2.1 hA.2 (by omega)) (by omega)
        have hn106 : 0 < I22 82 8 := by rw [he24]; exact hz105
        have hx107 : sp_R K P V (2, a, 0, [], ld, nm, cs) (.inr (sp_f P (a + 1) 1)) := sp_R_1 (by
          show sp_line K P V a ld nm cs = _
          first
          | (exfalso; omega)
          | (unfold sp_line; (repeat (first | rw [if_pos (by omega)] | rw [if_neg (by omega)])); unfold sp_person; (repeat (first | rw [if_pos (by omega)] | rw [if_neg (by omega)])); done))
        show yi_D zi_Ms d zi_m101 k (47, [(1, .inl (ld 1)), (0, .inr (.inr (some 82)))], [], (I22, L, R, Y), 0, 0) _
        refine yi_D_run 1 (48, [(1, .inl (ld 1)), (0, .inr (.inr (some 82)))], [.inr (.inr (some 82))], (I22, L, R, Y), 0, 0) (fun _ => rfl) ?_
        refine yi_D_gr (v := some 88) rfl rfl rfl (ym_S_at hS (j := 5) rfl).1 (fun _ => ?_)
        refine yi_D_run 2 (54, [(1, .inl (ld 1)), (0, .inr (.inr (some 82)))], [.inl (ld 1), .inl 57, .inr (.inr (some 88))], (I22, L, R, Y), 0, 0) (fun _ => rfl) ?_
        refine yi_D_iadd rfl (57 + (ld 1)) (yi_wn (by omega) (by omega)) ?_
        refine yi_D_run 4 (60, [(1, .inl (ld 1)), (0, .inr (.inr (some 82)))], [.inl 99, .inl 0, .inl 2, .inr (.inr (some 82)), .inl (57 + (ld 1)), .inr (.inr (some 88))], (I22, L, R, Y), 0, 0) (fun _ => rfl) ?_
        refine yi_D_callv rfl (q_takeAfter_f hW104 hn106) ?_
        rintro _ ⟨z111, I108, rfl, hGa109, hq110⟩
        have hW112 := mt_W_t hW104 (mt_G_F hGa109)
        have hf113 : 0 < I108 82 8 := by rw [hq110]; exact hn106
        have he114 := hq110.trans he24
        show yi_D zi_Ms d zi_m101 k (63, [(1, .inl (ld 1)), (0, .inr (.inr (some 82)))], [.inl z111, .inl (57 + (ld 1)), .inr (.inr (some 88))], (I108, L, R, Y), 0, 0) _
        refine yi_D_is rfl (fun _ _ => ?_)
        generalize w116 : yi_u I108 88 ((57 + (ld 1)).toNat) z111 = I115
        have hW117 := mt_W_w (i := 7 + (ld 1).toNat) (I' := I115) (z111) hW112 (fun _ => by rw [← w116, show ((57 + (ld 1)).toNat) = 50 + (7 + (ld 1).toNat) by omega, yi_u_eq]; first | done | omega) (fun p k hp => by rw [← w116, yi_u_ne _ _ (by omega)]) (mt_bd hW112 (by omega) _)
        have hf118 : 0 < I115 82 8 := by rw [← w116, yi_u_ne _ _ (by omega)]; exact hf113
        have he119 : I115 82 8 = _ := (show I115 82 8 = I108 82 8 by rw [← w116, yi_u_ne _ _ (by omega)]).trans he114
        refine yi_D_run 1 (65, [(1, .inl (ld 1)), (0, .inr (.inr (some 82)))], [.inr (.inr (some 82))], (I115, L, R, Y), 0, 0) (fun _ => rfl) ?_
        refine yi_D_gr (v := some 88) rfl rfl rfl (ym_S_at hS (j := 5) rfl).1 (fun _ => ?_)
        refine yi_D_run 2 (71, [(1, .inl (ld 1)), (0, .inr (.inr (some 82)))], [.inl 51, .inr (.inr (some 88)), .inl 51, .inr (.inr (some 88))], (I115, L, R, Y), 0, 0) (fun _ => rfl) ?_
        refine yi_D_il (v := ld 1) rfl rfl (show I115 88 51 = ld 1 from (hW117.2.2.2.1 1 (by omega)).trans (by repeat rw [sp_up_n _ _ (by omega)])) (fun _ _ => ?_)
        refine yi_D_run 1 (73, [(1, .inl (ld 1)), (0, .inr (.inr (some 82)))], [.inl 1, .inl (ld 1), .inl 51, .inr (.inr (some 88))], (I115, L, R, Y), 0, 0) (fun _ => rfl) ?_
        refine yi_D_iadd rfl ((ld 1) + 1) (yi_wn (by omega) (by omega)) ?_
        refine yi_D_is rfl (fun _ _ => ?_)
        show yi_D zi_Ms d zi_m101 k (75, [(1, .inl (ld 1)), (0, .inr (.inr (some 82)))], [], ((yi_u I115 88 51 ((ld 1) + 1)), L, R, Y), 0, 0) _
        generalize w121 : yi_u I115 88 51 ((ld 1) + 1) = I120
        have hf122 : 0 < I120 82 8 := by rw [← w121, yi_u_ne _ _ (by omega)]; exact hf118
        have he123 : I120 82 8 = _ := (show I120 82 8 = I115 82 8 by rw [← w121, yi_u_ne _ _ (by omega)]).trans he119
        refine yi_D_retv rfl ?_
        exact ⟨_, _, rfl, Or.inr ⟨_, hx107, hz105, he123⟩⟩
      · have hW124 := mt_W_t hW (mt_G_F hGa27)
        have hz125 : 0 < sp_f P (a + 1) 3 := mt_f_ne hW (mt_lt hW.2.1 hA.2 (by omega)) (by omega)
        have hn126 : 0 < I26 82 8 := by rw [he28]; exact hz125
        have hx127 : sp_R K P V (2, a, 0, [], ld, nm, cs) (.inr (sp_f P (a + 1) 3)) := sp_R_1 (by
          show sp_line K P V a ld nm cs = _
          first
          | (exfalso; omega)
          | (unfold sp_line; (repeat (first | rw [if_pos (by omega)] | rw [if_neg (by omega)])); unfold sp_person; (repeat (first | rw [if_pos (by omega)] | rw [if_neg (by omega)])); done))
        show yi_D zi_Ms d zi_m101 k (47, [(1, .inl (ld 1)), (0, .inr (.inr (some 82)))], [], (I26, L, R, Y), 0, 0) _
        refine yi_D_run 1 (48, [(1, .inl (ld 1)), (0, .inr (.inr (some 82)))], [.inr (.inr (some 82))], (I26, L, R, Y), 0, 0) (fun _ => rfl) ?_
        refine yi_D_gr (v := some 88) rfl rfl rfl (ym_S_at hS (j := 5) rfl).1 (fun _ => ?_)
        refine yi_D_run 2 (54, [(1, .inl (ld 1)), (0, .inr (.inr (some 82)))], [.inl (ld 1), .inl 57, .inr (.inr (some 88))], (I26, L, R, Y), 0, 0) (fun _ => rfl) ?_
        refine yi_D_iadd rfl (57 + (ld 1)) (yi_wn (by omega) (by omega)) ?_
        refine yi_D_run 4 (60, [(1, .inl (ld 1)), (0, .inr (.inr (some 82)))], [.inl 99, .inl 0, .inl 2, .inr (.inr (some 82)), .inl (57 + (ld 1)), .inr (.inr (some 88))], (I26, L, R, Y), 0, 0) (fun _ => rfl) ?_
        refine yi_D_callv rfl (q_takeAfter_f hW124 hn126) ?_
        rintro _ ⟨z131, I128, rfl, hGa129, hq130⟩
        have hW132 := mt_W_t hW124 (mt_G_F hGa129)
        have hf133 : 0 < I128 82 8 := by rw [hq130]; exact hn126
        have he134 := hq130.trans he28
        show yi_D zi_Ms d zi_m101 k (63, [(1, .inl (ld 1)), (0, .inr (.inr (some 82)))], [.inl z131, .inl (57 + (ld 1)), .inr (.inr (some 88))], (I128, L, R, Y), 0, 0) _
        refine yi_D_is rfl (fun _ _ => ?_)
        generalize w136 : yi_u I128 88 ((57 + (ld 1)).toNat) z131 = I135
        have hW137 := mt_W_w (i := 7 + (ld 1).toNat) (I' := I135) (z131) hW132 (fun _ => by rw [← w136, show ((57 + (ld 1)).toNat) = 50 + (7 + (ld 1).toNat) by omega, yi_u_eq]; first | done | omega) (fun p k hp => by rw [← w136, yi_u_ne _ _ (by omega)]) (mt_bd hW132 (by omega) _)
        have hf138 : 0 < I135 82 8 := by rw [← w136, yi_u_ne _ _ (by omega)]; exact hf133
        have he139 : I135 82 8 = _ := (show I135 82 8 = I128 82 8 by rw [← w136, yi_u_ne _ _ (by omega)]).trans he134
        refine yi_D_run 1 (65, [(1, .inl (ld 1)), (0, .inr (.inr (some 82)))], [.inr (.inr (some 82))], (I135, L, R, Y), 0, 0) (fun _ => rfl) ?_
        refine yi_D_gr (v := some 88) rfl rfl rfl (ym_S_at hS (j := 5) rfl).1 (fun _ => ?_)
        refine yi_D_run 2 (71, [(1, .inl (ld 1)), (0, .inr (.inr (some 82)))], [.inl 51, .inr (.inr (some 88)), .inl 51, .inr (.inr (some 88))], (I135, L, R, Y), 0, 0) (fun _ => rfl) ?_
        refine yi_D_il (v := ld 1) rfl rfl (show I135 88 51 = ld 1 from (hW137.2.2.2.1 1 (by omega)).trans (by repeat rw [sp_up_n _ _ (by omega)])) (fun _ _ => ?_)
        refine yi_D_run 1 (73, [(1, .inl (ld 1)), (0, .inr (.inr (some 82)))], [.inl 1, .inl (ld 1), .inl 51, .inr (.inr (some 88))], (I135, L, R, Y), 0, 0) (fun _ => rfl) ?_
        refine yi_D_iadd rfl ((ld 1) + 1) (yi_wn (by omega) (by omega)) ?_
        refine yi_D_is rfl (fun _ _ => ?_)
        show yi_D zi_Ms d zi_m101 k (75, [(1, .inl (ld 1)), (0, .inr (.inr (some 82)))], [], ((yi_u I135 88 51 ((ld 1) + 1)), L, R, Y), 0, 0) _
        generalize w141 : yi_u I135 88 51 ((ld 1) + 1) = I140
        have hf142 : 0 < I140 82 8 := by rw [← w141, yi_u_ne _ _ (by omega)]; exact hf138
        have he143 : I140 82 8 = _ := (show I140 82 8 = I135 82 8 by rw [← w141, yi_u_ne _ _ (by omega)]).trans he139
        refine yi_D_retv rfl ?_
        exact ⟨_, _, rfl, Or.inr ⟨_, hx127, hz125, he143⟩⟩
    · refine yi_D_if1 false rfl (yi_ge_f h12) ?_
      refine yi_D_run 2 (38, [(1, .inl (ld 1)), (0, .inr (.inr (some 82)))], [.inl 5, .inr (.inr (some 82))], (I, L, R, Y), 0, 0) (fun _ => rfl) ?_
      refine yi_D_callv rfl (q_wrong_z ⟨by omega, by omega⟩ hW hf hA) ?_
      rintro _ ⟨I144, rfl, hg145, he146⟩
      have hGw147 : mt_G I I144 := fun p k hp => hg145 p k (by omega)
      have hW148 := mt_W_t hW (mt_G_F hGw147)
      have hz149 : 0 < sp_f P a 5 := mt_f_ne hW hA.2 (by omega)
      have hn150 : 0 < I144 82 8 := by rw [he146]; exact hz149
      have hx151 : sp_R K P V (2, a, 0, [], ld, nm, cs) (.inr (sp_f P a 5)) := sp_R_1 (by
        show sp_line K P V a ld nm cs = _
        first
        | (exfalso; omega)
        | (unfold sp_line; (repeat (first | rw [if_pos (by omega)] | rw [if_neg (by omega)])); unfold sp_person; (repeat (first | rw [if_pos (by omega)] | rw [if_neg (by omega)])); done))
      show yi_D zi_Ms d zi_m101 k (41, [(1, .inl (ld 1)), (0, .inr (.inr (some 82)))], [], (I144, L, R, Y), 0, 0) _
      refine yi_D_retv rfl ?_
      exact ⟨_, _, rfl, Or.inr ⟨_, hx151, hz149, he146⟩⟩
theorem q_readEvent {d : Nat} {I L : Nat → Nat → Int} {R : Nat → Nat → Option Nat} {Y : (Nat → Nat) × (Nat → Nat) × Nat} {K P V : Nat → Int} {te a : Nat} {ld : Nat → Int} {nm : Int → Int} (hW : mt_W I L R Y K P V te 50 ld nm) (hf : I 82 8 = 0) (hA : mt_A I te a) (cs : List (Int × Int)) (hd0 : 1 ≤ ld 0) (h6 : ld 6 < 0 → I 88 56 < 0) (hk : K a = 7) : yi_P zi_Ms d 95 [.inr (.inr (some 82))] (I, L, R, Y) (mt_QL I L R Y K P V te (2, a, 0, [], ld, nm, cs) a) := by
  refine yi_P_of (M := zi_m95) rfl (fun d k => ?_)
  have hS := hW.1
  have ht := hW.2.1.1
  have ha := hA.2
  have hp := hW.2.1.2.1 a hA.2
  have hbd := hW.2.2.2.2.2.2.1
  have hc3 : I 88 56 < 0 → ld 6 < 0 := hW.2.2.2.2.1
  show yi_D zi_Ms d zi_m95 k (0, [(0, .inr (.inr (some 82)))], [], (I, L, R, Y), 0, 0) _
  refine yi_D_run 1 (1, [(0, .inr (.inr (some 82)))], [.inr (.inr (some 82))], (I, L, R, Y), 0, 0) (fun _ => rfl) ?_
  refine yi_D_gr (v := some 88) rfl rfl rfl (ym_S_at hS (j := 5) rfl).1 (fun _ => ?_)
  refine yi_D_run 1 (6, [(0, .inr (.inr (some 82)))], [.inl 52, .inr (.inr (some 88))], (I, L, R, Y), 0, 0) (fun _ => rfl) ?_
  refine yi_D_il (v := ld 2) rfl rfl (show I 88 52 = ld 2 from hW.2.2.2.1 2 (by omega)) (fun _ _ => ?_)
  refine yi_D_run 3 (10, [(1, .inl (ld 2)), (0, .inr (.inr (some 82)))], [.inl 4, .inl (ld 2)], (I, L, R, Y), 0, 0) (fun _ => rfl) ?_
  by_cases h1 : (ld 2) = 4
  · refine yi_D_if2 true rfl (yi_eq_t h1) ?_
    refine yi_D_run 2 (38, [(1, .inl (ld 2)), (0, .inr (.inr (some 82)))], [.inl 5, .inr (.inr (some 82))], (I, L, R, Y), 0, 0) (fun _ => rfl) ?_
    refine yi_D_callv rfl (q_wrong_z ⟨by omega, by omega⟩ hW hf hA) ?_
    rintro _ ⟨I2, rfl, hg3, he4⟩
    have hGw5 : mt_G I I2 := fun p k hp => hg3 p k (by omega)
    have hW6 := mt_W_t hW (mt_G_F hGw5)
    have hz7 : 0 < sp_f P a 5 := mt_f_ne hW hA.2 (by omega)
    have hn8 : 0 < I2 82 8 := by rw [he4]; exact hz7
    have hx9 : sp_R K P V (2, a, 0, [], ld, nm, cs) (.inr (sp_f P a 5)) := sp_R_1 (by
      show sp_line K P V a ld nm cs = _
      first
      | (exfalso; omega)
      | (unfold sp_line; (repeat (first | rw [if_pos (by omega)] | rw [if_neg (by omega)])); unfold sp_event; (repeat (first | rw [if_pos (by omega)] | rw [if_neg (by omega)])); done))
    show yi_D zi_Ms d zi_m95 k (41, [(1, .inl (ld 2)), (0, .inr (.inr (some 82)))], [], (I2, L, R, Y), 0, 0) _
    refine yi_D_retv rfl ?_
    exact ⟨_, _, rfl, Or.inr ⟨_, hx9, hz7, he4⟩⟩
  · refine yi_D_if2 false rfl (yi_eq_f h1) ?_
    refine yi_D_run 1 (14, [(1, .inl (ld 2)), (0, .inr (.inr (some 82)))], [.inr (.inr (some 82))], (I, L, R, Y), 0, 0) (fun _ => rfl) ?_
    refine yi_D_gr (v := some 88) rfl rfl rfl (ym_S_at hS (j := 5) rfl).1 (fun _ => ?_)
    refine yi_D_run 1 (19, [(1, .inl (ld 2)), (0, .inr (.inr (some 82)))], [.inl 50, .inr (.inr (some 88))], (I, L, R, Y), 0, 0) (fun _ => rfl) ?_
    refine yi_D_il (v := ld 0) rfl rfl (show I 88 50 = ld 0 from hW.2.2.2.1 0 (by omega)) (fun _ _ => ?_)
    refine yi_D_run 1 (21, [(1, .inl (ld 2)), (0, .inr (.inr (some 82)))], [.inr (.inr (some 82)), .inl (ld 0)], (I, L, R, Y), 0, 0) (fun _ => rfl) ?_
    refine yi_D_gr (v := some 88) rfl rfl rfl (ym_S_at hS (j := 5) rfl).1 (fun _ => ?_)
    refine yi_D_run 1 (26, [(1, .inl (ld 2)), (0, .inr (.inr (some 82)))], [.inl 51, .inr (.inr (some 88)), .inl (ld 0)], (I, L, R, Y), 0, 0) (fun _ => rfl) ?_
    refine yi_D_il (v := ld 1) rfl rfl (show I 88 51 = ld 1 from hW.2.2.2.1 1 (by omega)) (fun _ _ => ?_)
    refine yi_D_run 2 (29, [(1, .inl (ld 2)), (0, .inr (.inr (some 82)))], [.inl 1, .inl (ld 2), .inl (ld 1), .inl (ld 0)], (I, L, R, Y), 0, 0) (fun _ => rfl) ?_
    refine yi_D_iadd rfl ((ld 2) + 1) (yi_wn (by omega) (by omega)) ?_
    refine yi_D_calls rfl (q_futuresOf (by omega) (by omega) (by omega)) ?_
    rintro _ ⟨z10, rfl, hz11⟩
    show yi_D zi_Ms d zi_m95 k (33, [(1, .inl (ld 2)), (0, .inr (.inr (some 82)))], [.inl z10], (I, L, R, Y), 0, 0) _
    by_cases h12 : 0 ≤ z10
    · refine yi_D_if1 true rfl (yi_ge_t h12) ?_
      refine yi_D_run 3 (45, [(1, .inl (ld 2)), (0, .inr (.inr (some 82)))], [.inl (ld 2), .inl 4, .inr (.inr (some 82))], (I, L, R, Y), 0, 0) (fun _ => rfl) ?_
      refine yi_D_iadd rfl (4 + (ld 2)) (yi_wn (by omega) (by omega)) ?_
      refine yi_D_callv rfl (q_readName_z ⟨by omega, by omega⟩ hW hf hA (by omega)) ?_
      rintro _ (⟨c15, c16, I13, L14, rfl, h8817, hf18, hA19, hW20⟩ | ⟨c21, I22, rfl, hGa23, he24⟩ | ⟨c25, I26, rfl, hGa27, he28⟩)
      · show yi_D zi_Ms d zi_m95 k (49, [(1, .inl (ld 2)), (0, .inr (.inr (some 82)))], [], (I13, L14, R, Y), 0, 0) _
        refine yi_D_run 1 (50, [(1, .inl (ld 2)), (0, .inr (.inr (some 82)))], [.inr (.inr (some 82))], (I13, L14, R, Y), 0, 0) (fun _ => rfl) ?_
        refine yi_D_gr (v := some 88) rfl rfl rfl (ym_S_at hS (j := 5) rfl).1 (fun _ => ?_)
        refine yi_D_run 2 (56, [(1, .inl (ld 2)), (0, .inr (.inr (some 82)))], [.inl 52, .inr (.inr (some 88)), .inl 52, .inr (.inr (some 88))], (I13, L14, R, Y), 0, 0) (fun _ => rfl) ?_
        have r29 : I13 88 52 = ld 2 := by rw [h8817 88 52 (by omega), (show I 88 52 = ld 2 from hW.2.2.2.1 2 (by omega))]
        refine yi_D_il (v := ld 2) rfl rfl r29 (fun _ _ => ?_)
        refine yi_D_run 1 (58, [(1, .inl (ld 2)), (0, .inr (.inr (some 82)))], [.inl 1, .inl (ld 2), .inl 52, .inr (.inr (some 88))], (I13, L14, R, Y), 0, 0) (fun _ => rfl) ?_
        refine yi_D_iadd rfl ((ld 2) + 1) (yi_wn (by omega) (by omega)) ?_
        refine yi_D_is rfl (fun _ _ => ?_)
        show yi_D zi_Ms d zi_m95 k (60, [(1, .inl (ld 2)), (0, .inr (.inr (some 82)))], [], ((yi_u I13 88 52 ((ld 2) + 1)), L14, R, Y), 0, 0) _
        generalize w31 : yi_u I13 88 52 ((ld 2) + 1) = I30
        have hb33 : ((0 ≤ (sp_up (ld) 2 (ld 2 + 1)) 0 ∧ (sp_up (ld) 2 (ld 2 + 1)) 0 ≤ 6) ∧ (0 ≤ (sp_up (ld) 2 (ld 2 + 1)) 1 ∧ (sp_up (ld) 2 (ld 2 + 1)) 1 ≤ 4) ∧ (0 ≤ (sp_up (ld) 2 (ld 2 + 1)) 2 ∧ (sp_up (ld) 2 (ld 2 + 1)) 2 ≤ 4) ∧ (0 ≤ (sp_up (ld) 2 (ld 2 + 1)) 3 ∧ (sp_up (ld) 2 (ld 2 + 1)) 3 ≤ 5) ∧ (0 ≤ (sp_up (ld) 2 (ld 2 + 1)) 4 ∧ (sp_up (ld) 2 (ld 2 + 1)) 4 ≤ 4) ∧ (0 ≤ (sp_up (ld) 2 (ld 2 + 1)) 5 ∧ (sp_up (ld) 2 (ld 2 + 1)) 5 ≤ 6)) := by
          rw [sp_up_e]
          repeat rw [sp_up_n _ _ (by omega)]
          omega
        have hW32 := mt_W_w (i := 2) (I' := I30) (ld 2 + 1) hW20 (fun _ => by rw [← w31, show 52 = 50 + (2) by omega, yi_u_eq]; first | done | omega) (fun p k hp => by rw [← w31, yi_u_ne _ _ (by omega)]) hb33
        have hf34 : I30 82 8 = 0 := by rw [← w31, yi_u_ne _ _ (by omega)]; exact hf18
        have hA35 : mt_A I30 te (a + 2) := ⟨by rw [← w31, yi_u_ne _ _ (by omega)]; exact hA19.1, hA19.2⟩
        refine yi_D_retv rfl ?_
        have hstep : sp_R K P V (2, a, 0, [], ld, nm, cs) (.inl (1, (a + 2), 0, [], (sp_up ld (2) (ld 2 + 1)), (sp_un nm (V (a + 1)) (4 + (ld 2))), cs)) := sp_R_1 (by
          show sp_line K P V a ld nm cs = _
          unfold sp_line; (repeat (first | rw [if_pos (by omega)] | rw [if_neg (by omega)])); unfold sp_event; (repeat (first | rw [if_pos (by omega)] | rw [if_neg (by omega)])))
        exact ⟨_, _, rfl, Or.inl ⟨_, _, _, _, hstep, by omega, hf34, hA35, hW32, (by (repeat rw [sp_up_n _ _ (by omega)]); exact hd0), (fun x => by rw [← w31, yi_u_ne _ _ (by omega), h8817 88 56 (by omega)]; exact h6 (by (repeat rw [sp_up_n _ _ (by omega)] at x); exact x))⟩⟩
      · have hW36 := mt_W_t hW (mt_G_F hGa23)
        have hz37 : 0 < sp_f P (a + 1) 1 := mt_f_ne hW (mt_lt hW.2.1 hA.2 (by omega)) (by omega)
        have hn38 : 0 < I22 82 8 := by rw [he24]; exact hz37
        have hx39 : sp_R K P V (2, a, 0, [], ld, nm, cs) (.inr (sp_f P (a + 1) 1)) := sp_R_1 (by
          show sp_line K P V a ld nm cs = _
          first
          | (exfalso; omega)
          | (unfold sp_line; (repeat (first | rw [if_pos (by omega)] | rw [if_neg (by omega)])); unfold sp_event; (repeat (first | rw [if_pos (by omega)] | rw [if_neg (by omega)])); done))
        show yi_D zi_Ms d zi_m95 k (49, [(1, .inl (ld 2)), (0, .inr (.inr (some 82)))], [], (I22, L, R, Y), 0, 0) _
        refine yi_D_run 1 (50, [(1, .inl (ld 2)), (0, .inr (.inr (some 82)))], [.inr (.inr (some 82))], (I22, L, R, Y), 0, 0) (fun _ => rfl) ?_
        refine yi_D_gr (v := some 88) rfl rfl rfl (ym_S_at hS (j := 5) rfl).1 (fun _ => ?_)
        refine yi_D_run 2 (56, [(1, .inl (ld 2)), (0, .inr (.inr (some 82)))], [.inl 52, .inr (.inr (some 88)), .inl 52, .inr (.inr (some 88))], (I22, L, R, Y), 0, 0) (fun _ => rfl) ?_
        have r40 : I22 88 52 = ld 2 := by rw [hGa23 88 52 (by omega), (show I 88 52 = ld 2 from hW.2.2.2.1 2 (by omega))]
        refine yi_D_il (v := ld 2) rfl rfl r40 (fun _ _ => ?_)
        refine yi_D_run 1 (58, [(1, .inl (ld 2)), (0, .inr (.inr (some 82)))], [.inl 1, .inl (ld 2), .inl 52, .inr (.inr (some 88))], (I22, L, R, Y), 0, 0) (fun _ => rfl) ?_
        refine yi_D_iadd rfl ((ld 2) + 1) (yi_wn (by omega) (by omega)) ?_
        refine yi_D_is rfl (fun _ _ => ?_)
        show yi_D zi_Ms d zi_m95 k (60, [(1, .inl (ld 2)), (0, .inr (.inr (some 82)))], [], ((yi_u I22 88 52 ((ld 2) + 1)), L, R, Y), 0, 0) _
        generalize w42 : yi_u I22 88 52 ((ld 2) + 1) = I41
        have hf43 : 0 < I41 82 8 := by rw [← w42, yi_u_ne _ _ (by omega)]; exact hn38
        have he44 : I41 82 8 = _ := (show I41 82 8 = I22 82 8 by rw [← w42, yi_u_ne _ _ (by omega)]).trans he24
        refine yi_D_retv rfl ?_
        exact ⟨_, _, rfl, Or.inr ⟨_, hx39, hz37, he44⟩⟩
      · have hW45 := mt_W_t hW (mt_G_F hGa27)
        have hz46 : 0 < sp_f P (a + 1) 3 := mt_f_ne hW (mt_lt hW.2.1 hA.2 (by omega)) (by omega)
        have hn47 : 0 < I26 82 8 := by rw [he28]; exact hz46
        have hx48 : sp_R K P V (2, a, 0, [], ld, nm, cs) (.inr (sp_f P (a + 1) 3)) := sp_R_1 (by
          show sp_line K P V a ld nm cs = _
          first
          | (exfalso; omega)
          | (unfold sp_line; (repeat (first | rw [if_pos (by omega)] | rw [if_neg (by omega)])); unfold sp_event; (repeat (first | rw [if_pos (by omega)] | rw [if_neg (by omega)])); done))
        show yi_D zi_Ms d zi_m95 k (49, [(1, .inl (ld 2)), (0, .inr (.inr (some 82)))], [], (I26, L, R, Y), 0, 0) _
        refine yi_D_run 1 (50, [(1, .inl (ld 2)), (0, .inr (.inr (some 82)))], [.inr (.inr (some 82))], (I26, L, R, Y), 0, 0) (fun _ => rfl) ?_
        refine yi_D_gr (v := some 88) rfl rfl rfl (ym_S_at hS (j := 5) rfl).1 (fun _ => ?_)
        refine yi_D_run 2 (56, [(1, .inl (ld 2)), (0, .inr (.inr (some 82)))], [.inl 52, .inr (.inr (some 88)), .inl 52, .inr (.inr (some 88))], (I26, L, R, Y), 0, 0) (fun _ => rfl) ?_
        have r49 : I26 88 52 = ld 2 := by rw [hGa27 88 52 (by omega), (show I 88 52 = ld 2 from hW.2.2.2.1 2 (by omega))]
        refine yi_D_il (v := ld 2) rfl rfl r49 (fun _ _ => ?_)
        refine yi_D_run 1 (58, [(1, .inl (ld 2)), (0, .inr (.inr (some 82)))], [.inl 1, .inl (ld 2), .inl 52, .inr (.inr (some 88))], (I26, L, R, Y), 0, 0) (fun _ => rfl) ?_
        refine yi_D_iadd rfl ((ld 2) + 1) (yi_wn (by omega) (by omega)) ?_
        refine yi_D_is rfl (fun _ _ => ?_)
        show yi_D zi_Ms d zi_m95 k (60, [(1, .inl (ld 2)), (0, .inr (.inr (some 82)))], [], ((yi_u I26 88 52 ((ld 2) + 1)), L, R, Y), 0, 0) _
        generalize w51 : yi_u I26 88 52 ((ld 2) + 1) = I50
        have hf52 : 0 < I50 82 8 := by rw [← w51, yi_u_ne _ _ (by omega)]; exact hn47
        have he53 : I50 82 8 = _ := (show I50 82 8 = I26 82 8 by rw [← w51, yi_u_ne _ _ (by omega)]).trans he28
        refine yi_D_retv rfl ?_
        exact ⟨_, _, rfl, Or.inr ⟨_, hx48, hz46, he53⟩⟩
    · refine yi_D_if1 false rfl (yi_ge_f h12) ?_
      refine yi_D_run 2 (38, [(1, .inl (ld 2)), (0, .inr (.inr (some 82)))], [.inl 5, .inr (.inr (some 82))], (I, L, R, Y), 0, 0) (fun _ => rfl) ?_
      refine yi_D_callv rfl (q_wrong_z ⟨by omega, by omega⟩ hW hf hA) ?_
      rintro _ ⟨I54, rfl, hg55, he56⟩
      have hGw57 : mt_G I I54 := fun p k hp => hg55 p k (by omega)
      have hW58 := mt_W_t hW (mt_G_F hGw57)
      have hz59 : 0 < sp_f P a 5 := mt_f_ne hW hA.2 (by omega)
      have hn60 : 0 < I54 82 8 := by rw [he56]; exact hz59
      have hx61 : sp_R K P V (2, a, 0, [], ld, nm, cs) (.inr (sp_f P a 5)) := sp_R_1 (by
        show sp_line K P V a ld nm cs = _
        first
        | (exfalso; omega)
        | (unfold sp_line; (repeat (first | rw [if_pos (by omega)] | rw [if_neg (by omega)])); unfold sp_event; (repeat (first | rw [if_pos (by omega)] | rw [if_neg (by omega)])); done))
      show yi_D zi_Ms d zi_m95 k (41, [(1, .inl (ld 2)), (0, .inr (.inr (some 82)))], [], (I54, L, R, Y), 0, 0) _
      refine yi_D_retv rfl ?_
      exact ⟨_, _, rfl, Or.inr ⟨_, hx61, hz59, he56⟩⟩
theorem q_readProphet {d : Nat} {I L : Nat → Nat → Int} {R : Nat → Nat → Option Nat} {Y : (Nat → Nat) × (Nat → Nat) × Nat} {K P V : Nat → Int} {te a : Nat} {ld : Nat → Int} {nm : Int → Int} (hW : mt_W I L R Y K P V te 50 ld nm) (hf : I 82 8 = 0) (hA : mt_A I te a) (cs : List (Int × Int)) (hd0 : 1 ≤ ld 0) (h6 : ld 6 < 0 → I 88 56 < 0) (hk : K a = 8) : yi_P zi_Ms d 103 [.inr (.inr (some 82))] (I, L, R, Y) (mt_QL I L R Y K P V te (2, a, 0, [], ld, nm, cs) a) := by
  refine yi_P_of (M := zi_m103) rfl (fun d k => ?_)
  have hS := hW.1
  have ht := hW.2.1.1
  have ha := hA.2
  have hp := hW.2.1.2.1 a hA.2
  have hbd := hW.2.2.2.2.2.2.1
  have hc3 : I 88 56 < 0 → ld 6 < 0 := hW.2.2.2.2.1
  show yi_D zi_Ms d zi_m103 k (0, [(0, .inr (.inr (some 82)))], [], (I, L, R, Y), 0, 0) _
  refine yi_D_run 1 (1, [(0, .inr (.inr (some 82)))], [.inr (.inr (some 82))], (I, L, R, Y), 0, 0) (fun _ => rfl) ?_
  refine yi_D_gr (v := some 88) rfl rfl rfl (ym_S_at hS (j := 5) rfl).1 (fun _ => ?_)
  refine yi_D_run 1 (6, [(0, .inr (.inr (some 82)))], [.inl 53, .inr (.inr (some 88))], (I, L, R, Y), 0, 0) (fun _ => rfl) ?_
  refine yi_D_il (v := ld 3) rfl rfl (show I 88 53 = ld 3 from hW.2.2.2.1 3 (by omega)) (fun _ _ => ?_)
  refine yi_D_run 3 (10, [(1, .inl (ld 3)), (0, .inr (.inr (some 82)))], [.inl 5, .inl (ld 3)], (I, L, R, Y), 0, 0) (fun _ => rfl) ?_
  by_cases h1 : (ld 3) = 5
  · refine yi_D_if2 false rfl (yi_ne_f h1) ?_
    refine yi_D_run 2 (15, [(1, .inl (ld 3)), (0, .inr (.inr (some 82)))], [.inl 5, .inr (.inr (some 82))], (I, L, R, Y), 0, 0) (fun _ => rfl) ?_
    refine yi_D_callv rfl (q_wrong_z ⟨by omega, by omega⟩ hW hf hA) ?_
    rintro _ ⟨I2, rfl, hg3, he4⟩
    have hGw5 : mt_G I I2 := fun p k hp => hg3 p k (by omega)
    have hW6 := mt_W_t hW (mt_G_F hGw5)
    have hz7 : 0 < sp_f P a 5 := mt_f_ne hW hA.2 (by omega)
    have hn8 : 0 < I2 82 8 := by rw [he4]; exact hz7
    have hx9 : sp_R K P V (2, a, 0, [], ld, nm, cs) (.inr (sp_f P a 5)) := sp_R_1 (by
      show sp_line K P V a ld nm cs = _
      first
      | (exfalso; omega)
      | (unfold sp_line; (repeat (first | rw [if_pos (by omega)] | rw [if_neg (by omega)])); unfold sp_prophet; (repeat (first | rw [if_pos (by omega)] | rw [if_neg (by omega)])); done))
    show yi_D zi_Ms d zi_m103 k (18, [(1, .inl (ld 3)), (0, .inr (.inr (some 82)))], [], (I2, L, R, Y), 0, 0) _
    refine yi_D_retv rfl ?_
    exact ⟨_, _, rfl, Or.inr ⟨_, hx9, hz7, he4⟩⟩
  · refine yi_D_if2 true rfl (yi_ne_t h1) ?_
    refine yi_D_run 3 (23, [(1, .inl (ld 3)), (0, .inr (.inr (some 82)))], [.inl (ld 3), .inl 8, .inr (.inr (some 82))], (I, L, R, Y), 0, 0) (fun _ => rfl) ?_
    refine yi_D_iadd rfl (8 + (ld 3)) (yi_wn (by omega) (by omega)) ?_
    refine yi_D_callv rfl (q_readName_z ⟨by omega, by omega⟩ hW hf hA (by omega)) ?_
    rintro _ (⟨c12, c13, I10, L11, rfl, h8814, hf15, hA16, hW17⟩ | ⟨c18, I19, rfl, hGa20, he21⟩ | ⟨c22, I23, rfl, hGa24, he25⟩)
    · show yi_D zi_Ms d zi_m103 k (27, [(1, .inl (ld 3)), (0, .inr (.inr (some 82)))], [], (I10, L11, R, Y), 0, 0) _
      refine yi_D_run 1 (28, [(1, .inl (ld 3)), (0, .inr (.inr (some 82)))], [.inr (.inr (some 82))], (I10, L11, R, Y), 0, 0) (fun _ => rfl) ?_
      refine yi_D_gi (v := 0) rfl rfl rfl hf15 (fun _ => ?_)
      refine yi_D_if1 true rfl (by decide) ?_
      refine yi_D_run 3 (42, [(1, .inl (ld 3)), (0, .inr (.inr (some 82)))], [.inl 5, .inl 21, .inr (.inr (some 82))], (I10, L11, R, Y), 0, 0) (fun _ => rfl) ?_
      refine yi_D_callv rfl (q_wordHere_z (by omega) (by omega) (by omega) hW17 hf15 hA16) ?_
      rintro _ ⟨z26, rfl, hz27⟩
      show yi_D zi_Ms d zi_m103 k (45, [(1, .inl (ld 3)), (0, .inr (.inr (some 82)))], [.inl z26], (I10, L11, R, Y), 0, 0) _
      refine yi_D_run 2 (47, [(2, .inl z26), (1, .inl (ld 3)), (0, .inr (.inr (some 82)))], [.inl z26], (I10, L11, R, Y), 0, 0) (fun _ => rfl) ?_
      by_cases h28 : 0 ≤ z26
      · refine yi_D_if1 true rfl (yi_ge_t h28) ?_
        refine yi_D_run 2 (58, [(2, .inl z26), (1, .inl (ld 3)), (0, .inr (.inr (some 82)))], [.inr (.inr (some 82)), .inr (.inr (some 82))], (I10, L11, R, Y), 0, 0) (fun _ => rfl) ?_
        refine yi_D_gi (v := ((a + 2 : Nat) : Int)) rfl rfl rfl hA16.1 (fun _ => ?_)
        refine yi_D_run 1 (62, [(2, .inl z26), (1, .inl (ld 3)), (0, .inr (.inr (some 82)))], [.inl 1, .inl ((a + 2 : Nat) : Int), .inr (.inr (some 82))], (I10, L11, R, Y), 0, 0) (fun _ => rfl) ?_
        refine yi_D_iadd rfl (((a + 2 : Nat) : Int) + 1) (yi_wn (by omega) (by omega)) ?_
        refine yi_D_pi rfl (fun _ => ?_)
        generalize w30 : yi_u I10 82 7 (((a + 2 : Nat) : Int) + 1) = I29
        have hGn31 : mt_G I10 I29 := fun p k hp => by rw [← w30, yi_u_ne _ _ (by omega)]
        have hW32 := mt_W_t hW17 (mt_G_F hGn31)
        have hf33 : I29 82 8 = 0 := by rw [← w30, yi_u_ne _ _ (by omega)]; exact hf15
        have hA34 : mt_A I29 te (a + 3) := ⟨by rw [← w30, yi_u_eq]; omega, mt_lt hW32.2.1 hA16.2 (by omega)⟩
        refine yi_D_run 1 (67, [(2, .inl z26), (1, .inl (ld 3)), (0, .inr (.inr (some 82)))], [.inr (.inr (some 82))], (I29, L11, R, Y), 0, 0) (fun _ => rfl) ?_
        refine yi_D_gr (v := some 88) rfl rfl rfl (ym_S_at hS (j := 5) rfl).1 (fun _ => ?_)
        refine yi_D_run 3 (74, [(2, .inl z26), (1, .inl (ld 3)), (0, .inr (.inr (some 82)))], [.inl (ld 3), .inl 2, .inl 61, .inr (.inr (some 88))], (I29, L11, R, Y), 0, 0) (fun _ => rfl) ?_
        refine yi_D_imul rfl (2 * (ld 3)) (yi_wn (by omega) (by omega)) ?_
        refine yi_D_iadd rfl (61 + (2 * (ld 3))) (yi_wn (by omega) (by omega)) ?_
        refine yi_D_run 1 (77, [(2, .inl z26), (1, .inl (ld 3)), (0, .inr (.inr (some 82)))], [.inl z26, .inl (61 + (2 * (ld 3))), .inr (.inr (some 88))], (I29, L11, R, Y), 0, 0) (fun _ => rfl) ?_
        have hkz : z26 = K (a + 2) - 25 := by omega
        refine yi_D_is rfl (fun _ _ => ?_)
        generalize w36 : yi_u I29 88 ((61 + (2 * (ld 3))).toNat) z26 = I35
        have hW37 := mt_W_w (i := 11 + 2 * (ld 3).toNat) (I' := I35) (K (a + 2) - 25) hW32 (fun _ => by rw [← w36, show ((61 + (2 * (ld 3))).toNat) = 50 + (11 + 2 * (ld 3).toNat) by omega, yi_u_eq]; first | done | omega) (fun p k hp => by rw [← w36, yi_u_ne _ _ (by omega)]) (mt_bd hW32 (by omega) _)
        have hf38 : I35 82 8 = 0 := by rw [← w36, yi_u_ne _ _ (by omega)]; exact hf33
        have hA39 : mt_A I35 te (a + 3) := ⟨by rw [← w36, yi_u_ne _ _ (by omega)]; exact hA34.1, hA34.2⟩
        refine yi_D_run 1 (79, [(2, .inl z26), (1, .inl (ld 3)), (0, .inr (.inr (some 82)))], [.inr (.inr (some 82))], (I35, L11, R, Y), 0, 0) (fun _ => rfl) ?_
        refine yi_D_gr (v := some 88) rfl rfl rfl (ym_S_at hS (j := 5) rfl).1 (fun _ => ?_)
        refine yi_D_run 3 (86, [(2, .inl z26), (1, .inl (ld 3)), (0, .inr (.inr (some 82)))], [.inl (ld 3), .inl 2, .inl 61, .inr (.inr (some 88))], (I35, L11, R, Y), 0, 0) (fun _ => rfl) ?_
        refine yi_D_imul rfl (2 * (ld 3)) (yi_wn (by omega) (by omega)) ?_
        refine yi_D_iadd rfl (61 + (2 * (ld 3))) (yi_wn (by omega) (by omega)) ?_
        refine yi_D_run 1 (89, [(2, .inl z26), (1, .inl (ld 3)), (0, .inr (.inr (some 82)))], [.inl 1, .inl (61 + (2 * (ld 3))), .inr (.inr (some 88))], (I35, L11, R, Y), 0, 0) (fun _ => rfl) ?_
        refine yi_D_iadd rfl ((61 + (2 * (ld 3))) + 1) (yi_wn (by omega) (by omega)) ?_
        refine yi_D_run 4 (96, [(2, .inl z26), (1, .inl (ld 3)), (0, .inr (.inr (some 82)))], [.inl 999, .inl 0, .inl 5, .inr (.inr (some 82)), .inl ((61 + (2 * (ld 3))) + 1), .inr (.inr (some 88))], (I35, L11, R, Y), 0, 0) (fun _ => rfl) ?_
        refine yi_D_callv rfl (q_takeAfter_z (lo := 0) (hi := 999) (by omega) (by omega) hW37 hf38 hA39) ?_
        rintro _ (⟨c40, c41, c42, I43, rfl, hGa44, hf45, hA46⟩ | ⟨c47, z51, I48, rfl, hGa49, he50⟩ | ⟨c52, z56, I53, rfl, hGa54, he55⟩ | ⟨c57, z61, I58, rfl, hGa59, he60⟩)
        · have c40 : K (a + 3) = 4 + 5 := c40
          have c41 : K (a + 4) = 2 := c41
          have c42 : 0 ≤ V (a + 4) ∧ V (a + 4) ≤ 999 := c42
          have hA46 : mt_A I43 te (a + 5) := hA46
          have hW62 := mt_W_t hW37 (mt_G_F hGa44)
          show yi_D zi_Ms d zi_m103 k (99, [(2, .inl z26), (1, .inl (ld 3)), (0, .inr (.inr (some 82)))], [.inl (V (a + 4)), .inl ((61 + (2 * (ld 3))) + 1), .inr (.inr (some 88))], (I43, L11, R, Y), 0, 0) _
          refine yi_D_is rfl (fun _ _ => ?_)
          generalize w64 : yi_u I43 88 (((61 + (2 * (ld 3))) + 1).toNat) (V (a + 4)) = I63
          have hW65 := mt_W_w (i := 12 + 2 * (ld 3).toNat) (I' := I63) (V (a + 4)) hW62 (fun _ => by rw [← w64, show (((61 + (2 * (ld 3))) + 1).toNat) = 50 + (12 + 2 * (ld 3).toNat) by omega, yi_u_eq]; first | done | omega) (fun p k hp => by rw [← w64, yi_u_ne _ _ (by omega)]) (mt_bd hW62 (by omega) _)
          have hf66 : I63 82 8 = 0 := by rw [← w64, yi_u_ne _ _ (by omega)]; exact hf45
          have hA67 : mt_A I63 te (a + 5) := ⟨by rw [← w64, yi_u_ne _ _ (by omega)]; exact hA46.1, hA46.2⟩
          refine yi_D_run 1 (101, [(2, .inl z26), (1, .inl (ld 3)), (0, .inr (.inr (some 82)))], [.inr (.inr (some 82))], (I63, L11, R, Y), 0, 0) (fun _ => rfl) ?_
          refine yi_D_gr (v := some 88) rfl rfl rfl (ym_S_at hS (j := 5) rfl).1 (fun _ => ?_)
          refine yi_D_run 2 (107, [(2, .inl z26), (1, .inl (ld 3)), (0, .inr (.inr (some 82)))], [.inl 53, .inr (.inr (some 88)), .inl 53, .inr (.inr (some 88))], (I63, L11, R, Y), 0, 0) (fun _ => rfl) ?_
          refine yi_D_il (v := ld 3) rfl rfl (show I63 88 53 = ld 3 from (hW65.2.2.2.1 3 (by omega)).trans (by repeat rw [sp_up_n _ _ (by omega)])) (fun _ _ => ?_)
          refine yi_D_run 1 (109, [(2, .inl z26), (1, .inl (ld 3)), (0, .inr (.inr (some 82)))], [.inl 1, .inl (ld 3), .inl 53, .inr (.inr (some 88))], (I63, L11, R, Y), 0, 0) (fun _ => rfl) ?_
          refine yi_D_iadd rfl ((ld 3) + 1) (yi_wn (by omega) (by omega)) ?_
          refine yi_D_is rfl (fun _ _ => ?_)
          show yi_D zi_Ms d zi_m103 k (111, [(2, .inl z26), (1, .inl (ld 3)), (0, .inr (.inr (some 82)))], [], ((yi_u I63 88 53 ((ld 3) + 1)), L11, R, Y), 0, 0) _
          generalize w69 : yi_u I63 88 53 ((ld 3) + 1) = I68
          have hb71 : ((0 ≤ (sp_up ((sp_up (sp_up ld (11 + 2 * (ld 3).toNat) (K (a + 2) - 25)) (12 + 2 * (ld 3).toNat) (V (a + 4)))) 3 (ld 3 + 1)) 0 ∧ (sp_up ((sp_up (sp_up ld (11 + 2 * (ld 3).toNat) (K (a + 2) - 25)) (12 + 2 * (ld 3).toNat) (V (a + 4)))) 3 (ld 3 + 1)) 0 ≤ 6) ∧ (0 ≤ (sp_up ((sp_up (sp_up ld (11 + 2 * (ld 3).toNat) (K (a + 2) - 25)) (12 + 2 * (ld 3).toNat) (V (a + 4)))) 3 (ld 3 + 1)) 1 ∧ (sp_up ((sp_up (sp_up ld (11 + 2 * (ld 3).toNat) (K (a + 2) - 25)) (12 + 2 * (ld 3).toNat) (V (a + 4)))) 3 (ld 3 + 1)) 1 ≤ 4) ∧ (0 ≤ (sp_up ((sp_up (sp_up ld (11 + 2 * (ld 3).toNat) (K (a + 2) - 25)) (12 + 2 * (ld 3).toNat) (V (a + 4)))) 3 (ld 3 + 1)) 2 ∧ (sp_up ((sp_up (sp_up ld (11 + 2 * (ld 3).toNat) (K (a + 2) - 25)) (12 + 2 * (ld 3).toNat) (V (a + 4)))) 3 (ld 3 + 1)) 2 ≤ 4) ∧ (0 ≤ (sp_up ((sp_up (sp_up ld (11 + 2 * (ld 3).toNat) (K (a + 2) - 25)) (12 + 2 * (ld 3).toNat) (V (a + 4)))) 3 (ld 3 + 1)) 3 ∧ (sp_up ((sp_up (sp_up ld (11 + 2 * (ld 3).toNat) (K (a + 2) - 25)) (12 + 2 * (ld 3).toNat) (V (a + 4)))) 3 (ld 3 + 1)) 3 ≤ 5) ∧ (0 ≤ (sp_up ((sp_up (sp_up ld (11 + 2 * (ld 3).toNat) (K (a + 2) - 25)) (12 + 2 * (ld 3).toNat) (V (a + 4)))) 3 (ld 3 + 1)) 4 ∧ (sp_up ((sp_up (sp_up ld (11 + 2 * (ld 3).toNat) (K (a + 2) - 25)) (12 + 2 * (ld 3).toNat) (V (a + 4)))) 3 (ld 3 + 1)) 4 ≤ 4) ∧ (0 ≤ (sp_up ((sp_up (sp_up ld (11 + 2 * (ld 3).toNat) (K (a + 2) - 25)) (12 + 2 * (ld 3).toNat) (V (a + 4)))) 3 (ld 3 + 1)) 5 ∧ (sp_up ((sp_up (sp_up ld (11 + 2 * (ld 3).toNat) (K (a + 2) - 25)) (12 + 2 * (ld 3).toNat) (V (a + 4)))) 3 (ld 3 + 1)) 5 ≤ 6)) := by
            rw [sp_up_e]
            repeat rw [sp_up_n _ _ (by omega)]
            omega
          have hW70 := mt_W_w (i := 3) (I' := I68) (ld 3 + 1) hW65 (fun _ => by rw [← w69, show 53 = 50 + (3) by omega, yi_u_eq]; first | done | omega) (fun p k hp => by rw [← w69, yi_u_ne _ _ (by omega)]) hb71
          have hf72 : I68 82 8 = 0 := by rw [← w69, yi_u_ne _ _ (by omega)]; exact hf66
          have hA73 : mt_A I68 te (a + 5) := ⟨by rw [← w69, yi_u_ne _ _ (by omega)]; exact hA67.1, hA67.2⟩
          refine yi_D_retv rfl ?_
          have hstep : sp_R K P V (2, a, 0, [], ld, nm, cs) (.inl (1, (a + 5), 0, [], (sp_up (sp_up (sp_up ld (11 + 2 * (ld 3).toNat) (K (a + 2) - 25)) (12 + 2 * (ld 3).toNat) (V (a + 4))) (3) (ld 3 + 1)), (sp_un nm (V (a + 1)) (8 + (ld 3))), cs)) := sp_R_1 (by
            show sp_line K P V a ld nm cs = _
            unfold sp_line; (repeat (first | rw [if_pos (by omega)] | rw [if_neg (by omega)])); unfold sp_prophet; (repeat (first | rw [if_pos (by omega)] | rw [if_neg (by omega)])))
          exact ⟨_, _, rfl, Or.inl ⟨_, _, _, _, hstep, by omega, hf72, hA73, hW70, (by (repeat rw [sp_up_n _ _ (by omega)]); exact hd0), (fun x => by rw [← w69, yi_u_ne _ _ (by omega), ← w64, yi_u_ne _ _ (by omega), hGa44 88 56 (by omega), ← w36, yi_u_ne _ _ (by omega), hGn31 88 56 (by omega), h8814 88 56 (by omega)]; exact h6 (by (repeat rw [sp_up_n _ _ (by omega)] at x); exact x))⟩⟩
        · have c47 : ¬ K (a + 3) = 4 + 5 := c47
          have hW74 := mt_W_t hW37 (mt_G_F hGa49)
          have hz75 : 0 < sp_f P (a + 3) 1 := mt_f_ne hW37 hA39.2 (by omega)
          have hn76 : 0 < I48 82 8 := by rw [he50]; exact hz75
          have hx77 : sp_R K P V (2, a, 0, [], ld, nm, cs) (.inr (sp_f P (a + 3) 1)) := sp_R_1 (by
            show sp_line K P V a ld nm cs = _
            first
            | (exfalso; omega)
            | (unfold sp_line; (repeat (first | rw [if_pos (by omega)] | rw [if_neg (by omega)])); unfold sp_prophet; (repeat (first | rw [if_pos (by omega)] | rw [if_neg (by omega)])); done))
          show yi_D zi_Ms d zi_m103 k (99, [(2, .inl z26), (1, .inl (ld 3)), (0, .inr (.inr (some 82)))], [.inl z51, .inl ((61 + (2 * (ld 3))) + 1), .inr (.inr (some 88))], (I48, L11, R, Y), 0, 0) _
          refine yi_D_is rfl (fun _ _ => ?_)
          generalize w79 : yi_u I48 88 (((61 + (2 * (ld 3))) + 1).toNat) z51 = I78
          have hW80 := mt_W_w (i := 12 + 2 * (ld 3).toNat) (I' := I78) (z51) hW74 (fun _ => by rw [← w79, show (((61 + (2 * (ld 3))) + 1).toNat) = 50 + (12 + 2 * (ld 3).toNat) by omega, yi_u_eq]; first | done | omega) (fun p k hp => by rw [← w79, yi_u_ne _ _ (by omega)]) (mt_bd hW74 (by omega) _)
          have hf81 : 0 < I78 82 8 := by rw [← w79, yi_u_ne _ _ (by omega)]; exact hn76
          have he82 : I78 82 8 = _ := (show I78 82 8 = I48 82 8 by rw [← w79, yi_u_ne _ _ (by omega)]).trans he50
          refine yi_D_run 1 (101, [(2, .inl z26), (1, .inl (ld 3)), (0, .inr (.inr (some 82)))], [.inr (.inr (some 82))], (I78, L11, R, Y), 0, 0) (fun _ => rfl) ?_
          refine yi_D_gr (v := some 88) rfl rfl rfl (ym_S_at hS (j := 5) rfl).1 (fun _ => ?_)
          refine yi_D_run 2 (107, [(2, .inl z26), (1, .inl (ld 3)), (0, .inr (.inr (some 82)))], [.inl 53, .inr (.inr (some 88)), .inl 53, .inr (.inr (some 88))], (I78, L11, R, Y), 0, 0) (fun _ => rfl) ?_
          refine yi_D_il (v := ld 3) rfl rfl (show I78 88 53 = ld 3 from (hW80.2.2.2.1 3 (by omega)).trans (by repeat rw [sp_up_n _ _ (by omega)])) (fun _ _ => ?_)
          refine yi_D_run 1 (109, [(2, .inl z26), (1, .inl (ld 3)), (0, .inr (.inr (some 82)))], [.inl 1, .inl (ld 3), .inl 53, .inr (.inr (some 88))], (I78, L11, R, Y), 0, 0) (fun _ => rfl) ?_
          refine yi_D_iadd rfl ((ld 3) + 1) (yi_wn (by omega) (by omega)) ?_
          refine yi_D_is rfl (fun _ _ => ?_)
          show yi_D zi_Ms d zi_m103 k (111, [(2, .inl z26), (1, .inl (ld 3)), (0, .inr (.inr (some 82)))], [], ((yi_u I78 88 53 ((ld 3) + 1)), L11, R, Y), 0, 0) _
          generalize w84 : yi_u I78 88 53 ((ld 3) + 1) = I83
          have hf85 : 0 < I83 82 8 := by rw [← w84, yi_u_ne _ _ (by omega)]; exact hf81
          have he86 : I83 82 8 = _ := (show I83 82 8 = I78 82 8 by rw [← w84, yi_u_ne _ _ (by omega)]).trans he82
          refine yi_D_retv rfl ?_
          exact ⟨_, _, rfl, Or.inr ⟨_, hx77, hz75, he86⟩⟩
        · have c52 : K (a + 3) = 4 + 5 ∧ ¬ K (a + 4) = 2 := c52
          have hW87 := mt_W_t hW37 (mt_G_F hGa54)
          have hA88 : mt_A I35 te (a + 3) ∨ True := Or.inr trivial
          have hz89 : 0 < sp_f P (a + 4) 1 := mt_f_ne hW37 (mt_lt hW37.2.1 hA39.2 (by omega)) (by omega)
          have hn90 : 0 < I53 82 8 := by rw [he55]; exact hz89
          have hx91 : sp_R K P V (2, a, 0, [], ld, nm, cs) (.inr (sp_f P (a + 4) 1)) := sp_R_1 (by
            show sp_line K P V a ld nm cs = _
            first
            | (exfalso; omega)
            | (unfold sp_line; (repeat (first | rw [if_pos (by omega)] | rw [if_neg (by omega)])); unfold sp_prophet; (repeat (first | rw [if_pos (by omega)] | rw [if_neg (by omega)])); done))
          show yi_D zi_Ms d zi_m103 k (99, [(2, .inl z26), (1, .inl (ld 3)), (0, .inr (.inr (some 82)))], [.inl z56, .inl ((61 + (2 * (ld 3))) + 1), .inr (.inr (some 88))], (I53, L11, R, Y), 0, 0) _
          refine yi_D_is rfl (fun _ _ => ?_)
          generalize w93 : yi_u I53 88 (((61 + (2 * (ld 3))) + 1).toNat) z56 = I92
          have hW94 := mt_W_w (i := 12 + 2 * (ld 3).toNat) (I' := I92) (z56) hW87 (fun _ => by rw [← w93, show (((61 + (2 * (ld 3))) + 1).toNat) = 50 + (12 + 2 * (ld 3).toNat) by omega, yi_u_eq]; first | done | omega) (fun p k hp => by rw [← w93, yi_u_ne _ _ (by omega)]) (mt_bd hW87 (by omega) _)
          have hf95 : 0 < I92 82 8 := by rw [← w93, yi_u_ne _ _ (by omega)]; exact hn90
          have he96 : I92 82 8 = _ := (show I92 82 8 = I53 82 8 by rw [← w93, yi_u_ne _ _ (by omega)]).trans he55
          refine yi_D_run 1 (101, [(2, .inl z26), (1, .inl (ld 3)), (0, .inr (.inr (some 82)))], [.inr (.inr (some 82))], (I92, L11, R, Y), 0, 0) (fun _ => rfl) ?_
          refine yi_D_gr (v := some 88) rfl rfl rfl (ym_S_at hS (j := 5) rfl).1 (fun _ => ?_)
          refine yi_D_run 2 (107, [(2, .inl z26), (1, .inl (ld 3)), (0, .inr (.inr (some 82)))], [.inl 53, .inr (.inr (some 88)), .inl 53, .inr (.inr (some 88))], (I92, L11, R, Y), 0, 0) (fun _ => rfl) ?_
          refine yi_D_il (v := ld 3) rfl rfl (show I92 88 53 = ld 3 from (hW94.2.2.2.1 3 (by omega)).trans (by repeat rw [sp_up_n _ _ (by omega)])) (fun _ _ => ?_)
          refine yi_D_run 1 (109, [(2, .inl z26), (1, .inl (ld 3)), (0, .inr (.inr (some 82)))], [.inl 1, .inl (ld 3), .inl 53, .inr (.inr (some 88))], (I92, L11, R, Y), 0, 0) (fun _ => rfl) ?_
          refine yi_D_iadd rfl ((ld 3) + 1) (yi_wn (by omega) (by omega)) ?_
          refine yi_D_is rfl (fun _ _ => ?_)
          show yi_D zi_Ms d zi_m103 k (111, [(2, .inl z26), (1, .inl (ld 3)), (0, .inr (.inr (some 82)))], [], ((yi_u I92 88 53 ((ld 3) + 1)), L11, R, Y), 0, 0) _
          generalize w98 : yi_u I92 88 53 ((ld 3) + 1) = I97
          have hf99 : 0 < I97 82 8 := by rw [← w98, yi_u_ne _ _ (by omega)]; exact hf95
          have he100 : I97 82 8 = _ := (show I97 82 8 = I92 82 8 by rw [← w98, yi_u_ne _ _ (by omega)]).trans he96
          refine yi_D_retv rfl ?_
          exact ⟨_, _, rfl, Or.inr ⟨_, hx91, hz89, he100⟩⟩
        · have c57 : K (a + 3) = 4 + 5 ∧ K (a + 4) = 2 ∧ (V (a + 4) < 0 ∨ 999 < V (a + 4)) := c57
          have hW101 := mt_W_t hW37 (mt_G_F hGa59)
          have hA102 : mt_A I35 te (a + 3) ∨ True := Or.inr trivial
          have hz103 : 0 < sp_f P (a + 4) 4 := mt_f_ne hW37 (mt_lt hW37.2.1 hA39.2 (by omega)) (by omega)
          have hn104 : 0 < I58 82 8 := by rw [he60]; exact hz103
          have hx105 : sp_R K P V (2, a, 0, [], ld, nm, cs) (.inr (sp_f P (a + 4) 4)) := sp_R_1 (by
            show sp_line K P V a ld nm cs = _
            first
            | (exfalso; omega)
            | (unfold sp_line; (repeat (first | rw [if_pos (by omega)] | rw [if_neg (by omega)])); unfold sp_prophet; (repeat (first | rw [if_pos (by omega)] | rw [if_neg (by omega)])); done))
          show yi_D zi_Ms d zi_m103 k (99, [(2, .inl z26), (1, .inl (ld 3)), (0, .inr (.inr (some 82)))], [.inl z61, .inl ((61 + (2 * (ld 3))) + 1), .inr (.inr (some 88))], (I58, L11, R, Y), 0, 0) _
          refine yi_D_is rfl (fun _ _ => ?_)
          generalize w107 : yi_u I58 88 (((61 + (2 * (ld 3))) + 1).toNat) z61 = I106
          have hW108 := mt_W_w (i := 12 + 2 * (ld 3).toNat) (I' := I106) (z61) hW101 (fun _ => by rw [← w107, show (((61 + (2 * (ld 3))) + 1).toNat) = 50 + (12 + 2 * (ld 3).toNat) by omega, yi_u_eq]; first | done | omega) (fun p k hp => by rw [← w107, yi_u_ne _ _ (by omega)]) (mt_bd hW101 (by omega) _)
          have hf109 : 0 < I106 82 8 := by rw [← w107, yi_u_ne _ _ (by omega)]; exact hn104
          have he110 : I106 82 8 = _ := (show I106 82 8 = I58 82 8 by rw [← w107, yi_u_ne _ _ (by omega)]).trans he60
          refine yi_D_run 1 (101, [(2, .inl z26), (1, .inl (ld 3)), (0, .inr (.inr (some 82)))], [.inr (.inr (some 82))], (I106, L11, R, Y), 0, 0) (fun _ => rfl) ?_
          refine yi_D_gr (v := some 88) rfl rfl rfl (ym_S_at hS (j := 5) rfl).1 (fun _ => ?_)
          refine yi_D_run 2 (107, [(2, .inl z26), (1, .inl (ld 3)), (0, .inr (.inr (some 82)))], [.inl 53, .inr (.inr (some 88)), .inl 53, .inr (.inr (some 88))], (I106, L11, R, Y), 0, 0) (fun _ => rfl) ?_
          refine yi_D_il (v := ld 3) rfl rfl (show I106 88 53 = ld 3 from (hW108.2.2.2.1 3 (by omega)).trans (by repeat rw [sp_up_n _ _ (by omega)])) (fun _ _ => ?_)
          refine yi_D_run 1 (109, [(2, .inl z26), (1, .inl (ld 3)), (0, .inr (.inr (some 82)))], [.inl 1, .inl (ld 3), .inl 53, .inr (.inr (some 88))], (I106, L11, R, Y), 0, 0) (fun _ => rfl) ?_
          refine yi_D_iadd rfl ((ld 3) + 1) (yi_wn (by omega) (by omega)) ?_
          refine yi_D_is rfl (fun _ _ => ?_)
          show yi_D zi_Ms d zi_m103 k (111, [(2, .inl z26), (1, .inl (ld 3)), (0, .inr (.inr (some 82)))], [], ((yi_u I106 88 53 ((ld 3) + 1)), L11, R, Y), 0, 0) _
          generalize w112 : yi_u I106 88 53 ((ld 3) + 1) = I111
          have hf113 : 0 < I111 82 8 := by rw [← w112, yi_u_ne _ _ (by omega)]; exact hf109
          have he114 : I111 82 8 = _ := (show I111 82 8 = I106 82 8 by rw [← w112, yi_u_ne _ _ (by omega)]).trans he110
          refine yi_D_retv rfl ?_
          exact ⟨_, _, rfl, Or.inr ⟨_, hx105, hz103, he114⟩⟩
      · refine yi_D_if1 false rfl (yi_ge_f h28) ?_
        refine yi_D_run 2 (52, [(2, .inl z26), (1, .inl (ld 3)), (0, .inr (.inr (some 82)))], [.inl 1, .inr (.inr (some 82))], (I10, L11, R, Y), 0, 0) (fun _ => rfl) ?_
        refine yi_D_callv rfl (q_wrong_z ⟨by omega, by omega⟩ hW17 hf15 hA16) ?_
        rintro _ ⟨I115, rfl, hg116, he117⟩
        have hGw118 : mt_G I10 I115 := fun p k hp => hg116 p k (by omega)
        have hW119 := mt_W_t hW17 (mt_G_F hGw118)
        have hz120 : 0 < sp_f P (a + 2) 1 := mt_f_ne hW17 hA16.2 (by omega)
        have hn121 : 0 < I115 82 8 := by rw [he117]; exact hz120
        have hx122 : sp_R K P V (2, a, 0, [], ld, nm, cs) (.inr (sp_f P (a + 2) 1)) := sp_R_1 (by
          show sp_line K P V a ld nm cs = _
          first
          | (exfalso; omega)
          | (unfold sp_line; (repeat (first | rw [if_pos (by omega)] | rw [if_neg (by omega)])); unfold sp_prophet; (repeat (first | rw [if_pos (by omega)] | rw [if_neg (by omega)])); done))
        show yi_D zi_Ms d zi_m103 k (55, [(2, .inl z26), (1, .inl (ld 3)), (0, .inr (.inr (some 82)))], [], (I115, L11, R, Y), 0, 0) _
        refine yi_D_retv rfl ?_
        exact ⟨_, _, rfl, Or.inr ⟨_, hx122, hz120, he117⟩⟩
    · have hW123 := mt_W_t hW (mt_G_F hGa20)
      have hz124 : 0 < sp_f P (a + 1) 1 := mt_f_ne hW (mt_lt hW.2.1 hA.2 (by omega)) (by omega)
      have hn125 : 0 < I19 82 8 := by rw [he21]; exact hz124
      have hx126 : sp_R K P V (2, a, 0, [], ld, nm, cs) (.inr (sp_f P (a + 1) 1)) := sp_R_1 (by
        show sp_line K P V a ld nm cs = _
        first
        | (exfalso; omega)
        | (unfold sp_line; (repeat (first | rw [if_pos (by omega)] | rw [if_neg (by omega)])); unfold sp_prophet; (repeat (first | rw [if_pos (by omega)] | rw [if_neg (by omega)])); done))
      show yi_D zi_Ms d zi_m103 k (27, [(1, .inl (ld 3)), (0, .inr (.inr (some 82)))], [], (I19, L, R, Y), 0, 0) _
      refine yi_D_run 1 (28, [(1, .inl (ld 3)), (0, .inr (.inr (some 82)))], [.inr (.inr (some 82))], (I19, L, R, Y), 0, 0) (fun _ => rfl) ?_
      refine yi_D_gi (v := I19 82 8) rfl rfl rfl rfl (fun _ => ?_)
      have h127 : ¬ ((I19 82 8) ≤ 0) := by omega
      refine yi_D_if1 false rfl (yi_le_f h127) ?_
      refine yi_D_run 4 (47, [(2, .inl (-1)), (1, .inl (ld 3)), (0, .inr (.inr (some 82)))], [.inl (-1)], (I19, L, R, Y), 0, 0) (fun _ => rfl) ?_
      refine yi_D_if1 false rfl (by decide) ?_
      refine yi_D_run 2 (52, [(2, .inl (-1)), (1, .inl (ld 3)), (0, .inr (.inr (some 82)))], [.inl 1, .inr (.inr (some 82))], (I19, L, R, Y), 0, 0) (fun _ => rfl) ?_
      refine yi_D_callv rfl (q_wrong_f hW123 hn125) ?_
      rintro _ rfl
      show yi_D zi_Ms d zi_m103 k (55, [(2, .inl (-1)), (1, .inl (ld 3)), (0, .inr (.inr (some 82)))], [], (I19, L, R, Y), 0, 0) _
      refine yi_D_retv rfl ?_
      exact ⟨_, _, rfl, Or.inr ⟨_, hx126, hz124, he21⟩⟩
    · have hW128 := mt_W_t hW (mt_G_F hGa24)
      have hz129 : 0 < sp_f P (a + 1) 3 := mt_f_ne hW (mt_lt hW.2.1 hA.2 (by omega)) (by omega)
      have hn130 : 0 < I23 82 8 := by rw [he25]; exact hz129
      have hx131 : sp_R K P V (2, a, 0, [], ld, nm, cs) (.inr (sp_f P (a + 1) 3)) := sp_R_1 (by
        show sp_line K P V a ld nm cs = _
        first
        | (exfalso; omega)
        | (unfold sp_line; (repeat (first | rw [if_pos (by omega)] | rw [if_neg (by omega)])); unfold sp_prophet; (repeat (first | rw [if_pos (by omega)] | rw [if_neg (by omega)])); done))
      show yi_D zi_Ms d zi_m103 k (27, [(1, .inl (ld 3)), (0, .inr (.inr (some 82)))], [], (I23, L, R, Y), 0, 0) _
      refine yi_D_run 1 (28, [(1, .inl (ld 3)), (0, .inr (.inr (some 82)))], [.inr (.inr (some 82))], (I23, L, R, Y), 0, 0) (fun _ => rfl) ?_
      refine yi_D_gi (v := I23 82 8) rfl rfl rfl rfl (fun _ => ?_)
      have h132 : ¬ ((I23 82 8) ≤ 0) := by omega
      refine yi_D_if1 false rfl (yi_le_f h132) ?_
      refine yi_D_run 4 (47, [(2, .inl (-1)), (1, .inl (ld 3)), (0, .inr (.inr (some 82)))], [.inl (-1)], (I23, L, R, Y), 0, 0) (fun _ => rfl) ?_
      refine yi_D_if1 false rfl (by decide) ?_
      refine yi_D_run 2 (52, [(2, .inl (-1)), (1, .inl (ld 3)), (0, .inr (.inr (some 82)))], [.inl 1, .inr (.inr (some 82))], (I23, L, R, Y), 0, 0) (fun _ => rfl) ?_
      refine yi_D_callv rfl (q_wrong_f hW128 hn130) ?_
      rintro _ rfl
      show yi_D zi_Ms d zi_m103 k (55, [(2, .inl (-1)), (1, .inl (ld 3)), (0, .inr (.inr (some 82)))], [], (I23, L, R, Y), 0, 0) _
      refine yi_D_retv rfl ?_
      exact ⟨_, _, rfl, Or.inr ⟨_, hx131, hz129, he25⟩⟩
theorem q_readLaw {d : Nat} {I L : Nat → Nat → Int} {R : Nat → Nat → Option Nat} {Y : (Nat → Nat) × (Nat → Nat) × Nat} {K P V : Nat → Int} {te a : Nat} {ld : Nat → Int} {nm : Int → Int} (hW : mt_W I L R Y K P V te 50 ld nm) (hf : I 82 8 = 0) (hA : mt_A I te a) (cs : List (Int × Int)) (hd0 : 1 ≤ ld 0) (h6 : ld 6 < 0 → I 88 56 < 0) (hk : K a = 10) : yi_P zi_Ms d 98 [.inr (.inr (some 82))] (I, L, R, Y) (mt_QL I L R Y K P V te (2, a, 0, [], ld, nm, cs) a) := by
  refine yi_P_of (M := zi_m98) rfl (fun d k => ?_)
  have hS := hW.1
  have ht := hW.2.1.1
  have ha := hA.2
  have hp := hW.2.1.2.1 a hA.2
  have hbd := hW.2.2.2.2.2.2.1
  have hc3 : I 88 56 < 0 → ld 6 < 0 := hW.2.2.2.2.1
  show yi_D zi_Ms d zi_m98 k (0, [(0, .inr (.inr (some 82)))], [], (I, L, R, Y), 0, 0) _
  refine yi_D_run 1 (1, [(0, .inr (.inr (some 82)))], [.inr (.inr (some 82))], (I, L, R, Y), 0, 0) (fun _ => rfl) ?_
  refine yi_D_gr (v := some 88) rfl rfl rfl (ym_S_at hS (j := 5) rfl).1 (fun _ => ?_)
  refine yi_D_run 1 (6, [(0, .inr (.inr (some 82)))], [.inl 54, .inr (.inr (some 88))], (I, L, R, Y), 0, 0) (fun _ => rfl) ?_
  refine yi_D_il (v := ld 4) rfl rfl (show I 88 54 = ld 4 from hW.2.2.2.1 4 (by omega)) (fun _ _ => ?_)
  refine yi_D_run 3 (10, [(1, .inl (ld 4)), (0, .inr (.inr (some 82)))], [.inl 4, .inl (ld 4)], (I, L, R, Y), 0, 0) (fun _ => rfl) ?_
  by_cases h1 : (ld 4) = 4
  · refine yi_D_if2 false rfl (yi_ne_f h1) ?_
    refine yi_D_run 2 (15, [(1, .inl (ld 4)), (0, .inr (.inr (some 82)))], [.inl 5, .inr (.inr (some 82))], (I, L, R, Y), 0, 0) (fun _ => rfl) ?_
    refine yi_D_callv rfl (q_wrong_z ⟨by omega, by omega⟩ hW hf hA) ?_
    rintro _ ⟨I2, rfl, hg3, he4⟩
    have hGw5 : mt_G I I2 := fun p k hp => hg3 p k (by omega)
    have hW6 := mt_W_t hW (mt_G_F hGw5)
    have hz7 : 0 < sp_f P a 5 := mt_f_ne hW hA.2 (by omega)
    have hn8 : 0 < I2 82 8 := by rw [he4]; exact hz7
    have hx9 : sp_R K P V (2, a, 0, [], ld, nm, cs) (.inr (sp_f P a 5)) := sp_R_1 (by
      show sp_line K P V a ld nm cs = _
      first
      | (exfalso; omega)
      | (unfold sp_line; (repeat (first | rw [if_pos (by omega)] | rw [if_neg (by omega)])); done))
    show yi_D zi_Ms d zi_m98 k (18, [(1, .inl (ld 4)), (0, .inr (.inr (some 82)))], [], (I2, L, R, Y), 0, 0) _
    refine yi_D_retv rfl ?_
    exact ⟨_, _, rfl, Or.inr ⟨_, hx9, hz7, he4⟩⟩
  · refine yi_D_if2 true rfl (yi_ne_t h1) ?_
    refine yi_D_run 2 (21, [(1, .inl (ld 4)), (0, .inr (.inr (some 82)))], [.inr (.inr (some 82)), .inr (.inr (some 82))], (I, L, R, Y), 0, 0) (fun _ => rfl) ?_
    refine yi_D_gi (v := (a : Int)) rfl rfl rfl hA.1 (fun _ => ?_)
    refine yi_D_run 1 (25, [(1, .inl (ld 4)), (0, .inr (.inr (some 82)))], [.inl 1, .inl (a : Int), .inr (.inr (some 82))], (I, L, R, Y), 0, 0) (fun _ => rfl) ?_
    refine yi_D_iadd rfl ((a : Int) + 1) (yi_wn (by omega) (by omega)) ?_
    refine yi_D_pi rfl (fun _ => ?_)
    generalize w11 : yi_u I 82 7 ((a : Int) + 1) = I10
    have hGn12 : mt_G I I10 := fun p k hp => by rw [← w11, yi_u_ne _ _ (by omega)]
    have hW13 := mt_W_t hW (mt_G_F hGn12)
    have hf14 : I10 82 8 = 0 := by rw [← w11, yi_u_ne _ _ (by omega)]; exact hf
    have hA15 : mt_A I10 te (a + 1) := ⟨by rw [← w11, yi_u_eq]; omega, mt_lt hW13.2.1 hA.2 (by omega)⟩
    refine yi_D_run 1 (30, [(1, .inl (ld 4)), (0, .inr (.inr (some 82)))], [.inr (.inr (some 82))], (I10, L, R, Y), 0, 0) (fun _ => rfl) ?_
    refine yi_D_gr (v := some 88) rfl rfl rfl (ym_S_at hS (j := 5) rfl).1 (fun _ => ?_)
    refine yi_D_run 2 (36, [(1, .inl (ld 4)), (0, .inr (.inr (some 82)))], [.inl (ld 4), .inl 71, .inr (.inr (some 88))], (I10, L, R, Y), 0, 0) (fun _ => rfl) ?_
    refine yi_D_iadd rfl (71 + (ld 4)) (yi_wn (by omega) (by omega)) ?_
    refine yi_D_run 1 (38, [(1, .inl (ld 4)), (0, .inr (.inr (some 82)))], [.inr (.inr (some 82)), .inl (71 + (ld 4)), .inr (.inr (some 88))], (I10, L, R, Y), 0, 0) (fun _ => rfl) ?_
    have r16 : I10 82 13 = I 82 13 := by rw [hGn12 82 13 (by omega)]
    refine yi_D_gi (v := I 82 13) rfl rfl rfl r16 (fun _ => ?_)
    refine yi_D_is rfl (fun _ _ => ?_)
    generalize w18 : yi_u I10 88 ((71 + (ld 4)).toNat) (I 82 13) = I17
    have hW19 := mt_W_w (i := 21 + (ld 4).toNat) (I' := I17) (((cs.length : Nat) : Int)) hW13 (fun h => absurd h (by omega)) (fun p k hp => by rw [← w18, yi_u_ne _ _ (by omega)]) (mt_bd hW13 (by omega) _)
    have hf20 : I17 82 8 = 0 := by rw [← w18, yi_u_ne _ _ (by omega)]; exact hf14
    have hA21 : mt_A I17 te (a + 1) := ⟨by rw [← w18, yi_u_ne _ _ (by omega)]; exact hA15.1, hA15.2⟩
    refine yi_D_run 2 (44, [(1, .inl (ld 4)), (0, .inr (.inr (some 82)))], [.inl 0, .inr (.inr (some 82))], (I17, L, R, Y), 0, 0) (fun _ => rfl) ?_
    have hst22 : sp_R K P V (2, a, 0, [], ld, nm, cs) (.inl (3, a + 1, 0, [10, 20], (sp_up ld (21 + (ld 4).toNat) (cs.length : Nat)), nm, cs)) := sp_R_1 (by
      show sp_line K P V a ld nm cs = _
      unfold sp_line; (repeat (first | rw [if_pos (by omega)] | rw [if_neg (by omega)])))
    refine yi_D_callv rfl (q_readFormula_z 0 [20] cs hW19 hf20 hA21 (by omega)) ?_
    rintro _ ⟨I23, rfl, hFr24, (⟨a25, cs26, hR27, lt28, hf29, hA30⟩ | ⟨f31, hR32, hz33, he34⟩)⟩
    · have hW35 := mt_W_t hW19 hFr24
      have hl4 : (sp_up ld (21 + (ld 4).toNat) (cs.length : Nat)) 4 = ld 4 := by repeat rw [sp_up_n _ _ (by omega)]
      have hR36 : sp_R K P V (2, a, 0, [], ld, nm, cs) (.inl (1, a25, 0, [], sp_up (sp_up ld (21 + (ld 4).toNat) (cs.length : Nat)) 4 (ld 4 + 1), nm, cs26 ++ [(0, 0)])) := sp_R_s (sp_R_t hst22 hR27) (sp_st20 hl4)
      show yi_D zi_Ms d zi_m98 k (47, [(1, .inl (ld 4)), (0, .inr (.inr (some 82)))], [], (I23, L, R, Y), 0, 0) _
      refine yi_D_run 3 (50, [(1, .inl (ld 4)), (0, .inr (.inr (some 82)))], [.inl 0, .inl 0, .inr (.inr (some 82))], (I23, L, R, Y), 0, 0) (fun _ => rfl) ?_
      refine yi_D_callv rfl (q_emit hW35) ?_
      rintro _ ⟨I37, rfl, hE38⟩
      have hW39 := mt_W_t hW35 (mt_E_F hE38)
      have hf40 : I37 82 8 = 0 := (hE38.1 82 8 (by omega)).trans hf29
      have hA41 : mt_A I37 te a25 := ⟨(hE38.1 82 7 (by omega)).trans hA30.1, hA30.2⟩
      show yi_D zi_Ms d zi_m98 k (53, [(1, .inl (ld 4)), (0, .inr (.inr (some 82)))], [], (I37, L, R, Y), 0, 0) _
      refine yi_D_run 1 (54, [(1, .inl (ld 4)), (0, .inr (.inr (some 82)))], [.inr (.inr (some 82))], (I37, L, R, Y), 0, 0) (fun _ => rfl) ?_
      refine yi_D_gr (v := some 88) rfl rfl rfl (ym_S_at hS (j := 5) rfl).1 (fun _ => ?_)
      refine yi_D_run 2 (60, [(1, .inl (ld 4)), (0, .inr (.inr (some 82)))], [.inl 54, .inr (.inr (some 88)), .inl 54, .inr (.inr (some 88))], (I37, L, R, Y), 0, 0) (fun _ => rfl) ?_
      have r42 : I37 88 54 = ld 4 := by rw [((mt_E_F hE38)).1 88 54 (by omega), (hFr24).1 88 54 (by omega), (show I17 88 54 = ld 4 from (hW19.2.2.2.1 4 (by omega)).trans (by repeat rw [sp_up_n _ _ (by omega)]))]
      refine yi_D_il (v := ld 4) rfl rfl r42 (fun _ _ => ?_)
      refine yi_D_run 1 (62, [(1, .inl (ld 4)), (0, .inr (.inr (some 82)))], [.inl 1, .inl (ld 4), .inl 54, .inr (.inr (some 88))], (I37, L, R, Y), 0, 0) (fun _ => rfl) ?_
      refine yi_D_iadd rfl ((ld 4) + 1) (yi_wn (by omega) (by omega)) ?_
      refine yi_D_is rfl (fun _ _ => ?_)
      show yi_D zi_Ms d zi_m98 k (64, [(1, .inl (ld 4)), (0, .inr (.inr (some 82)))], [], ((yi_u I37 88 54 ((ld 4) + 1)), L, R, Y), 0, 0) _
      generalize w44 : yi_u I37 88 54 ((ld 4) + 1) = I43
      have hb46 : ((0 ≤ (sp_up ((sp_up ld (21 + (ld 4).toNat) (((cs.length : Nat) : Int)))) 4 (ld 4 + 1)) 0 ∧ (sp_up ((sp_up ld (21 + (ld 4).toNat) (((cs.length : Nat) : Int)))) 4 (ld 4 + 1)) 0 ≤ 6) ∧ (0 ≤ (sp_up ((sp_up ld (21 + (ld 4).toNat) (((cs.length : Nat) : Int)))) 4 (ld 4 + 1)) 1 ∧ (sp_up ((sp_up ld (21 + (ld 4).toNat) (((cs.length : Nat) : Int)))) 4 (ld 4 + 1)) 1 ≤ 4) ∧ (0 ≤ (sp_up ((sp_up ld (21 + (ld 4).toNat) (((cs.length : Nat) : Int)))) 4 (ld 4 + 1)) 2 ∧ (sp_up ((sp_up ld (21 + (ld 4).toNat) (((cs.length : Nat) : Int)))) 4 (ld 4 + 1)) 2 ≤ 4) ∧ (0 ≤ (sp_up ((sp_up ld (21 + (ld 4).toNat) (((cs.length : Nat) : Int)))) 4 (ld 4 + 1)) 3 ∧ (sp_up ((sp_up ld (21 + (ld 4).toNat) (((cs.length : Nat) : Int)))) 4 (ld 4 + 1)) 3 ≤ 5) ∧ (0 ≤ (sp_up ((sp_up ld (21 + (ld 4).toNat) (((cs.length : Nat) : Int)))) 4 (ld 4 + 1)) 4 ∧ (sp_up ((sp_up ld (21 + (ld 4).toNat) (((cs.length : Nat) : Int)))) 4 (ld 4 + 1)) 4 ≤ 4) ∧ (0 ≤ (sp_up ((sp_up ld (21 + (ld 4).toNat) (((cs.length : Nat) : Int)))) 4 (ld 4 + 1)) 5 ∧ (sp_up ((sp_up ld (21 + (ld 4).toNat) (((cs.length : Nat) : Int)))) 4 (ld 4 + 1)) 5 ≤ 6)) := by
        rw [sp_up_e]
        repeat rw [sp_up_n _ _ (by omega)]
        omega
      have hW45 := mt_W_w (i := 4) (I' := I43) (ld 4 + 1) hW39 (fun _ => by rw [← w44, show 54 = 50 + (4) by omega, yi_u_eq]; first | done | omega) (fun p k hp => by rw [← w44, yi_u_ne _ _ (by omega)]) hb46
      have hf47 : I43 82 8 = 0 := by rw [← w44, yi_u_ne _ _ (by omega)]; exact hf40
      have hA48 : mt_A I43 te a25 := ⟨by rw [← w44, yi_u_ne _ _ (by omega)]; exact hA41.1, hA41.2⟩
      refine yi_D_retv rfl ?_
      have hstep := hR36
      exact ⟨_, _, rfl, Or.inl ⟨_, _, _, _, hstep, by omega, hf47, hA48, hW45, (by (repeat rw [sp_up_n _ _ (by omega)]); exact hd0), (fun x => by rw [← w44, yi_u_ne _ _ (by omega), ((mt_E_F hE38)).1 88 56 (by omega), (hFr24).1 88 56 (by omega), ← w18, yi_u_ne _ _ (by omega), hGn12 88 56 (by omega)]; exact h6 (by (repeat rw [sp_up_n _ _ (by omega)] at x); exact x))⟩⟩
    · have hW49 := mt_W_t hW19 hFr24
      have hn50 : 0 < I23 82 8 := by rw [he34]; exact hz33
      have hx51 : sp_R K P V (2, a, 0, [], ld, nm, cs) (.inr f31) := sp_R_t hst22 hR32
      show yi_D zi_Ms d zi_m98 k (47, [(1, .inl (ld 4)), (0, .inr (.inr (some 82)))], [], (I23, L, R, Y), 0, 0) _
      refine yi_D_run 3 (50, [(1, .inl (ld 4)), (0, .inr (.inr (some 82)))], [.inl 0, .inl 0, .inr (.inr (some 82))], (I23, L, R, Y), 0, 0) (fun _ => rfl) ?_
      refine yi_D_callv rfl (q_emit hW49) ?_
      rintro _ ⟨I52, rfl, hE53⟩
      have hW54 := mt_W_t hW49 (mt_E_F hE53)
      have hf55 : 0 < I52 82 8 := by rw [hE53.1 82 8 (by omega)]; exact hn50
      have he56 := (hE53.1 82 8 (by omega)).trans he34
      show yi_D zi_Ms d zi_m98 k (53, [(1, .inl (ld 4)), (0, .inr (.inr (some 82)))], [], (I52, L, R, Y), 0, 0) _
      refine yi_D_run 1 (54, [(1, .inl (ld 4)), (0, .inr (.inr (some 82)))], [.inr (.inr (some 82))], (I52, L, R, Y), 0, 0) (fun _ => rfl) ?_
      refine yi_D_gr (v := some 88) rfl rfl rfl (ym_S_at hS (j := 5) rfl).1 (fun _ => ?_)
      refine yi_D_run 2 (60, [(1, .inl (ld 4)), (0, .inr (.inr (some 82)))], [.inl 54, .inr (.inr (some 88)), .inl 54, .inr (.inr (some 88))], (I52, L, R, Y), 0, 0) (fun _ => rfl) ?_
      have r57 : I52 88 54 = ld 4 := by rw [((mt_E_F hE53)).1 88 54 (by omega), (hFr24).1 88 54 (by omega), (show I17 88 54 = ld 4 from (hW19.2.2.2.1 4 (by omega)).trans (by repeat rw [sp_up_n _ _ (by omega)]))]
      refine yi_D_il (v := ld 4) rfl rfl r57 (fun _ _ => ?_)
      refine yi_D_run 1 (62, [(1, .inl (ld 4)), (0, .inr (.inr (some 82)))], [.inl 1, .inl (ld 4), .inl 54, .inr (.inr (some 88))], (I52, L, R, Y), 0, 0) (fun _ => rfl) ?_
      refine yi_D_iadd rfl ((ld 4) + 1) (yi_wn (by omega) (by omega)) ?_
      refine yi_D_is rfl (fun _ _ => ?_)
      show yi_D zi_Ms d zi_m98 k (64, [(1, .inl (ld 4)), (0, .inr (.inr (some 82)))], [], ((yi_u I52 88 54 ((ld 4) + 1)), L, R, Y), 0, 0) _
      generalize w59 : yi_u I52 88 54 ((ld 4) + 1) = I58
      have hf60 : 0 < I58 82 8 := by rw [← w59, yi_u_ne _ _ (by omega)]; exact hf55
      have he61 : I58 82 8 = _ := (show I58 82 8 = I52 82 8 by rw [← w59, yi_u_ne _ _ (by omega)]).trans he56
      refine yi_D_retv rfl ?_
      exact ⟨_, _, rfl, Or.inr ⟨_, hx51, hz33, he61⟩⟩
theorem q_readWish {d : Nat} {I L : Nat → Nat → Int} {R : Nat → Nat → Option Nat} {Y : (Nat → Nat) × (Nat → Nat) × Nat} {K P V : Nat → Int} {te a : Nat} {ld : Nat → Int} {nm : Int → Int} (hW : mt_W I L R Y K P V te 50 ld nm) (hf : I 82 8 = 0) (hA : mt_A I te a) (cs : List (Int × Int)) (hd0 : 1 ≤ ld 0) (h6 : ld 6 < 0 → I 88 56 < 0) (hk : K a = 11) : yi_P zi_Ms d 105 [.inr (.inr (some 82))] (I, L, R, Y) (mt_QL I L R Y K P V te (2, a, 0, [], ld, nm, cs) a) := by
  refine yi_P_of (M := zi_m105) rfl (fun d k => ?_)
  have hS := hW.1
  have ht := hW.2.1.1
  have ha := hA.2
  have hp := hW.2.1.2.1 a hA.2
  have hbd := hW.2.2.2.2.2.2.1
  have hc3 : I 88 56 < 0 → ld 6 < 0 := hW.2.2.2.2.1
  show yi_D zi_Ms d zi_m105 k (0, [(0, .inr (.inr (some 82)))], [], (I, L, R, Y), 0, 0) _
  refine yi_D_run 1 (1, [(0, .inr (.inr (some 82)))], [.inr (.inr (some 82))], (I, L, R, Y), 0, 0) (fun _ => rfl) ?_
  refine yi_D_gr (v := some 88) rfl rfl rfl (ym_S_at hS (j := 5) rfl).1 (fun _ => ?_)
  refine yi_D_run 1 (6, [(0, .inr (.inr (some 82)))], [.inl 55, .inr (.inr (some 88))], (I, L, R, Y), 0, 0) (fun _ => rfl) ?_
  refine yi_D_il (v := ld 5) rfl rfl (show I 88 55 = ld 5 from hW.2.2.2.1 5 (by omega)) (fun _ _ => ?_)
  refine yi_D_run 3 (11, [(1, .inl (ld 5)), (0, .inr (.inr (some 82)))], [.inl 6, .inl (ld 5)], (I, L, R, Y), 0, 0) (fun _ => rfl) ?_
  by_cases h1 : (ld 5) = 6
  · refine yi_D_if2 false rfl (yi_ne_f h1) ?_
    refine yi_D_run 2 (16, [(1, .inl (ld 5)), (0, .inr (.inr (some 82)))], [.inl 5, .inr (.inr (some 82))], (I, L, R, Y), 0, 0) (fun _ => rfl) ?_
    refine yi_D_callv rfl (q_wrong_z ⟨by omega, by omega⟩ hW hf hA) ?_
    rintro _ ⟨I2, rfl, hg3, he4⟩
    have hGw5 : mt_G I I2 := fun p k hp => hg3 p k (by omega)
    have hW6 := mt_W_t hW (mt_G_F hGw5)
    have hz7 : 0 < sp_f P a 5 := mt_f_ne hW hA.2 (by omega)
    have hn8 : 0 < I2 82 8 := by rw [he4]; exact hz7
    have hx9 : sp_R K P V (2, a, 0, [], ld, nm, cs) (.inr (sp_f P a 5)) := sp_R_1 (by
      show sp_line K P V a ld nm cs = _
      first
      | (exfalso; omega)
      | (unfold sp_line; (repeat (first | rw [if_pos (by omega)] | rw [if_neg (by omega)])); unfold sp_wish; (repeat (first | rw [if_pos (by omega)] | rw [if_neg (by omega)])); done))
    show yi_D zi_Ms d zi_m105 k (19, [(1, .inl (ld 5)), (0, .inr (.inr (some 82)))], [], (I2, L, R, Y), 0, 0) _
    refine yi_D_retv rfl ?_
    exact ⟨_, _, rfl, Or.inr ⟨_, hx9, hz7, he4⟩⟩
  · refine yi_D_if2 true rfl (yi_ne_t h1) ?_
    refine yi_D_run 2 (22, [(1, .inl (ld 5)), (0, .inr (.inr (some 82)))], [.inr (.inr (some 82)), .inr (.inr (some 82))], (I, L, R, Y), 0, 0) (fun _ => rfl) ?_
    refine yi_D_gi (v := (a : Int)) rfl rfl rfl hA.1 (fun _ => ?_)
    refine yi_D_run 1 (26, [(1, .inl (ld 5)), (0, .inr (.inr (some 82)))], [.inl 1, .inl (a : Int), .inr (.inr (some 82))], (I, L, R, Y), 0, 0) (fun _ => rfl) ?_
    refine yi_D_iadd rfl ((a : Int) + 1) (yi_wn (by omega) (by omega)) ?_
    refine yi_D_pi rfl (fun _ => ?_)
    generalize w11 : yi_u I 82 7 ((a : Int) + 1) = I10
    have hGn12 : mt_G I I10 := fun p k hp => by rw [← w11, yi_u_ne _ _ (by omega)]
    have hW13 := mt_W_t hW (mt_G_F hGn12)
    have hf14 : I10 82 8 = 0 := by rw [← w11, yi_u_ne _ _ (by omega)]; exact hf
    have hA15 : mt_A I10 te (a + 1) := ⟨by rw [← w11, yi_u_eq]; omega, mt_lt hW13.2.1 hA.2 (by omega)⟩
    refine yi_D_run 3 (34, [(1, .inl (ld 5)), (0, .inr (.inr (some 82)))], [.inl (ld 5), .inl 3, .inl 75], (I10, L, R, Y), 0, 0) (fun _ => rfl) ?_
    refine yi_D_imul rfl (3 * (ld 5)) (yi_wn (by omega) (by omega)) ?_
    refine yi_D_iadd rfl (75 + (3 * (ld 5))) (yi_wn (by omega) (by omega)) ?_
    refine yi_D_run 2 (38, [(2, .inl (75 + (3 * (ld 5)))), (1, .inl (ld 5)), (0, .inr (.inr (some 82)))], [.inr (.inr (some 82))], (I10, L, R, Y), 0, 0) (fun _ => rfl) ?_
    refine yi_D_gr (v := some 88) rfl rfl rfl (ym_S_at hS (j := 5) rfl).1 (fun _ => ?_)
    refine yi_D_run 4 (45, [(2, .inl (75 + (3 * (ld 5)))), (1, .inl (ld 5)), (0, .inr (.inr (some 82)))], [.inl (-1), .inl 2, .inr (.inr (some 82)), .inl (75 + (3 * (ld 5))), .inr (.inr (some 88))], (I10, L, R, Y), 0, 0) (fun _ => rfl) ?_
    refine yi_D_callv rfl (q_takeTold2_z (bt := (-1)) hW13 hf14 hA15) ?_
    rintro _ (⟨c16, c17, c18, I19, rfl, hGa20, hf21, hA22⟩ | ⟨c23, z27, I24, rfl, hGa25, he26⟩ | ⟨c28, z32, I29, rfl, hGa30, he31⟩ | ⟨c33, z37, I34, rfl, hGa35, he36⟩)
    · have hA22 : mt_A I19 te (a + 2) := hA22
      have hW38 := mt_W_t hW13 (mt_G_F hGa20)
      show yi_D zi_Ms d zi_m105 k (48, [(2, .inl (75 + (3 * (ld 5)))), (1, .inl (ld 5)), (0, .inr (.inr (some 82)))], [.inl (nm (V (a + 1)) - 8), .inl (75 + (3 * (ld 5))), .inr (.inr (some 88))], (I19, L, R, Y), 0, 0) _
      refine yi_D_is rfl (fun _ _ => ?_)
      generalize w40 : yi_u I19 88 ((75 + (3 * (ld 5))).toNat) (nm (V (a + 1)) - 8) = I39
      have hW41 := mt_W_w (i := 25 + 3 * (ld 5).toNat) (I' := I39) (nm (V (a + 1)) - 8) hW38 (fun h => absurd h (by omega)) (fun p k hp => by rw [← w40, yi_u_ne _ _ (by omega)]) (mt_bd hW38 (by omega) _)
      have hf42 : I39 82 8 = 0 := by rw [← w40, yi_u_ne _ _ (by omega)]; exact hf21
      have hA43 : mt_A I39 te (a + 2) := ⟨by rw [← w40, yi_u_ne _ _ (by omega)]; exact hA22.1, hA22.2⟩
      refine yi_D_run 1 (50, [(2, .inl (75 + (3 * (ld 5)))), (1, .inl (ld 5)), (0, .inr (.inr (some 82)))], [.inr (.inr (some 82))], (I39, L, R, Y), 0, 0) (fun _ => rfl) ?_
      refine yi_D_gr (v := some 88) rfl rfl rfl (ym_S_at hS (j := 5) rfl).1 (fun _ => ?_)
      refine yi_D_run 2 (55, [(2, .inl (75 + (3 * (ld 5)))), (1, .inl (ld 5)), (0, .inr (.inr (some 82)))], [.inl 1, .inl (75 + (3 * (ld 5))), .inr (.inr (some 88))], (I39, L, R, Y), 0, 0) (fun _ => rfl) ?_
      refine yi_D_iadd rfl ((75 + (3 * (ld 5))) + 1) (yi_wn (by omega) (by omega)) ?_
      refine yi_D_run 4 (62, [(2, .inl (75 + (3 * (ld 5)))), (1, .inl (ld 5)), (0, .inr (.inr (some 82)))], [.inl 99, .inl 0, .inl 8, .inr (.inr (some 82)), .inl ((75 + (3 * (ld 5))) + 1), .inr (.inr (some 88))], (I39, L, R, Y), 0, 0) (fun _ => rfl) ?_
      refine yi_D_callv rfl (q_takeAfter_z (lo := 0) (hi := 99) (by omega) (by omega) hW41 hf42 hA43) ?_
      rintro _ (⟨c44, c45, c46, I47, rfl, hGa48, hf49, hA50⟩ | ⟨c51, z55, I52, rfl, hGa53, he54⟩ | ⟨c56, z60, I57, rfl, hGa58, he59⟩ | ⟨c61, z65, I62, rfl, hGa63, he64⟩)
      · have c44 : K (a + 2) = 4 + 8 := c44
        have c45 : K (a + 3) = 2 := c45
        have c46 : 0 ≤ V (a + 3) ∧ V (a + 3) ≤ 99 := c46
        have hA50 : mt_A I47 te (a + 4) := hA50
        have hW66 := mt_W_t hW41 (mt_G_F hGa48)
        show yi_D zi_Ms d zi_m105 k (65, [(2, .inl (75 + (3 * (ld 5)))), (1, .inl (ld 5)), (0, .inr (.inr (some 82)))], [.inl (V (a + 3)), .inl ((75 + (3 * (ld 5))) + 1), .inr (.inr (some 88))], (I47, L, R, Y), 0, 0) _
        refine yi_D_is rfl (fun _ _ => ?_)
        generalize w68 : yi_u I47 88 (((75 + (3 * (ld 5))) + 1).toNat) (V (a + 3)) = I67
        have hW69 := mt_W_w (i := 26 + 3 * (ld 5).toNat) (I' := I67) (V (a + 3)) hW66 (fun h => absurd h (by omega)) (fun p k hp => by rw [← w68, yi_u_ne _ _ (by omega)]) (mt_bd hW66 (by omega) _)
        have hf70 : I67 82 8 = 0 := by rw [← w68, yi_u_ne _ _ (by omega)]; exact hf49
        have hA71 : mt_A I67 te (a + 4) := ⟨by rw [← w68, yi_u_ne _ _ (by omega)]; exact hA50.1, hA50.2⟩
        refine yi_D_run 1 (67, [(2, .inl (75 + (3 * (ld 5)))), (1, .inl (ld 5)), (0, .inr (.inr (some 82)))], [.inr (.inr (some 82))], (I67, L, R, Y), 0, 0) (fun _ => rfl) ?_
        refine yi_D_gr (v := some 88) rfl rfl rfl (ym_S_at hS (j := 5) rfl).1 (fun _ => ?_)
        refine yi_D_run 2 (72, [(2, .inl (75 + (3 * (ld 5)))), (1, .inl (ld 5)), (0, .inr (.inr (some 82)))], [.inl 2, .inl (75 + (3 * (ld 5))), .inr (.inr (some 88))], (I67, L, R, Y), 0, 0) (fun _ => rfl) ?_
        refine yi_D_iadd rfl ((75 + (3 * (ld 5))) + 2) (yi_wn (by omega) (by omega)) ?_
        refine yi_D_run 1 (74, [(2, .inl (75 + (3 * (ld 5)))), (1, .inl (ld 5)), (0, .inr (.inr (some 82)))], [.inr (.inr (some 82)), .inl ((75 + (3 * (ld 5))) + 2), .inr (.inr (some 88))], (I67, L, R, Y), 0, 0) (fun _ => rfl) ?_
        have r72 : I67 82 13 = I 82 13 := by rw [← w68, yi_u_ne _ _ (by omega), hGa48 82 13 (by omega), ← w40, yi_u_ne _ _ (by omega), hGa20 82 13 (by omega), hGn12 82 13 (by omega)]
        refine yi_D_gi (v := I 82 13) rfl rfl rfl r72 (fun _ => ?_)
        refine yi_D_is rfl (fun _ _ => ?_)
        generalize w74 : yi_u I67 88 (((75 + (3 * (ld 5))) + 2).toNat) (I 82 13) = I73
        have hW75 := mt_W_w (i := 27 + 3 * (ld 5).toNat) (I' := I73) (((cs.length : Nat) : Int)) hW69 (fun h => absurd h (by omega)) (fun p k hp => by rw [← w74, yi_u_ne _ _ (by omega)]) (mt_bd hW69 (by omega) _)
        have hf76 : I73 82 8 = 0 := by rw [← w74, yi_u_ne _ _ (by omega)]; exact hf70
        have hA77 : mt_A I73 te (a + 4) := ⟨by rw [← w74, yi_u_ne _ _ (by omega)]; exact hA71.1, hA71.2⟩
        refine yi_D_run 2 (80, [(2, .inl (75 + (3 * (ld 5)))), (1, .inl (ld 5)), (0, .inr (.inr (some 82)))], [.inl 0, .inr (.inr (some 82))], (I73, L, R, Y), 0, 0) (fun _ => rfl) ?_
        have hst78 : sp_R K P V (2, a, 0, [], ld, nm, cs) (.inl (3, a + 4, 0, [10, 21], (sp_up (sp_up (sp_up ld (25 + 3 * (ld 5).toNat) (nm (V (a + 1)) - 8)) (26 + 3 * (ld 5).toNat) (V (a + 3))) (27 + 3 * (ld 5).toNat) (cs.length : Nat)), nm, cs)) := sp_R_1 (by
          show sp_line K P V a ld nm cs = _
          unfold sp_line; (repeat (first | rw [if_pos (by omega)] | rw [if_neg (by omega)])); unfold sp_wish; (repeat (first | rw [if_pos (by omega)] | rw [if_neg (by omega)])))
        refine yi_D_callv rfl (q_readFormula_z 0 [21] cs hW75 hf76 hA77 (by omega)) ?_
        rintro _ ⟨I79, rfl, hFr80, (⟨a81, cs82, hR83, lt84, hf85, hA86⟩ | ⟨f87, hR88, hz89, he90⟩)⟩
        · have hW91 := mt_W_t hW75 hFr80
          have hl5 : (sp_up (sp_up (sp_up ld (25 + 3 * (ld 5).toNat) (nm (V (a + 1)) - 8)) (26 + 3 * (ld 5).toNat) (V (a + 3))) (27 + 3 * (ld 5).toNat) (cs.length : Nat)) 5 = ld 5 := by repeat rw [sp_up_n _ _ (by omega)]
          have hR92 : sp_R K P V (2, a, 0, [], ld, nm, cs) (.inl (1, a81, 0, [], sp_up (sp_up (sp_up (sp_up ld (25 + 3 * (ld 5).toNat) (nm (V (a + 1)) - 8)) (26 + 3 * (ld 5).toNat) (V (a + 3))) (27 + 3 * (ld 5).toNat) (cs.length : Nat)) 5 (ld 5 + 1), nm, cs82 ++ [(0, 0)])) := sp_R_s (sp_R_t hst78 hR83) (sp_st21 hl5)
          show yi_D zi_Ms d zi_m105 k (83, [(2, .inl (75 + (3 * (ld 5)))), (1, .inl (ld 5)), (0, .inr (.inr (some 82)))], [], (I79, L, R, Y), 0, 0) _
          refine yi_D_run 3 (86, [(2, .inl (75 + (3 * (ld 5)))), (1, .inl (ld 5)), (0, .inr (.inr (some 82)))], [.inl 0, .inl 0, .inr (.inr (some 82))], (I79, L, R, Y), 0, 0) (fun _ => rfl) ?_
          refine yi_D_callv rfl (q_emit hW91) ?_
          rintro _ ⟨I93, rfl, hE94⟩
          have hW95 := mt_W_t hW91 (mt_E_F hE94)
          have hf96 : I93 82 8 = 0 := (hE94.1 82 8 (by omega)).trans hf85
          have hA97 : mt_A I93 te a81 := ⟨(hE94.1 82 7 (by omega)).trans hA86.1, hA86.2⟩
          show yi_D zi_Ms d zi_m105 k (89, [(2, .inl (75 + (3 * (ld 5)))), (1, .inl (ld 5)), (0, .inr (.inr (some 82)))], [], (I93, L, R, Y), 0, 0) _
          refine yi_D_run 1 (90, [(2, .inl (75 + (3 * (ld 5)))), (1, .inl (ld 5)), (0, .inr (.inr (some 82)))], [.inr (.inr (some 82))], (I93, L, R, Y), 0, 0) (fun _ => rfl) ?_
          refine yi_D_gr (v := some 88) rfl rfl rfl (ym_S_at hS (j := 5) rfl).1 (fun _ => ?_)
          refine yi_D_run 2 (96, [(2, .inl (75 + (3 * (ld 5)))), (1, .inl (ld 5)), (0, .inr (.inr (some 82)))], [.inl 55, .inr (.inr (some 88)), .inl 55, .inr (.inr (some 88))], (I93, L, R, Y), 0, 0) (fun _ => rfl) ?_
          have r98 : I93 88 55 = ld 5 := by rw [((mt_E_F hE94)).1 88 55 (by omega), (hFr80).1 88 55 (by omega), (show I73 88 55 = ld 5 from (hW75.2.2.2.1 5 (by omega)).trans (by repeat rw [sp_up_n _ _ (by omega)]))]
          refine yi_D_il (v := ld 5) rfl rfl r98 (fun _ _ => ?_)
          refine yi_D_run 1 (98, [(2, .inl (75 + (3 * (ld 5)))), (1, .inl (ld 5)), (0, .inr (.inr (some 82)))], [.inl 1, .inl (ld 5), .inl 55, .inr (.inr (some 88))], (I93, L, R, Y), 0, 0) (fun _ => rfl) ?_
          refine yi_D_iadd rfl ((ld 5) + 1) (yi_wn (by omega) (by omega)) ?_
          refine yi_D_is rfl (fun _ _ => ?_)
          show yi_D zi_Ms d zi_m105 k (100, [(2, .inl (75 + (3 * (ld 5)))), (1, .inl (ld 5)), (0, .inr (.inr (some 82)))], [], ((yi_u I93 88 55 ((ld 5) + 1)), L, R, Y), 0, 0) _
          generalize w100 : yi_u I93 88 55 ((ld 5) + 1) = I99
          have hb102 : ((0 ≤ (sp_up ((sp_up (sp_up (sp_up ld (25 + 3 * (ld 5).toNat) (nm (V (a + 1)) - 8)) (26 + 3 * (ld 5).toNat) (V (a + 3))) (27 + 3 * (ld 5).toNat) (((cs.length : Nat) : Int)))) 5 (ld 5 + 1)) 0 ∧ (sp_up ((sp_up (sp_up (sp_up ld (25 + 3 * (ld 5).toNat) (nm (V (a + 1)) - 8)) (26 + 3 * (ld 5).toNat) (V (a + 3))) (27 + 3 * (ld 5).toNat) (((cs.length : Nat) : Int)))) 5 (ld 5 + 1)) 0 ≤ 6) ∧ (0 ≤ (sp_up ((sp_up (sp_up (sp_up ld (25 + 3 * (ld 5).toNat) (nm (V (a + 1)) - 8)) (26 + 3 * (ld 5).toNat) (V (a + 3))) (27 + 3 * (ld 5).toNat) (((cs.length : Nat) : Int)))) 5 (ld 5 + 1)) 1 ∧ (sp_up ((sp_up (sp_up (sp_up ld (25 + 3 * (ld 5).toNat) (nm (V (a + 1)) - 8)) (26 + 3 * (ld 5).toNat) (V (a + 3))) (27 + 3 * (ld 5).toNat) (((cs.length : Nat) : Int)))) 5 (ld 5 + 1)) 1 ≤ 4) ∧ (0 ≤ (sp_up ((sp_up (sp_up (sp_up ld (25 + 3 * (ld 5).toNat) (nm (V (a + 1)) - 8)) (26 + 3 * (ld 5).toNat) (V (a + 3))) (27 + 3 * (ld 5).toNat) (((cs.length : Nat) : Int)))) 5 (ld 5 + 1)) 2 ∧ (sp_up ((sp_up (sp_up (sp_up ld (25 + 3 * (ld 5).toNat) (nm (V (a + 1)) - 8)) (26 + 3 * (ld 5).toNat) (V (a + 3))) (27 + 3 * (ld 5).toNat) (((cs.length : Nat) : Int)))) 5 (ld 5 + 1)) 2 ≤ 4) ∧ (0 ≤ (sp_up ((sp_up (sp_up (sp_up ld (25 + 3 * (ld 5).toNat) (nm (V (a + 1)) - 8)) (26 + 3 * (ld 5).toNat) (V (a + 3))) (27 + 3 * (ld 5).toNat) (((cs.length : Nat) : Int)))) 5 (ld 5 + 1)) 3 ∧ (sp_up ((sp_up (sp_up (sp_up ld (25 + 3 * (ld 5).toNat) (nm (V (a + 1)) - 8)) (26 + 3 * (ld 5).toNat) (V (a + 3))) (27 + 3 * (ld 5).toNat) (((cs.length : Nat) : Int)))) 5 (ld 5 + 1)) 3 ≤ 5) ∧ (0 ≤ (sp_up ((sp_up (sp_up (sp_up ld (25 + 3 * (ld 5).toNat) (nm (V (a + 1)) - 8)) (26 + 3 * (ld 5).toNat) (V (a + 3))) (27 + 3 * (ld 5).toNat) (((cs.length : Nat) : Int)))) 5 (ld 5 + 1)) 4 ∧ (sp_up ((sp_up (sp_up (sp_up ld (25 + 3 * (ld 5).toNat) (nm (V (a + 1)) - 8)) (26 + 3 * (ld 5).toNat) (V (a + 3))) (27 + 3 * (ld 5).toNat) (((cs.length : Nat) : Int)))) 5 (ld 5 + 1)) 4 ≤ 4) ∧ (0 ≤ (sp_up ((sp_up (sp_up (sp_up ld (25 + 3 * (ld 5).toNat) (nm (V (a + 1)) - 8)) (26 + 3 * (ld 5).toNat) (V (a + 3))) (27 + 3 * (ld 5).toNat) (((cs.length : Nat) : Int)))) 5 (ld 5 + 1)) 5 ∧ (sp_up ((sp_up (sp_up (sp_up ld (25 + 3 * (ld 5).toNat) (nm (V (a + 1)) - 8)) (26 + 3 * (ld 5).toNat) (V (a + 3))) (27 + 3 * (ld 5).toNat) (((cs.length : Nat) : Int)))) 5 (ld 5 + 1)) 5 ≤ 6)) := by
            rw [sp_up_e]
            repeat rw [sp_up_n _ _ (by omega)]
            omega
          have hW101 := mt_W_w (i := 5) (I' := I99) (ld 5 + 1) hW95 (fun _ => by rw [← w100, show 55 = 50 + (5) by omega, yi_u_eq]; first | done | omega) (fun p k hp => by rw [← w100, yi_u_ne _ _ (by omega)]) hb102
          have hf103 : I99 82 8 = 0 := by rw [← w100, yi_u_ne _ _ (by omega)]; exact hf96
          have hA104 : mt_A I99 te a81 := ⟨by rw [← w100, yi_u_ne _ _ (by omega)]; exact hA97.1, hA97.2⟩
          refine yi_D_retv rfl ?_
          have hstep := hR92
          exact ⟨_, _, rfl, Or.inl ⟨_, _, _, _, hstep, by omega, hf103, hA104, hW101, (by (repeat rw [sp_up_n _ _ (by omega)]); exact hd0), (fun x => by rw [← w100, yi_u_ne _ _ (by omega), ((mt_E_F hE94)).1 88 56 (by omega), (hFr80).1 88 56 (by omega), ← w74, yi_u_ne _ _ (by omega), ← w68, yi_u_ne _ _ (by omega), hGa48 88 56 (by omega), ← w40, yi_u_ne _ _ (by omega), hGa20 88 56 (by omega), hGn12 88 56 (by omega)]; exact h6 (by (repeat rw [sp_up_n _ _ (by omega)] at x); exact x))⟩⟩
        · have hW105 := mt_W_t hW75 hFr80
          have hn106 : 0 < I79 82 8 := by rw [he90]; exact hz89
          have hx107 : sp_R K P V (2, a, 0, [], ld, nm, cs) (.inr f87) := sp_R_t hst78 hR88
          show yi_D zi_Ms d zi_m105 k (83, [(2, .inl (75 + (3 * (ld 5)))), (1, .inl (ld 5)), (0, .inr (.inr (some 82)))], [], (I79, L, R, Y), 0, 0) _
          refine yi_D_run 3 (86, [(2, .inl (75 + (3 * (ld 5)))), (1, .inl (ld 5)), (0, .inr (.inr (some 82)))], [.inl 0, .inl 0, .inr (.inr (some 82))], (I79, L, R, Y), 0, 0) (fun _ => rfl) ?_
          refine yi_D_callv rfl (q_emit hW105) ?_
          rintro _ ⟨I108, rfl, hE109⟩
          have hW110 := mt_W_t hW105 (mt_E_F hE109)
          have hf111 : 0 < I108 82 8 := by rw [hE109.1 82 8 (by omega)]; exact hn106
          have he112 := (hE109.1 82 8 (by omega)).trans he90
          show yi_D zi_Ms d zi_m105 k (89, [(2, .inl (75 + (3 * (ld 5)))), (1, .inl (ld 5)), (0, .inr (.inr (some 82)))], [], (I108, L, R, Y), 0, 0) _
          refine yi_D_run 1 (90, [(2, .inl (75 + (3 * (ld 5)))), (1, .inl (ld 5)), (0, .inr (.inr (some 82)))], [.inr (.inr (some 82))], (I108, L, R, Y), 0, 0) (fun _ => rfl) ?_
          refine yi_D_gr (v := some 88) rfl rfl rfl (ym_S_at hS (j := 5) rfl).1 (fun _ => ?_)
          refine yi_D_run 2 (96, [(2, .inl (75 + (3 * (ld 5)))), (1, .inl (ld 5)), (0, .inr (.inr (some 82)))], [.inl 55, .inr (.inr (some 88)), .inl 55, .inr (.inr (some 88))], (I108, L, R, Y), 0, 0) (fun _ => rfl) ?_
          have r113 : I108 88 55 = ld 5 := by rw [((mt_E_F hE109)).1 88 55 (by omega), (hFr80).1 88 55 (by omega), (show I73 88 55 = ld 5 from (hW75.2.2.2.1 5 (by omega)).trans (by repeat rw [sp_up_n _ _ (by omega)]))]
          refine yi_D_il (v := ld 5) rfl rfl r113 (fun _ _ => ?_)
          refine yi_D_run 1 (98, [(2, .inl (75 + (3 * (ld 5)))), (1, .inl (ld 5)), (0, .inr (.inr (some 82)))], [.inl 1, .inl (ld 5), .inl 55, .inr (.inr (some 88))], (I108, L, R, Y), 0, 0) (fun _ => rfl) ?_
          refine yi_D_iadd rfl ((ld 5) + 1) (yi_wn (by omega) (by omega)) ?_
          refine yi_D_is rfl (fun _ _ => ?_)
          show yi_D zi_Ms d zi_m105 k (100, [(2, .inl (75 + (3 * (ld 5)))), (1, .inl (ld 5)), (0, .inr (.inr (some 82)))], [], ((yi_u I108 88 55 ((ld 5) + 1)), L, R, Y), 0, 0) _
          generalize w115 : yi_u I108 88 55 ((ld 5) + 1) = I114
          have hf116 : 0 < I114 82 8 := by rw [← w115, yi_u_ne _ _ (by omega)]; exact hf111
          have he117 : I114 82 8 = _ := (show I114 82 8 = I108 82 8 by rw [← w115, yi_u_ne _ _ (by omega)]).trans he112
          refine yi_D_retv rfl ?_
          exact ⟨_, _, rfl, Or.inr ⟨_, hx107, hz89, he117⟩⟩
      · have c51 : ¬ K (a + 2) = 4 + 8 := c51
        have hW118 := mt_W_t hW41 (mt_G_F hGa53)
        have hz119 : 0 < sp_f P (a + 2) 1 := mt_f_ne hW41 hA43.2 (by omega)
        have hn120 : 0 < I52 82 8 := by rw [he54]; exact hz119
        have hx121 : sp_R K P V (2, a, 0, [], ld, nm, cs) (.inr (sp_f P (a + 2) 1)) := sp_R_1 (by
          show sp_line K P V a ld nm cs = _
          first
          | (exfalso; omega)
          | (unfold sp_line; (repeat (first | rw [if_pos (by omega)] | rw [if_neg (by omega)])); unfold sp_wish; (repeat (first | rw [if_pos (by omega)] | rw [if_neg (by omega)])); done))
        show yi_D zi_Ms d zi_m105 k (65, [(2, .inl (75 + (3 * (ld 5)))), (1, .inl (ld 5)), (0, .inr (.inr (some 82)))], [.inl z55, .inl ((75 + (3 * (ld 5))) + 1), .inr (.inr (some 88))], (I52, L, R, Y), 0, 0) _
        refine yi_D_is rfl (fun _ _ => ?_)
        generalize w123 : yi_u I52 88 (((75 + (3 * (ld 5))) + 1).toNat) z55 = I122
        have hW124 := mt_W_w (i := 26 + 3 * (ld 5).toNat) (I' := I122) (z55) hW118 (fun h => absurd h (by omega)) (fun p k hp => by rw [← w123, yi_u_ne _ _ (by omega)]) (mt_bd hW118 (by omega) _)
        have hf125 : 0 < I122 82 8 := by rw [← w123, yi_u_ne _ _ (by omega)]; exact hn120
        have he126 : I122 82 8 = _ := (show I122 82 8 = I52 82 8 by rw [← w123, yi_u_ne _ _ (by omega)]).trans he54
        refine yi_D_run 1 (67, [(2, .inl (75 + (3 * (ld 5)))), (1, .inl (ld 5)), (0, .inr (.inr (some 82)))], [.inr (.inr (some 82))], (I122, L, R, Y), 0, 0) (fun _ => rfl) ?_
        refine yi_D_gr (v := some 88) rfl rfl rfl (ym_S_at hS (j := 5) rfl).1 (fun _ => ?_)
        refine yi_D_run 2 (72, [(2, .inl (75 + (3 * (ld 5)))), (1, .inl (ld 5)), (0, .inr (.inr (some 82)))], [.inl 2, .inl (75 + (3 * (ld 5))), .inr (.inr (some 88))], (I122, L, R, Y), 0, 0) (fun _ => rfl) ?_
        refine yi_D_iadd rfl ((75 + (3 * (ld 5))) + 2) (yi_wn (by omega) (by omega)) ?_
        refine yi_D_run 1 (74, [(2, .inl (75 + (3 * (ld 5)))), (1, .inl (ld 5)), (0, .inr (.inr (some 82)))], [.inr (.inr (some 82)), .inl ((75 + (3 * (ld 5))) + 2), .inr (.inr (some 88))], (I122, L, R, Y), 0, 0) (fun _ => rfl) ?_
        have r127 : I122 82 13 = I 82 13 := by rw [← w123, yi_u_ne _ _ (by omega), hGa53 82 13 (by omega), ← w40, yi_u_ne _ _ (by omega), hGa20 82 13 (by omega), hGn12 82 13 (by omega)]
        refine yi_D_gi (v := I 82 13) rfl rfl rfl r127 (fun _ => ?_)
        refine yi_D_is rfl (fun _ _ => ?_)
        generalize w129 : yi_u I122 88 (((75 + (3 * (ld 5))) + 2).toNat) (I 82 13) = I128
        have hW130 := mt_W_w (i := 27 + 3 * (ld 5).toNat) (I' := I128) (I 82 13) hW124 (fun h => absurd h (by omega)) (fun p k hp => by rw [← w129, yi_u_ne _ _ (by omega)]) (mt_bd hW124 (by omega) _)
        have hf131 : 0 < I128 82 8 := by rw [← w129, yi_u_ne _ _ (by omega)]; exact hf125
        have he132 : I128 82 8 = _ := (show I128 82 8 = I122 82 8 by rw [← w129, yi_u_ne _ _ (by omega)]).trans he126
        refine yi_D_run 2 (80, [(2, .inl (75 + (3 * (ld 5)))), (1, .inl (ld 5)), (0, .inr (.inr (some 82)))], [.inl 0, .inr (.inr (some 82))], (I128, L, R, Y), 0, 0) (fun _ => rfl) ?_
        refine yi_D_callv rfl (q_readFormula_f hW130 hf131) ?_
        rintro _ ⟨I133, rfl, hGa134, hq135⟩
        have hW136 := mt_W_t hW130 (mt_G_F hGa134)
        have hf137 : 0 < I133 82 8 := by rw [hq135]; exact hf131
        have he138 := hq135.trans he132
        show yi_D zi_Ms d zi_m105 k (83, [(2, .inl (75 + (3 * (ld 5)))), (1, .inl (ld 5)), (0, .inr (.inr (some 82)))], [], (I133, L, R, Y), 0, 0) _
        refine yi_D_run 3 (86, [(2, .inl (75 + (3 * (ld 5)))), (1, .inl (ld 5)), (0, .inr (.inr (some 82)))], [.inl 0, .inl 0, .inr (.inr (some 82))], (I133, L, R, Y), 0, 0) (fun _ => rfl) ?_
        refine yi_D_callv rfl (q_emit hW136) ?_
        rintro _ ⟨I139, rfl, hE140⟩
        have hW141 := mt_W_t hW136 (mt_E_F hE140)
        have hf142 : 0 < I139 82 8 := by rw [hE140.1 82 8 (by omega)]; exact hf137
        have he143 := (hE140.1 82 8 (by omega)).trans he138
        show yi_D zi_Ms d zi_m105 k (89, [(2, .inl (75 + (3 * (ld 5)))), (1, .inl (ld 5)), (0, .inr (.inr (some 82)))], [], (I139, L, R, Y), 0, 0) _
        refine yi_D_run 1 (90, [(2, .inl (75 + (3 * (ld 5)))), (1, .inl (ld 5)), (0, .inr (.inr (some 82)))], [.inr (.inr (some 82))], (I139, L, R, Y), 0, 0) (fun _ => rfl) ?_
        refine yi_D_gr (v := some 88) rfl rfl rfl (ym_S_at hS (j := 5) rfl).1 (fun _ => ?_)
        refine yi_D_run 2 (96, [(2, .inl (75 + (3 * (ld 5)))), (1, .inl (ld 5)), (0, .inr (.inr (some 82)))], [.inl 55, .inr (.inr (some 88)), .inl 55, .inr (.inr (some 88))], (I139, L, R, Y), 0, 0) (fun _ => rfl) ?_
        have r144 : I139 88 55 = ld 5 := by rw [((mt_E_F hE140)).1 88 55 (by omega), hGa134 88 55 (by omega), (show I128 88 55 = ld 5 from (hW130.2.2.2.1 5 (by omega)).trans (by repeat rw [sp_up_n _ _ (by omega)]))]
        refine yi_D_il (v := ld 5) rfl rfl r144 (fun _ _ => ?_)
        refine yi_D_run 1 (98, [(2, .inl (75 + (3 * (ld 5)))), (1, .inl (ld 5)), (0, .inr (.inr (some 82)))], [.inl 1, .inl (ld 5), .inl 55, .inr (.inr (some 88))], (I139, L, R, Y), 0, 0) (fun _ => rfl) ?_
        refine yi_D_iadd rfl ((ld 5) + 1) (yi_wn (by omega) (by omega)) ?_
        refine yi_D_is rfl (fun _ _ => ?_)
        show yi_D zi_Ms d zi_m105 k (100, [(2, .inl (75 + (3 * (ld 5)))), (1, .inl (ld 5)), (0, .inr (.inr (some 82)))], [], ((yi_u I139 88 55 ((ld 5) + 1)), L, R, Y), 0, 0) _
        generalize w146 : yi_u I139 88 55 ((ld 5) + 1) = I145
        have hf147 : 0 < I145 82 8 := by rw [← w146, yi_u_ne _ _ (by omega)]; exact hf142
        have he148 : I145 82 8 = _ := (show I145 82 8 = I139 82 8 by rw [← w146, yi_u_ne _ _ (by omega)]).trans he143
        refine yi_D_retv rfl ?_
        exact ⟨_, _, rfl, Or.inr ⟨_, hx121, hz119, he148⟩⟩
      · have c56 : K (a + 2) = 4 + 8 ∧ ¬ K (a + 3) = 2 := c56
        have hW149 := mt_W_t hW41 (mt_G_F hGa58)
        have hA150 : mt_A I39 te (a + 2) ∨ True := Or.inr trivial
        have hz151 : 0 < sp_f P (a + 3) 1 := mt_f_ne hW41 (mt_lt hW41.2.1 hA43.2 (by omega)) (by omega)
        have hn152 : 0 < I57 82 8 := by rw [he59]; exact hz151
        have hx153 : sp_R K P V (2, a, 0, [], ld, nm, cs) (.inr (sp_f P (a + 3) 1)) := sp_R_1 (by
          show sp_line K P V a ld nm cs = _
          first
          | (exfalso; omega)
          | (unfold sp_line; (repeat (first | rw [if_pos (by omega)] | rw [if_neg (by omega)])); unfold sp_wish; (repeat (first | rw [if_pos (by omega)] | rw [if_neg (by omega)])); done))
        show yi_D zi_Ms d zi_m105 k (65, [(2, .inl (75 + (3 * (ld 5)))), (1, .inl (ld 5)), (0, .inr (.inr (some 82)))], [.inl z60, .inl ((75 + (3 * (ld 5))) + 1), .inr (.inr (some 88))], (I57, L, R, Y), 0, 0) _
        refine yi_D_is rfl (fun _ _ => ?_)
        generalize w155 : yi_u I57 88 (((75 + (3 * (ld 5))) + 1).toNat) z60 = I154
        have hW156 := mt_W_w (i := 26 + 3 * (ld 5).toNat) (I' := I154) (z60) hW149 (fun h => absurd h (by omega)) (fun p k hp => by rw [← w155, yi_u_ne _ _ (by omega)]) (mt_bd hW149 (by omega) _)
        have hf157 : 0 < I154 82 8 := by rw [← w155, yi_u_ne _ _ (by omega)]; exact hn152
        have he158 : I154 82 8 = _ := (show I154 82 8 = I57 82 8 by rw [← w155, yi_u_ne _ _ (by omega)]).trans he59
        refine yi_D_run 1 (67, [(2, .inl (75 + (3 * (ld 5)))), (1, .inl (ld 5)), (0, .inr (.inr (some 82)))], [.inr (.inr (some 82))], (I154, L, R, Y), 0, 0) (fun _ => rfl) ?_
        refine yi_D_gr (v := some 88) rfl rfl rfl (ym_S_at hS (j := 5) rfl).1 (fun _ => ?_)
        refine yi_D_run 2 (72, [(2, .inl (75 + (3 * (ld 5)))), (1, .inl (ld 5)), (0, .inr (.inr (some 82)))], [.inl 2, .inl (75 + (3 * (ld 5))), .inr (.inr (some 88))], (I154, L, R, Y), 0, 0) (fun _ => rfl) ?_
        refine yi_D_iadd rfl ((75 + (3 * (ld 5))) + 2) (yi_wn (by omega) (by omega)) ?_
        refine yi_D_run 1 (74, [(2, .inl (75 + (3 * (ld 5)))), (1, .inl (ld 5)), (0, .inr (.inr (some 82)))], [.inr (.inr (some 82)), .inl ((75 + (3 * (ld 5))) + 2), .inr (.inr (some 88))], (I154, L, R, Y), 0, 0) (fun _ => rfl) ?_
        have r159 : I154 82 13 = I 82 13 := by rw [← w155, yi_u_ne _ _ (by omega), hGa58 82 13 (by omega), ← w40, yi_u_ne _ _ (by omega), hGa20 82 13 (by omega), hGn12 82 13 (by omega)]
        refine yi_D_gi (v := I 82 13) rfl rfl rfl r159 (fun _ => ?_)
        refine yi_D_is rfl (fun _ _ => ?_)
        generalize w161 : yi_u I154 88 (((75 + (3 * (ld 5))) + 2).toNat) (I 82 13) = I160
        have hW162 := mt_W_w (i := 27 + 3 * (ld 5).toNat) (I' := I160) (I 82 13) hW156 (fun h => absurd h (by omega)) (fun p k hp => by rw [← w161, yi_u_ne _ _ (by omega)]) (mt_bd hW156 (by omega) _)
        have hf163 : 0 < I160 82 8 := by rw [← w161, yi_u_ne _ _ (by omega)]; exact hf157
        have he164 : I160 82 8 = _ := (show I160 82 8 = I154 82 8 by rw [← w161, yi_u_ne _ _ (by omega)]).trans he158
        refine yi_D_run 2 (80, [(2, .inl (75 + (3 * (ld 5)))), (1, .inl (ld 5)), (0, .inr (.inr (some 82)))], [.inl 0, .inr (.inr (some 82))], (I160, L, R, Y), 0, 0) (fun _ => rfl) ?_
        refine yi_D_callv rfl (q_readFormula_f hW162 hf163) ?_
        rintro _ ⟨I165, rfl, hGa166, hq167⟩
        have hW168 := mt_W_t hW162 (mt_G_F hGa166)
        have hf169 : 0 < I165 82 8 := by rw [hq167]; exact hf163
        have he170 := hq167.trans he164
        show yi_D zi_Ms d zi_m105 k (83, [(2, .inl (75 + (3 * (ld 5)))), (1, .inl (ld 5)), (0, .inr (.inr (some 82)))], [], (I165, L, R, Y), 0, 0) _
        refine yi_D_run 3 (86, [(2, .inl (75 + (3 * (ld 5)))), (1, .inl (ld 5)), (0, .inr (.inr (some 82)))], [.inl 0, .inl 0, .inr (.inr (some 82))], (I165, L, R, Y), 0, 0) (fun _ => rfl) ?_
        refine yi_D_callv rfl (q_emit hW168) ?_
        rintro _ ⟨I171, rfl, hE172⟩
        have hW173 := mt_W_t hW168 (mt_E_F hE172)
        have hf174 : 0 < I171 82 8 := by rw [hE172.1 82 8 (by omega)]; exact hf169
        have he175 := (hE172.1 82 8 (by omega)).trans he170
        show yi_D zi_Ms d zi_m105 k (89, [(2, .inl (75 + (3 * (ld 5)))), (1, .inl (ld 5)), (0, .inr (.inr (some 82)))], [], (I171, L, R, Y), 0, 0) _
        refine yi_D_run 1 (90, [(2, .inl (75 + (3 * (ld 5)))), (1, .inl (ld 5)), (0, .inr (.inr (some 82)))], [.inr (.inr (some 82))], (I171, L, R, Y), 0, 0) (fun _ => rfl) ?_
        refine yi_D_gr (v := some 88) rfl rfl rfl (ym_S_at hS (j := 5) rfl).1 (fun _ => ?_)
        refine yi_D_run 2 (96, [(2, .inl (75 + (3 * (ld 5)))), (1, .inl (ld 5)), (0, .inr (.inr (some 82)))], [.inl 55, .inr (.inr (some 88)), .inl 55, .inr (.inr (some 88))], (I171, L, R, Y), 0, 0) (fun _ => rfl) ?_
        have r176 : I171 88 55 = ld 5 := by rw [((mt_E_F hE172)).1 88 55 (by omega), hGa166 88 55 (by omega), (show I160 88 55 = ld 5 from (hW162.2.2.2.1 5 (by omega)).trans (by repeat rw [sp_up_n _ _ (by omega)]))]
        refine yi_D_il (v := ld 5) rfl rfl r176 (fun _ _ => ?_)
        refine yi_D_run 1 (98, [(2, .inl (75 + (3 * (ld 5)))), (1, .inl (ld 5)), (0, .inr (.inr (some 82)))], [.inl 1, .inl (ld 5), .inl 55, .inr (.inr (some 88))], (I171, L, R, Y), 0, 0) (fun _ => rfl) ?_
        refine yi_D_iadd rfl ((ld 5) + 1) (yi_wn (by omega) (by omega)) ?_
        refine yi_D_is rfl (fun _ _ => ?_)
        show yi_D zi_Ms d zi_m105 k (100, [(2, .inl (75 + (3 * (ld 5)))), (1, .inl (ld 5)), (0, .inr (.inr (some 82)))], [], ((yi_u I171 88 55 ((ld 5) + 1)), L, R, Y), 0, 0) _
        generalize w178 : yi_u I171 88 55 ((ld 5) + 1) = I177
        have hf179 : 0 < I177 82 8 := by rw [← w178, yi_u_ne _ _ (by omega)]; exact hf174
        have he180 : I177 82 8 = _ := (show I177 82 8 = I171 82 8 by rw [← w178, yi_u_ne _ _ (by omega)]).trans he175
        refine yi_D_retv rfl ?_
        exact ⟨_, _, rfl, Or.inr ⟨_, hx153, hz151, he180⟩⟩
      · have c61 : K (a + 2) = 4 + 8 ∧ K (a + 3) = 2 ∧ (V (a + 3) < 0 ∨ 99 < V (a + 3)) := c61
        have hW181 := mt_W_t hW41 (mt_G_F hGa63)
        have hA182 : mt_A I39 te (a + 2) ∨ True := Or.inr trivial
        have hz183 : 0 < sp_f P (a + 3) 4 := mt_f_ne hW41 (mt_lt hW41.2.1 hA43.2 (by omega)) (by omega)
        have hn184 : 0 < I62 82 8 := by rw [he64]; exact hz183
        have hx185 : sp_R K P V (2, a, 0, [], ld, nm, cs) (.inr (sp_f P (a + 3) 4)) := sp_R_1 (by
          show sp_line K P V a ld nm cs = _
          first
          | (exfalso; omega)
          | (unfold sp_line; (repeat (first | rw [if_pos (by omega)] | rw [if_neg (by omega)])); unfold sp_wish; (repeat (first | rw [if_pos (by omega)] | rw [if_neg (by omega)])); done))
        show yi_D zi_Ms d zi_m105 k (65, [(2, .inl (75 + (3 * (ld 5)))), (1, .inl (ld 5)), (0, .inr (.inr (some 82)))], [.inl z65, .inl ((75 + (3 * (ld 5))) + 1), .inr (.inr (some 88))], (I62, L, R, Y), 0, 0) _
        refine yi_D_is rfl (fun _ _ => ?_)
        generalize w187 : yi_u I62 88 (((75 + (3 * (ld 5))) + 1).toNat) z65 = I186
        have hW188 := mt_W_w (i := 26 + 3 * (ld 5).toNat) (I' := I186) (z65) hW181 (fun h => absurd h (by omega)) (fun p k hp => by rw [← w187, yi_u_ne _ _ (by omega)]) (mt_bd hW181 (by omega) _)
        have hf189 : 0 < I186 82 8 := by rw [← w187, yi_u_ne _ _ (by omega)]; exact hn184
        have he190 : I186 82 8 = _ := (show I186 82 8 = I62 82 8 by rw [← w187, yi_u_ne _ _ (by omega)]).trans he64
        refine yi_D_run 1 (67, [(2, .inl (75 + (3 * (ld 5)))), (1, .inl (ld 5)), (0, .inr (.inr (some 82)))], [.inr (.inr (some 82))], (I186, L, R, Y), 0, 0) (fun _ => rfl) ?_
        refine yi_D_gr (v := some 88) rfl rfl rfl (ym_S_at hS (j := 5) rfl).1 (fun _ => ?_)
        refine yi_D_run 2 (72, [(2, .inl (75 + (3 * (ld 5)))), (1, .inl (ld 5)), (0, .inr (.inr (some 82)))], [.inl 2, .inl (75 + (3 * (ld 5))), .inr (.inr (some 88))], (I186, L, R, Y), 0, 0) (fun _ => rfl) ?_
        refine yi_D_iadd rfl ((75 + (3 * (ld 5))) + 2) (yi_wn (by omega) (by omega)) ?_
        refine yi_D_run 1 (74, [(2, .inl (75 + (3 * (ld 5)))), (1, .inl (ld 5)), (0, .inr (.inr (some 82)))], [.inr (.inr (some 82)), .inl ((75 + (3 * (ld 5))) + 2), .inr (.inr (some 88))], (I186, L, R, Y), 0, 0) (fun _ => rfl) ?_
        have r191 : I186 82 13 = I 82 13 := by rw [← w187, yi_u_ne _ _ (by omega), hGa63 82 13 (by omega), ← w40, yi_u_ne _ _ (by omega), hGa20 82 13 (by omega), hGn12 82 13 (by omega)]
        refine yi_D_gi (v := I 82 13) rfl rfl rfl r191 (fun _ => ?_)
        refine yi_D_is rfl (fun _ _ => ?_)
        generalize w193 : yi_u I186 88 (((75 + (3 * (ld 5))) + 2).toNat) (I 82 13) = I192
        have hW194 := mt_W_w (i := 27 + 3 * (ld 5).toNat) (I' := I192) (I 82 13) hW188 (fun h => absurd h (by omega)) (fun p k hp => by rw [← w193, yi_u_ne _ _ (by omega)]) (mt_bd hW188 (by omega) _)
        have hf195 : 0 < I192 82 8 := by rw [← w193, yi_u_ne _ _ (by omega)]; exact hf189
        have he196 : I192 82 8 = _ := (show I192 82 8 = I186 82 8 by rw [← w193, yi_u_ne _ _ (by omega)]).trans he190
        refine yi_D_run 2 (80, [(2, .inl (75 + (3 * (ld 5)))), (1, .inl (ld 5)), (0, .inr (.inr (some 82)))], [.inl 0, .inr (.inr (some 82))], (I192, L, R, Y), 0, 0) (fun _ => rfl) ?_
        refine yi_D_callv rfl (q_readFormula_f hW194 hf195) ?_
        rintro _ ⟨I197, rfl, hGa198, hq199⟩
        have hW200 := mt_W_t hW194 (mt_G_F hGa198)
        have hf201 : 0 < I197 82 8 := by rw [hq199]; exact hf195
        have he202 := hq199.trans he196
        show yi_D zi_Ms d zi_m105 k (83, [(2, .inl (75 + (3 * (ld 5)))), (1, .inl (ld 5)), (0, .inr (.inr (some 82)))], [], (I197, L, R, Y), 0, 0) _
        refine yi_D_run 3 (86, [(2, .inl (75 + (3 * (ld 5)))), (1, .inl (ld 5)), (0, .inr (.inr (some 82)))], [.inl 0, .inl 0, .inr (.inr (some 82))], (I197, L, R, Y), 0, 0) (fun _ => rfl) ?_
        refine yi_D_callv rfl (q_emit hW200) ?_
        rintro _ ⟨I203, rfl, hE204⟩
        have hW205 := mt_W_t hW200 (mt_E_F hE204)
        have hf206 : 0 < I203 82 8 := by rw [hE204.1 82 8 (by omega)]; exact hf201
        have he207 := (hE204.1 82 8 (by omega)).trans he202
        show yi_D zi_Ms d zi_m105 k (89, [(2, .inl (75 + (3 * (ld 5)))), (1, .inl (ld 5)), (0, .inr (.inr (some 82)))], [], (I203, L, R, Y), 0, 0) _
        refine yi_D_run 1 (90, [(2, .inl (75 + (3 * (ld 5)))), (1, .inl (ld 5)), (0, .inr (.inr (some 82)))], [.inr (.inr (some 82))], (I203, L, R, Y), 0, 0) (fun _ => rfl) ?_
        refine yi_D_gr (v := some 88) rfl rfl rfl (ym_S_at hS (j := 5) rfl).1 (fun _ => ?_)
        refine yi_D_run 2 (96, [(2, .inl (75 + (3 * (ld 5)))), (1, .inl (ld 5)), (0, .inr (.inr (some 82)))], [.inl 55, .inr (.inr (some 88)), .inl 55, .inr (.inr (some 88))], (I203, L, R, Y), 0, 0) (fun _ => rfl) ?_
        have r208 : I203 88 55 = ld 5 := by rw [((mt_E_F hE204)).1 88 55 (by omega), hGa198 88 55 (by omega), (show I192 88 55 = ld 5 from (hW194.2.2.2.1 5 (by omega)).trans (by repeat rw [sp_up_n _ _ (by omega)]))]
        refine yi_D_il (v := ld 5) rfl rfl r208 (fun _ _ => ?_)
        refine yi_D_run 1 (98, [(2, .inl (75 + (3 * (ld 5)))), (1, .inl (ld 5)), (0, .inr (.inr (some 82)))], [.inl 1, .inl (ld 5), .inl 55, .inr (.inr (some 88))], (I203, L, R, Y), 0, 0) (fun _ => rfl) ?_
        refine yi_D_iadd rfl ((ld 5) + 1) (yi_wn (by omega) (by omega)) ?_
        refine yi_D_is rfl (fun _ _ => ?_)
        show yi_D zi_Ms d zi_m105 k (100, [(2, .inl (75 + (3 * (ld 5)))), (1, .inl (ld 5)), (0, .inr (.inr (some 82)))], [], ((yi_u I203 88 55 ((ld 5) + 1)), L, R, Y), 0, 0) _
        generalize w210 : yi_u I203 88 55 ((ld 5) + 1) = I209
        have hf211 : 0 < I209 82 8 := by rw [← w210, yi_u_ne _ _ (by omega)]; exact hf206
        have he212 : I209 82 8 = _ := (show I209 82 8 = I203 82 8 by rw [← w210, yi_u_ne _ _ (by omega)]).trans he207
        refine yi_D_retv rfl ?_
        exact ⟨_, _, rfl, Or.inr ⟨_, hx185, hz183, he212⟩⟩
    · have hW213 := mt_W_t hW13 (mt_G_F hGa25)
      have hz214 : 0 < sp_f P (a + 1) 1 := mt_f_ne hW13 hA15.2 (by omega)
      have hn215 : 0 < I24 82 8 := by rw [he26]; exact hz214
      have hx216 : sp_R K P V (2, a, 0, [], ld, nm, cs) (.inr (sp_f P (a + 1) 1)) := sp_R_1 (by
        show sp_line K P V a ld nm cs = _
        first
        | (exfalso; omega)
        | (unfold sp_line; (repeat (first | rw [if_pos (by omega)] | rw [if_neg (by omega)])); unfold sp_wish; (repeat (first | rw [if_pos (by omega)] | rw [if_neg (by omega)])); done))
      show yi_D zi_Ms d zi_m105 k (48, [(2, .inl (75 + (3 * (ld 5)))), (1, .inl (ld 5)), (0, .inr (.inr (some 82)))], [.inl z27, .inl (75 + (3 * (ld 5))), .inr (.inr (some 88))], (I24, L, R, Y), 0, 0) _
      refine yi_D_is rfl (fun _ _ => ?_)
      generalize w218 : yi_u I24 88 ((75 + (3 * (ld 5))).toNat) z27 = I217
      have hW219 := mt_W_w (i := 25 + 3 * (ld 5).toNat) (I' := I217) (z27) hW213 (fun h => absurd h (by omega)) (fun p k hp => by rw [← w218, yi_u_ne _ _ (by omega)]) (mt_bd hW213 (by omega) _)
      have hf220 : 0 < I217 82 8 := by rw [← w218, yi_u_ne _ _ (by omega)]; exact hn215
      have he221 : I217 82 8 = _ := (show I217 82 8 = I24 82 8 by rw [← w218, yi_u_ne _ _ (by omega)]).trans he26
      refine yi_D_run 1 (50, [(2, .inl (75 + (3 * (ld 5)))), (1, .inl (ld 5)), (0, .inr (.inr (some 82)))], [.inr (.inr (some 82))], (I217, L, R, Y), 0, 0) (fun _ => rfl) ?_
      refine yi_D_gr (v := some 88) rfl rfl rfl (ym_S_at hS (j := 5) rfl).1 (fun _ => ?_)
      refine yi_D_run 2 (55, [(2, .inl (75 + (3 * (ld 5)))), (1, .inl (ld 5)), (0, .inr (.inr (some 82)))], [.inl 1, .inl (75 + (3 * (ld 5))), .inr (.inr (some 88))], (I217, L, R, Y), 0, 0) (fun _ => rfl) ?_
      refine yi_D_iadd rfl ((75 + (3 * (ld 5))) + 1) (yi_wn (by omega) (by omega)) ?_
      refine yi_D_run 4 (62, [(2, .inl (75 + (3 * (ld 5)))), (1, .inl (ld 5)), (0, .inr (.inr (some 82)))], [.inl 99, .inl 0, .inl 8, .inr (.inr (some 82)), .inl ((75 + (3 * (ld 5))) + 1), .inr (.inr (some 88))], (I217, L, R, Y), 0, 0) (fun _ => rfl) ?_
      refine yi_D_callv rfl (q_takeAfter_f hW219 hf220) ?_
      rintro _ ⟨z225, I222, rfl, hGa223, hq224⟩
      have hW226 := mt_W_t hW219 (mt_G_F hGa223)
      have hf227 : 0 < I222 82 8 := by rw [hq224]; exact hf220
      have he228 := hq224.trans he221
      show yi_D zi_Ms d zi_m105 k (65, [(2, .inl (75 + (3 * (ld 5)))), (1, .inl (ld 5)), (0, .inr (.inr (some 82)))], [.inl z225, .inl ((75 + (3 * (ld 5))) + 1), .inr (.inr (some 88))], (I222, L, R, Y), 0, 0) _
      refine yi_D_is rfl (fun _ _ => ?_)
      generalize w230 : yi_u I222 88 (((75 + (3 * (ld 5))) + 1).toNat) z225 = I229
      have hW231 := mt_W_w (i := 26 + 3 * (ld 5).toNat) (I' := I229) (z225) hW226 (fun h => absurd h (by omega)) (fun p k hp => by rw [← w230, yi_u_ne _ _ (by omega)]) (mt_bd hW226 (by omega) _)
      have hf232 : 0 < I229 82 8 := by rw [← w230, yi_u_ne _ _ (by omega)]; exact hf227
      have he233 : I229 82 8 = _ := (show I229 82 8 = I222 82 8 by rw [← w230, yi_u_ne _ _ (by omega)]).trans he228
      refine yi_D_run 1 (67, [(2, .inl (75 + (3 * (ld 5)))), (1, .inl (ld 5)), (0, .inr (.inr (some 82)))], [.inr (.inr (some 82))], (I229, L, R, Y), 0, 0) (fun _ => rfl) ?_
      refine yi_D_gr (v := some 88) rfl rfl rfl (ym_S_at hS (j := 5) rfl).1 (fun _ => ?_)
      refine yi_D_run 2 (72, [(2, .inl (75 + (3 * (ld 5)))), (1, .inl (ld 5)), (0, .inr (.inr (some 82)))], [.inl 2, .inl (75 + (3 * (ld 5))), .inr (.inr (some 88))], (I229, L, R, Y), 0, 0) (fun _ => rfl) ?_
      refine yi_D_iadd rfl ((75 + (3 * (ld 5))) + 2) (yi_wn (by omega) (by omega)) ?_
      refine yi_D_run 1 (74, [(2, .inl (75 + (3 * (ld 5)))), (1, .inl (ld 5)), (0, .inr (.inr (some 82)))], [.inr (.inr (some 82)), .inl ((75 + (3 * (ld 5))) + 2), .inr (.inr (some 88))], (I229, L, R, Y), 0, 0) (fun _ => rfl) ?_
      have r234 : I229 82 13 = I 82 13 := by rw [← w230, yi_u_ne _ _ (by omega), hGa223 82 13 (by omega), ← w218, yi_u_ne _ _ (by omega), hGa25 82 13 (by omega), hGn12 82 13 (by omega)]
      refine yi_D_gi (v := I 82 13) rfl rfl rfl r234 (fun _ => ?_)
      refine yi_D_is rfl (fun _ _ => ?_)
      generalize w236 : yi_u I229 88 (((75 + (3 * (ld 5))) + 2).toNat) (I 82 13) = I235
      have hW237 := mt_W_w (i := 27 + 3 * (ld 5).toNat) (I' := I235) (I 82 13) hW231 (fun h => absurd h (by omega)) (fun p k hp => by rw [← w236, yi_u_ne _ _ (by omega)]) (mt_bd hW231 (by omega) _)
      have hf238 : 0 < I235 82 8 := by rw [← w236, yi_u_ne _ _ (by omega)]; exact hf232
      have he239 : I235 82 8 = _ := (show I235 82 8 = I229 82 8 by rw [← w236, yi_u_ne _ _ (by omega)]).trans he233
      refine yi_D_run 2 (80, [(2, .inl (75 + (3 * (ld 5)))), (1, .inl (ld 5)), (0, .inr (.inr (some 82)))], [.inl 0, .inr (.inr (some 82))], (I235, L, R, Y), 0, 0) (fun _ => rfl) ?_
      refine yi_D_callv rfl (q_readFormula_f hW237 hf238) ?_
      rintro _ ⟨I240, rfl, hGa241, hq242⟩
      have hW243 := mt_W_t hW237 (mt_G_F hGa241)
      have hf244 : 0 < I240 82 8 := by rw [hq242]; exact hf238
      have he245 := hq242.trans he239
      show yi_D zi_Ms d zi_m105 k (83, [(2, .inl (75 + (3 * (ld 5)))), (1, .inl (ld 5)), (0, .inr (.inr (some 82)))], [], (I240, L, R, Y), 0, 0) _
      refine yi_D_run 3 (86, [(2, .inl (75 + (3 * (ld 5)))), (1, .inl (ld 5)), (0, .inr (.inr (some 82)))], [.inl 0, .inl 0, .inr (.inr (some 82))], (I240, L, R, Y), 0, 0) (fun _ => rfl) ?_
      refine yi_D_callv rfl (q_emit hW243) ?_
      rintro _ ⟨I246, rfl, hE247⟩
      have hW248 := mt_W_t hW243 (mt_E_F hE247)
      have hf249 : 0 < I246 82 8 := by rw [hE247.1 82 8 (by omega)]; exact hf244
      have he250 := (hE247.1 82 8 (by omega)).trans he245
      show yi_D zi_Ms d zi_m105 k (89, [(2, .inl (75 + (3 * (ld 5)))), (1, .inl (ld 5)), (0, .inr (.inr (some 82)))], [], (I246, L, R, Y), 0, 0) _
      refine yi_D_run 1 (90, [(2, .inl (75 + (3 * (ld 5)))), (1, .inl (ld 5)), (0, .inr (.inr (some 82)))], [.inr (.inr (some 82))], (I246, L, R, Y), 0, 0) (fun _ => rfl) ?_
      refine yi_D_gr (v := some 88) rfl rfl rfl (ym_S_at hS (j := 5) rfl).1 (fun _ => ?_)
      refine yi_D_run 2 (96, [(2, .inl (75 + (3 * (ld 5)))), (1, .inl (ld 5)), (0, .inr (.inr (some 82)))], [.inl 55, .inr (.inr (some 88)), .inl 55, .inr (.inr (some 88))], (I246, L, R, Y), 0, 0) (fun _ => rfl) ?_
      have r251 : I246 88 55 = ld 5 := by rw [((mt_E_F hE247)).1 88 55 (by omega), hGa241 88 55 (by omega), (show I235 88 55 = ld 5 from (hW237.2.2.2.1 5 (by omega)).trans (by repeat rw [sp_up_n _ _ (by omega)]))]
      refine yi_D_il (v := ld 5) rfl rfl r251 (fun _ _ => ?_)
      refine yi_D_run 1 (98, [(2, .inl (75 + (3 * (ld 5)))), (1, .inl (ld 5)), (0, .inr (.inr (some 82)))], [.inl 1, .inl (ld 5), .inl 55, .inr (.inr (some 88))], (I246, L, R, Y), 0, 0) (fun _ => rfl) ?_
      refine yi_D_iadd rfl ((ld 5) + 1) (yi_wn (by omega) (by omega)) ?_
      refine yi_D_is rfl (fun _ _ => ?_)
      show yi_D zi_Ms d zi_m105 k (100, [(2, .inl (75 + (3 * (ld 5)))), (1, .inl (ld 5)), (0, .inr (.inr (some 82)))], [], ((yi_u I246 88 55 ((ld 5) + 1)), L, R, Y), 0, 0) _
      generalize w253 : yi_u I246 88 55 ((ld 5) + 1) = I252
      have hf254 : 0 < I252 82 8 := by rw [← w253, yi_u_ne _ _ (by omega)]; exact hf249
      have he255 : I252 82 8 = _ := (show I252 82 8 = I246 82 8 by rw [← w253, yi_u_ne _ _ (by omega)]).trans he250
      refine yi_D_retv rfl ?_
      exact ⟨_, _, rfl, Or.inr ⟨_, hx216, hz214, he255⟩⟩
    · have hW256 := mt_W_t hW13 (mt_G_F hGa30)
      have hz257 : 0 < sp_f P (a + 1) 2 := mt_f_ne hW13 hA15.2 (by omega)
      have hn258 : 0 < I29 82 8 := by rw [he31]; exact hz257
      have hx259 : sp_R K P V (2, a, 0, [], ld, nm, cs) (.inr (sp_f P (a + 1) 2)) := sp_R_1 (by
        show sp_line K P V a ld nm cs = _
        first
        | (exfalso; omega)
        | (unfold sp_line; (repeat (first | rw [if_pos (by omega)] | rw [if_neg (by omega)])); unfold sp_wish; (repeat (first | rw [if_pos (by omega)] | rw [if_neg (by omega)])); done))
      show yi_D zi_Ms d zi_m105 k (48, [(2, .inl (75 + (3 * (ld 5)))), (1, .inl (ld 5)), (0, .inr (.inr (some 82)))], [.inl z32, .inl (75 + (3 * (ld 5))), .inr (.inr (some 88))], (I29, L, R, Y), 0, 0) _
      refine yi_D_is rfl (fun _ _ => ?_)
      generalize w261 : yi_u I29 88 ((75 + (3 * (ld 5))).toNat) z32 = I260
      have hW262 := mt_W_w (i := 25 + 3 * (ld 5).toNat) (I' := I260) (z32) hW256 (fun h => absurd h (by omega)) (fun p k hp => by rw [← w261, yi_u_ne _ _ (by omega)]) (mt_bd hW256 (by omega) _)
      have hf263 : 0 < I260 82 8 := by rw [← w261, yi_u_ne _ _ (by omega)]; exact hn258
      have he264 : I260 82 8 = _ := (show I260 82 8 = I29 82 8 by rw [← w261, yi_u_ne _ _ (by omega)]).trans he31
      refine yi_D_run 1 (50, [(2, .inl (75 + (3 * (ld 5)))), (1, .inl (ld 5)), (0, .inr (.inr (some 82)))], [.inr (.inr (some 82))], (I260, L, R, Y), 0, 0) (fun _ => rfl) ?_
      refine yi_D_gr (v := some 88) rfl rfl rfl (ym_S_at hS (j := 5) rfl).1 (fun _ => ?_)
      refine yi_D_run 2 (55, [(2, .inl (75 + (3 * (ld 5)))), (1, .inl (ld 5)), (0, .inr (.inr (some 82)))], [.inl 1, .inl (75 + (3 * (ld 5))), .inr (.inr (some 88))], (I260, L, R, Y), 0, 0) (fun _ => rfl) ?_
      refine yi_D_iadd rfl ((75 + (3 * (ld 5))) + 1) (yi_wn (by omega) (by omega)) ?_
      refine yi_D_run 4 (62, [(2, .inl (75 + (3 * (ld 5)))), (1, .inl (ld 5)), (0, .inr (.inr (some 82)))], [.inl 99, .inl 0, .inl 8, .inr (.inr (some 82)), .inl ((75 + (3 * (ld 5))) + 1), .inr (.inr (some 88))], (I260, L, R, Y), 0, 0) (fun _ => rfl) ?_
      refine yi_D_callv rfl (q_takeAfter_f hW262 hf263) ?_
      rintro _ ⟨z268, I265, rfl, hGa266, hq267⟩
      have hW269 := mt_W_t hW262 (mt_G_F hGa266)
      have hf270 : 0 < I265 82 8 := by rw [hq267]; exact hf263
      have he271 := hq267.trans he264
      show yi_D zi_Ms d zi_m105 k (65, [(2, .inl (75 + (3 * (ld 5)))), (1, .inl (ld 5)), (0, .inr (.inr (some 82)))], [.inl z268, .inl ((75 + (3 * (ld 5))) + 1), .inr (.inr (some 88))], (I265, L, R, Y), 0, 0) _
      refine yi_D_is rfl (fun _ _ => ?_)
      generalize w273 : yi_u I265 88 (((75 + (3 * (ld 5))) + 1).toNat) z268 = I272
      have hW274 := mt_W_w (i := 26 + 3 * (ld 5).toNat) (I' := I272) (z268) hW269 (fun h => absurd h (by omega)) (fun p k hp => by rw [← w273, yi_u_ne _ _ (by omega)]) (mt_bd hW269 (by omega) _)
      have hf275 : 0 < I272 82 8 := by rw [← w273, yi_u_ne _ _ (by omega)]; exact hf270
      have he276 : I272 82 8 = _ := (show I272 82 8 = I265 82 8 by rw [← w273, yi_u_ne _ _ (by omega)]).trans he271
      refine yi_D_run 1 (67, [(2, .inl (75 + (3 * (ld 5)))), (1, .inl (ld 5)), (0, .inr (.inr (some 82)))], [.inr (.inr (some 82))], (I272, L, R, Y), 0, 0) (fun _ => rfl) ?_
      refine yi_D_gr (v := some 88) rfl rfl rfl (ym_S_at hS (j := 5) rfl).1 (fun _ => ?_)
      refine yi_D_run 2 (72, [(2, .inl (75 + (3 * (ld 5)))), (1, .inl (ld 5)), (0, .inr (.inr (some 82)))], [.inl 2, .inl (75 + (3 * (ld 5))), .inr (.inr (some 88))], (I272, L, R, Y), 0, 0) (fun _ => rfl) ?_
      refine yi_D_iadd rfl ((75 + (3 * (ld 5))) + 2) (yi_wn (by omega) (by omega)) ?_
      refine yi_D_run 1 (74, [(2, .inl (75 + (3 * (ld 5)))), (1, .inl (ld 5)), (0, .inr (.inr (some 82)))], [.inr (.inr (some 82)), .inl ((75 + (3 * (ld 5))) + 2), .inr (.inr (some 88))], (I272, L, R, Y), 0, 0) (fun _ => rfl) ?_
      have r277 : I272 82 13 = I 82 13 := by rw [← w273, yi_u_ne _ _ (by omega), hGa266 82 13 (by omega), ← w261, yi_u_ne _ _ (by omega), hGa30 82 13 (by omega), hGn12 82 13 (by omega)]
      refine yi_D_gi (v := I 82 13) rfl rfl rfl r277 (fun _ => ?_)
      refine yi_D_is rfl (fun _ _ => ?_)
      generalize w279 : yi_u I272 88 (((75 + (3 * (ld 5))) + 2).toNat) (I 82 13) = I278
      have hW280 := mt_W_w (i := 27 + 3 * (ld 5).toNat) (I' := I278) (I 82 13) hW274 (fun h => absurd h (by omega)) (fun p k hp => by rw [← w279, yi_u_ne _ _ (by omega)]) (mt_bd hW274 (by omega) _)
      have hf281 : 0 < I278 82 8 := by rw [← w279, yi_u_ne _ _ (by omega)]; exact hf275
      have he282 : I278 82 8 = _ := (show I278 82 8 = I272 82 8 by rw [← w279, yi_u_ne _ _ (by omega)]).trans he276
      refine yi_D_run 2 (80, [(2, .inl (75 + (3 * (ld 5)))), (1, .inl (ld 5)), (0, .inr (.inr (some 82)))], [.inl 0, .inr (.inr (some 82))], (I278, L, R, Y), 0, 0) (fun _ => rfl) ?_
      refine yi_D_callv rfl (q_readFormula_f hW280 hf281) ?_
      rintro _ ⟨I283, rfl, hGa284, hq285⟩
      have hW286 := mt_W_t hW280 (mt_G_F hGa284)
      have hf287 : 0 < I283 82 8 := by rw [hq285]; exact hf281
      have he288 := hq285.trans he282
      show yi_D zi_Ms d zi_m105 k (83, [(2, .inl (75 + (3 * (ld 5)))), (1, .inl (ld 5)), (0, .inr (.inr (some 82)))], [], (I283, L, R, Y), 0, 0) _
      refine yi_D_run 3 (86, [(2, .inl (75 + (3 * (ld 5)))), (1, .inl (ld 5)), (0, .inr (.inr (some 82)))], [.inl 0, .inl 0, .inr (.inr (some 82))], (I283, L, R, Y), 0, 0) (fun _ => rfl) ?_
      refine yi_D_callv rfl (q_emit hW286) ?_
      rintro _ ⟨I289, rfl, hE290⟩
      have hW291 := mt_W_t hW286 (mt_E_F hE290)
      have hf292 : 0 < I289 82 8 := by rw [hE290.1 82 8 (by omega)]; exact hf287
      have he293 := (hE290.1 82 8 (by omega)).trans he288
      show yi_D zi_Ms d zi_m105 k (89, [(2, .inl (75 + (3 * (ld 5)))), (1, .inl (ld 5)), (0, .inr (.inr (some 82)))], [], (I289, L, R, Y), 0, 0) _
      refine yi_D_run 1 (90, [(2, .inl (75 + (3 * (ld 5)))), (1, .inl (ld 5)), (0, .inr (.inr (some 82)))], [.inr (.inr (some 82))], (I289, L, R, Y), 0, 0) (fun _ => rfl) ?_
      refine yi_D_gr (v := some 88) rfl rfl rfl (ym_S_at hS (j := 5) rfl).1 (fun _ => ?_)
      refine yi_D_run 2 (96, [(2, .inl (75 + (3 * (ld 5)))), (1, .inl (ld 5)), (0, .inr (.inr (some 82)))], [.inl 55, .inr (.inr (some 88)), .inl 55, .inr (.inr (some 88))], (I289, L, R, Y), 0, 0) (fun _ => rfl) ?_
      have r294 : I289 88 55 = ld 5 := by rw [((mt_E_F hE290)).1 88 55 (by omega), hGa284 88 55 (by omega), (show I278 88 55 = ld 5 from (hW280.2.2.2.1 5 (by omega)).trans (by repeat rw [sp_up_n _ _ (by omega)]))]
      refine yi_D_il (v := ld 5) rfl rfl r294 (fun _ _ => ?_)
      refine yi_D_run 1 (98, [(2, .inl (75 + (3 * (ld 5)))), (1, .inl (ld 5)), (0, .inr (.inr (some 82)))], [.inl 1, .inl (ld 5), .inl 55, .inr (.inr (some 88))], (I289, L, R, Y), 0, 0) (fun _ => rfl) ?_
      refine yi_D_iadd rfl ((ld 5) + 1) (yi_wn (by omega) (by omega)) ?_
      refine yi_D_is rfl (fun _ _ => ?_)
      show yi_D zi_Ms d zi_m105 k (100, [(2, .inl (75 + (3 * (ld 5)))), (1, .inl (ld 5)), (0, .inr (.inr (some 82)))], [], ((yi_u I289 88 55 ((ld 5) + 1)), L, R, Y), 0, 0) _
      generalize w296 : yi_u I289 88 55 ((ld 5) + 1) = I295
      have hf297 : 0 < I295 82 8 := by rw [← w296, yi_u_ne _ _ (by omega)]; exact hf292
      have he298 : I295 82 8 = _ := (show I295 82 8 = I289 82 8 by rw [← w296, yi_u_ne _ _ (by omega)]).trans he293
      refine yi_D_retv rfl ?_
      exact ⟨_, _, rfl, Or.inr ⟨_, hx259, hz257, he298⟩⟩
    · have hW299 := mt_W_t hW13 (mt_G_F hGa35)
      have hz300 : 0 < sp_f P (a + 1) 3 := mt_f_ne hW13 hA15.2 (by omega)
      have hn301 : 0 < I34 82 8 := by rw [he36]; exact hz300
      have hx302 : sp_R K P V (2, a, 0, [], ld, nm, cs) (.inr (sp_f P (a + 1) 3)) := sp_R_1 (by
        show sp_line K P V a ld nm cs = _
        first
        | (exfalso; omega)
        | (unfold sp_line; (repeat (first | rw [if_pos (by omega)] | rw [if_neg (by omega)])); unfold sp_wish; (repeat (first | rw [if_pos (by omega)] | rw [if_neg (by omega)])); done))
      show yi_D zi_Ms d zi_m105 k (48, [(2, .inl (75 + (3 * (ld 5)))), (1, .inl (ld 5)), (0, .inr (.inr (some 82)))], [.inl z37, .inl (75 + (3 * (ld 5))), .inr (.inr (some 88))], (I34, L, R, Y), 0, 0) _
      refine yi_D_is rfl (fun _ _ => ?_)
      generalize w304 : yi_u I34 88 ((75 + (3 * (ld 5))).toNat) z37 = I303
      have hW305 := mt_W_w (i := 25 + 3 * (ld 5).toNat) (I' := I303) (z37) hW299 (fun h => absurd h (by omega)) (fun p k hp => by rw [← w304, yi_u_ne _ _ (by omega)]) (mt_bd hW299 (by omega) _)
      have hf306 : 0 < I303 82 8 := by rw [← w304, yi_u_ne _ _ (by omega)]; exact hn301
      have he307 : I303 82 8 = _ := (show I303 82 8 = I34 82 8 by rw [← w304, yi_u_ne _ _ (by omega)]).trans he36
      refine yi_D_run 1 (50, [(2, .inl (75 + (3 * (ld 5)))), (1, .inl (ld 5)), (0, .inr (.inr (some 82)))], [.inr (.inr (some 82))], (I303, L, R, Y), 0, 0) (fun _ => rfl) ?_
      refine yi_D_gr (v := some 88) rfl rfl rfl (ym_S_at hS (j := 5) rfl).1 (fun _ => ?_)
      refine yi_D_run 2 (55, [(2, .inl (75 + (3 * (ld 5)))), (1, .inl (ld 5)), (0, .inr (.inr (some 82)))], [.inl 1, .inl (75 + (3 * (ld 5))), .inr (.inr (some 88))], (I303, L, R, Y), 0, 0) (fun _ => rfl) ?_
      refine yi_D_iadd rfl ((75 + (3 * (ld 5))) + 1) (yi_wn (by omega) (by omega)) ?_
      refine yi_D_run 4 (62, [(2, .inl (75 + (3 * (ld 5)))), (1, .inl (ld 5)), (0, .inr (.inr (some 82)))], [.inl 99, .inl 0, .inl 8, .inr (.inr (some 82)), .inl ((75 + (3 * (ld 5))) + 1), .inr (.inr (some 88))], (I303, L, R, Y), 0, 0) (fun _ => rfl) ?_
      refine yi_D_callv rfl (q_takeAfter_f hW305 hf306) ?_
      rintro _ ⟨z311, I308, rfl, hGa309, hq310⟩
      have hW312 := mt_W_t hW305 (mt_G_F hGa309)
      have hf313 : 0 < I308 82 8 := by rw [hq310]; exact hf306
      have he314 := hq310.trans he307
      show yi_D zi_Ms d zi_m105 k (65, [(2, .inl (75 + (3 * (ld 5)))), (1, .inl (ld 5)), (0, .inr (.inr (some 82)))], [.inl z311, .inl ((75 + (3 * (ld 5))) + 1), .inr (.inr (some 88))], (I308, L, R, Y), 0, 0) _
      refine yi_D_is rfl (fun _ _ => ?_)
      generalize w316 : yi_u I308 88 (((75 + (3 * (ld 5))) + 1).toNat) z311 = I315
      have hW317 := mt_W_w (i := 26 + 3 * (ld 5).toNat) (I' := I315) (z311) hW312 (fun h => absurd h (by omega)) (fun p k hp => by rw [← w316, yi_u_ne _ _ (by omega)]) (mt_bd hW312 (by omega) _)
      have hf318 : 0 < I315 82 8 := by rw [← w316, yi_u_ne _ _ (by omega)]; exact hf313
      have he319 : I315 82 8 = _ := (show I315 82 8 = I308 82 8 by rw [← w316, yi_u_ne _ _ (by omega)]).trans he314
      refine yi_D_run 1 (67, [(2, .inl (75 + (3 * (ld 5)))), (1, .inl (ld 5)), (0, .inr (.inr (some 82)))], [.inr (.inr (some 82))], (I315, L, R, Y), 0, 0) (fun _ => rfl) ?_
      refine yi_D_gr (v := some 88) rfl rfl rfl (ym_S_at hS (j := 5) rfl).1 (fun _ => ?_)
      refine yi_D_run 2 (72, [(2, .inl (75 + (3 * (ld 5)))), (1, .inl (ld 5)), (0, .inr (.inr (some 82)))], [.inl 2, .inl (75 + (3 * (ld 5))), .inr (.inr (some 88))], (I315, L, R, Y), 0, 0) (fun _ => rfl) ?_
      refine yi_D_iadd rfl ((75 + (3 * (ld 5))) + 2) (yi_wn (by omega) (by omega)) ?_
      refine yi_D_run 1 (74, [(2, .inl (75 + (3 * (ld 5)))), (1, .inl (ld 5)), (0, .inr (.inr (some 82)))], [.inr (.inr (some 82)), .inl ((75 + (3 * (ld 5))) + 2), .inr (.inr (some 88))], (I315, L, R, Y), 0, 0) (fun _ => rfl) ?_
      have r320 : I315 82 13 = I 82 13 := by rw [← w316, yi_u_ne _ _ (by omega), hGa309 82 13 (by omega), ← w304, yi_u_ne _ _ (by omega), hGa35 82 13 (by omega), hGn12 82 13 (by omega)]
      refine yi_D_gi (v := I 82 13) rfl rfl rfl r320 (fun _ => ?_)
      refine yi_D_is rfl (fun _ _ => ?_)
      generalize w322 : yi_u I315 88 (((75 + (3 * (ld 5))) + 2).toNat) (I 82 13) = I321
      have hW323 := mt_W_w (i := 27 + 3 * (ld 5).toNat) (I' := I321) (I 82 13) hW317 (fun h => absurd h (by omega)) (fun p k hp => by rw [← w322, yi_u_ne _ _ (by omega)]) (mt_bd hW317 (by omega) _)
      have hf324 : 0 < I321 82 8 := by rw [← w322, yi_u_ne _ _ (by omega)]; exact hf318
      have he325 : I321 82 8 = _ := (show I321 82 8 = I315 82 8 by rw [← w322, yi_u_ne _ _ (by omega)]).trans he319
      refine yi_D_run 2 (80, [(2, .inl (75 + (3 * (ld 5)))), (1, .inl (ld 5)), (0, .inr (.inr (some 82)))], [.inl 0, .inr (.inr (some 82))], (I321, L, R, Y), 0, 0) (fun _ => rfl) ?_
      refine yi_D_callv rfl (q_readFormula_f hW323 hf324) ?_
      rintro _ ⟨I326, rfl, hGa327, hq328⟩
      have hW329 := mt_W_t hW323 (mt_G_F hGa327)
      have hf330 : 0 < I326 82 8 := by rw [hq328]; exact hf324
      have he331 := hq328.trans he325
      show yi_D zi_Ms d zi_m105 k (83, [(2, .inl (75 + (3 * (ld 5)))), (1, .inl (ld 5)), (0, .inr (.inr (some 82)))], [], (I326, L, R, Y), 0, 0) _
      refine yi_D_run 3 (86, [(2, .inl (75 + (3 * (ld 5)))), (1, .inl (ld 5)), (0, .inr (.inr (some 82)))], [.inl 0, .inl 0, .inr (.inr (some 82))], (I326, L, R, Y), 0, 0) (fun _ => rfl) ?_
      refine yi_D_callv rfl (q_emit hW329) ?_
      rintro _ ⟨I332, rfl, hE333⟩
      have hW334 := mt_W_t hW329 (mt_E_F hE333)
      have hf335 : 0 < I332 82 8 := by rw [hE333.1 82 8 (by omega)]; exact hf330
      have he336 := (hE333.1 82 8 (by omega)).trans he331
      show yi_D zi_Ms d zi_m105 k (89, [(2, .inl (75 + (3 * (ld 5)))), (1, .inl (ld 5)), (0, .inr (.inr (some 82)))], [], (I332, L, R, Y), 0, 0) _
      refine yi_D_run 1 (90, [(2, .inl (75 + (3 * (ld 5)))), (1, .inl (ld 5)), (0, .inr (.inr (some 82)))], [.inr (.inr (some 82))], (I332, L, R, Y), 0, 0) (fun _ => rfl) ?_
      refine yi_D_gr (v := some 88) rfl rfl rfl (ym_S_at hS (j := 5) rfl).1 (fun _ => ?_)
      refine yi_D_run 2 (96, [(2, .inl (75 + (3 * (ld 5)))), (1, .inl (ld 5)), (0, .inr (.inr (some 82)))], [.inl 55, .inr (.inr (some 88)), .inl 55, .inr (.inr (some 88))], (I332, L, R, Y), 0, 0) (fun _ => rfl) ?_
      have r337 : I332 88 55 = ld 5 := by rw [((mt_E_F hE333)).1 88 55 (by omega), hGa327 88 55 (by omega), (show I321 88 55 = ld 5 from (hW323.2.2.2.1 5 (by omega)).trans (by repeat rw [sp_up_n _ _ (by omega)]))]
      refine yi_D_il (v := ld 5) rfl rfl r337 (fun _ _ => ?_)
      refine yi_D_run 1 (98, [(2, .inl (75 + (3 * (ld 5)))), (1, .inl (ld 5)), (0, .inr (.inr (some 82)))], [.inl 1, .inl (ld 5), .inl 55, .inr (.inr (some 88))], (I332, L, R, Y), 0, 0) (fun _ => rfl) ?_
      refine yi_D_iadd rfl ((ld 5) + 1) (yi_wn (by omega) (by omega)) ?_
      refine yi_D_is rfl (fun _ _ => ?_)
      show yi_D zi_Ms d zi_m105 k (100, [(2, .inl (75 + (3 * (ld 5)))), (1, .inl (ld 5)), (0, .inr (.inr (some 82)))], [], ((yi_u I332 88 55 ((ld 5) + 1)), L, R, Y), 0, 0) _
      generalize w339 : yi_u I332 88 55 ((ld 5) + 1) = I338
      have hf340 : 0 < I338 82 8 := by rw [← w339, yi_u_ne _ _ (by omega)]; exact hf335
      have he341 : I338 82 8 = _ := (show I338 82 8 = I332 82 8 by rw [← w339, yi_u_ne _ _ (by omega)]).trans he336
      refine yi_D_retv rfl ?_
      exact ⟨_, _, rfl, Or.inr ⟨_, hx302, hz300, he341⟩⟩
theorem q_readPrice {d : Nat} {I L : Nat → Nat → Int} {R : Nat → Nat → Option Nat} {Y : (Nat → Nat) × (Nat → Nat) × Nat} {K P V : Nat → Int} {te a : Nat} {ld : Nat → Int} {nm : Int → Int} (hW : mt_W I L R Y K P V te 50 ld nm) (hf : I 82 8 = 0) (hA : mt_A I te a) (cs : List (Int × Int)) (hd0 : 1 ≤ ld 0) (h6 : ld 6 < 0 → I 88 56 < 0) (hk : ¬ K a = 0 ∧ ¬ K a = 5 ∧ ¬ K a = 7 ∧ ¬ K a = 8 ∧ ¬ K a = 10 ∧ ¬ K a = 11) : yi_P zi_Ms d 102 [.inr (.inr (some 82))] (I, L, R, Y) (mt_QL I L R Y K P V te (2, a, 0, [], ld, nm, cs) a) := by
  refine yi_P_of (M := zi_m102) rfl (fun d k => ?_)
  have hS := hW.1
  have ht := hW.2.1.1
  have ha := hA.2
  have hp := hW.2.1.2.1 a hA.2
  have hbd := hW.2.2.2.2.2.2.1
  have hc3 : I 88 56 < 0 → ld 6 < 0 := hW.2.2.2.2.1
  show yi_D zi_Ms d zi_m102 k (0, [(0, .inr (.inr (some 82)))], [], (I, L, R, Y), 0, 0) _
  refine yi_D_run 2 (3, [(0, .inr (.inr (some 82)))], [.inl 9, .inr (.inr (some 82))], (I, L, R, Y), 0, 0) (fun _ => rfl) ?_
  refine yi_D_callv rfl (q_isWord_z (by omega) (by omega) hW hf hA) ?_
  rintro _ (⟨c1, rfl⟩ | ⟨c1, rfl⟩)
  · show yi_D zi_Ms d zi_m102 k (6, [(0, .inr (.inr (some 82)))], [.inl 1], (I, L, R, Y), 0, 0) _
    refine yi_D_if1 true rfl (by decide) ?_
    refine yi_D_run 1 (18, [(0, .inr (.inr (some 82)))], [.inr (.inr (some 82))], (I, L, R, Y), 0, 0) (fun _ => rfl) ?_
    refine yi_D_gr (v := some 88) rfl rfl rfl (ym_S_at hS (j := 5) rfl).1 (fun _ => ?_)
    refine yi_D_run 1 (23, [(0, .inr (.inr (some 82)))], [.inl 56, .inr (.inr (some 88))], (I, L, R, Y), 0, 0) (fun _ => rfl) ?_
    refine yi_D_il (v := I 88 56) rfl rfl rfl (fun _ _ => ?_)
    by_cases h2 : (I 88 56) < 0
    · refine yi_D_if1 true rfl (yi_lt_t h2) ?_
      refine yi_D_run 1 (33, [(0, .inr (.inr (some 82)))], [.inr (.inr (some 82))], (I, L, R, Y), 0, 0) (fun _ => rfl) ?_
      refine yi_D_gi (v := 0) rfl rfl rfl hf (fun _ => ?_)
      refine yi_D_if1 true rfl (by decide) ?_
      refine yi_D_run 2 (42, [(0, .inr (.inr (some 82)))], [.inr (.inr (some 82)), .inr (.inr (some 82))], (I, L, R, Y), 0, 0) (fun _ => rfl) ?_
      refine yi_D_gi (v := (a : Int)) rfl rfl rfl hA.1 (fun _ => ?_)
      refine yi_D_run 1 (46, [(0, .inr (.inr (some 82)))], [.inl 1, .inl (a : Int), .inr (.inr (some 82))], (I, L, R, Y), 0, 0) (fun _ => rfl) ?_
      refine yi_D_iadd rfl ((a : Int) + 1) (yi_wn (by omega) (by omega)) ?_
      refine yi_D_pi rfl (fun _ => ?_)
      generalize w4 : yi_u I 82 7 ((a : Int) + 1) = I3
      have hGn5 : mt_G I I3 := fun p k hp => by rw [← w4, yi_u_ne _ _ (by omega)]
      have hW6 := mt_W_t hW (mt_G_F hGn5)
      have hf7 : I3 82 8 = 0 := by rw [← w4, yi_u_ne _ _ (by omega)]; exact hf
      have hA8 : mt_A I3 te (a + 1) := ⟨by rw [← w4, yi_u_eq]; omega, mt_lt hW6.2.1 hA.2 (by omega)⟩
      refine yi_D_run 1 (51, [(0, .inr (.inr (some 82)))], [.inr (.inr (some 82))], (I3, L, R, Y), 0, 0) (fun _ => rfl) ?_
      refine yi_D_gr (v := some 88) rfl rfl rfl (ym_S_at hS (j := 5) rfl).1 (fun _ => ?_)
      refine yi_D_run 2 (57, [(0, .inr (.inr (some 82)))], [.inr (.inr (some 82)), .inl 56, .inr (.inr (some 88))], (I3, L, R, Y), 0, 0) (fun _ => rfl) ?_
      have r9 : I3 82 13 = I 82 13 := by rw [hGn5 82 13 (by omega)]
      refine yi_D_gi (v := I 82 13) rfl rfl rfl r9 (fun _ => ?_)
      refine yi_D_is rfl (fun _ _ => ?_)
      show yi_D zi_Ms d zi_m102 k (61, [(0, .inr (.inr (some 82)))], [], ((yi_u I3 88 56 (I 82 13)), L, R, Y), 0, 0) _
      generalize w11 : yi_u I3 88 56 (I 82 13) = I10
      have hW12 := mt_W_6 (I' := I10) hW6 (by rw [← w11, yi_u_eq]; exact hW.2.2.2.2.2.2.2.1) (fun p k hp => by rw [← w11, yi_u_ne _ _ (by omega)])
      have hf13 : I10 82 8 = 0 := by rw [← w11, yi_u_ne _ _ (by omega)]; exact hf7
      have hA14 : mt_A I10 te (a + 1) := ⟨by rw [← w11, yi_u_ne _ _ (by omega)]; exact hA8.1, hA8.2⟩
      refine yi_D_run 2 (63, [(0, .inr (.inr (some 82)))], [.inl 0, .inr (.inr (some 82))], (I10, L, R, Y), 0, 0) (fun _ => rfl) ?_
      have hst15 : sp_R K P V (2, a, 0, [], ld, nm, cs) (.inl (8, a + 1, 0, [7, cs.length], ld, nm, cs)) := sp_R_1 (by
        show sp_line K P V a ld nm cs = _
        unfold sp_line; (repeat (first | rw [if_pos (by omega)] | rw [if_neg (by omega)])))
      refine yi_D_callv rfl (q_ors_z 0 [7, cs.length] cs hW12 hf13 hA14 (by omega)) ?_
      rintro _ ⟨I16, rfl, hFr17, (⟨a18, cs19, hR20, lt21, hf22, hA23⟩ | ⟨f24, hR25, hz26, he27⟩)⟩
      · have hW28 := mt_W_t hW12 hFr17
        have hR29 : sp_R K P V (2, a, 0, [], ld, nm, cs) (.inl (1, a18, 0, [], sp_up ld 6 (cs.length : Nat), nm, cs19 ++ [(0, 0)])) := sp_R_s (sp_R_t hst15 hR20) rfl
        show yi_D zi_Ms d zi_m102 k (66, [(0, .inr (.inr (some 82)))], [], (I16, L, R, Y), 0, 0) _
        refine yi_D_run 3 (69, [(0, .inr (.inr (some 82)))], [.inl 0, .inl 0, .inr (.inr (some 82))], (I16, L, R, Y), 0, 0) (fun _ => rfl) ?_
        refine yi_D_callv rfl (q_emit hW28) ?_
        rintro _ ⟨I30, rfl, hE31⟩
        have hW32 := mt_W_t hW28 (mt_E_F hE31)
        have hf33 : I30 82 8 = 0 := (hE31.1 82 8 (by omega)).trans hf22
        have hA34 : mt_A I30 te a18 := ⟨(hE31.1 82 7 (by omega)).trans hA23.1, hA23.2⟩
        show yi_D zi_Ms d zi_m102 k (72, [(0, .inr (.inr (some 82)))], [], (I30, L, R, Y), 0, 0) _
        refine yi_D_retv rfl ?_
        have hstep := hR29
        have h56 : 0 ≤ I30 88 56 := by rw [((mt_E_F hE31)).1 88 56 (by omega), (hFr17).1 88 56 (by omega), ← w11, yi_u_eq]; exact hW.2.2.2.2.2.2.2.1
        have hW35 := mt_W_6u hW32 h56 (cs.length : Nat)
        exact ⟨_, _, rfl, Or.inl ⟨_, _, _, _, hstep, by omega, hf33, hA34, hW35, (by (repeat rw [sp_up_n _ _ (by omega)]); exact hd0), (fun x => by rw [sp_up_e] at x; omega)⟩⟩
      · have hW36 := mt_W_t hW12 hFr17
        have hn37 : 0 < I16 82 8 := by rw [he27]; exact hz26
        have hx38 : sp_R K P V (2, a, 0, [], ld, nm, cs) (.inr f24) := sp_R_t hst15 hR25
        show yi_D zi_Ms d zi_m102 k (66, [(0, .inr (.inr (some 82)))], [], (I16, L, R, Y), 0, 0) _
        refine yi_D_run 3 (69, [(0, .inr (.inr (some 82)))], [.inl 0, .inl 0, .inr (.inr (some 82))], (I16, L, R, Y), 0, 0) (fun _ => rfl) ?_
        refine yi_D_callv rfl (q_emit hW36) ?_
        rintro _ ⟨I39, rfl, hE40⟩
        have hW41 := mt_W_t hW36 (mt_E_F hE40)
        have hf42 : 0 < I39 82 8 := by rw [hE40.1 82 8 (by omega)]; exact hn37
        have he43 := (hE40.1 82 8 (by omega)).trans he27
        show yi_D zi_Ms d zi_m102 k (72, [(0, .inr (.inr (some 82)))], [], (I39, L, R, Y), 0, 0) _
        refine yi_D_retv rfl ?_
        exact ⟨_, _, rfl, Or.inr ⟨_, hx38, hz26, he43⟩⟩
    · refine yi_D_if1 false rfl (yi_lt_f h2) ?_
      refine yi_D_run 2 (29, [(0, .inr (.inr (some 82)))], [.inl 3, .inr (.inr (some 82))], (I, L, R, Y), 0, 0) (fun _ => rfl) ?_
      refine yi_D_callv rfl (q_wrong_z ⟨by omega, by omega⟩ hW hf hA) ?_
      rintro _ ⟨I44, rfl, hg45, he46⟩
      have hGw47 : mt_G I I44 := fun p k hp => hg45 p k (by omega)
      have hW48 := mt_W_t hW (mt_G_F hGw47)
      have hz49 : 0 < sp_f P a 3 := mt_f_ne hW hA.2 (by omega)
      have hn50 : 0 < I44 82 8 := by rw [he46]; exact hz49
      have hx51 : sp_R K P V (2, a, 0, [], ld, nm, cs) (.inr (sp_f P a 3)) := sp_R_1 (by
        show sp_line K P V a ld nm cs = _
        first
        | (exfalso; omega)
        | (unfold sp_line; (repeat (first | rw [if_pos (by omega)] | rw [if_neg (by omega)])); done))
      show yi_D zi_Ms d zi_m102 k (32, [(0, .inr (.inr (some 82)))], [], (I44, L, R, Y), 0, 0) _
      refine yi_D_run 1 (33, [(0, .inr (.inr (some 82)))], [.inr (.inr (some 82))], (I44, L, R, Y), 0, 0) (fun _ => rfl) ?_
      refine yi_D_gi (v := I44 82 8) rfl rfl rfl rfl (fun _ => ?_)
      have h52 : ¬ ((I44 82 8) ≤ 0) := by omega
      refine yi_D_if1 false rfl (yi_le_f h52) ?_
      refine yi_D_retv rfl ?_
      exact ⟨_, _, rfl, Or.inr ⟨_, hx51, hz49, he46⟩⟩
  · show yi_D zi_Ms d zi_m102 k (6, [(0, .inr (.inr (some 82)))], [.inl 0], (I, L, R, Y), 0, 0) _
    refine yi_D_if1 false rfl (by decide) ?_
    refine yi_D_run 2 (11, [(0, .inr (.inr (some 82)))], [.inl 1, .inr (.inr (some 82))], (I, L, R, Y), 0, 0) (fun _ => rfl) ?_
    refine yi_D_callv rfl (q_wrong_z ⟨by omega, by omega⟩ hW hf hA) ?_
    rintro _ ⟨I53, rfl, hg54, he55⟩
    have hGw56 : mt_G I I53 := fun p k hp => hg54 p k (by omega)
    have hW57 := mt_W_t hW (mt_G_F hGw56)
    have hz58 : 0 < sp_f P a 1 := mt_f_ne hW hA.2 (by omega)
    have hn59 : 0 < I53 82 8 := by rw [he55]; exact hz58
    have hx60 : sp_R K P V (2, a, 0, [], ld, nm, cs) (.inr (sp_f P a 1)) := sp_R_1 (by
      show sp_line K P V a ld nm cs = _
      first
      | (exfalso; omega)
      | (unfold sp_line; (repeat (first | rw [if_pos (by omega)] | rw [if_neg (by omega)])); done))
    show yi_D zi_Ms d zi_m102 k (14, [(0, .inr (.inr (some 82)))], [], (I53, L, R, Y), 0, 0) _
    refine yi_D_run 2 (33, [(0, .inr (.inr (some 82)))], [.inr (.inr (some 82))], (I53, L, R, Y), 0, 0) (fun _ => rfl) ?_
    refine yi_D_gi (v := I53 82 8) rfl rfl rfl rfl (fun _ => ?_)
    have h61 : ¬ ((I53 82 8) ≤ 0) := by omega
    refine yi_D_if1 false rfl (yi_le_f h61) ?_
    refine yi_D_retv rfl ?_
    exact ⟨_, _, rfl, Or.inr ⟨_, hx60, hz58, he55⟩⟩
theorem q_readLine {d : Nat} {I L : Nat → Nat → Int} {R : Nat → Nat → Option Nat} {Y : (Nat → Nat) × (Nat → Nat) × Nat} {K P V : Nat → Int} {te a : Nat} {ld : Nat → Int} {nm : Int → Int} (hW : mt_W I L R Y K P V te 50 ld nm) (hf : I 82 8 = 0) (hA : mt_A I te a) (cs : List (Int × Int)) (hd0 : 1 ≤ ld 0) (h6 : ld 6 < 0 → I 88 56 < 0) (hk : ¬ K a = 0) : yi_P zi_Ms d 99 [.inr (.inr (some 82))] (I, L, R, Y) (mt_QL I L R Y K P V te (2, a, 0, [], ld, nm, cs) a) := by
  refine yi_P_of (M := zi_m99) rfl (fun d k => ?_)
  have hS := hW.1
  have ht := hW.2.1.1
  have ha := hA.2
  have hp := hW.2.1.2.1 a hA.2
  have hbd := hW.2.2.2.2.2.2.1
  have hc3 : I 88 56 < 0 → ld 6 < 0 := hW.2.2.2.2.1
  show yi_D zi_Ms d zi_m99 k (0, [(0, .inr (.inr (some 82)))], [], (I, L, R, Y), 0, 0) _
  refine yi_D_run 2 (2, [(0, .inr (.inr (some 82)))], [.inl 1, .inr (.inr (some 82))], (I, L, R, Y), 0, 0) (fun _ => rfl) ?_
  refine yi_D_callv rfl (q_isWord_z (by omega) (by omega) hW hf hA) ?_
  rintro _ (⟨c1, rfl⟩ | ⟨c1, rfl⟩)
  · show yi_D zi_Ms d zi_m99 k (5, [(0, .inr (.inr (some 82)))], [.inl 1], (I, L, R, Y), 0, 0) _
    refine yi_D_if1 false rfl (by decide) ?_
    refine yi_D_run 1 (9, [(0, .inr (.inr (some 82)))], [.inr (.inr (some 82))], (I, L, R, Y), 0, 0) (fun _ => rfl) ?_
    refine yi_D_callv rfl (q_readPerson hW hf hA cs hd0 h6 (by omega)) ?_
    rintro _ ⟨I2, L3, rfl, hq4⟩
    show yi_D zi_Ms d zi_m99 k (12, [(0, .inr (.inr (some 82)))], [], (I2, L3, R, Y), 0, 0) _
    refine yi_D_run 1 (81, [(0, .inr (.inr (some 82)))], [], (I2, L3, R, Y), 0, 0) (fun _ => rfl) ?_
    refine yi_D_retv rfl ?_
    exact ⟨_, _, rfl, hq4⟩
  · show yi_D zi_Ms d zi_m99 k (5, [(0, .inr (.inr (some 82)))], [.inl 0], (I, L, R, Y), 0, 0) _
    refine yi_D_if1 true rfl (by decide) ?_
    refine yi_D_run 2 (17, [(0, .inr (.inr (some 82)))], [.inl 3, .inr (.inr (some 82))], (I, L, R, Y), 0, 0) (fun _ => rfl) ?_
    refine yi_D_callv rfl (q_isWord_z (by omega) (by omega) hW hf hA) ?_
    rintro _ (⟨c5, rfl⟩ | ⟨c5, rfl⟩)
    · show yi_D zi_Ms d zi_m99 k (20, [(0, .inr (.inr (some 82)))], [.inl 1], (I, L, R, Y), 0, 0) _
      refine yi_D_if1 false rfl (by decide) ?_
      refine yi_D_run 1 (24, [(0, .inr (.inr (some 82)))], [.inr (.inr (some 82))], (I, L, R, Y), 0, 0) (fun _ => rfl) ?_
      refine yi_D_callv rfl (q_readEvent hW hf hA cs hd0 h6 (by omega)) ?_
      rintro _ ⟨I6, L7, rfl, hq8⟩
      show yi_D zi_Ms d zi_m99 k (27, [(0, .inr (.inr (some 82)))], [], (I6, L7, R, Y), 0, 0) _
      refine yi_D_run 1 (81, [(0, .inr (.inr (some 82)))], [], (I6, L7, R, Y), 0, 0) (fun _ => rfl) ?_
      refine yi_D_retv rfl ?_
      exact ⟨_, _, rfl, hq8⟩
    · show yi_D zi_Ms d zi_m99 k (20, [(0, .inr (.inr (some 82)))], [.inl 0], (I, L, R, Y), 0, 0) _
      refine yi_D_if1 true rfl (by decide) ?_
      refine yi_D_run 2 (32, [(0, .inr (.inr (some 82)))], [.inl 4, .inr (.inr (some 82))], (I, L, R, Y), 0, 0) (fun _ => rfl) ?_
      refine yi_D_callv rfl (q_isWord_z (by omega) (by omega) hW hf hA) ?_
      rintro _ (⟨c9, rfl⟩ | ⟨c9, rfl⟩)
      · show yi_D zi_Ms d zi_m99 k (35, [(0, .inr (.inr (some 82)))], [.inl 1], (I, L, R, Y), 0, 0) _
        refine yi_D_if1 false rfl (by decide) ?_
        refine yi_D_run 1 (39, [(0, .inr (.inr (some 82)))], [.inr (.inr (some 82))], (I, L, R, Y), 0, 0) (fun _ => rfl) ?_
        refine yi_D_callv rfl (q_readProphet hW hf hA cs hd0 h6 (by omega)) ?_
        rintro _ ⟨I10, L11, rfl, hq12⟩
        show yi_D zi_Ms d zi_m99 k (42, [(0, .inr (.inr (some 82)))], [], (I10, L11, R, Y), 0, 0) _
        refine yi_D_run 1 (81, [(0, .inr (.inr (some 82)))], [], (I10, L11, R, Y), 0, 0) (fun _ => rfl) ?_
        refine yi_D_retv rfl ?_
        exact ⟨_, _, rfl, hq12⟩
      · show yi_D zi_Ms d zi_m99 k (35, [(0, .inr (.inr (some 82)))], [.inl 0], (I, L, R, Y), 0, 0) _
        refine yi_D_if1 true rfl (by decide) ?_
        refine yi_D_run 2 (48, [(0, .inr (.inr (some 82)))], [.inl 6, .inr (.inr (some 82))], (I, L, R, Y), 0, 0) (fun _ => rfl) ?_
        refine yi_D_callv rfl (q_isWord_z (by omega) (by omega) hW hf hA) ?_
        rintro _ (⟨c13, rfl⟩ | ⟨c13, rfl⟩)
        · show yi_D zi_Ms d zi_m99 k (51, [(0, .inr (.inr (some 82)))], [.inl 1], (I, L, R, Y), 0, 0) _
          refine yi_D_if1 false rfl (by decide) ?_
          refine yi_D_run 1 (55, [(0, .inr (.inr (some 82)))], [.inr (.inr (some 82))], (I, L, R, Y), 0, 0) (fun _ => rfl) ?_
          refine yi_D_callv rfl (q_readLaw hW hf hA cs hd0 h6 (by omega)) ?_
          rintro _ ⟨I14, L15, rfl, hq16⟩
          show yi_D zi_Ms d zi_m99 k (58, [(0, .inr (.inr (some 82)))], [], (I14, L15, R, Y), 0, 0) _
          refine yi_D_run 1 (81, [(0, .inr (.inr (some 82)))], [], (I14, L15, R, Y), 0, 0) (fun _ => rfl) ?_
          refine yi_D_retv rfl ?_
          exact ⟨_, _, rfl, hq16⟩
        · show yi_D zi_Ms d zi_m99 k (51, [(0, .inr (.inr (some 82)))], [.inl 0], (I, L, R, Y), 0, 0) _
          refine yi_D_if1 true rfl (by decide) ?_
          refine yi_D_run 2 (64, [(0, .inr (.inr (some 82)))], [.inl 7, .inr (.inr (some 82))], (I, L, R, Y), 0, 0) (fun _ => rfl) ?_
          refine yi_D_callv rfl (q_isWord_z (by omega) (by omega) hW hf hA) ?_
          rintro _ (⟨c17, rfl⟩ | ⟨c17, rfl⟩)
          · show yi_D zi_Ms d zi_m99 k (67, [(0, .inr (.inr (some 82)))], [.inl 1], (I, L, R, Y), 0, 0) _
            refine yi_D_if1 false rfl (by decide) ?_
            refine yi_D_run 1 (71, [(0, .inr (.inr (some 82)))], [.inr (.inr (some 82))], (I, L, R, Y), 0, 0) (fun _ => rfl) ?_
            refine yi_D_callv rfl (q_readWish hW hf hA cs hd0 h6 (by omega)) ?_
            rintro _ ⟨I18, L19, rfl, hq20⟩
            show yi_D zi_Ms d zi_m99 k (74, [(0, .inr (.inr (some 82)))], [], (I18, L19, R, Y), 0, 0) _
            refine yi_D_run 1 (81, [(0, .inr (.inr (some 82)))], [], (I18, L19, R, Y), 0, 0) (fun _ => rfl) ?_
            refine yi_D_retv rfl ?_
            exact ⟨_, _, rfl, hq20⟩
          · show yi_D zi_Ms d zi_m99 k (67, [(0, .inr (.inr (some 82)))], [.inl 0], (I, L, R, Y), 0, 0) _
            refine yi_D_if1 true rfl (by decide) ?_
            refine yi_D_run 1 (78, [(0, .inr (.inr (some 82)))], [.inr (.inr (some 82))], (I, L, R, Y), 0, 0) (fun _ => rfl) ?_
            refine yi_D_callv rfl (q_readPrice hW hf hA cs hd0 h6 (by omega)) ?_
            rintro _ ⟨I21, L22, rfl, hq23⟩
            show yi_D zi_Ms d zi_m99 k (81, [(0, .inr (.inr (some 82)))], [], (I21, L22, R, Y), 0, 0) _
            refine yi_D_retv rfl ?_
            exact ⟨_, _, rfl, hq23⟩
