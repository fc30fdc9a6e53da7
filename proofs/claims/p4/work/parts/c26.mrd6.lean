/-! The check reader: terms, formulas, prices. -/
theorem sp_st4a {K P V : Nat → Int} {a dp ef : Nat} {sk : List Nat} {ld : Nat → Int} {nm : Int → Int} {cs : List (Int × Int)} (h : ef = 10 ∨ ef = 11) : sp_step K P V (4, a, dp, ef :: sk, ld, nm, cs) = .inl (5, a, dp, ef :: sk, ld, nm, cs) := by
  rcases h with rfl | rfl <;> rfl
theorem q_readTerm_s {d : Nat} {I L : Nat → Nat → Int} {R : Nat → Nat → Option Nat} {Y : (Nat → Nat) × (Nat → Nat) × Nat} (hRI : mt_RI d) {K P V : Nat → Int} {te b a : Nat} {ld : Nat → Int} {nm : Int → Int} (hW : mt_W I L R Y K P V te b ld nm) (hf : I 82 8 = 0) (hA : mt_A I te a) (dp : Nat) (sk : List Nat) (cs : List (Int × Int)) (hd : dp ≤ 5) (ef : Nat) (hef : ef = 10 ∨ ef = 11) : yi_P zi_Ms (d + 1) 104 [.inr (.inr (some 82)), .inl (dp : Int)] (I, L, R, Y) (mt_QR I L R Y K P V te (3, a, dp, (ef :: sk), ld, nm, cs) 6 a dp sk ld nm) := by
  refine yi_P_s (M := zi_m104) rfl (fun k => ?_)
  have hS := hW.1
  have ht := hW.2.1.1
  have ha := hA.2
  have hp := hW.2.1.2.1 a hA.2
  show yi_D zi_Ms d zi_m104 k (0, [(0, .inr (.inr (some 82))), (1, .inl (dp : Int))], [], (I, L, R, Y), 0, 0) _
  refine yi_D_run 2 (2, [(0, .inr (.inr (some 82))), (1, .inl (dp : Int))], [.inl (dp : Int), .inr (.inr (some 82))], (I, L, R, Y), 0, 0) (fun _ => rfl) ?_
  refine yi_D_callv rfl (hRI dp (ef :: sk) cs hW hf hA (by omega)) ?_
  rintro _ ⟨I1, rfl, hFr2, (⟨a3, cs4, hR5, lt6, hf7, hA8⟩ | ⟨f9, hR10, hz11, he12⟩)⟩
  · have hW13 := mt_W_t hW hFr2
    have hF14 := hFr2
    have hR15 : sp_R K P V (3, a, dp, (ef :: sk), ld, nm, cs) (.inl (5, a3, dp, ef :: sk, ld, nm, cs4)) := sp_R_s hR5 (sp_st4a hef)
    show yi_D zi_Ms d zi_m104 k (5, [(0, .inr (.inr (some 82))), (1, .inl (dp : Int))], [], (I1, L, R, Y), 0, 0) _
    have pt5 : ∀ j5, j5 ≤ k → ∀ (J1 : Nat → Nat → Int) (a1 : Nat) (cs1 : List (Int × Int)), (a < a1) → (mt_F I J1) → (J1 82 8 = 0) → (mt_A J1 te a1) → (sp_R K P V (3, a, dp, (ef :: sk), ld, nm, cs) (.inl (5, a1, dp, ef :: sk, ld, nm, cs1))) → yi_D zi_Ms d zi_m104 j5 (5, [(0, .inr (.inr (some 82))), (1, .inl (dp : Int))], [], (J1, L, R, Y), 0, 0) (mt_QR I L R Y K P V te (3, a, dp, (ef :: sk), ld, nm, cs) 6 a dp sk ld nm) := by
      intro j5
      induction j5 with
      | zero => intros; exact yi_D_0
      | succ j5 ih5 =>
      intro hk5 J1 a1 cs1 lt9 hF9 hf9 hA9 hR9
      have hW9 := mt_W_t hW hF9
      have hle9 := hA9.2
      have hte9 := hW.2.1.1
      refine yi_D_run1 1 (8, [(0, .inr (.inr (some 82))), (1, .inl (dp : Int))], [.inl 27, .inr (.inr (some 82))], (J1, L, R, Y), 0, 0) (fun _ => rfl) ?_
      refine yi_D_callv rfl (q_hasWord_z (by omega) (by omega) hW9 hf9 hA9) ?_
      rintro _ (⟨c16, I17, rfl, hGa18, hf19, hA20⟩ | ⟨c21, I22, rfl, hGa23, hf24, hA25⟩)
      · have hA20 : mt_A I17 te (a1 + 1) := hA20
        have hW26 := mt_W_t hW9 (mt_G_F hGa18)
        have hF27 := mt_F_t hF9 (mt_G_F hGa18)
        show yi_D zi_Ms d zi_m104 j5 (11, [(0, .inr (.inr (some 82))), (1, .inl (dp : Int))], [.inl 1], (I17, L, R, Y), 0, 0) _
        refine yi_D_if1 false rfl (by decide) ?_
        refine yi_D_run 2 (16, [(0, .inr (.inr (some 82))), (1, .inl (dp : Int))], [.inl (dp : Int), .inr (.inr (some 82))], (I17, L, R, Y), 0, 0) (fun _ => rfl) ?_
        have hst28 : sp_R K P V (3, a, dp, (ef :: sk), ld, nm, cs) (.inl (3, a1 + 1, dp, (ef + 2) :: sk, ld, nm, cs1)) := sp_R_s hR9 (by
          show (if K a1 = 31 then _ else _) = _
          rw [if_pos (by omega)])
        refine yi_D_callv rfl (hRI dp ((ef + 2) :: sk) cs1 hW26 hf19 hA20 (by omega)) ?_
        rintro _ ⟨I29, rfl, hFr30, (⟨a31, cs32, hR33, lt34, hf35, hA36⟩ | ⟨f37, hR38, hz39, he40⟩)⟩
        · have hW41 := mt_W_t hW26 hFr30
          have hF42 := mt_F_t hF27 hFr30
          have hR43 : sp_R K P V (3, a, dp, (ef :: sk), ld, nm, cs) (.inl (5, a31, dp, ef :: sk, ld, nm, cs32 ++ [(9, 0)])) := sp_R_s (sp_R_t hst28 hR33) (sp_st4 hef)
          show yi_D zi_Ms d zi_m104 j5 (19, [(0, .inr (.inr (some 82))), (1, .inl (dp : Int))], [], (I29, L, R, Y), 0, 0) _
          refine yi_D_run 3 (23, [(0, .inr (.inr (some 82))), (1, .inl (dp : Int))], [.inl 0, .inl 9, .inr (.inr (some 82))], (I29, L, R, Y), 0, 0) (fun _ => rfl) ?_
          refine yi_D_callv rfl (q_emit hW41) ?_
          rintro _ ⟨I44, rfl, hE45⟩
          have hW46 := mt_W_t hW41 (mt_E_F hE45)
          have hF47 := mt_F_t hF42 (mt_E_F hE45)
          have hf48 : I44 82 8 = 0 := (hE45.1 82 8 (by omega)).trans hf35
          have hA49 : mt_A I44 te a31 := ⟨(hE45.1 82 7 (by omega)).trans hA36.1, hA36.2⟩
          show yi_D zi_Ms d zi_m104 j5 (26, [(0, .inr (.inr (some 82))), (1, .inl (dp : Int))], [], (I44, L, R, Y), 0, 0) _
          refine yi_D_run 1 (5, [(0, .inr (.inr (some 82))), (1, .inl (dp : Int))], [], (I44, L, R, Y), 0, 0) (fun _ => rfl) ?_
          exact yi_D_mono (ih5 (by omega) I44 a31 (cs32 ++ [(9, 0)]) (by omega) hF47 hf48 hA49 hR43) (by omega)
        · have hW50 := mt_W_t hW26 hFr30
          have hF51 := mt_F_t hF27 hFr30
          have hn52 : 0 < I29 82 8 := by rw [he40]; exact hz39
          have hx53 : sp_R K P V (3, a, dp, (ef :: sk), ld, nm, cs) (.inr f37) := sp_R_t hst28 hR38
          show yi_D zi_Ms d zi_m104 j5 (19, [(0, .inr (.inr (some 82))), (1, .inl (dp : Int))], [], (I29, L, R, Y), 0, 0) _
          refine yi_D_run 3 (23, [(0, .inr (.inr (some 82))), (1, .inl (dp : Int))], [.inl 0, .inl 9, .inr (.inr (some 82))], (I29, L, R, Y), 0, 0) (fun _ => rfl) ?_
          refine yi_D_callv rfl (q_emit hW50) ?_
          rintro _ ⟨I54, rfl, hE55⟩
          have hW56 := mt_W_t hW50 (mt_E_F hE55)
          have hF57 := mt_F_t hF51 (mt_E_F hE55)
          have hf58 : 0 < I54 82 8 := by rw [hE55.1 82 8 (by omega)]; exact hn52
          have he59 := (hE55.1 82 8 (by omega)).trans he40
          show yi_D zi_Ms d zi_m104 j5 (26, [(0, .inr (.inr (some 82))), (1, .inl (dp : Int))], [], (I54, L, R, Y), 0, 0) _
          refine yi_D_run 1 (5, [(0, .inr (.inr (some 82))), (1, .inl (dp : Int))], [], (I54, L, R, Y), 0, 0) (fun _ => rfl) ?_
          refine yi_D_run 2 (8, [(0, .inr (.inr (some 82))), (1, .inl (dp : Int))], [.inl 27, .inr (.inr (some 82))], (I54, L, R, Y), 0, 0) (fun _ => rfl) ?_
          refine yi_D_callv rfl (q_hasWord_f hW56 hf58) ?_
          rintro _ ⟨I60, rfl, hGa61, hq62⟩
          have hW63 := mt_W_t hW56 (mt_G_F hGa61)
          have hF64 := mt_F_t hF57 (mt_G_F hGa61)
          have hf65 : 0 < I60 82 8 := by rw [hq62]; exact hf58
          have he66 := hq62.trans he59
          show yi_D zi_Ms d zi_m104 j5 (11, [(0, .inr (.inr (some 82))), (1, .inl (dp : Int))], [.inl 0], (I60, L, R, Y), 0, 0) _
          refine yi_D_if1 true rfl (by decide) ?_
          refine yi_D_retv rfl ?_
          exact ⟨_, rfl, hF64, Or.inr ⟨_, hx53, hz39, he66⟩⟩
      · have hA25 : mt_A I22 te a1 := hA25
        have hW67 := mt_W_t hW9 (mt_G_F hGa23)
        have hF68 := mt_F_t hF9 (mt_G_F hGa23)
        show yi_D zi_Ms d zi_m104 j5 (11, [(0, .inr (.inr (some 82))), (1, .inl (dp : Int))], [.inl 0], (I22, L, R, Y), 0, 0) _
        refine yi_D_if1 true rfl (by decide) ?_
        refine yi_D_retv rfl ?_
        have hst6 : sp_R K P V (3, a, dp, (ef :: sk), ld, nm, cs) (.inl (6, a1, dp, sk, ld, nm, if ef = 11 then cs1 ++ [(10, 0)] else cs1)) := sp_R_s hR9 (by
          show (if K a1 = 31 then _ else _) = _
          rw [if_neg (by omega)])
        exact ⟨_, rfl, hF68, Or.inl ⟨_, _, hst6, by omega, hf24, hA25⟩⟩
    exact pt5 k (Nat.le_refl _) I1 a3 cs4 (by omega) hF14 hf7 hA8 hR15
  · have hW69 := mt_W_t hW hFr2
    have hF70 := hFr2
    have hn71 : 0 < I1 82 8 := by rw [he12]; exact hz11
    have hx72 : sp_R K P V (3, a, dp, (ef :: sk), ld, nm, cs) (.inr f9) := hR10
    show yi_D zi_Ms d zi_m104 k (5, [(0, .inr (.inr (some 82))), (1, .inl (dp : Int))], [], (I1, L, R, Y), 0, 0) _
    refine yi_D_run 2 (8, [(0, .inr (.inr (some 82))), (1, .inl (dp : Int))], [.inl 27, .inr (.inr (some 82))], (I1, L, R, Y), 0, 0) (fun _ => rfl) ?_
    refine yi_D_callv rfl (q_hasWord_f hW69 hn71) ?_
    rintro _ ⟨I73, rfl, hGa74, hq75⟩
    have hW76 := mt_W_t hW69 (mt_G_F hGa74)
    have hF77 := mt_F_t hF70 (mt_G_F hGa74)
    have hf78 : 0 < I73 82 8 := by rw [hq75]; exact hn71
    have he79 := hq75.trans he12
    show yi_D zi_Ms d zi_m104 k (11, [(0, .inr (.inr (some 82))), (1, .inl (dp : Int))], [.inl 0], (I73, L, R, Y), 0, 0) _
    refine yi_D_if1 true rfl (by decide) ?_
    refine yi_D_retv rfl ?_
    exact ⟨_, rfl, hF77, Or.inr ⟨_, hx72, hz11, he79⟩⟩
theorem q_readFormula_s {d : Nat} {I L : Nat → Nat → Int} {R : Nat → Nat → Option Nat} {Y : (Nat → Nat) × (Nat → Nat) × Nat} (hRT : mt_RT d) {K P V : Nat → Int} {te b a : Nat} {ld : Nat → Int} {nm : Int → Int} (hW : mt_W I L R Y K P V te b ld nm) (hf : I 82 8 = 0) (hA : mt_A I te a) (dp : Nat) (sk : List Nat) (cs : List (Int × Int)) (hd : dp ≤ 5) : yi_P zi_Ms (d + 1) 96 [.inr (.inr (some 82)), .inl (dp : Int)] (I, L, R, Y) (mt_QR I L R Y K P V te (3, a, dp, (10 :: sk), ld, nm, cs) 7 a dp sk ld nm) := by
  refine yi_P_s (M := zi_m96) rfl (fun k => ?_)
  have hS := hW.1
  have ht := hW.2.1.1
  have ha := hA.2
  have hp := hW.2.1.2.1 a hA.2
  show yi_D zi_Ms d zi_m96 k (0, [(0, .inr (.inr (some 82))), (1, .inl (dp : Int))], [], (I, L, R, Y), 0, 0) _
  refine yi_D_run 2 (2, [(0, .inr (.inr (some 82))), (1, .inl (dp : Int))], [.inl (dp : Int), .inr (.inr (some 82))], (I, L, R, Y), 0, 0) (fun _ => rfl) ?_
  refine yi_D_callv rfl (hRT dp sk cs hW hf hA (by omega) 10 (Or.inl rfl)) ?_
  rintro _ ⟨I1, rfl, hFr2, (⟨a3, cs4, hR5, lt6, hf7, hA8⟩ | ⟨f9, hR10, hz11, he12⟩)⟩
  · have hW13 := mt_W_t hW hFr2
    have hF14 := hFr2
    have hR15 := hR5
    show yi_D zi_Ms d zi_m96 k (5, [(0, .inr (.inr (some 82))), (1, .inl (dp : Int))], [], (I1, L, R, Y), 0, 0) _
    have pt5 : ∀ j5, j5 ≤ k → ∀ (J1 : Nat → Nat → Int) (a1 : Nat) (cs1 : List (Int × Int)), (a < a1) → (mt_F I J1) → (J1 82 8 = 0) → (mt_A J1 te a1) → (sp_R K P V (3, a, dp, (10 :: sk), ld, nm, cs) (.inl (6, a1, dp, sk, ld, nm, cs1))) → yi_D zi_Ms d zi_m96 j5 (5, [(0, .inr (.inr (some 82))), (1, .inl (dp : Int))], [], (J1, L, R, Y), 0, 0) (mt_QR I L R Y K P V te (3, a, dp, (10 :: sk), ld, nm, cs) 7 a dp sk ld nm) := by
      intro j5
      induction j5 with
      | zero => intros; exact yi_D_0
      | succ j5 ih5 =>
      intro hk5 J1 a1 cs1 lt9 hF9 hf9 hA9 hR9
      have hW9 := mt_W_t hW hF9
      have hle9 := hA9.2
      have hte9 := hW.2.1.1
      refine yi_D_run1 1 (8, [(0, .inr (.inr (some 82))), (1, .inl (dp : Int))], [.inl 28, .inr (.inr (some 82))], (J1, L, R, Y), 0, 0) (fun _ => rfl) ?_
      refine yi_D_callv rfl (q_hasWord_z (by omega) (by omega) hW9 hf9 hA9) ?_
      rintro _ (⟨c16, I17, rfl, hGa18, hf19, hA20⟩ | ⟨c21, I22, rfl, hGa23, hf24, hA25⟩)
      · have hA20 : mt_A I17 te (a1 + 1) := hA20
        have hW26 := mt_W_t hW9 (mt_G_F hGa18)
        have hF27 := mt_F_t hF9 (mt_G_F hGa18)
        show yi_D zi_Ms d zi_m96 j5 (11, [(0, .inr (.inr (some 82))), (1, .inl (dp : Int))], [.inl 1], (I17, L, R, Y), 0, 0) _
        refine yi_D_if1 false rfl (by decide) ?_
        refine yi_D_run 2 (16, [(0, .inr (.inr (some 82))), (1, .inl (dp : Int))], [.inl (dp : Int), .inr (.inr (some 82))], (I17, L, R, Y), 0, 0) (fun _ => rfl) ?_
        have hst28 : sp_R K P V (3, a, dp, (10 :: sk), ld, nm, cs) (.inl (3, a1 + 1, dp, 11 :: sk, ld, nm, cs1)) := sp_R_s hR9 (by
          show (if K a1 = 32 then _ else _) = _
          rw [if_pos (by omega)])
        refine yi_D_callv rfl (hRT dp sk cs1 hW26 hf19 hA20 (by omega) 11 (Or.inr rfl)) ?_
        rintro _ ⟨I29, rfl, hFr30, (⟨a31, cs32, hR33, lt34, hf35, hA36⟩ | ⟨f37, hR38, hz39, he40⟩)⟩
        · have hW41 := mt_W_t hW26 hFr30
          have hF42 := mt_F_t hF27 hFr30
          have hR43 := sp_R_t hst28 hR33
          show yi_D zi_Ms d zi_m96 j5 (19, [(0, .inr (.inr (some 82))), (1, .inl (dp : Int))], [], (I29, L, R, Y), 0, 0) _
          refine yi_D_run 3 (23, [(0, .inr (.inr (some 82))), (1, .inl (dp : Int))], [.inl 0, .inl 10, .inr (.inr (some 82))], (I29, L, R, Y), 0, 0) (fun _ => rfl) ?_
          refine yi_D_callv rfl (q_emit hW41) ?_
          rintro _ ⟨I44, rfl, hE45⟩
          have hW46 := mt_W_t hW41 (mt_E_F hE45)
          have hF47 := mt_F_t hF42 (mt_E_F hE45)
          have hf48 : I44 82 8 = 0 := (hE45.1 82 8 (by omega)).trans hf35
          have hA49 : mt_A I44 te a31 := ⟨(hE45.1 82 7 (by omega)).trans hA36.1, hA36.2⟩
          show yi_D zi_Ms d zi_m96 j5 (26, [(0, .inr (.inr (some 82))), (1, .inl (dp : Int))], [], (I44, L, R, Y), 0, 0) _
          refine yi_D_run 1 (5, [(0, .inr (.inr (some 82))), (1, .inl (dp : Int))], [], (I44, L, R, Y), 0, 0) (fun _ => rfl) ?_
          exact yi_D_mono (ih5 (by omega) I44 a31 cs32 (by omega) hF47 hf48 hA49 hR43) (by omega)
        · have hW50 := mt_W_t hW26 hFr30
          have hF51 := mt_F_t hF27 hFr30
          have hn52 : 0 < I29 82 8 := by rw [he40]; exact hz39
          have hx53 : sp_R K P V (3, a, dp, (10 :: sk), ld, nm, cs) (.inr f37) := sp_R_t hst28 hR38
          show yi_D zi_Ms d zi_m96 j5 (19, [(0, .inr (.inr (some 82))), (1, .inl (dp : Int))], [], (I29, L, R, Y), 0, 0) _
          refine yi_D_run 3 (23, [(0, .inr (.inr (some 82))), (1, .inl (dp : Int))], [.inl 0, .inl 10, .inr (.inr (some 82))], (I29, L, R, Y), 0, 0) (fun _ => rfl) ?_
          refine yi_D_callv rfl (q_emit hW50) ?_
          rintro _ ⟨I54, rfl, hE55⟩
          have hW56 := mt_W_t hW50 (mt_E_F hE55)
          have hF57 := mt_F_t hF51 (mt_E_F hE55)
          have hf58 : 0 < I54 82 8 := by rw [hE55.1 82 8 (by omega)]; exact hn52
          have he59 := (hE55.1 82 8 (by omega)).trans he40
          show yi_D zi_Ms d zi_m96 j5 (26, [(0, .inr (.inr (some 82))), (1, .inl (dp : Int))], [], (I54, L, R, Y), 0, 0) _
          refine yi_D_run 1 (5, [(0, .inr (.inr (some 82))), (1, .inl (dp : Int))], [], (I54, L, R, Y), 0, 0) (fun _ => rfl) ?_
          refine yi_D_run 2 (8, [(0, .inr (.inr (some 82))), (1, .inl (dp : Int))], [.inl 28, .inr (.inr (some 82))], (I54, L, R, Y), 0, 0) (fun _ => rfl) ?_
          refine yi_D_callv rfl (q_hasWord_f hW56 hf58) ?_
          rintro _ ⟨I60, rfl, hGa61, hq62⟩
          have hW63 := mt_W_t hW56 (mt_G_F hGa61)
          have hF64 := mt_F_t hF57 (mt_G_F hGa61)
          have hf65 : 0 < I60 82 8 := by rw [hq62]; exact hf58
          have he66 := hq62.trans he59
          show yi_D zi_Ms d zi_m96 j5 (11, [(0, .inr (.inr (some 82))), (1, .inl (dp : Int))], [.inl 0], (I60, L, R, Y), 0, 0) _
          refine yi_D_if1 true rfl (by decide) ?_
          refine yi_D_retv rfl ?_
          exact ⟨_, rfl, hF64, Or.inr ⟨_, hx53, hz39, he66⟩⟩
      · have hA25 : mt_A I22 te a1 := hA25
        have hW67 := mt_W_t hW9 (mt_G_F hGa23)
        have hF68 := mt_F_t hF9 (mt_G_F hGa23)
        show yi_D zi_Ms d zi_m96 j5 (11, [(0, .inr (.inr (some 82))), (1, .inl (dp : Int))], [.inl 0], (I22, L, R, Y), 0, 0) _
        refine yi_D_if1 true rfl (by decide) ?_
        refine yi_D_retv rfl ?_
        have hst7 : sp_R K P V (3, a, dp, (10 :: sk), ld, nm, cs) (.inl (7, a1, dp, sk, ld, nm, cs1)) := sp_R_s hR9 (by
          show (if K a1 = 32 then _ else _) = _
          rw [if_neg (by omega)])
        exact ⟨_, rfl, hF68, Or.inl ⟨_, _, hst7, by omega, hf24, hA25⟩⟩
    exact pt5 k (Nat.le_refl _) I1 a3 cs4 (by omega) hF14 hf7 hA8 hR15
  · have hW69 := mt_W_t hW hFr2
    have hF70 := hFr2
    have hn71 : 0 < I1 82 8 := by rw [he12]; exact hz11
    have hx72 : sp_R K P V (3, a, dp, (10 :: sk), ld, nm, cs) (.inr f9) := hR10
    show yi_D zi_Ms d zi_m96 k (5, [(0, .inr (.inr (some 82))), (1, .inl (dp : Int))], [], (I1, L, R, Y), 0, 0) _
    refine yi_D_run 2 (8, [(0, .inr (.inr (some 82))), (1, .inl (dp : Int))], [.inl 28, .inr (.inr (some 82))], (I1, L, R, Y), 0, 0) (fun _ => rfl) ?_
    refine yi_D_callv rfl (q_hasWord_f hW69 hn71) ?_
    rintro _ ⟨I73, rfl, hGa74, hq75⟩
    have hW76 := mt_W_t hW69 (mt_G_F hGa74)
    have hF77 := mt_F_t hF70 (mt_G_F hGa74)
    have hf78 : 0 < I73 82 8 := by rw [hq75]; exact hn71
    have he79 := hq75.trans he12
    show yi_D zi_Ms d zi_m96 k (11, [(0, .inr (.inr (some 82))), (1, .inl (dp : Int))], [.inl 0], (I73, L, R, Y), 0, 0) _
    refine yi_D_if1 true rfl (by decide) ?_
    refine yi_D_retv rfl ?_
    exact ⟨_, rfl, hF77, Or.inr ⟨_, hx72, hz11, he79⟩⟩
theorem q_readRec : ∀ d, mt_RI d ∧ mt_RT d ∧ mt_RF d
  | 0 => ⟨fun _ _ _ _ _ _ _ => yi_P_0, fun _ _ _ _ _ _ _ _ _ => yi_P_0, fun _ _ _ _ _ _ _ => yi_P_0⟩
  | d + 1 => by
    obtain ⟨h1, h2, h3⟩ := q_readRec d
    exact ⟨fun dp sk cs hW hf hA hd => q_readItem_s h1 h3 hW hf hA dp sk cs hd, fun dp sk cs hW hf hA hd ef he => q_readTerm_s h1 hW hf hA dp sk cs hd ef he, fun dp sk cs hW hf hA hd => q_readFormula_s h2 hW hf hA dp sk cs hd⟩
theorem q_readFormula_z {d : Nat} : mt_RF d := (q_readRec d).2.2
theorem mt_wd3 {I L : Nat → Nat → Int} {K P V : Nat → Int} {te a : Nat} (h : mt_T I L K P V te) (ha : a ≤ te) {w : Int} (h0 : 29 ≤ w) (hw : w < 32) : (I 84 a = 1 ∧ L 86 a = L 87 w.toNat) ↔ (K a = 3 ∧ V a = sp_W37.getD w.toNat 0) := by
  obtain ⟨h1, _, _, _, h5, _, h7, h8⟩ := h.2.1 a ha
  rw [h.2.2 w.toNat (by omega)]
  have k3 : sp_wk (sp_W37.getD w.toNat 0) = 3 := by
    obtain rfl | rfl | rfl : w = 29 ∨ w = 30 ∨ w = 31 := by omega
    · decide +kernel
    · decide +kernel
    · decide +kernel
  constructor
  · rintro ⟨x, y⟩
    have e : K a = 3 := by
      rw [← h1]
      unfold sp_k
      rw [if_neg (by omega), if_neg (by omega), if_neg (by omega), if_neg (by omega), y]
      exact k3
    exact ⟨e, (h5 e).symm.trans y⟩
  · rintro ⟨x, y⟩
    exact ⟨(mt_w1 h ha).mpr (by omega), (h5 x).trans y⟩
theorem sp_lev_i (k : Int) : (sp_lev k = 0 ↔ k = 31 ∨ k = 32) ∧ (sp_lev k = 1 ↔ k = 60 ∨ k = 61) ∧ (sp_lev k = 2 ↔ k = 43 ∨ k = 45) ∧ (sp_lev k = 3 ↔ k = 42) := by
  unfold sp_lev
  by_cases c0 : k = 31 ∨ k = 32
  · rw [if_pos c0]; omega
  · rw [if_neg c0]
    by_cases c1 : k = 60 ∨ k = 61
    · rw [if_pos c1]; omega
    · rw [if_neg c1]
      by_cases c2 : k = 43 ∨ k = 45
      · rw [if_pos c2]; omega
      · rw [if_neg c2]
        by_cases c3 : k = 42
        · rw [if_pos c3]; omega
        · rw [if_neg c3]; omega
theorem q_isWord_3 {d : Nat} {I L : Nat → Nat → Int} {R : Nat → Nat → Option Nat} {Y : (Nat → Nat) × (Nat → Nat) × Nat} {w : Int} (w0 : 29 ≤ w) (w1 : w < 32) {K P V : Nat → Int} {te b a : Nat} {ld : Nat → Int} {nm : Int → Int} (hW : mt_W I L R Y K P V te b ld nm) (hf : I 82 8 = 0) (hA : mt_A I te a) : yi_P zi_Ms d 64 [.inr (.inr (some 82)), .inl w] (I, L, R, Y) (fun r => ((K a = 3 ∧ V a = sp_W37.getD w.toNat 0) ∧ r = (some (.inl 1), (I, L, R, Y), 0, 0)) ∨ (¬ (K a = 3 ∧ V a = sp_W37.getD w.toNat 0) ∧ r = (some (.inl 0), (I, L, R, Y), 0, 0))) := by
  refine yi_P_of (M := zi_m64) rfl (fun d k => ?_)
  have hS := hW.1
  have ht := hW.2.1.1
  have ha := hA.2
  have hp := hW.2.1.2.1 a hA.2
  have hsg := mt_wd3 hW.2.1 hA.2 w0 w1
  have hnl := hW.2.1.2.2 w.toNat (by omega)
  generalize sp_W37.getD w.toNat 0 = C at hsg hnl ⊢
  show yi_D zi_Ms d zi_m64 k (0, [(0, .inr (.inr (some 82))), (1, .inl w)], [], (I, L, R, Y), 0, 0) _
  refine yi_D_run 1 (1, [(0, .inr (.inr (some 82))), (1, .inl w)], [.inr (.inr (some 82))], (I, L, R, Y), 0, 0) (fun _ => rfl) ?_
  refine yi_D_gi (v := 0) rfl rfl rfl hf (fun _ => ?_)
  refine yi_D_if1 false rfl (by decide) ?_
  refine yi_D_run 1 (8, [(0, .inr (.inr (some 82))), (1, .inl w)], [.inr (.inr (some 82))], (I, L, R, Y), 0, 0) (fun _ => rfl) ?_
  refine yi_D_gr (v := some 84) rfl rfl rfl (ym_S_at hS (j := 1) rfl).1 (fun _ => ?_)
  refine yi_D_run 1 (12, [(0, .inr (.inr (some 82))), (1, .inl w)], [.inr (.inr (some 82)), .inr (.inr (some 84))], (I, L, R, Y), 0, 0) (fun _ => rfl) ?_
  refine yi_D_gi (v := (a : Int)) rfl rfl rfl hA.1 (fun _ => ?_)
  refine yi_D_il (v := I 84 a) rfl rfl rfl (fun _ _ => ?_)
  refine yi_D_run 1 (17, [(0, .inr (.inr (some 82))), (1, .inl w)], [.inl 1, .inl (I 84 a)], (I, L, R, Y), 0, 0) (fun _ => rfl) ?_
  by_cases h1 : (I 84 a) = 1
  · refine yi_D_if2 false rfl (yi_ne_f h1) ?_
    refine yi_D_run 1 (21, [(0, .inr (.inr (some 82))), (1, .inl w)], [.inr (.inr (some 82))], (I, L, R, Y), 0, 0) (fun _ => rfl) ?_
    refine yi_D_gr (v := some 86) rfl rfl rfl (ym_S_at hS (j := 3) rfl).1 (fun _ => ?_)
    refine yi_D_run 1 (25, [(0, .inr (.inr (some 82))), (1, .inl w)], [.inr (.inr (some 82)), .inr (.inr (some 86))], (I, L, R, Y), 0, 0) (fun _ => rfl) ?_
    refine yi_D_gi (v := (a : Int)) rfl rfl rfl hA.1 (fun _ => ?_)
    refine yi_D_ll (v := L 86 a) rfl rfl rfl (fun _ _ => ?_)
    refine yi_D_run 1 (30, [(0, .inr (.inr (some 82))), (1, .inl w)], [.inr (.inr (some 82)), .inr (.inl (L 86 a))], (I, L, R, Y), 0, 0) (fun _ => rfl) ?_
    refine yi_D_gr (v := some 87) rfl rfl rfl (ym_S_at hS (j := 4) rfl).1 (fun _ => ?_)
    refine yi_D_run 1 (34, [(0, .inr (.inr (some 82))), (1, .inl w)], [.inl w, .inr (.inr (some 87)), .inr (.inl (L 86 a))], (I, L, R, Y), 0, 0) (fun _ => rfl) ?_
    refine yi_D_ll (v := L 87 (w.toNat)) rfl rfl rfl (fun _ _ => ?_)
    refine yi_D_run 1 (36, [(0, .inr (.inr (some 82))), (1, .inl w)], [.inl (yi_lcmp (L 86 a) (L 87 (w.toNat)))], (I, L, R, Y), 0, 0) (fun _ => rfl) ?_
    by_cases h2 : (L 86 a) = (L 87 (w.toNat))
    · refine yi_D_if1 false rfl (yi_Lne_f h2) ?_
      refine yi_D_run 2 (44, [(0, .inr (.inr (some 82))), (1, .inl w)], [.inl 1], (I, L, R, Y), 0, 0) (fun _ => rfl) ?_
      refine yi_D_reti rfl ?_
      exact Or.inl ⟨by omega, rfl⟩
    · refine yi_D_if1 true rfl (yi_Lne_t h2) ?_
      refine yi_D_run 1 (44, [(0, .inr (.inr (some 82))), (1, .inl w)], [.inl 0], (I, L, R, Y), 0, 0) (fun _ => rfl) ?_
      refine yi_D_reti rfl ?_
      exact Or.inr ⟨by omega, rfl⟩
  · refine yi_D_if2 true rfl (yi_ne_t h1) ?_
    refine yi_D_run 1 (44, [(0, .inr (.inr (some 82))), (1, .inl w)], [.inl 0], (I, L, R, Y), 0, 0) (fun _ => rfl) ?_
    refine yi_D_reti rfl ?_
    exact Or.inr ⟨by omega, rfl⟩
theorem q_wordHere_3 {d : Nat} {I L : Nat → Nat → Int} {R : Nat → Nat → Option Nat} {Y : (Nat → Nat) × (Nat → Nat) × Nat} {K P V : Nat → Int} {te b a : Nat} {ld : Nat → Int} {nm : Int → Int} (hW : mt_W I L R Y K P V te b ld nm) (hf : I 82 8 = 0) (hA : mt_A I te a) : yi_P zi_Ms d 134 [.inr (.inr (some 82)), .inl 29, .inl 3] (I, L, R, Y) (fun r => ∃ z, r = (some (.inl z), (I, L, R, Y), 0, 0) ∧ (K a = 3 → z = sp_fact (V a)) ∧ (¬ K a = 3 → z = -1)) := by
  refine yi_P_of (M := zi_m134) rfl (fun d k => ?_)
  have hS := hW.1
  have ht := hW.2.1.1
  have ha := hA.2
  have hp := hW.2.1.2.1 a hA.2
  show yi_D zi_Ms d zi_m134 k (0, [(0, .inr (.inr (some 82))), (1, .inl 29), (2, .inl 3)], [], (I, L, R, Y), 0, 0) _
  refine yi_D_run 6 (8, [(4, .inl 0), (3, .inl (-1)), (0, .inr (.inr (some 82))), (1, .inl 29), (2, .inl 3)], [.inl 3, .inl 0], (I, L, R, Y), 0, 0) (fun _ => rfl) ?_
  refine yi_D_if2 false rfl (by decide) ?_
  refine yi_D_run 3 (15, [(4, .inl 0), (3, .inl (-1)), (0, .inr (.inr (some 82))), (1, .inl 29), (2, .inl 3)], [.inl 0, .inl 29, .inr (.inr (some 82))], (I, L, R, Y), 0, 0) (fun _ => rfl) ?_
  refine yi_D_iadd rfl (29) (by decide) ?_
  refine yi_D_callv rfl (q_isWord_3 (by omega) (by omega) hW hf hA) ?_
  rintro _ (⟨c1, rfl⟩ | ⟨c1, rfl⟩)
  · have c1 : K a = 3 ∧ V a = 148383843 := c1
    show yi_D zi_Ms d zi_m134 k (19, [(4, .inl 0), (3, .inl (-1)), (0, .inr (.inr (some 82))), (1, .inl 29), (2, .inl 3)], [.inl 1], (I, L, R, Y), 0, 0) _
    refine yi_D_if1 false rfl (by decide) ?_
    refine yi_D_run 3 (29, [(3, .inl 0), (4, .inl 0), (0, .inr (.inr (some 82))), (1, .inl 29), (2, .inl 3)], [], (I, L, R, Y), 0, 0) (fun _ => rfl) ?_
    refine yi_D_iinc [(4, .inl 1), (3, .inl 0), (0, .inr (.inr (some 82))), (1, .inl 29), (2, .inl 3)] rfl rfl rfl (by rw [show yi_w (0 + 1) = 1 from (yi_wn (by omega) (by omega)).trans (by omega)]; rfl) ?_
    refine yi_D_run 3 (8, [(4, .inl 1), (3, .inl 0), (0, .inr (.inr (some 82))), (1, .inl 29), (2, .inl 3)], [.inl 3, .inl 1], (I, L, R, Y), 0, 0) (fun _ => rfl) ?_
    refine yi_D_if2 false rfl (by decide) ?_
    refine yi_D_run 3 (15, [(4, .inl 1), (3, .inl 0), (0, .inr (.inr (some 82))), (1, .inl 29), (2, .inl 3)], [.inl 1, .inl 29, .inr (.inr (some 82))], (I, L, R, Y), 0, 0) (fun _ => rfl) ?_
    refine yi_D_iadd rfl (30) (by decide) ?_
    refine yi_D_callv rfl (q_isWord_3 (by omega) (by omega) hW hf hA) ?_
    rintro _ (⟨c2, rfl⟩ | ⟨c2, rfl⟩)
    · have c2 : K a = 3 ∧ V a = 2205662 := c2
      show yi_D zi_Ms d zi_m134 k (19, [(4, .inl 1), (3, .inl 0), (0, .inr (.inr (some 82))), (1, .inl 29), (2, .inl 3)], [.inl 1], (I, L, R, Y), 0, 0) _
      refine yi_D_if1 false rfl (by decide) ?_
      refine yi_D_run 3 (29, [(3, .inl 1), (4, .inl 1), (0, .inr (.inr (some 82))), (1, .inl 29), (2, .inl 3)], [], (I, L, R, Y), 0, 0) (fun _ => rfl) ?_
      refine yi_D_iinc [(4, .inl 2), (3, .inl 1), (0, .inr (.inr (some 82))), (1, .inl 29), (2, .inl 3)] rfl rfl rfl (by rw [show yi_w (1 + 1) = 2 from (yi_wn (by omega) (by omega)).trans (by omega)]; rfl) ?_
      refine yi_D_run 3 (8, [(4, .inl 2), (3, .inl 1), (0, .inr (.inr (some 82))), (1, .inl 29), (2, .inl 3)], [.inl 3, .inl 2], (I, L, R, Y), 0, 0) (fun _ => rfl) ?_
      refine yi_D_if2 false rfl (by decide) ?_
      refine yi_D_run 3 (15, [(4, .inl 2), (3, .inl 1), (0, .inr (.inr (some 82))), (1, .inl 29), (2, .inl 3)], [.inl 2, .inl 29, .inr (.inr (some 82))], (I, L, R, Y), 0, 0) (fun _ => rfl) ?_
      refine yi_D_iadd rfl (31) (by decide) ?_
      refine yi_D_callv rfl (q_isWord_3 (by omega) (by omega) hW hf hA) ?_
      rintro _ (⟨c3, rfl⟩ | ⟨c3, rfl⟩)
      · have c3 : K a = 3 ∧ V a = 1034043 := c3
        show yi_D zi_Ms d zi_m134 k (19, [(4, .inl 2), (3, .inl 1), (0, .inr (.inr (some 82))), (1, .inl 29), (2, .inl 3)], [.inl 1], (I, L, R, Y), 0, 0) _
        refine yi_D_if1 false rfl (by decide) ?_
        refine yi_D_run 3 (29, [(3, .inl 2), (4, .inl 2), (0, .inr (.inr (some 82))), (1, .inl 29), (2, .inl 3)], [], (I, L, R, Y), 0, 0) (fun _ => rfl) ?_
        refine yi_D_iinc [(4, .inl 3), (3, .inl 2), (0, .inr (.inr (some 82))), (1, .inl 29), (2, .inl 3)] rfl rfl rfl (by rw [show yi_w (2 + 1) = 3 from (yi_wn (by omega) (by omega)).trans (by omega)]; rfl) ?_
        refine yi_D_run 3 (8, [(4, .inl 3), (3, .inl 2), (0, .inr (.inr (some 82))), (1, .inl 29), (2, .inl 3)], [.inl 3, .inl 3], (I, L, R, Y), 0, 0) (fun _ => rfl) ?_
        refine yi_D_if2 true rfl (by decide) ?_
        refine yi_D_run 1 (36, [(4, .inl 3), (3, .inl 2), (0, .inr (.inr (some 82))), (1, .inl 29), (2, .inl 3)], [.inl 2], (I, L, R, Y), 0, 0) (fun _ => rfl) ?_
        refine yi_D_reti rfl ?_
        first
        | (exfalso; omega)
        | (refine ⟨_, rfl, fun h3 => ?_, fun h3 => by omega⟩; unfold sp_fact; (repeat (first | rw [if_pos (by omega)] | rw [if_neg (by omega)])); done)
      · have c3 : ¬ (K a = 3 ∧ V a = 1034043) := c3
        show yi_D zi_Ms d zi_m134 k (19, [(4, .inl 2), (3, .inl 1), (0, .inr (.inr (some 82))), (1, .inl 29), (2, .inl 3)], [.inl 0], (I, L, R, Y), 0, 0) _
        refine yi_D_if1 true rfl (by decide) ?_
        refine yi_D_run 2 (29, [(3, .inl 1), (4, .inl 2), (0, .inr (.inr (some 82))), (1, .inl 29), (2, .inl 3)], [], (I, L, R, Y), 0, 0) (fun _ => rfl) ?_
        refine yi_D_iinc [(4, .inl 3), (3, .inl 1), (0, .inr (.inr (some 82))), (1, .inl 29), (2, .inl 3)] rfl rfl rfl (by rw [show yi_w (2 + 1) = 3 from (yi_wn (by omega) (by omega)).trans (by omega)]; rfl) ?_
        refine yi_D_run 3 (8, [(4, .inl 3), (3, .inl 1), (0, .inr (.inr (some 82))), (1, .inl 29), (2, .inl 3)], [.inl 3, .inl 3], (I, L, R, Y), 0, 0) (fun _ => rfl) ?_
        refine yi_D_if2 true rfl (by decide) ?_
        refine yi_D_run 1 (36, [(4, .inl 3), (3, .inl 1), (0, .inr (.inr (some 82))), (1, .inl 29), (2, .inl 3)], [.inl 1], (I, L, R, Y), 0, 0) (fun _ => rfl) ?_
        refine yi_D_reti rfl ?_
        first
        | (exfalso; omega)
        | (refine ⟨_, rfl, fun h3 => ?_, fun h3 => by omega⟩; unfold sp_fact; (repeat (first | rw [if_pos (by omega)] | rw [if_neg (by omega)])); done)
    · have c2 : ¬ (K a = 3 ∧ V a = 2205662) := c2
      show yi_D zi_Ms d zi_m134 k (19, [(4, .inl 1), (3, .inl 0), (0, .inr (.inr (some 82))), (1, .inl 29), (2, .inl 3)], [.inl 0], (I, L, R, Y), 0, 0) _
      refine yi_D_if1 true rfl (by decide) ?_
      refine yi_D_run 2 (29, [(3, .inl 0), (4, .inl 1), (0, .inr (.inr (some 82))), (1, .inl 29), (2, .inl 3)], [], (I, L, R, Y), 0, 0) (fun _ => rfl) ?_
      refine yi_D_iinc [(4, .inl 2), (3, .inl 0), (0, .inr (.inr (some 82))), (1, .inl 29), (2, .inl 3)] rfl rfl rfl (by rw [show yi_w (1 + 1) = 2 from (yi_wn (by omega) (by omega)).trans (by omega)]; rfl) ?_
      refine yi_D_run 3 (8, [(4, .inl 2), (3, .inl 0), (0, .inr (.inr (some 82))), (1, .inl 29), (2, .inl 3)], [.inl 3, .inl 2], (I, L, R, Y), 0, 0) (fun _ => rfl) ?_
      refine yi_D_if2 false rfl (by decide) ?_
      refine yi_D_run 3 (15, [(4, .inl 2), (3, .inl 0), (0, .inr (.inr (some 82))), (1, .inl 29), (2, .inl 3)], [.inl 2, .inl 29, .inr (.inr (some 82))], (I, L, R, Y), 0, 0) (fun _ => rfl) ?_
      refine yi_D_iadd rfl (31) (by decide) ?_
      refine yi_D_callv rfl (q_isWord_3 (by omega) (by omega) hW hf hA) ?_
      rintro _ (⟨c4, rfl⟩ | ⟨c4, rfl⟩)
      · have c4 : K a = 3 ∧ V a = 1034043 := c4
        show yi_D zi_Ms d zi_m134 k (19, [(4, .inl 2), (3, .inl 0), (0, .inr (.inr (some 82))), (1, .inl 29), (2, .inl 3)], [.inl 1], (I, L, R, Y), 0, 0) _
        refine yi_D_if1 false rfl (by decide) ?_
        refine yi_D_run 3 (29, [(3, .inl 2), (4, .inl 2), (0, .inr (.inr (some 82))), (1, .inl 29), (2, .inl 3)], [], (I, L, R, Y), 0, 0) (fun _ => rfl) ?_
        refine yi_D_iinc [(4, .inl 3), (3, .inl 2), (0, .inr (.inr (some 82))), (1, .inl 29), (2, .inl 3)] rfl rfl rfl (by rw [show yi_w (2 + 1) = 3 from (yi_wn (by omega) (by omega)).trans (by omega)]; rfl) ?_
        refine yi_D_run 3 (8, [(4, .inl 3), (3, .inl 2), (0, .inr (.inr (some 82))), (1, .inl 29), (2, .inl 3)], [.inl 3, .inl 3], (I, L, R, Y), 0, 0) (fun _ => rfl) ?_
        refine yi_D_if2 true rfl (by decide) ?_
        refine yi_D_run 1 (36, [(4, .inl 3), (3, .inl 2), (0, .inr (.inr (some 82))), (1, .inl 29), (2, .inl 3)], [.inl 2], (I, L, R, Y), 0, 0) (fun _ => rfl) ?_
        refine yi_D_reti rfl ?_
        first
        | (exfalso; omega)
        | (refine ⟨_, rfl, fun h3 => ?_, fun h3 => by omega⟩; unfold sp_fact; (repeat (first | rw [if_pos (by omega)] | rw [if_neg (by omega)])); done)
      · have c4 : ¬ (K a = 3 ∧ V a = 1034043) := c4
        show yi_D zi_Ms d zi_m134 k (19, [(4, .inl 2), (3, .inl 0), (0, .inr (.inr (some 82))), (1, .inl 29), (2, .inl 3)], [.inl 0], (I, L, R, Y), 0, 0) _
        refine yi_D_if1 true rfl (by decide) ?_
        refine yi_D_run 2 (29, [(3, .inl 0), (4, .inl 2), (0, .inr (.inr (some 82))), (1, .inl 29), (2, .inl 3)], [], (I, L, R, Y), 0, 0) (fun _ => rfl) ?_
        refine yi_D_iinc [(4, .inl 3), (3, .inl 0), (0, .inr (.inr (some 82))), (1, .inl 29), (2, .inl 3)] rfl rfl rfl (by rw [show yi_w (2 + 1) = 3 from (yi_wn (by omega) (by omega)).trans (by omega)]; rfl) ?_
        refine yi_D_run 3 (8, [(4, .inl 3), (3, .inl 0), (0, .inr (.inr (some 82))), (1, .inl 29), (2, .inl 3)], [.inl 3, .inl 3], (I, L, R, Y), 0, 0) (fun _ => rfl) ?_
        refine yi_D_if2 true rfl (by decide) ?_
        refine yi_D_run 1 (36, [(4, .inl 3), (3, .inl 0), (0, .inr (.inr (some 82))), (1, .inl 29), (2, .inl 3)], [.inl 0], (I, L, R, Y), 0, 0) (fun _ => rfl) ?_
        refine yi_D_reti rfl ?_
        first
        | (exfalso; omega)
        | (refine ⟨_, rfl, fun h3 => ?_, fun h3 => by omega⟩; unfold sp_fact; (repeat (first | rw [if_pos (by omega)] | rw [if_neg (by omega)])); done)
  · have c1 : ¬ (K a = 3 ∧ V a = 148383843) := c1
    show yi_D zi_Ms d zi_m134 k (19, [(4, .inl 0), (3, .inl (-1)), (0, .inr (.inr (some 82))), (1, .inl 29), (2, .inl 3)], [.inl 0], (I, L, R, Y), 0, 0) _
    refine yi_D_if1 true rfl (by decide) ?_
    refine yi_D_run 2 (29, [(3, .inl (-1)), (4, .inl 0), (0, .inr (.inr (some 82))), (1, .inl 29), (2, .inl 3)], [], (I, L, R, Y), 0, 0) (fun _ => rfl) ?_
    refine yi_D_iinc [(4, .inl 1), (3, .inl (-1)), (0, .inr (.inr (some 82))), (1, .inl 29), (2, .inl 3)] rfl rfl rfl (by rw [show yi_w (0 + 1) = 1 from (yi_wn (by omega) (by omega)).trans (by omega)]; rfl) ?_
    refine yi_D_run 3 (8, [(4, .inl 1), (3, .inl (-1)), (0, .inr (.inr (some 82))), (1, .inl 29), (2, .inl 3)], [.inl 3, .inl 1], (I, L, R, Y), 0, 0) (fun _ => rfl) ?_
    refine yi_D_if2 false rfl (by decide) ?_
    refine yi_D_run 3 (15, [(4, .inl 1), (3, .inl (-1)), (0, .inr (.inr (some 82))), (1, .inl 29), (2, .inl 3)], [.inl 1, .inl 29, .inr (.inr (some 82))], (I, L, R, Y), 0, 0) (fun _ => rfl) ?_
    refine yi_D_iadd rfl (30) (by decide) ?_
    refine yi_D_callv rfl (q_isWord_3 (by omega) (by omega) hW hf hA) ?_
    rintro _ (⟨c5, rfl⟩ | ⟨c5, rfl⟩)
    · have c5 : K a = 3 ∧ V a = 2205662 := c5
      show yi_D zi_Ms d zi_m134 k (19, [(4, .inl 1), (3, .inl (-1)), (0, .inr (.inr (some 82))), (1, .inl 29), (2, .inl 3)], [.inl 1], (I, L, R, Y), 0, 0) _
      refine yi_D_if1 false rfl (by decide) ?_
      refine yi_D_run 3 (29, [(3, .inl 1), (4, .inl 1), (0, .inr (.inr (some 82))), (1, .inl 29), (2, .inl 3)], [], (I, L, R, Y), 0, 0) (fun _ => rfl) ?_
      refine yi_D_iinc [(4, .inl 2), (3, .inl 1), (0, .inr (.inr (some 82))), (1, .inl 29), (2, .inl 3)] rfl rfl rfl (by rw [show yi_w (1 + 1) = 2 from (yi_wn (by omega) (by omega)).trans (by omega)]; rfl) ?_
      refine yi_D_run 3 (8, [(4, .inl 2), (3, .inl 1), (0, .inr (.inr (some 82))), (1, .inl 29), (2, .inl 3)], [.inl 3, .inl 2], (I, L, R, Y), 0, 0) (fun _ => rfl) ?_
      refine yi_D_if2 false rfl (by decide) ?_
      refine yi_D_run 3 (15, [(4, .inl 2), (3, .inl 1), (0, .inr (.inr (some 82))), (1, .inl 29), (2, .inl 3)], [.inl 2, .inl 29, .inr (.inr (some 82))], (I, L, R, Y), 0, 0) (fun _ => rfl) ?_
      refine yi_D_iadd rfl (31) (by decide) ?_
      refine yi_D_callv rfl (q_isWord_3 (by omega) (by omega) hW hf hA) ?_
      rintro _ (⟨c6, rfl⟩ | ⟨c6, rfl⟩)
      · have c6 : K a = 3 ∧ V a = 1034043 := c6
        show yi_D zi_Ms d zi_m134 k (19, [(4, .inl 2), (3, .inl 1), (0, .inr (.inr (some 82))), (1, .inl 29), (2, .inl 3)], [.inl 1], (I, L, R, Y), 0, 0) _
        refine yi_D_if1 false rfl (by decide) ?_
        refine yi_D_run 3 (29, [(3, .inl 2), (4, .inl 2), (0, .inr (.inr (some 82))), (1, .inl 29), (2, .inl 3)], [], (I, L, R, Y), 0, 0) (fun _ => rfl) ?_
        refine yi_D_iinc [(4, .inl 3), (3, .inl 2), (0, .inr (.inr (some 82))), (1, .inl 29), (2, .inl 3)] rfl rfl rfl (by rw [show yi_w (2 + 1) = 3 from (yi_wn (by omega) (by omega)).trans (by omega)]; rfl) ?_
        refine yi_D_run 3 (8, [(4, .inl 3), (3, .inl 2), (0, .inr (.inr (some 82))), (1, .inl 29), (2, .inl 3)], [.inl 3, .inl 3], (I, L, R, Y), 0, 0) (fun _ => rfl) ?_
        refine yi_D_if2 true rfl (by decide) ?_
        refine yi_D_run 1 (36, [(4, .inl 3), (3, .inl 2), (0, .inr (.inr (some 82))), (1, .inl 29), (2, .inl 3)], [.inl 2], (I, L, R, Y), 0, 0) (fun _ => rfl) ?_
        refine yi_D_reti rfl ?_
        first
        | (exfalso; omega)
        | (refine ⟨_, rfl, fun h3 => ?_, fun h3 => by omega⟩; unfold sp_fact; (repeat (first | rw [if_pos (by omega)] | rw [if_neg (by omega)])); done)
      · have c6 : ¬ (K a = 3 ∧ V a = 1034043) := c6
        show yi_D zi_Ms d zi_m134 k (19, [(4, .inl 2), (3, .inl 1), (0, .inr (.inr (some 82))), (1, .inl 29), (2, .inl 3)], [.inl 0], (I, L, R, Y), 0, 0) _
        refine yi_D_if1 true rfl (by decide) ?_
        refine yi_D_run 2 (29, [(3, .inl 1), (4, .inl 2), (0, .inr (.inr (some 82))), (1, .inl 29), (2, .inl 3)], [], (I, L, R, Y), 0, 0) (fun _ => rfl) ?_
        refine yi_D_iinc [(4, .inl 3), (3, .inl 1), (0, .inr (.inr (some 82))), (1, .inl 29), (2, .inl 3)] rfl rfl rfl (by rw [show yi_w (2 + 1) = 3 from (yi_wn (by omega) (by omega)).trans (by omega)]; rfl) ?_
        refine yi_D_run 3 (8, [(4, .inl 3), (3, .inl 1), (0, .inr (.inr (some 82))), (1, .inl 29), (2, .inl 3)], [.inl 3, .inl 3], (I, L, R, Y), 0, 0) (fun _ => rfl) ?_
        refine yi_D_if2 true rfl (by decide) ?_
        refine yi_D_run 1 (36, [(4, .inl 3), (3, .inl 1), (0, .inr (.inr (some 82))), (1, .inl 29), (2, .inl 3)], [.inl 1], (I, L, R, Y), 0, 0) (fun _ => rfl) ?_
        refine yi_D_reti rfl ?_
        first
        | (exfalso; omega)
        | (refine ⟨_, rfl, fun h3 => ?_, fun h3 => by omega⟩; unfold sp_fact; (repeat (first | rw [if_pos (by omega)] | rw [if_neg (by omega)])); done)
    · have c5 : ¬ (K a = 3 ∧ V a = 2205662) := c5
      show yi_D zi_Ms d zi_m134 k (19, [(4, .inl 1), (3, .inl (-1)), (0, .inr (.inr (some 82))), (1, .inl 29), (2, .inl 3)], [.inl 0], (I, L, R, Y), 0, 0) _
      refine yi_D_if1 true rfl (by decide) ?_
      refine yi_D_run 2 (29, [(3, .inl (-1)), (4, .inl 1), (0, .inr (.inr (some 82))), (1, .inl 29), (2, .inl 3)], [], (I, L, R, Y), 0, 0) (fun _ => rfl) ?_
      refine yi_D_iinc [(4, .inl 2), (3, .inl (-1)), (0, .inr (.inr (some 82))), (1, .inl 29), (2, .inl 3)] rfl rfl rfl (by rw [show yi_w (1 + 1) = 2 from (yi_wn (by omega) (by omega)).trans (by omega)]; rfl) ?_
      refine yi_D_run 3 (8, [(4, .inl 2), (3, .inl (-1)), (0, .inr (.inr (some 82))), (1, .inl 29), (2, .inl 3)], [.inl 3, .inl 2], (I, L, R, Y), 0, 0) (fun _ => rfl) ?_
      refine yi_D_if2 false rfl (by decide) ?_
      refine yi_D_run 3 (15, [(4, .inl 2), (3, .inl (-1)), (0, .inr (.inr (some 82))), (1, .inl 29), (2, .inl 3)], [.inl 2, .inl 29, .inr (.inr (some 82))], (I, L, R, Y), 0, 0) (fun _ => rfl) ?_
      refine yi_D_iadd rfl (31) (by decide) ?_
      refine yi_D_callv rfl (q_isWord_3 (by omega) (by omega) hW hf hA) ?_
      rintro _ (⟨c7, rfl⟩ | ⟨c7, rfl⟩)
      · have c7 : K a = 3 ∧ V a = 1034043 := c7
        show yi_D zi_Ms d zi_m134 k (19, [(4, .inl 2), (3, .inl (-1)), (0, .inr (.inr (some 82))), (1, .inl 29), (2, .inl 3)], [.inl 1], (I, L, R, Y), 0, 0) _
        refine yi_D_if1 false rfl (by decide) ?_
        refine yi_D_run 3 (29, [(3, .inl 2), (4, .inl 2), (0, .inr (.inr (some 82))), (1, .inl 29), (2, .inl 3)], [], (I, L, R, Y), 0, 0) (fun _ => rfl) ?_
        refine yi_D_iinc [(4, .inl 3), (3, .inl 2), (0, .inr (.inr (some 82))), (1, .inl 29), (2, .inl 3)] rfl rfl rfl (by rw [show yi_w (2 + 1) = 3 from (yi_wn (by omega) (by omega)).trans (by omega)]; rfl) ?_
        refine yi_D_run 3 (8, [(4, .inl 3), (3, .inl 2), (0, .inr (.inr (some 82))), (1, .inl 29), (2, .inl 3)], [.inl 3, .inl 3], (I, L, R, Y), 0, 0) (fun _ => rfl) ?_
        refine yi_D_if2 true rfl (by decide) ?_
        refine yi_D_run 1 (36, [(4, .inl 3), (3, .inl 2), (0, .inr (.inr (some 82))), (1, .inl 29), (2, .inl 3)], [.inl 2], (I, L, R, Y), 0, 0) (fun _ => rfl) ?_
        refine yi_D_reti rfl ?_
        first
        | (exfalso; omega)
        | (refine ⟨_, rfl, fun h3 => ?_, fun h3 => by omega⟩; unfold sp_fact; (repeat (first | rw [if_pos (by omega)] | rw [if_neg (by omega)])); done)
      · have c7 : ¬ (K a = 3 ∧ V a = 1034043) := c7
        show yi_D zi_Ms d zi_m134 k (19, [(4, .inl 2), (3, .inl (-1)), (0, .inr (.inr (some 82))), (1, .inl 29), (2, .inl 3)], [.inl 0], (I, L, R, Y), 0, 0) _
        refine yi_D_if1 true rfl (by decide) ?_
        refine yi_D_run 2 (29, [(3, .inl (-1)), (4, .inl 2), (0, .inr (.inr (some 82))), (1, .inl 29), (2, .inl 3)], [], (I, L, R, Y), 0, 0) (fun _ => rfl) ?_
        refine yi_D_iinc [(4, .inl 3), (3, .inl (-1)), (0, .inr (.inr (some 82))), (1, .inl 29), (2, .inl 3)] rfl rfl rfl (by rw [show yi_w (2 + 1) = 3 from (yi_wn (by omega) (by omega)).trans (by omega)]; rfl) ?_
        refine yi_D_run 3 (8, [(4, .inl 3), (3, .inl (-1)), (0, .inr (.inr (some 82))), (1, .inl 29), (2, .inl 3)], [.inl 3, .inl 3], (I, L, R, Y), 0, 0) (fun _ => rfl) ?_
        refine yi_D_if2 true rfl (by decide) ?_
        refine yi_D_run 1 (36, [(4, .inl 3), (3, .inl (-1)), (0, .inr (.inr (some 82))), (1, .inl 29), (2, .inl 3)], [.inl (-1)], (I, L, R, Y), 0, 0) (fun _ => rfl) ?_
        refine yi_D_reti rfl ?_
        first
        | (exfalso; omega)
        | (refine ⟨_, rfl, fun h3 => ?_, fun h3 => by omega⟩; unfold sp_fact; (repeat (first | rw [if_pos (by omega)] | rw [if_neg (by omega)])); done)
def mt_RO (d : Nat) : Prop := ∀ {I L : Nat → Nat → Int} {R : Nat → Nat → Option Nat} {Y : (Nat → Nat) × (Nat → Nat) × Nat} {K P V : Nat → Int} {te b a : Nat} {ld : Nat → Int} {nm : Int → Int} (dp : Nat) (sk : List Nat) (cs : List (Int × Int)), mt_W I L R Y K P V te b ld nm → I 82 8 = 0 → mt_A I te a → dp ≤ 5 → yi_P zi_Ms d 87 [.inr (.inr (some 82)), .inl (dp : Int)] (I, L, R, Y) (mt_QR I L R Y K P V te (8, a, dp, sk, ld, nm, cs) 13 a dp sk ld nm)
def mt_RS (d : Nat) : Prop := ∀ {I L : Nat → Nat → Int} {R : Nat → Nat → Option Nat} {Y : (Nat → Nat) × (Nat → Nat) × Nat} {K P V : Nat → Int} {te b a : Nat} {ld : Nat → Int} {nm : Int → Int} (dp : Nat) (sk : List Nat) (cs : List (Int × Int)), mt_W I L R Y K P V te b ld nm → I 82 8 = 0 → mt_A I te a → dp ≤ 5 → yi_P zi_Ms d 123 [.inr (.inr (some 82)), .inl (dp : Int)] (I, L, R, Y) (mt_QR I L R Y K P V te (9, a, dp, sk, ld, nm, cs) 13 a dp sk ld nm)
def mt_RU (d : Nat) : Prop := ∀ {I L : Nat → Nat → Int} {R : Nat → Nat → Option Nat} {Y : (Nat → Nat) × (Nat → Nat) × Nat} {K P V : Nat → Int} {te b a : Nat} {ld : Nat → Int} {nm : Int → Int} (dp : Nat) (sk : List Nat) (cs : List (Int × Int)), mt_W I L R Y K P V te b ld nm → I 82 8 = 0 → mt_A I te a → dp ≤ 5 → yi_P zi_Ms d 114 [.inr (.inr (some 82)), .inl (dp : Int)] (I, L, R, Y) (mt_QR I L R Y K P V te (10, a, dp, sk, ld, nm, cs) 13 a dp sk ld nm)
def mt_RD (d : Nat) : Prop := ∀ {I L : Nat → Nat → Int} {R : Nat → Nat → Option Nat} {Y : (Nat → Nat) × (Nat → Nat) × Nat} {K P V : Nat → Int} {te b a : Nat} {ld : Nat → Int} {nm : Int → Int} (dp : Nat) (sk : List Nat) (cs : List (Int × Int)), mt_W I L R Y K P V te b ld nm → I 82 8 = 0 → mt_A I te a → dp ≤ 5 → yi_P zi_Ms d 89 [.inr (.inr (some 82)), .inl (dp : Int)] (I, L, R, Y) (mt_QR I L R Y K P V te (11, a, dp, sk, ld, nm, cs) 13 a dp sk ld nm)
def mt_RP (d : Nat) : Prop := ∀ {I L : Nat → Nat → Int} {R : Nat → Nat → Option Nat} {Y : (Nat → Nat) × (Nat → Nat) × Nat} {K P V : Nat → Int} {te b a : Nat} {ld : Nat → Int} {nm : Int → Int} (dp : Nat) (sk : List Nat) (cs : List (Int × Int)), mt_W I L R Y K P V te b ld nm → I 82 8 = 0 → mt_A I te a → dp ≤ 5 → yi_P zi_Ms d 117 [.inr (.inr (some 82)), .inl (dp : Int)] (I, L, R, Y) (mt_QR I L R Y K P V te (12, a, dp, sk, ld, nm, cs) 13 a dp sk ld nm)
theorem q_takePart_f {d : Nat} {I L : Nat → Nat → Int} {R : Nat → Nat → Option Nat} {Y : (Nat → Nat) × (Nat → Nat) × Nat} {w : Int} {K P V : Nat → Int} {te b : Nat} {ld : Nat → Int} {nm : Int → Int} (hW : mt_W I L R Y K P V te b ld nm) (hf : 0 < I 82 8) : yi_P zi_Ms d 117 [.inr (.inr (some 82)), .inl w] (I, L, R, Y) (fun r => r = (none, (I, L, R, Y), 0, 0)) := by
  refine yi_P_of (M := zi_m117) rfl (fun d k => ?_)
  have hS := hW.1
  show yi_D zi_Ms d zi_m117 k (0, [(0, .inr (.inr (some 82))), (1, .inl w)], [], (I, L, R, Y), 0, 0) _
  refine yi_D_run 1 (1, [(0, .inr (.inr (some 82))), (1, .inl w)], [.inr (.inr (some 82))], (I, L, R, Y), 0, 0) (fun _ => rfl) ?_
  refine yi_D_gi (v := I 82 8) rfl rfl rfl rfl (fun _ => ?_)
  have h1 : ¬ ((I 82 8) ≤ 0) := by omega
  refine yi_D_if1 false rfl (yi_le_f h1) ?_
  refine yi_D_retv rfl ?_
  rfl
theorem q_products_f {d : Nat} {I L : Nat → Nat → Int} {R : Nat → Nat → Option Nat} {Y : (Nat → Nat) × (Nat → Nat) × Nat} {w : Int} {K P V : Nat → Int} {te b : Nat} {ld : Nat → Int} {nm : Int → Int} (hW : mt_W I L R Y K P V te b ld nm) (hf : 0 < I 82 8) : yi_P zi_Ms d 89 [.inr (.inr (some 82)), .inl w] (I, L, R, Y) (fun r => ∃ I', r = (none, (I', L, R, Y), 0, 0) ∧ mt_G I I' ∧ I' 82 8 = I 82 8) := by
  refine yi_P_of (M := zi_m89) rfl (fun d k => ?_)
  have hS := hW.1
  show yi_D zi_Ms d zi_m89 k (0, [(0, .inr (.inr (some 82))), (1, .inl w)], [], (I, L, R, Y), 0, 0) _
  refine yi_D_run 2 (2, [(0, .inr (.inr (some 82))), (1, .inl w)], [.inl w, .inr (.inr (some 82))], (I, L, R, Y), 0, 0) (fun _ => rfl) ?_
  refine yi_D_callv rfl (q_takePart_f hW hf) ?_
  rintro _ rfl
  show yi_D zi_Ms d zi_m89 k (5, [(0, .inr (.inr (some 82))), (1, .inl w)], [], (I, L, R, Y), 0, 0) _
  refine yi_D_run 2 (8, [(0, .inr (.inr (some 82))), (1, .inl w)], [.inl 42, .inr (.inr (some 82))], (I, L, R, Y), 0, 0) (fun _ => rfl) ?_
  refine yi_D_callv rfl (q_hasSign_f hW hf) ?_
  rintro _ ⟨I1, rfl, hGa2, hq3⟩
  have hW4 := mt_W_t hW (mt_G_F hGa2)
  have hF5 := (mt_G_F hGa2)
  have hG6 := hGa2
  have hf7 : 0 < I1 82 8 := by rw [hq3]; exact hf
  show yi_D zi_Ms d zi_m89 k (11, [(0, .inr (.inr (some 82))), (1, .inl w)], [.inl 0], (I1, L, R, Y), 0, 0) _
  refine yi_D_if1 true rfl (by decide) ?_
  refine yi_D_retv rfl ?_
  exact ⟨_, rfl, hG6, by rw [hq3]⟩
theorem q_sums_f {d : Nat} {I L : Nat → Nat → Int} {R : Nat → Nat → Option Nat} {Y : (Nat → Nat) × (Nat → Nat) × Nat} {w : Int} {K P V : Nat → Int} {te b : Nat} {ld : Nat → Int} {nm : Int → Int} (hW : mt_W I L R Y K P V te b ld nm) (hf : 0 < I 82 8) : yi_P zi_Ms d 114 [.inr (.inr (some 82)), .inl w] (I, L, R, Y) (fun r => ∃ I', r = (none, (I', L, R, Y), 0, 0) ∧ mt_G I I' ∧ I' 82 8 = I 82 8) := by
  refine yi_P_of (M := zi_m114) rfl (fun d k => ?_)
  have hS := hW.1
  show yi_D zi_Ms d zi_m114 k (0, [(0, .inr (.inr (some 82))), (1, .inl w)], [], (I, L, R, Y), 0, 0) _
  refine yi_D_run 2 (2, [(0, .inr (.inr (some 82))), (1, .inl w)], [.inl w, .inr (.inr (some 82))], (I, L, R, Y), 0, 0) (fun _ => rfl) ?_
  refine yi_D_callv rfl (q_products_f hW hf) ?_
  rintro _ ⟨I1, rfl, hGa2, hq3⟩
  have hW4 := mt_W_t hW (mt_G_F hGa2)
  have hF5 := (mt_G_F hGa2)
  have hG6 := hGa2
  have hf7 : 0 < I1 82 8 := by rw [hq3]; exact hf
  show yi_D zi_Ms d zi_m114 k (5, [(0, .inr (.inr (some 82))), (1, .inl w)], [], (I1, L, R, Y), 0, 0) _
  refine yi_D_run 2 (8, [(0, .inr (.inr (some 82))), (1, .inl w)], [.inl 43, .inr (.inr (some 82))], (I1, L, R, Y), 0, 0) (fun _ => rfl) ?_
  refine yi_D_callv rfl (q_isSign_f hW4 hf7) ?_
  rintro _ rfl
  show yi_D zi_Ms d zi_m114 k (11, [(0, .inr (.inr (some 82))), (1, .inl w)], [.inl 0], (I1, L, R, Y), 0, 0) _
  refine yi_D_if1 false rfl (by decide) ?_
  refine yi_D_run 2 (17, [(0, .inr (.inr (some 82))), (1, .inl w)], [.inl 45, .inr (.inr (some 82))], (I1, L, R, Y), 0, 0) (fun _ => rfl) ?_
  refine yi_D_callv rfl (q_isSign_f hW4 hf7) ?_
  rintro _ rfl
  show yi_D zi_Ms d zi_m114 k (20, [(0, .inr (.inr (some 82))), (1, .inl w)], [.inl 0], (I1, L, R, Y), 0, 0) _
  refine yi_D_if1 true rfl (by decide) ?_
  refine yi_D_retv rfl ?_
  exact ⟨_, rfl, hG6, by rw [hq3]⟩
theorem q_test_f {d : Nat} {I L : Nat → Nat → Int} {R : Nat → Nat → Option Nat} {Y : (Nat → Nat) × (Nat → Nat) × Nat} {w : Int} {K P V : Nat → Int} {te b : Nat} {ld : Nat → Int} {nm : Int → Int} (hW : mt_W I L R Y K P V te b ld nm) (hf : 0 < I 82 8) : yi_P zi_Ms d 123 [.inr (.inr (some 82)), .inl w] (I, L, R, Y) (fun r => ∃ I', r = (none, (I', L, R, Y), 0, 0) ∧ mt_G I I' ∧ I' 82 8 = I 82 8) := by
  refine yi_P_of (M := zi_m123) rfl (fun d k => ?_)
  have hS := hW.1
  show yi_D zi_Ms d zi_m123 k (0, [(0, .inr (.inr (some 82))), (1, .inl w)], [], (I, L, R, Y), 0, 0) _
  refine yi_D_run 2 (2, [(0, .inr (.inr (some 82))), (1, .inl w)], [.inl w, .inr (.inr (some 82))], (I, L, R, Y), 0, 0) (fun _ => rfl) ?_
  refine yi_D_callv rfl (q_sums_f hW hf) ?_
  rintro _ ⟨I1, rfl, hGa2, hq3⟩
  have hW4 := mt_W_t hW (mt_G_F hGa2)
  have hF5 := (mt_G_F hGa2)
  have hG6 := hGa2
  have hf7 : 0 < I1 82 8 := by rw [hq3]; exact hf
  show yi_D zi_Ms d zi_m123 k (5, [(0, .inr (.inr (some 82))), (1, .inl w)], [], (I1, L, R, Y), 0, 0) _
  refine yi_D_run 2 (8, [(0, .inr (.inr (some 82))), (1, .inl w)], [.inl 60, .inr (.inr (some 82))], (I1, L, R, Y), 0, 0) (fun _ => rfl) ?_
  refine yi_D_callv rfl (q_isSign_f hW4 hf7) ?_
  rintro _ rfl
  show yi_D zi_Ms d zi_m123 k (11, [(0, .inr (.inr (some 82))), (1, .inl w)], [.inl 0], (I1, L, R, Y), 0, 0) _
  refine yi_D_run 3 (15, [(2, .inl 0), (0, .inr (.inr (some 82))), (1, .inl w)], [.inl 60, .inr (.inr (some 82))], (I1, L, R, Y), 0, 0) (fun _ => rfl) ?_
  refine yi_D_callv rfl (q_hasSign_f hW4 hf7) ?_
  rintro _ ⟨I8, rfl, hGa9, hq10⟩
  have hW11 := mt_W_t hW4 (mt_G_F hGa9)
  have hF12 := mt_F_t hF5 (mt_G_F hGa9)
  have hG13 := mt_G_t hG6 hGa9
  have hf14 : 0 < I8 82 8 := by rw [hq10]; exact hf7
  show yi_D zi_Ms d zi_m123 k (18, [(2, .inl 0), (0, .inr (.inr (some 82))), (1, .inl w)], [.inl 0], (I8, L, R, Y), 0, 0) _
  refine yi_D_if1 false rfl (by decide) ?_
  refine yi_D_run 2 (24, [(2, .inl 0), (0, .inr (.inr (some 82))), (1, .inl w)], [.inl 61, .inr (.inr (some 82))], (I8, L, R, Y), 0, 0) (fun _ => rfl) ?_
  refine yi_D_callv rfl (q_hasSign_f hW11 hf14) ?_
  rintro _ ⟨I15, rfl, hGa16, hq17⟩
  have hW18 := mt_W_t hW11 (mt_G_F hGa16)
  have hF19 := mt_F_t hF12 (mt_G_F hGa16)
  have hG20 := mt_G_t hG13 hGa16
  have hf21 : 0 < I15 82 8 := by rw [hq17]; exact hf14
  show yi_D zi_Ms d zi_m123 k (27, [(2, .inl 0), (0, .inr (.inr (some 82))), (1, .inl w)], [.inl 0], (I15, L, R, Y), 0, 0) _
  refine yi_D_if1 true rfl (by decide) ?_
  refine yi_D_retv rfl ?_
  exact ⟨_, rfl, hG20, by rw [hq17, hq10, hq3]⟩
theorem q_ors_f {d : Nat} {I L : Nat → Nat → Int} {R : Nat → Nat → Option Nat} {Y : (Nat → Nat) × (Nat → Nat) × Nat} {w : Int} {K P V : Nat → Int} {te b : Nat} {ld : Nat → Int} {nm : Int → Int} (hW : mt_W I L R Y K P V te b ld nm) (hf : 0 < I 82 8) : yi_P zi_Ms d 87 [.inr (.inr (some 82)), .inl w] (I, L, R, Y) (fun r => ∃ I', r = (none, (I', L, R, Y), 0, 0) ∧ mt_G I I' ∧ I' 82 8 = I 82 8) := by
  refine yi_P_of (M := zi_m87) rfl (fun d k => ?_)
  have hS := hW.1
  show yi_D zi_Ms d zi_m87 k (0, [(0, .inr (.inr (some 82))), (1, .inl w)], [], (I, L, R, Y), 0, 0) _
  refine yi_D_run 2 (2, [(0, .inr (.inr (some 82))), (1, .inl w)], [.inl w, .inr (.inr (some 82))], (I, L, R, Y), 0, 0) (fun _ => rfl) ?_
  refine yi_D_callv rfl (q_test_f hW hf) ?_
  rintro _ ⟨I1, rfl, hGa2, hq3⟩
  have hW4 := mt_W_t hW (mt_G_F hGa2)
  have hF5 := (mt_G_F hGa2)
  have hG6 := hGa2
  have hf7 : 0 < I1 82 8 := by rw [hq3]; exact hf
  show yi_D zi_Ms d zi_m87 k (5, [(0, .inr (.inr (some 82))), (1, .inl w)], [], (I1, L, R, Y), 0, 0) _
  refine yi_D_run 2 (8, [(0, .inr (.inr (some 82))), (1, .inl w)], [.inl 27, .inr (.inr (some 82))], (I1, L, R, Y), 0, 0) (fun _ => rfl) ?_
  refine yi_D_callv rfl (q_isWord_f hW4 hf7) ?_
  rintro _ rfl
  show yi_D zi_Ms d zi_m87 k (11, [(0, .inr (.inr (some 82))), (1, .inl w)], [.inl 0], (I1, L, R, Y), 0, 0) _
  refine yi_D_if1 false rfl (by decide) ?_
  refine yi_D_run 2 (17, [(0, .inr (.inr (some 82))), (1, .inl w)], [.inl 28, .inr (.inr (some 82))], (I1, L, R, Y), 0, 0) (fun _ => rfl) ?_
  refine yi_D_callv rfl (q_isWord_f hW4 hf7) ?_
  rintro _ rfl
  show yi_D zi_Ms d zi_m87 k (20, [(0, .inr (.inr (some 82))), (1, .inl w)], [.inl 0], (I1, L, R, Y), 0, 0) _
  refine yi_D_if1 true rfl (by decide) ?_
  refine yi_D_retv rfl ?_
  exact ⟨_, rfl, hG6, by rw [hq3]⟩
theorem q_takePart_s {d : Nat} {I L : Nat → Nat → Int} {R : Nat → Nat → Option Nat} {Y : (Nat → Nat) × (Nat → Nat) × Nat} (hRP : mt_RP d) (hRO : mt_RO d) {K P V : Nat → Int} {te b a : Nat} {ld : Nat → Int} {nm : Int → Int} (hW : mt_W I L R Y K P V te b ld nm) (hf : I 82 8 = 0) (hA : mt_A I te a) (dp : Nat) (sk : List Nat) (cs : List (Int × Int)) (hd : dp ≤ 5) : yi_P zi_Ms (d + 1) 117 [.inr (.inr (some 82)), .inl (dp : Int)] (I, L, R, Y) (mt_QR I L R Y K P V te (12, a, dp, sk, ld, nm, cs) 13 a dp sk ld nm) := by
  refine yi_P_s (M := zi_m117) rfl (fun k => ?_)
  have hS := hW.1
  have ht := hW.2.1.1
  have ha := hA.2
  have hp := hW.2.1.2.1 a hA.2
  have hnb := mt_nb hW.2.1 hA.2
  have hfb : -1 ≤ sp_fact (V a) := by
    unfold sp_fact
    repeat (first | omega | split)
  show yi_D zi_Ms d zi_m117 k (0, [(0, .inr (.inr (some 82))), (1, .inl (dp : Int))], [], (I, L, R, Y), 0, 0) _
  refine yi_D_run 1 (1, [(0, .inr (.inr (some 82))), (1, .inl (dp : Int))], [.inr (.inr (some 82))], (I, L, R, Y), 0, 0) (fun _ => rfl) ?_
  refine yi_D_gi (v := 0) rfl rfl rfl hf (fun _ => ?_)
  refine yi_D_if1 true rfl (by decide) ?_
  refine yi_D_run 1 (9, [(0, .inr (.inr (some 82))), (1, .inl (dp : Int))], [.inr (.inr (some 82))], (I, L, R, Y), 0, 0) (fun _ => rfl) ?_
  refine yi_D_gr (v := some 84) rfl rfl rfl (ym_S_at hS (j := 1) rfl).1 (fun _ => ?_)
  refine yi_D_run 1 (13, [(0, .inr (.inr (some 82))), (1, .inl (dp : Int))], [.inr (.inr (some 82)), .inr (.inr (some 84))], (I, L, R, Y), 0, 0) (fun _ => rfl) ?_
  refine yi_D_gi (v := (a : Int)) rfl rfl rfl hA.1 (fun _ => ?_)
  refine yi_D_il (v := I 84 a) rfl rfl rfl (fun _ _ => ?_)
  refine yi_D_run 1 (18, [(0, .inr (.inr (some 82))), (1, .inl (dp : Int))], [.inl 2, .inl (I 84 a)], (I, L, R, Y), 0, 0) (fun _ => rfl) ?_
  by_cases h1 : (I 84 a) = 2
  · refine yi_D_if2 false rfl (yi_ne_f h1) ?_
    refine yi_D_run 6 (31, [(2, .inl 1), (0, .inr (.inr (some 82))), (1, .inl (dp : Int))], [.inl 3, .inl 29, .inr (.inr (some 82))], (I, L, R, Y), 0, 0) (fun _ => rfl) ?_
    refine yi_D_callv rfl (q_wordHere_3 hW hf hA) ?_
    rintro _ ⟨z2, rfl, hz3⟩
    show yi_D zi_Ms d zi_m117 k (34, [(2, .inl 1), (0, .inr (.inr (some 82))), (1, .inl (dp : Int))], [.inl z2], (I, L, R, Y), 0, 0) _
    refine yi_D_run 2 (36, [(3, .inl z2), (2, .inl 1), (0, .inr (.inr (some 82))), (1, .inl (dp : Int))], [.inl z2], (I, L, R, Y), 0, 0) (fun _ => rfl) ?_
    by_cases h4 : 0 ≤ z2
    · refine yi_D_if1 true rfl (yi_ge_t h4) ?_
      refine yi_D_run 2 (71, [(3, .inl z2), (2, .inl 1), (0, .inr (.inr (some 82))), (1, .inl (dp : Int))], [.inl 5, .inl (dp : Int)], (I, L, R, Y), 0, 0) (fun _ => rfl) ?_
      by_cases h5 : (dp : Int) = 5
      · refine yi_D_if2 false rfl (yi_ne_f h5) ?_
        refine yi_D_run 2 (76, [(3, .inl z2), (2, .inl 1), (0, .inr (.inr (some 82))), (1, .inl (dp : Int))], [.inl 5, .inr (.inr (some 82))], (I, L, R, Y), 0, 0) (fun _ => rfl) ?_
        refine yi_D_callv rfl (q_wrong_z ⟨by omega, by omega⟩ hW hf hA) ?_
        rintro _ ⟨I6, rfl, hg7, he8⟩
        have hGw9 : mt_G I I6 := fun p k hp => hg7 p k (by omega)
        have hW10 := mt_W_t hW (mt_G_F hGw9)
        have hF11 := (mt_G_F hGw9)
        have hG12 := hGw9
        have hz13 : 0 < sp_f P a 5 := mt_f_ne hW hA.2 (by omega)
        have hn14 : 0 < I6 82 8 := by rw [he8]; exact hz13
        have hx15 : sp_R K P V (12, a, dp, sk, ld, nm, cs) (.inr (sp_f P a 5)) := sp_R_1 (by
          show sp_part K P V a dp sk ld nm cs = _
          first
          | (exfalso; omega)
          | (unfold sp_part; (repeat (first | rw [if_pos (by omega)] | rw [if_neg (by omega)])); done))
        show yi_D zi_Ms d zi_m117 k (79, [(3, .inl z2), (2, .inl 1), (0, .inr (.inr (some 82))), (1, .inl (dp : Int))], [], (I6, L, R, Y), 0, 0) _
        refine yi_D_run 1 (80, [(3, .inl z2), (2, .inl 1), (0, .inr (.inr (some 82))), (1, .inl (dp : Int))], [.inr (.inr (some 82))], (I6, L, R, Y), 0, 0) (fun _ => rfl) ?_
        refine yi_D_gi (v := I6 82 8) rfl rfl rfl rfl (fun _ => ?_)
        have h16 : ¬ ((I6 82 8) ≤ 0) := by omega
        refine yi_D_if1 false rfl (yi_le_f h16) ?_
        refine yi_D_retv rfl ?_
        exact ⟨_, rfl, hF11, Or.inr ⟨_, hx15, hz13, he8⟩⟩
      · refine yi_D_if2 true rfl (yi_ne_t h5) ?_
        refine yi_D_run 1 (80, [(3, .inl z2), (2, .inl 1), (0, .inr (.inr (some 82))), (1, .inl (dp : Int))], [.inr (.inr (some 82))], (I, L, R, Y), 0, 0) (fun _ => rfl) ?_
        refine yi_D_gi (v := 0) rfl rfl rfl hf (fun _ => ?_)
        refine yi_D_if1 true rfl (by decide) ?_
        refine yi_D_run 2 (90, [(3, .inl z2), (2, .inl 1), (0, .inr (.inr (some 82))), (1, .inl (dp : Int))], [.inl 26, .inr (.inr (some 82))], (I, L, R, Y), 0, 0) (fun _ => rfl) ?_
        refine yi_D_callv rfl (q_hasWord_z (by omega) (by omega) hW hf hA) ?_
        rintro _ (⟨c17, I18, rfl, hGa19, hf20, hA21⟩ | ⟨c22, I23, rfl, hGa24, hf25, hA26⟩)
        · have hA21 : mt_A I18 te (a + 1) := hA21
          have hW27 := mt_W_t hW (mt_G_F hGa19)
          have hF28 := (mt_G_F hGa19)
          have hG29 := hGa19
          show yi_D zi_Ms d zi_m117 k (93, [(3, .inl z2), (2, .inl 1), (0, .inr (.inr (some 82))), (1, .inl (dp : Int))], [.inl 1], (I18, L, R, Y), 0, 0) _
          refine yi_D_if1 false rfl (by decide) ?_
          refine yi_D_run 3 (99, [(3, .inl z2), (2, .inl 1), (0, .inr (.inr (some 82))), (1, .inl (dp : Int))], [.inl 1, .inl (dp : Int), .inr (.inr (some 82))], (I18, L, R, Y), 0, 0) (fun _ => rfl) ?_
          refine yi_D_iadd rfl ((dp : Int) + 1) (yi_wn (by omega) (by omega)) ?_
          have hst30 : sp_R K P V (12, a, dp, sk, ld, nm, cs) (.inl (12, a + 1, dp + 1, 5 :: sk, ld, nm, cs)) := sp_R_1 (by
            show sp_part K P V a dp sk ld nm cs = _
            first
            | (exfalso; omega)
            | (unfold sp_part; (repeat (first | rw [if_pos (by omega)] | rw [if_neg (by omega)])); done))
          refine yi_D_callv rfl (hRP (dp + 1) (5 :: sk) cs hW27 hf20 hA21 (by omega)) ?_
          rintro _ ⟨I31, rfl, hFr32, (⟨a33, cs34, hR35, lt36, hf37, hA38⟩ | ⟨f39, hR40, hz41, he42⟩)⟩
          · have hW43 := mt_W_t hW27 hFr32
            have hF44 := mt_F_t hF28 hFr32
            have hR45 : sp_R K P V (12, a, dp, sk, ld, nm, cs) (.inl (13, a33, dp, sk, ld, nm, cs34 ++ [(3, 0)])) := sp_R_s (sp_R_t hst30 hR35) rfl
            show yi_D zi_Ms d zi_m117 k (103, [(3, .inl z2), (2, .inl 1), (0, .inr (.inr (some 82))), (1, .inl (dp : Int))], [], (I31, L, R, Y), 0, 0) _
            refine yi_D_run 3 (106, [(3, .inl z2), (2, .inl 1), (0, .inr (.inr (some 82))), (1, .inl (dp : Int))], [.inl 0, .inl 3, .inr (.inr (some 82))], (I31, L, R, Y), 0, 0) (fun _ => rfl) ?_
            refine yi_D_callv rfl (q_emit hW43) ?_
            rintro _ ⟨I46, rfl, hE47⟩
            have hW48 := mt_W_t hW43 (mt_E_F hE47)
            have hF49 := mt_F_t hF44 (mt_E_F hE47)
            have hf50 : I46 82 8 = 0 := (hE47.1 82 8 (by omega)).trans hf37
            have hA51 : mt_A I46 te a33 := ⟨(hE47.1 82 7 (by omega)).trans hA38.1, hA38.2⟩
            show yi_D zi_Ms d zi_m117 k (109, [(3, .inl z2), (2, .inl 1), (0, .inr (.inr (some 82))), (1, .inl (dp : Int))], [], (I46, L, R, Y), 0, 0) _
            refine yi_D_run 1 (178, [(3, .inl z2), (2, .inl 1), (0, .inr (.inr (some 82))), (1, .inl (dp : Int))], [], (I46, L, R, Y), 0, 0) (fun _ => rfl) ?_
            refine yi_D_retv rfl ?_
            exact ⟨_, rfl, hF49, Or.inl ⟨_, _, hR45, by omega, hf50, hA51⟩⟩
          · have hW52 := mt_W_t hW27 hFr32
            have hF53 := mt_F_t hF28 hFr32
            have hn54 : 0 < I31 82 8 := by rw [he42]; exact hz41
            have hx55 : sp_R K P V (12, a, dp, sk, ld, nm, cs) (.inr f39) := sp_R_t hst30 hR40
            show yi_D zi_Ms d zi_m117 k (103, [(3, .inl z2), (2, .inl 1), (0, .inr (.inr (some 82))), (1, .inl (dp : Int))], [], (I31, L, R, Y), 0, 0) _
            refine yi_D_run 3 (106, [(3, .inl z2), (2, .inl 1), (0, .inr (.inr (some 82))), (1, .inl (dp : Int))], [.inl 0, .inl 3, .inr (.inr (some 82))], (I31, L, R, Y), 0, 0) (fun _ => rfl) ?_
            refine yi_D_callv rfl (q_emit hW52) ?_
            rintro _ ⟨I56, rfl, hE57⟩
            have hW58 := mt_W_t hW52 (mt_E_F hE57)
            have hF59 := mt_F_t hF53 (mt_E_F hE57)
            have hf60 : 0 < I56 82 8 := by rw [hE57.1 82 8 (by omega)]; exact hn54
            have he61 := (hE57.1 82 8 (by omega)).trans he42
            show yi_D zi_Ms d zi_m117 k (109, [(3, .inl z2), (2, .inl 1), (0, .inr (.inr (some 82))), (1, .inl (dp : Int))], [], (I56, L, R, Y), 0, 0) _
            refine yi_D_run 1 (178, [(3, .inl z2), (2, .inl 1), (0, .inr (.inr (some 82))), (1, .inl (dp : Int))], [], (I56, L, R, Y), 0, 0) (fun _ => rfl) ?_
            refine yi_D_retv rfl ?_
            exact ⟨_, rfl, hF59, Or.inr ⟨_, hx55, hz41, he61⟩⟩
        · have hA26 : mt_A I23 te a := hA26
          have hW62 := mt_W_t hW (mt_G_F hGa24)
          have hF63 := (mt_G_F hGa24)
          have hG64 := hGa24
          show yi_D zi_Ms d zi_m117 k (93, [(3, .inl z2), (2, .inl 1), (0, .inr (.inr (some 82))), (1, .inl (dp : Int))], [.inl 0], (I23, L, R, Y), 0, 0) _
          refine yi_D_if1 true rfl (by decide) ?_
          refine yi_D_run 2 (115, [(3, .inl z2), (2, .inl 1), (0, .inr (.inr (some 82))), (1, .inl (dp : Int))], [.inl 40, .inr (.inr (some 82))], (I23, L, R, Y), 0, 0) (fun _ => rfl) ?_
          refine yi_D_callv rfl (q_hasSign_z (by omega) hW62 hf25 hA26) ?_
          rintro _ (⟨c65, I66, rfl, hGa67, hf68, hA69⟩ | ⟨c70, I71, rfl, hGa72, hf73, hA74⟩)
          · have hA69 : mt_A I66 te (a + 1) := hA69
            have hW75 := mt_W_t hW62 (mt_G_F hGa67)
            have hF76 := mt_F_t hF63 (mt_G_F hGa67)
            have hG77 := mt_G_t hG64 hGa67
            show yi_D zi_Ms d zi_m117 k (118, [(3, .inl z2), (2, .inl 1), (0, .inr (.inr (some 82))), (1, .inl (dp : Int))], [.inl 1], (I66, L, R, Y), 0, 0) _
            refine yi_D_if1 false rfl (by decide) ?_
            refine yi_D_run 3 (124, [(3, .inl z2), (2, .inl 1), (0, .inr (.inr (some 82))), (1, .inl (dp : Int))], [.inl 1, .inl (dp : Int), .inr (.inr (some 82))], (I66, L, R, Y), 0, 0) (fun _ => rfl) ?_
            refine yi_D_iadd rfl ((dp : Int) + 1) (yi_wn (by omega) (by omega)) ?_
            have hst78 : sp_R K P V (12, a, dp, sk, ld, nm, cs) (.inl (8, a + 1, dp + 1, 6 :: sk, ld, nm, cs)) := sp_R_1 (by
              show sp_part K P V a dp sk ld nm cs = _
              first
              | (exfalso; omega)
              | (unfold sp_part; (repeat (first | rw [if_pos (by omega)] | rw [if_neg (by omega)])); done))
            refine yi_D_callv rfl (hRO (dp + 1) (6 :: sk) cs hW75 hf68 hA69 (by omega)) ?_
            rintro _ ⟨I79, rfl, hFr80, (⟨a81, cs82, hR83, lt84, hf85, hA86⟩ | ⟨f87, hR88, hz89, he90⟩)⟩
            · have hW91 := mt_W_t hW75 hFr80
              have hF92 := mt_F_t hF76 hFr80
              have hR93 := sp_R_t hst78 hR83
              show yi_D zi_Ms d zi_m117 k (128, [(3, .inl z2), (2, .inl 1), (0, .inr (.inr (some 82))), (1, .inl (dp : Int))], [], (I79, L, R, Y), 0, 0) _
              refine yi_D_run 2 (131, [(3, .inl z2), (2, .inl 1), (0, .inr (.inr (some 82))), (1, .inl (dp : Int))], [.inl 41, .inr (.inr (some 82))], (I79, L, R, Y), 0, 0) (fun _ => rfl) ?_
              refine yi_D_callv rfl (q_takeSign_z (by omega) hW91 hf85 hA86) ?_
              rintro _ (⟨c94, I95, rfl, hGa96, hf97, hA98⟩ | ⟨c99, I100, rfl, hGa101, he102⟩)
              · have hA98 : mt_A I95 te (a81 + 1) := hA98
                have hW103 := mt_W_t hW91 (mt_G_F hGa96)
                have hF104 := mt_F_t hF92 (mt_G_F hGa96)
                have hR105 : sp_R K P V (12, a, dp, sk, ld, nm, cs) (.inl (13, a81 + 1, dp, sk, ld, nm, cs82)) := sp_R_s hR93 (by
                  show (if K _ = 41 then _ else _) = _
                  rw [if_pos (by omega)]
                  rfl)
                show yi_D zi_Ms d zi_m117 k (134, [(3, .inl z2), (2, .inl 1), (0, .inr (.inr (some 82))), (1, .inl (dp : Int))], [], (I95, L, R, Y), 0, 0) _
                refine yi_D_run 1 (178, [(3, .inl z2), (2, .inl 1), (0, .inr (.inr (some 82))), (1, .inl (dp : Int))], [], (I95, L, R, Y), 0, 0) (fun _ => rfl) ?_
                refine yi_D_retv rfl ?_
                exact ⟨_, rfl, hF104, Or.inl ⟨_, _, hR105, by omega, hf97, hA98⟩⟩
              · have hW106 := mt_W_t hW91 (mt_G_F hGa101)
                have hF107 := mt_F_t hF92 (mt_G_F hGa101)
                have hz108 : 0 < sp_f P a81 1 := mt_f_ne hW91 hA86.2 (by omega)
                have hn109 : 0 < I100 82 8 := by rw [he102]; exact hz108
                have hx110 : sp_R K P V (12, a, dp, sk, ld, nm, cs) (.inr (sp_f P a81 1)) := sp_R_s hR93 (by
                  show (if K _ = _ then _ else _) = _
                  rw [if_neg (by omega)])
                show yi_D zi_Ms d zi_m117 k (134, [(3, .inl z2), (2, .inl 1), (0, .inr (.inr (some 82))), (1, .inl (dp : Int))], [], (I100, L, R, Y), 0, 0) _
                refine yi_D_run 1 (178, [(3, .inl z2), (2, .inl 1), (0, .inr (.inr (some 82))), (1, .inl (dp : Int))], [], (I100, L, R, Y), 0, 0) (fun _ => rfl) ?_
                refine yi_D_retv rfl ?_
                exact ⟨_, rfl, hF107, Or.inr ⟨_, hx110, hz108, he102⟩⟩
            · have hW111 := mt_W_t hW75 hFr80
              have hF112 := mt_F_t hF76 hFr80
              have hn113 : 0 < I79 82 8 := by rw [he90]; exact hz89
              have hx114 : sp_R K P V (12, a, dp, sk, ld, nm, cs) (.inr f87) := sp_R_t hst78 hR88
              show yi_D zi_Ms d zi_m117 k (128, [(3, .inl z2), (2, .inl 1), (0, .inr (.inr (some 82))), (1, .inl (dp : Int))], [], (I79, L, R, Y), 0, 0) _
              refine yi_D_run 2 (131, [(3, .inl z2), (2, .inl 1), (0, .inr (.inr (some 82))), (1, .inl (dp : Int))], [.inl 41, .inr (.inr (some 82))], (I79, L, R, Y), 0, 0) (fun _ => rfl) ?_
              refine yi_D_callv rfl (q_takeSign_f hW111 hn113) ?_
              rintro _ rfl
              show yi_D zi_Ms d zi_m117 k (134, [(3, .inl z2), (2, .inl 1), (0, .inr (.inr (some 82))), (1, .inl (dp : Int))], [], (I79, L, R, Y), 0, 0) _
              refine yi_D_run 1 (178, [(3, .inl z2), (2, .inl 1), (0, .inr (.inr (some 82))), (1, .inl (dp : Int))], [], (I79, L, R, Y), 0, 0) (fun _ => rfl) ?_
              refine yi_D_retv rfl ?_
              exact ⟨_, rfl, hF112, Or.inr ⟨_, hx114, hz89, he90⟩⟩
          · have hA74 : mt_A I71 te a := hA74
            have hW115 := mt_W_t hW62 (mt_G_F hGa72)
            have hF116 := mt_F_t hF63 (mt_G_F hGa72)
            have hG117 := mt_G_t hG64 hGa72
            show yi_D zi_Ms d zi_m117 k (118, [(3, .inl z2), (2, .inl 1), (0, .inr (.inr (some 82))), (1, .inl (dp : Int))], [.inl 0], (I71, L, R, Y), 0, 0) _
            refine yi_D_if1 true rfl (by decide) ?_
            refine yi_D_run 2 (139, [(3, .inl z2), (2, .inl 1), (0, .inr (.inr (some 82))), (1, .inl (dp : Int))], [.inl 1, .inr (.inr (some 82))], (I71, L, R, Y), 0, 0) (fun _ => rfl) ?_
            refine yi_D_if1 false rfl (by decide) ?_
            refine yi_D_run 3 (148, [(3, .inl z2), (2, .inl 1), (0, .inr (.inr (some 82))), (1, .inl (dp : Int))], [.inl 1, .inl 1, .inr (.inr (some 82))], (I71, L, R, Y), 0, 0) (fun _ => rfl) ?_
            refine yi_D_if1 false rfl (by decide) ?_
            refine yi_D_run 1 (152, [(3, .inl z2), (2, .inl 1), (0, .inr (.inr (some 82))), (1, .inl (dp : Int))], [.inr (.inr (some 82)), .inl 1, .inr (.inr (some 82))], (I71, L, R, Y), 0, 0) (fun _ => rfl) ?_
            refine yi_D_gr (v := some 86) rfl rfl rfl (ym_S_at hS (j := 3) rfl).1 (fun _ => ?_)
            refine yi_D_run 1 (156, [(3, .inl z2), (2, .inl 1), (0, .inr (.inr (some 82))), (1, .inl (dp : Int))], [.inr (.inr (some 82)), .inr (.inr (some 86)), .inl 1, .inr (.inr (some 82))], (I71, L, R, Y), 0, 0) (fun _ => rfl) ?_
            refine yi_D_gi (v := (a : Int)) rfl rfl rfl hA74.1 (fun _ => ?_)
            refine yi_D_ll (v := L 86 a) rfl rfl rfl (fun _ _ => ?_)
            refine yi_D_run 2 (165, [(3, .inl z2), (2, .inl 1), (0, .inr (.inr (some 82))), (1, .inl (dp : Int))], [.inl (yi_w (L 86 a)), .inl 1, .inr (.inr (some 82))], (I71, L, R, Y), 0, 0) (fun _ => rfl) ?_
            refine yi_D_callv rfl (q_emit hW115) ?_
            rintro _ ⟨I118, rfl, hE119⟩
            have hW120 := mt_W_t hW115 (mt_E_F hE119)
            have hF121 := mt_F_t hF116 (mt_E_F hE119)
            have hf122 : I118 82 8 = 0 := (hE119.1 82 8 (by omega)).trans hf73
            have hA123 : mt_A I118 te a := ⟨(hE119.1 82 7 (by omega)).trans hA74.1, hA74.2⟩
            show yi_D zi_Ms d zi_m117 k (168, [(3, .inl z2), (2, .inl 1), (0, .inr (.inr (some 82))), (1, .inl (dp : Int))], [], (I118, L, R, Y), 0, 0) _
            refine yi_D_run 2 (170, [(3, .inl z2), (2, .inl 1), (0, .inr (.inr (some 82))), (1, .inl (dp : Int))], [.inr (.inr (some 82)), .inr (.inr (some 82))], (I118, L, R, Y), 0, 0) (fun _ => rfl) ?_
            refine yi_D_gi (v := (a : Int)) rfl rfl rfl hA123.1 (fun _ => ?_)
            refine yi_D_run 1 (174, [(3, .inl z2), (2, .inl 1), (0, .inr (.inr (some 82))), (1, .inl (dp : Int))], [.inl 1, .inl (a : Int), .inr (.inr (some 82))], (I118, L, R, Y), 0, 0) (fun _ => rfl) ?_
            refine yi_D_iadd rfl ((a : Int) + 1) (yi_wn (by omega) (by omega)) ?_
            refine yi_D_pi rfl (fun _ => ?_)
            generalize w125 : yi_u I118 82 7 ((a : Int) + 1) = I124
            have hGn126 : mt_G I118 I124 := fun p k hp => by rw [← w125, yi_u_ne _ _ (by omega)]
            have hW127 := mt_W_t hW120 (mt_G_F hGn126)
            have hF128 := mt_F_t hF121 (mt_G_F hGn126)
            have hf129 : I124 82 8 = 0 := by rw [← w125, yi_u_ne _ _ (by omega)]; exact hf122
            have hA130 : mt_A I124 te (a + 1) := ⟨by rw [← w125, yi_u_eq]; omega, mt_lt hW127.2.1 hA123.2 (by omega)⟩
            refine yi_D_retv rfl ?_
            have hst : sp_R K P V (12, a, dp, sk, ld, nm, cs) (.inl (13, a + 1, dp, sk, ld, nm, cs ++ [if K a = 2 then (1, V a) else (2, sp_fact (V a))])) := sp_R_1 (by
              show sp_part K P V a dp sk ld nm cs = _
              first
              | (exfalso; omega)
              | (unfold sp_part; rw [if_neg (by omega), if_neg (by omega), if_neg (by omega), if_neg (by omega)]))
            exact ⟨_, rfl, hF128, Or.inl ⟨_, _, hst, by omega, hf129, hA130⟩⟩
    · refine yi_D_if1 false rfl (yi_ge_f h4) ?_
      refine yi_D_run 1 (40, [(3, .inl z2), (2, .inl 1), (0, .inr (.inr (some 82))), (1, .inl (dp : Int))], [.inl 1], (I, L, R, Y), 0, 0) (fun _ => rfl) ?_
      refine yi_D_if1 true rfl (by decide) ?_
      refine yi_D_run 2 (71, [(3, .inl z2), (2, .inl 1), (0, .inr (.inr (some 82))), (1, .inl (dp : Int))], [.inl 5, .inl (dp : Int)], (I, L, R, Y), 0, 0) (fun _ => rfl) ?_
      by_cases h131 : (dp : Int) = 5
      · refine yi_D_if2 false rfl (yi_ne_f h131) ?_
        refine yi_D_run 2 (76, [(3, .inl z2), (2, .inl 1), (0, .inr (.inr (some 82))), (1, .inl (dp : Int))], [.inl 5, .inr (.inr (some 82))], (I, L, R, Y), 0, 0) (fun _ => rfl) ?_
        refine yi_D_callv rfl (q_wrong_z ⟨by omega, by omega⟩ hW hf hA) ?_
        rintro _ ⟨I132, rfl, hg133, he134⟩
        have hGw135 : mt_G I I132 := fun p k hp => hg133 p k (by omega)
        have hW136 := mt_W_t hW (mt_G_F hGw135)
        have hF137 := (mt_G_F hGw135)
        have hG138 := hGw135
        have hz139 : 0 < sp_f P a 5 := mt_f_ne hW hA.2 (by omega)
        have hn140 : 0 < I132 82 8 := by rw [he134]; exact hz139
        have hx141 : sp_R K P V (12, a, dp, sk, ld, nm, cs) (.inr (sp_f P a 5)) := sp_R_1 (by
          show sp_part K P V a dp sk ld nm cs = _
          first
          | (exfalso; omega)
          | (unfold sp_part; (repeat (first | rw [if_pos (by omega)] | rw [if_neg (by omega)])); done))
        show yi_D zi_Ms d zi_m117 k (79, [(3, .inl z2), (2, .inl 1), (0, .inr (.inr (some 82))), (1, .inl (dp : Int))], [], (I132, L, R, Y), 0, 0) _
        refine yi_D_run 1 (80, [(3, .inl z2), (2, .inl 1), (0, .inr (.inr (some 82))), (1, .inl (dp : Int))], [.inr (.inr (some 82))], (I132, L, R, Y), 0, 0) (fun _ => rfl) ?_
        refine yi_D_gi (v := I132 82 8) rfl rfl rfl rfl (fun _ => ?_)
        have h142 : ¬ ((I132 82 8) ≤ 0) := by omega
        refine yi_D_if1 false rfl (yi_le_f h142) ?_
        refine yi_D_retv rfl ?_
        exact ⟨_, rfl, hF137, Or.inr ⟨_, hx141, hz139, he134⟩⟩
      · refine yi_D_if2 true rfl (yi_ne_t h131) ?_
        refine yi_D_run 1 (80, [(3, .inl z2), (2, .inl 1), (0, .inr (.inr (some 82))), (1, .inl (dp : Int))], [.inr (.inr (some 82))], (I, L, R, Y), 0, 0) (fun _ => rfl) ?_
        refine yi_D_gi (v := 0) rfl rfl rfl hf (fun _ => ?_)
        refine yi_D_if1 true rfl (by decide) ?_
        refine yi_D_run 2 (90, [(3, .inl z2), (2, .inl 1), (0, .inr (.inr (some 82))), (1, .inl (dp : Int))], [.inl 26, .inr (.inr (some 82))], (I, L, R, Y), 0, 0) (fun _ => rfl) ?_
        refine yi_D_callv rfl (q_hasWord_z (by omega) (by omega) hW hf hA) ?_
        rintro _ (⟨c143, I144, rfl, hGa145, hf146, hA147⟩ | ⟨c148, I149, rfl, hGa150, hf151, hA152⟩)
        · have hA147 : mt_A I144 te (a + 1) := hA147
          have hW153 := mt_W_t hW (mt_G_F hGa145)
          have hF154 := (mt_G_F hGa145)
          have hG155 := hGa145
          show yi_D zi_Ms d zi_m117 k (93, [(3, .inl z2), (2, .inl 1), (0, .inr (.inr (some 82))), (1, .inl (dp : Int))], [.inl 1], (I144, L, R, Y), 0, 0) _
          refine yi_D_if1 false rfl (by decide) ?_
          refine yi_D_run 3 (99, [(3, .inl z2), (2, .inl 1), (0, .inr (.inr (some 82))), (1, .inl (dp : Int))], [.inl 1, .inl (dp : Int), .inr (.inr (some 82))], (I144, L, R, Y), 0, 0) (fun _ => rfl) ?_
          refine yi_D_iadd rfl ((dp : Int) + 1) (yi_wn (by omega) (by omega)) ?_
          have hst156 : sp_R K P V (12, a, dp, sk, ld, nm, cs) (.inl (12, a + 1, dp + 1, 5 :: sk, ld, nm, cs)) := sp_R_1 (by
            show sp_part K P V a dp sk ld nm cs = _
            first
            | (exfalso; omega)
            | (unfold sp_part; (repeat (first | rw [if_pos (by omega)] | rw [if_neg (by omega)])); done))
          refine yi_D_callv rfl (hRP (dp + 1) (5 :: sk) cs hW153 hf146 hA147 (by omega)) ?_
          rintro _ ⟨I157, rfl, hFr158, (⟨a159, cs160, hR161, lt162, hf163, hA164⟩ | ⟨f165, hR166, hz167, he168⟩)⟩
          · have hW169 := mt_W_t hW153 hFr158
            have hF170 := mt_F_t hF154 hFr158
            have hR171 : sp_R K P V (12, a, dp, sk, ld, nm, cs) (.inl (13, a159, dp, sk, ld, nm, cs160 ++ [(3, 0)])) := sp_R_s (sp_R_t hst156 hR161) rfl
            show yi_D zi_Ms d zi_m117 k (103, [(3, .inl z2), (2, .inl 1), (0, .inr (.inr (some 82))), (1, .inl (dp : Int))], [], (I157, L, R, Y), 0, 0) _
            refine yi_D_run 3 (106, [(3, .inl z2), (2, .inl 1), (0, .inr (.inr (some 82))), (1, .inl (dp : Int))], [.inl 0, .inl 3, .inr (.inr (some 82))], (I157, L, R, Y), 0, 0) (fun _ => rfl) ?_
            refine yi_D_callv rfl (q_emit hW169) ?_
            rintro _ ⟨I172, rfl, hE173⟩
            have hW174 := mt_W_t hW169 (mt_E_F hE173)
            have hF175 := mt_F_t hF170 (mt_E_F hE173)
            have hf176 : I172 82 8 = 0 := (hE173.1 82 8 (by omega)).trans hf163
            have hA177 : mt_A I172 te a159 := ⟨(hE173.1 82 7 (by omega)).trans hA164.1, hA164.2⟩
            show yi_D zi_Ms d zi_m117 k (109, [(3, .inl z2), (2, .inl 1), (0, .inr (.inr (some 82))), (1, .inl (dp : Int))], [], (I172, L, R, Y), 0, 0) _
            refine yi_D_run 1 (178, [(3, .inl z2), (2, .inl 1), (0, .inr (.inr (some 82))), (1, .inl (dp : Int))], [], (I172, L, R, Y), 0, 0) (fun _ => rfl) ?_
            refine yi_D_retv rfl ?_
            exact ⟨_, rfl, hF175, Or.inl ⟨_, _, hR171, by omega, hf176, hA177⟩⟩
          · have hW178 := mt_W_t hW153 hFr158
            have hF179 := mt_F_t hF154 hFr158
            have hn180 : 0 < I157 82 8 := by rw [he168]; exact hz167
            have hx181 : sp_R K P V (12, a, dp, sk, ld, nm, cs) (.inr f165) := sp_R_t hst156 hR166
            show yi_D zi_Ms d zi_m117 k (103, [(3, .inl z2), (2, .inl 1), (0, .inr (.inr (some 82))), (1, .inl (dp : Int))], [], (I157, L, R, Y), 0, 0) _
            refine yi_D_run 3 (106, [(3, .inl z2), (2, .inl 1), (0, .inr (.inr (some 82))), (1, .inl (dp : Int))], [.inl 0, .inl 3, .inr (.inr (some 82))], (I157, L, R, Y), 0, 0) (fun _ => rfl) ?_
            refine yi_D_callv rfl (q_emit hW178) ?_
            rintro _ ⟨I182, rfl, hE183⟩
            have hW184 := mt_W_t hW178 (mt_E_F hE183)
            have hF185 := mt_F_t hF179 (mt_E_F hE183)
            have hf186 : 0 < I182 82 8 := by rw [hE183.1 82 8 (by omega)]; exact hn180
            have he187 := (hE183.1 82 8 (by omega)).trans he168
            show yi_D zi_Ms d zi_m117 k (109, [(3, .inl z2), (2, .inl 1), (0, .inr (.inr (some 82))), (1, .inl (dp : Int))], [], (I182, L, R, Y), 0, 0) _
            refine yi_D_run 1 (178, [(3, .inl z2), (2, .inl 1), (0, .inr (.inr (some 82))), (1, .inl (dp : Int))], [], (I182, L, R, Y), 0, 0) (fun _ => rfl) ?_
            refine yi_D_retv rfl ?_
            exact ⟨_, rfl, hF185, Or.inr ⟨_, hx181, hz167, he187⟩⟩
        · have hA152 : mt_A I149 te a := hA152
          have hW188 := mt_W_t hW (mt_G_F hGa150)
          have hF189 := (mt_G_F hGa150)
          have hG190 := hGa150
          show yi_D zi_Ms d zi_m117 k (93, [(3, .inl z2), (2, .inl 1), (0, .inr (.inr (some 82))), (1, .inl (dp : Int))], [.inl 0], (I149, L, R, Y), 0, 0) _
          refine yi_D_if1 true rfl (by decide) ?_
          refine yi_D_run 2 (115, [(3, .inl z2), (2, .inl 1), (0, .inr (.inr (some 82))), (1, .inl (dp : Int))], [.inl 40, .inr (.inr (some 82))], (I149, L, R, Y), 0, 0) (fun _ => rfl) ?_
          refine yi_D_callv rfl (q_hasSign_z (by omega) hW188 hf151 hA152) ?_
          rintro _ (⟨c191, I192, rfl, hGa193, hf194, hA195⟩ | ⟨c196, I197, rfl, hGa198, hf199, hA200⟩)
          · have hA195 : mt_A I192 te (a + 1) := hA195
            have hW201 := mt_W_t hW188 (mt_G_F hGa193)
            have hF202 := mt_F_t hF189 (mt_G_F hGa193)
            have hG203 := mt_G_t hG190 hGa193
            show yi_D zi_Ms d zi_m117 k (118, [(3, .inl z2), (2, .inl 1), (0, .inr (.inr (some 82))), (1, .inl (dp : Int))], [.inl 1], (I192, L, R, Y), 0, 0) _
            refine yi_D_if1 false rfl (by decide) ?_
            refine yi_D_run 3 (124, [(3, .inl z2), (2, .inl 1), (0, .inr (.inr (some 82))), (1, .inl (dp : Int))], [.inl 1, .inl (dp : Int), .inr (.inr (some 82))], (I192, L, R, Y), 0, 0) (fun _ => rfl) ?_
            refine yi_D_iadd rfl ((dp : Int) + 1) (yi_wn (by omega) (by omega)) ?_
            have hst204 : sp_R K P V (12, a, dp, sk, ld, nm, cs) (.inl (8, a + 1, dp + 1, 6 :: sk, ld, nm, cs)) := sp_R_1 (by
              show sp_part K P V a dp sk ld nm cs = _
              first
              | (exfalso; omega)
              | (unfold sp_part; (repeat (first | rw [if_pos (by omega)] | rw [if_neg (by omega)])); done))
            refine yi_D_callv rfl (hRO (dp + 1) (6 :: sk) cs hW201 hf194 hA195 (by omega)) ?_
            rintro _ ⟨I205, rfl, hFr206, (⟨a207, cs208, hR209, lt210, hf211, hA212⟩ | ⟨f213, hR214, hz215, he216⟩)⟩
            · have hW217 := mt_W_t hW201 hFr206
              have hF218 := mt_F_t hF202 hFr206
              have hR219 := sp_R_t hst204 hR209
              show yi_D zi_Ms d zi_m117 k (128, [(3, .inl z2), (2, .inl 1), (0, .inr (.inr (some 82))), (1, .inl (dp : Int))], [], (I205, L, R, Y), 0, 0) _
              refine yi_D_run 2 (131, [(3, .inl z2), (2, .inl 1), (0, .inr (.inr (some 82))), (1, .inl (dp : Int))], [.inl 41, .inr (.inr (some 82))], (I205, L, R, Y), 0, 0) (fun _ => rfl) ?_
              refine yi_D_callv rfl (q_takeSign_z (by omega) hW217 hf211 hA212) ?_
              rintro _ (⟨c220, I221, rfl, hGa222, hf223, hA224⟩ | ⟨c225, I226, rfl, hGa227, he228⟩)
              · have hA224 : mt_A I221 te (a207 + 1) := hA224
                have hW229 := mt_W_t hW217 (mt_G_F hGa222)
                have hF230 := mt_F_t hF218 (mt_G_F hGa222)
                have hR231 : sp_R K P V (12, a, dp, sk, ld, nm, cs) (.inl (13, a207 + 1, dp, sk, ld, nm, cs208)) := sp_R_s hR219 (by
                  show (if K _ = 41 then _ else _) = _
                  rw [if_pos (by omega)]
                  rfl)
                show yi_D zi_Ms d zi_m117 k (134, [(3, .inl z2), (2, .inl 1), (0, .inr (.inr (some 82))), (1, .inl (dp : Int))], [], (I221, L, R, Y), 0, 0) _
                refine yi_D_run 1 (178, [(3, .inl z2), (2, .inl 1), (0, .inr (.inr (some 82))), (1, .inl (dp : Int))], [], (I221, L, R, Y), 0, 0) (fun _ => rfl) ?_
                refine yi_D_retv rfl ?_
                exact ⟨_, rfl, hF230, Or.inl ⟨_, _, hR231, by omega, hf223, hA224⟩⟩
              · have hW232 := mt_W_t hW217 (mt_G_F hGa227)
                have hF233 := mt_F_t hF218 (mt_G_F hGa227)
                have hz234 : 0 < sp_f P a207 1 := mt_f_ne hW217 hA212.2 (by omega)
                have hn235 : 0 < I226 82 8 := by rw [he228]; exact hz234
                have hx236 : sp_R K P V (12, a, dp, sk, ld, nm, cs) (.inr (sp_f P a207 1)) := sp_R_s hR219 (by
                  show (if K _ = _ then _ else _) = _
                  rw [if_neg (by omega)])
                show yi_D zi_Ms d zi_m117 k (134, [(3, .inl z2), (2, .inl 1), (0, .inr (.inr (some 82))), (1, .inl (dp : Int))], [], (I226, L, R, Y), 0, 0) _
                refine yi_D_run 1 (178, [(3, .inl z2), (2, .inl 1), (0, .inr (.inr (some 82))), (1, .inl (dp : Int))], [], (I226, L, R, Y), 0, 0) (fun _ => rfl) ?_
                refine yi_D_retv rfl ?_
                exact ⟨_, rfl, hF233, Or.inr ⟨_, hx236, hz234, he228⟩⟩
            · have hW237 := mt_W_t hW201 hFr206
              have hF238 := mt_F_t hF202 hFr206
              have hn239 : 0 < I205 82 8 := by rw [he216]; exact hz215
              have hx240 : sp_R K P V (12, a, dp, sk, ld, nm, cs) (.inr f213) := sp_R_t hst204 hR214
              show yi_D zi_Ms d zi_m117 k (128, [(3, .inl z2), (2, .inl 1), (0, .inr (.inr (some 82))), (1, .inl (dp : Int))], [], (I205, L, R, Y), 0, 0) _
              refine yi_D_run 2 (131, [(3, .inl z2), (2, .inl 1), (0, .inr (.inr (some 82))), (1, .inl (dp : Int))], [.inl 41, .inr (.inr (some 82))], (I205, L, R, Y), 0, 0) (fun _ => rfl) ?_
              refine yi_D_callv rfl (q_takeSign_f hW237 hn239) ?_
              rintro _ rfl
              show yi_D zi_Ms d zi_m117 k (134, [(3, .inl z2), (2, .inl 1), (0, .inr (.inr (some 82))), (1, .inl (dp : Int))], [], (I205, L, R, Y), 0, 0) _
              refine yi_D_run 1 (178, [(3, .inl z2), (2, .inl 1), (0, .inr (.inr (some 82))), (1, .inl (dp : Int))], [], (I205, L, R, Y), 0, 0) (fun _ => rfl) ?_
              refine yi_D_retv rfl ?_
              exact ⟨_, rfl, hF238, Or.inr ⟨_, hx240, hz215, he216⟩⟩
          · have hA200 : mt_A I197 te a := hA200
            have hW241 := mt_W_t hW188 (mt_G_F hGa198)
            have hF242 := mt_F_t hF189 (mt_G_F hGa198)
            have hG243 := mt_G_t hG190 hGa198
            show yi_D zi_Ms d zi_m117 k (118, [(3, .inl z2), (2, .inl 1), (0, .inr (.inr (some 82))), (1, .inl (dp : Int))], [.inl 0], (I197, L, R, Y), 0, 0) _
            refine yi_D_if1 true rfl (by decide) ?_
            refine yi_D_run 2 (139, [(3, .inl z2), (2, .inl 1), (0, .inr (.inr (some 82))), (1, .inl (dp : Int))], [.inl 1, .inr (.inr (some 82))], (I197, L, R, Y), 0, 0) (fun _ => rfl) ?_
            refine yi_D_if1 false rfl (by decide) ?_
            refine yi_D_run 3 (148, [(3, .inl z2), (2, .inl 1), (0, .inr (.inr (some 82))), (1, .inl (dp : Int))], [.inl 1, .inl 1, .inr (.inr (some 82))], (I197, L, R, Y), 0, 0) (fun _ => rfl) ?_
            refine yi_D_if1 false rfl (by decide) ?_
            refine yi_D_run 1 (152, [(3, .inl z2), (2, .inl 1), (0, .inr (.inr (some 82))), (1, .inl (dp : Int))], [.inr (.inr (some 82)), .inl 1, .inr (.inr (some 82))], (I197, L, R, Y), 0, 0) (fun _ => rfl) ?_
            refine yi_D_gr (v := some 86) rfl rfl rfl (ym_S_at hS (j := 3) rfl).1 (fun _ => ?_)
            refine yi_D_run 1 (156, [(3, .inl z2), (2, .inl 1), (0, .inr (.inr (some 82))), (1, .inl (dp : Int))], [.inr (.inr (some 82)), .inr (.inr (some 86)), .inl 1, .inr (.inr (some 82))], (I197, L, R, Y), 0, 0) (fun _ => rfl) ?_
            refine yi_D_gi (v := (a : Int)) rfl rfl rfl hA200.1 (fun _ => ?_)
            refine yi_D_ll (v := L 86 a) rfl rfl rfl (fun _ _ => ?_)
            refine yi_D_run 2 (165, [(3, .inl z2), (2, .inl 1), (0, .inr (.inr (some 82))), (1, .inl (dp : Int))], [.inl (yi_w (L 86 a)), .inl 1, .inr (.inr (some 82))], (I197, L, R, Y), 0, 0) (fun _ => rfl) ?_
            refine yi_D_callv rfl (q_emit hW241) ?_
            rintro _ ⟨I244, rfl, hE245⟩
            have hW246 := mt_W_t hW241 (mt_E_F hE245)
            have hF247 := mt_F_t hF242 (mt_E_F hE245)
            have hf248 : I244 82 8 = 0 := (hE245.1 82 8 (by omega)).trans hf199
            have hA249 : mt_A I244 te a := ⟨(hE245.1 82 7 (by omega)).trans hA200.1, hA200.2⟩
            show yi_D zi_Ms d zi_m117 k (168, [(3, .inl z2), (2, .inl 1), (0, .inr (.inr (some 82))), (1, .inl (dp : Int))], [], (I244, L, R, Y), 0, 0) _
            refine yi_D_run 2 (170, [(3, .inl z2), (2, .inl 1), (0, .inr (.inr (some 82))), (1, .inl (dp : Int))], [.inr (.inr (some 82)), .inr (.inr (some 82))], (I244, L, R, Y), 0, 0) (fun _ => rfl) ?_
            refine yi_D_gi (v := (a : Int)) rfl rfl rfl hA249.1 (fun _ => ?_)
            refine yi_D_run 1 (174, [(3, .inl z2), (2, .inl 1), (0, .inr (.inr (some 82))), (1, .inl (dp : Int))], [.inl 1, .inl (a : Int), .inr (.inr (some 82))], (I244, L, R, Y), 0, 0) (fun _ => rfl) ?_
            refine yi_D_iadd rfl ((a : Int) + 1) (yi_wn (by omega) (by omega)) ?_
            refine yi_D_pi rfl (fun _ => ?_)
            generalize w251 : yi_u I244 82 7 ((a : Int) + 1) = I250
            have hGn252 : mt_G I244 I250 := fun p k hp => by rw [← w251, yi_u_ne _ _ (by omega)]
            have hW253 := mt_W_t hW246 (mt_G_F hGn252)
            have hF254 := mt_F_t hF247 (mt_G_F hGn252)
            have hf255 : I250 82 8 = 0 := by rw [← w251, yi_u_ne _ _ (by omega)]; exact hf248
            have hA256 : mt_A I250 te (a + 1) := ⟨by rw [← w251, yi_u_eq]; omega, mt_lt hW253.2.1 hA249.2 (by omega)⟩
            refine yi_D_retv rfl ?_
            have hst : sp_R K P V (12, a, dp, sk, ld, nm, cs) (.inl (13, a + 1, dp, sk, ld, nm, cs ++ [if K a = 2 then (1, V a) else (2, sp_fact (V a))])) := sp_R_1 (by
              show sp_part K P V a dp sk ld nm cs = _
              first
              | (exfalso; omega)
              | (unfold sp_part; rw [if_neg (by omega), if_neg (by omega), if_neg (by omega), if_neg (by omega)]))
            exact ⟨_, rfl, hF254, Or.inl ⟨_, _, hst, by omega, hf255, hA256⟩⟩
  · refine yi_D_if2 true rfl (yi_ne_t h1) ?_
    refine yi_D_run 5 (31, [(2, .inl 0), (0, .inr (.inr (some 82))), (1, .inl (dp : Int))], [.inl 3, .inl 29, .inr (.inr (some 82))], (I, L, R, Y), 0, 0) (fun _ => rfl) ?_
    refine yi_D_callv rfl (q_wordHere_3 hW hf hA) ?_
    rintro _ ⟨z257, rfl, hz258⟩
    show yi_D zi_Ms d zi_m117 k (34, [(2, .inl 0), (0, .inr (.inr (some 82))), (1, .inl (dp : Int))], [.inl z257], (I, L, R, Y), 0, 0) _
    refine yi_D_run 2 (36, [(3, .inl z257), (2, .inl 0), (0, .inr (.inr (some 82))), (1, .inl (dp : Int))], [.inl z257], (I, L, R, Y), 0, 0) (fun _ => rfl) ?_
    by_cases h259 : 0 ≤ z257
    · refine yi_D_if1 true rfl (yi_ge_t h259) ?_
      refine yi_D_run 2 (71, [(3, .inl z257), (2, .inl 0), (0, .inr (.inr (some 82))), (1, .inl (dp : Int))], [.inl 5, .inl (dp : Int)], (I, L, R, Y), 0, 0) (fun _ => rfl) ?_
      by_cases h260 : (dp : Int) = 5
      · refine yi_D_if2 false rfl (yi_ne_f h260) ?_
        refine yi_D_run 2 (76, [(3, .inl z257), (2, .inl 0), (0, .inr (.inr (some 82))), (1, .inl (dp : Int))], [.inl 5, .inr (.inr (some 82))], (I, L, R, Y), 0, 0) (fun _ => rfl) ?_
        refine yi_D_callv rfl (q_wrong_z ⟨by omega, by omega⟩ hW hf hA) ?_
        rintro _ ⟨I261, rfl, hg262, he263⟩
        have hGw264 : mt_G I I261 := fun p k hp => hg262 p k (by omega)
        have hW265 := mt_W_t hW (mt_G_F hGw264)
        have hF266 := (mt_G_F hGw264)
        have hG267 := hGw264
        have hz268 : 0 < sp_f P a 5 := mt_f_ne hW hA.2 (by omega)
        have hn269 : 0 < I261 82 8 := by rw [he263]; exact hz268
        have hx270 : sp_R K P V (12, a, dp, sk, ld, nm, cs) (.inr (sp_f P a 5)) := sp_R_1 (by
          show sp_part K P V a dp sk ld nm cs = _
          first
          | (exfalso; omega)
          | (unfold sp_part; (repeat (first | rw [if_pos (by omega)] | rw [if_neg (by omega)])); done))
        show yi_D zi_Ms d zi_m117 k (79, [(3, .inl z257), (2, .inl 0), (0, .inr (.inr (some 82))), (1, .inl (dp : Int))], [], (I261, L, R, Y), 0, 0) _
        refine yi_D_run 1 (80, [(3, .inl z257), (2, .inl 0), (0, .inr (.inr (some 82))), (1, .inl (dp : Int))], [.inr (.inr (some 82))], (I261, L, R, Y), 0, 0) (fun _ => rfl) ?_
        refine yi_D_gi (v := I261 82 8) rfl rfl rfl rfl (fun _ => ?_)
        have h271 : ¬ ((I261 82 8) ≤ 0) := by omega
        refine yi_D_if1 false rfl (yi_le_f h271) ?_
        refine yi_D_retv rfl ?_
        exact ⟨_, rfl, hF266, Or.inr ⟨_, hx270, hz268, he263⟩⟩
      · refine yi_D_if2 true rfl (yi_ne_t h260) ?_
        refine yi_D_run 1 (80, [(3, .inl z257), (2, .inl 0), (0, .inr (.inr (some 82))), (1, .inl (dp : Int))], [.inr (.inr (some 82))], (I, L, R, Y), 0, 0) (fun _ => rfl) ?_
        refine yi_D_gi (v := 0) rfl rfl rfl hf (fun _ => ?_)
        refine yi_D_if1 true rfl (by decide) ?_
        refine yi_D_run 2 (90, [(3, .inl z257), (2, .inl 0), (0, .inr (.inr (some 82))), (1, .inl (dp : Int))], [.inl 26, .inr (.inr (some 82))], (I, L, R, Y), 0, 0) (fun _ => rfl) ?_
        refine yi_D_callv rfl (q_hasWord_z (by omega) (by omega) hW hf hA) ?_
        rintro _ (⟨c272, I273, rfl, hGa274, hf275, hA276⟩ | ⟨c277, I278, rfl, hGa279, hf280, hA281⟩)
        · have hA276 : mt_A I273 te (a + 1) := hA276
          have hW282 := mt_W_t hW (mt_G_F hGa274)
          have hF283 := (mt_G_F hGa274)
          have hG284 := hGa274
          show yi_D zi_Ms d zi_m117 k (93, [(3, .inl z257), (2, .inl 0), (0, .inr (.inr (some 82))), (1, .inl (dp : Int))], [.inl 1], (I273, L, R, Y), 0, 0) _
          refine yi_D_if1 false rfl (by decide) ?_
          refine yi_D_run 3 (99, [(3, .inl z257), (2, .inl 0), (0, .inr (.inr (some 82))), (1, .inl (dp : Int))], [.inl 1, .inl (dp : Int), .inr (.inr (some 82))], (I273, L, R, Y), 0, 0) (fun _ => rfl) ?_
          refine yi_D_iadd rfl ((dp : Int) + 1) (yi_wn (by omega) (by omega)) ?_
          have hst285 : sp_R K P V (12, a, dp, sk, ld, nm, cs) (.inl (12, a + 1, dp + 1, 5 :: sk, ld, nm, cs)) := sp_R_1 (by
            show sp_part K P V a dp sk ld nm cs = _
            first
            | (exfalso; omega)
            | (unfold sp_part; (repeat (first | rw [if_pos (by omega)] | rw [if_neg (by omega)])); done))
          refine yi_D_callv rfl (hRP (dp + 1) (5 :: sk) cs hW282 hf275 hA276 (by omega)) ?_
          rintro _ ⟨I286, rfl, hFr287, (⟨a288, cs289, hR290, lt291, hf292, hA293⟩ | ⟨f294, hR295, hz296, he297⟩)⟩
          · have hW298 := mt_W_t hW282 hFr287
            have hF299 := mt_F_t hF283 hFr287
            have hR300 : sp_R K P V (12, a, dp, sk, ld, nm, cs) (.inl (13, a288, dp, sk, ld, nm, cs289 ++ [(3, 0)])) := sp_R_s (sp_R_t hst285 hR290) rfl
            show yi_D zi_Ms d zi_m117 k (103, [(3, .inl z257), (2, .inl 0), (0, .inr (.inr (some 82))), (1, .inl (dp : Int))], [], (I286, L, R, Y), 0, 0) _
            refine yi_D_run 3 (106, [(3, .inl z257), (2, .inl 0), (0, .inr (.inr (some 82))), (1, .inl (dp : Int))], [.inl 0, .inl 3, .inr (.inr (some 82))], (I286, L, R, Y), 0, 0) (fun _ => rfl) ?_
            refine yi_D_callv rfl (q_emit hW298) ?_
            rintro _ ⟨I301, rfl, hE302⟩
            have hW303 := mt_W_t hW298 (mt_E_F hE302)
            have hF304 := mt_F_t hF299 (mt_E_F hE302)
            have hf305 : I301 82 8 = 0 := (hE302.1 82 8 (by omega)).trans hf292
            have hA306 : mt_A I301 te a288 := ⟨(hE302.1 82 7 (by omega)).trans hA293.1, hA293.2⟩
            show yi_D zi_Ms d zi_m117 k (109, [(3, .inl z257), (2, .inl 0), (0, .inr (.inr (some 82))), (1, .inl (dp : Int))], [], (I301, L, R, Y), 0, 0) _
            refine yi_D_run 1 (178, [(3, .inl z257), (2, .inl 0), (0, .inr (.inr (some 82))), (1, .inl (dp : Int))], [], (I301, L, R, Y), 0, 0) (fun _ => rfl) ?_
            refine yi_D_retv rfl ?_
            exact ⟨_, rfl, hF304, Or.inl ⟨_, _, hR300, by omega, hf305, hA306⟩⟩
          · have hW307 := mt_W_t hW282 hFr287
            have hF308 := mt_F_t hF283 hFr287
            have hn309 : 0 < I286 82 8 := by rw [he297]; exact hz296
            have hx310 : sp_R K P V (12, a, dp, sk, ld, nm, cs) (.inr f294) := sp_R_t hst285 hR295
            show yi_D zi_Ms d zi_m117 k (103, [(3, .inl z257), (2, .inl 0), (0, .inr (.inr (some 82))), (1, .inl (dp : Int))], [], (I286, L, R, Y), 0, 0) _
            refine yi_D_run 3 (106, [(3, .inl z257), (2, .inl 0), (0, .inr (.inr (some 82))), (1, .inl (dp : Int))], [.inl 0, .inl 3, .inr (.inr (some 82))], (I286, L, R, Y), 0, 0) (fun _ => rfl) ?_
            refine yi_D_callv rfl (q_emit hW307) ?_
            rintro _ ⟨I311, rfl, hE312⟩
            have hW313 := mt_W_t hW307 (mt_E_F hE312)
            have hF314 := mt_F_t hF308 (mt_E_F hE312)
            have hf315 : 0 < I311 82 8 := by rw [hE312.1 82 8 (by omega)]; exact hn309
            have he316 := (hE312.1 82 8 (by omega)).trans he297
            show yi_D zi_Ms d zi_m117 k (109, [(3, .inl z257), (2, .inl 0), (0, .inr (.inr (some 82))), (1, .inl (dp : Int))], [], (I311, L, R, Y), 0, 0) _
            refine yi_D_run 1 (178, [(3, .inl z257), (2, .inl 0), (0, .inr (.inr (some 82))), (1, .inl (dp : Int))], [], (I311, L, R, Y), 0, 0) (fun _ => rfl) ?_
            refine yi_D_retv rfl ?_
            exact ⟨_, rfl, hF314, Or.inr ⟨_, hx310, hz296, he316⟩⟩
        · have hA281 : mt_A I278 te a := hA281
          have hW317 := mt_W_t hW (mt_G_F hGa279)
          have hF318 := (mt_G_F hGa279)
          have hG319 := hGa279
          show yi_D zi_Ms d zi_m117 k (93, [(3, .inl z257), (2, .inl 0), (0, .inr (.inr (some 82))), (1, .inl (dp : Int))], [.inl 0], (I278, L, R, Y), 0, 0) _
          refine yi_D_if1 true rfl (by decide) ?_
          refine yi_D_run 2 (115, [(3, .inl z257), (2, .inl 0), (0, .inr (.inr (some 82))), (1, .inl (dp : Int))], [.inl 40, .inr (.inr (some 82))], (I278, L, R, Y), 0, 0) (fun _ => rfl) ?_
          refine yi_D_callv rfl (q_hasSign_z (by omega) hW317 hf280 hA281) ?_
          rintro _ (⟨c320, I321, rfl, hGa322, hf323, hA324⟩ | ⟨c325, I326, rfl, hGa327, hf328, hA329⟩)
          · have hA324 : mt_A I321 te (a + 1) := hA324
            have hW330 := mt_W_t hW317 (mt_G_F hGa322)
            have hF331 := mt_F_t hF318 (mt_G_F hGa322)
            have hG332 := mt_G_t hG319 hGa322
            show yi_D zi_Ms d zi_m117 k (118, [(3, .inl z257), (2, .inl 0), (0, .inr (.inr (some 82))), (1, .inl (dp : Int))], [.inl 1], (I321, L, R, Y), 0, 0) _
            refine yi_D_if1 false rfl (by decide) ?_
            refine yi_D_run 3 (124, [(3, .inl z257), (2, .inl 0), (0, .inr (.inr (some 82))), (1, .inl (dp : Int))], [.inl 1, .inl (dp : Int), .inr (.inr (some 82))], (I321, L, R, Y), 0, 0) (fun _ => rfl) ?_
            refine yi_D_iadd rfl ((dp : Int) + 1) (yi_wn (by omega) (by omega)) ?_
            have hst333 : sp_R K P V (12, a, dp, sk, ld, nm, cs) (.inl (8, a + 1, dp + 1, 6 :: sk, ld, nm, cs)) := sp_R_1 (by
              show sp_part K P V a dp sk ld nm cs = _
              first
              | (exfalso; omega)
              | (unfold sp_part; (repeat (first | rw [if_pos (by omega)] | rw [if_neg (by omega)])); done))
            refine yi_D_callv rfl (hRO (dp + 1) (6 :: sk) cs hW330 hf323 hA324 (by omega)) ?_
            rintro _ ⟨I334, rfl, hFr335, (⟨a336, cs337, hR338, lt339, hf340, hA341⟩ | ⟨f342, hR343, hz344, he345⟩)⟩
            · have hW346 := mt_W_t hW330 hFr335
              have hF347 := mt_F_t hF331 hFr335
              have hR348 := sp_R_t hst333 hR338
              show yi_D zi_Ms d zi_m117 k (128, [(3, .inl z257), (2, .inl 0), (0, .inr (.inr (some 82))), (1, .inl (dp : Int))], [], (I334, L, R, Y), 0, 0) _
              refine yi_D_run 2 (131, [(3, .inl z257), (2, .inl 0), (0, .inr (.inr (some 82))), (1, .inl (dp : Int))], [.inl 41, .inr (.inr (some 82))], (I334, L, R, Y), 0, 0) (fun _ => rfl) ?_
              refine yi_D_callv rfl (q_takeSign_z (by omega) hW346 hf340 hA341) ?_
              rintro _ (⟨c349, I350, rfl, hGa351, hf352, hA353⟩ | ⟨c354, I355, rfl, hGa356, he357⟩)
              · have hA353 : mt_A I350 te (a336 + 1) := hA353
                have hW358 := mt_W_t hW346 (mt_G_F hGa351)
                have hF359 := mt_F_t hF347 (mt_G_F hGa351)
                have hR360 : sp_R K P V (12, a, dp, sk, ld, nm, cs) (.inl (13, a336 + 1, dp, sk, ld, nm, cs337)) := sp_R_s hR348 (by
                  show (if K _ = 41 then _ else _) = _
                  rw [if_pos (by omega)]
                  rfl)
                show yi_D zi_Ms d zi_m117 k (134, [(3, .inl z257), (2, .inl 0), (0, .inr (.inr (some 82))), (1, .inl (dp : Int))], [], (I350, L, R, Y), 0, 0) _
                refine yi_D_run 1 (178, [(3, .inl z257), (2, .inl 0), (0, .inr (.inr (some 82))), (1, .inl (dp : Int))], [], (I350, L, R, Y), 0, 0) (fun _ => rfl) ?_
                refine yi_D_retv rfl ?_
                exact ⟨_, rfl, hF359, Or.inl ⟨_, _, hR360, by omega, hf352, hA353⟩⟩
              · have hW361 := mt_W_t hW346 (mt_G_F hGa356)
                have hF362 := mt_F_t hF347 (mt_G_F hGa356)
                have hz363 : 0 < sp_f P a336 1 := mt_f_ne hW346 hA341.2 (by omega)
                have hn364 : 0 < I355 82 8 := by rw [he357]; exact hz363
                have hx365 : sp_R K P V (12, a, dp, sk, ld, nm, cs) (.inr (sp_f P a336 1)) := sp_R_s hR348 (by
                  show (if K _ = _ then _ else _) = _
                  rw [if_neg (by omega)])
                show yi_D zi_Ms d zi_m117 k (134, [(3, .inl z257), (2, .inl 0), (0, .inr (.inr (some 82))), (1, .inl (dp : Int))], [], (I355, L, R, Y), 0, 0) _
                refine yi_D_run 1 (178, [(3, .inl z257), (2, .inl 0), (0, .inr (.inr (some 82))), (1, .inl (dp : Int))], [], (I355, L, R, Y), 0, 0) (fun _ => rfl) ?_
                refine yi_D_retv rfl ?_
                exact ⟨_, rfl, hF362, Or.inr ⟨_, hx365, hz363, he357⟩⟩
            · have hW366 := mt_W_t hW330 hFr335
              have hF367 := mt_F_t hF331 hFr335
              have hn368 : 0 < I334 82 8 := by rw [he345]; exact hz344
              have hx369 : sp_R K P V (12, a, dp, sk, ld, nm, cs) (.inr f342) := sp_R_t hst333 hR343
              show yi_D zi_Ms d zi_m117 k (128, [(3, .inl z257), (2, .inl 0), (0, .inr (.inr (some 82))), (1, .inl (dp : Int))], [], (I334, L, R, Y), 0, 0) _
              refine yi_D_run 2 (131, [(3, .inl z257), (2, .inl 0), (0, .inr (.inr (some 82))), (1, .inl (dp : Int))], [.inl 41, .inr (.inr (some 82))], (I334, L, R, Y), 0, 0) (fun _ => rfl) ?_
              refine yi_D_callv rfl (q_takeSign_f hW366 hn368) ?_
              rintro _ rfl
              show yi_D zi_Ms d zi_m117 k (134, [(3, .inl z257), (2, .inl 0), (0, .inr (.inr (some 82))), (1, .inl (dp : Int))], [], (I334, L, R, Y), 0, 0) _
              refine yi_D_run 1 (178, [(3, .inl z257), (2, .inl 0), (0, .inr (.inr (some 82))), (1, .inl (dp : Int))], [], (I334, L, R, Y), 0, 0) (fun _ => rfl) ?_
              refine yi_D_retv rfl ?_
              exact ⟨_, rfl, hF367, Or.inr ⟨_, hx369, hz344, he345⟩⟩
          · have hA329 : mt_A I326 te a := hA329
            have hW370 := mt_W_t hW317 (mt_G_F hGa327)
            have hF371 := mt_F_t hF318 (mt_G_F hGa327)
            have hG372 := mt_G_t hG319 hGa327
            show yi_D zi_Ms d zi_m117 k (118, [(3, .inl z257), (2, .inl 0), (0, .inr (.inr (some 82))), (1, .inl (dp : Int))], [.inl 0], (I326, L, R, Y), 0, 0) _
            refine yi_D_if1 true rfl (by decide) ?_
            refine yi_D_run 2 (139, [(3, .inl z257), (2, .inl 0), (0, .inr (.inr (some 82))), (1, .inl (dp : Int))], [.inl 0, .inr (.inr (some 82))], (I326, L, R, Y), 0, 0) (fun _ => rfl) ?_
            refine yi_D_if1 true rfl (by decide) ?_
            refine yi_D_run 2 (148, [(3, .inl z257), (2, .inl 0), (0, .inr (.inr (some 82))), (1, .inl (dp : Int))], [.inl 0, .inl 2, .inr (.inr (some 82))], (I326, L, R, Y), 0, 0) (fun _ => rfl) ?_
            refine yi_D_if1 true rfl (by decide) ?_
            refine yi_D_run 1 (165, [(3, .inl z257), (2, .inl 0), (0, .inr (.inr (some 82))), (1, .inl (dp : Int))], [.inl z257, .inl 2, .inr (.inr (some 82))], (I326, L, R, Y), 0, 0) (fun _ => rfl) ?_
            refine yi_D_callv rfl (q_emit hW370) ?_
            rintro _ ⟨I373, rfl, hE374⟩
            have hW375 := mt_W_t hW370 (mt_E_F hE374)
            have hF376 := mt_F_t hF371 (mt_E_F hE374)
            have hf377 : I373 82 8 = 0 := (hE374.1 82 8 (by omega)).trans hf328
            have hA378 : mt_A I373 te a := ⟨(hE374.1 82 7 (by omega)).trans hA329.1, hA329.2⟩
            show yi_D zi_Ms d zi_m117 k (168, [(3, .inl z257), (2, .inl 0), (0, .inr (.inr (some 82))), (1, .inl (dp : Int))], [], (I373, L, R, Y), 0, 0) _
            refine yi_D_run 2 (170, [(3, .inl z257), (2, .inl 0), (0, .inr (.inr (some 82))), (1, .inl (dp : Int))], [.inr (.inr (some 82)), .inr (.inr (some 82))], (I373, L, R, Y), 0, 0) (fun _ => rfl) ?_
            refine yi_D_gi (v := (a : Int)) rfl rfl rfl hA378.1 (fun _ => ?_)
            refine yi_D_run 1 (174, [(3, .inl z257), (2, .inl 0), (0, .inr (.inr (some 82))), (1, .inl (dp : Int))], [.inl 1, .inl (a : Int), .inr (.inr (some 82))], (I373, L, R, Y), 0, 0) (fun _ => rfl) ?_
            refine yi_D_iadd rfl ((a : Int) + 1) (yi_wn (by omega) (by omega)) ?_
            refine yi_D_pi rfl (fun _ => ?_)
            generalize w380 : yi_u I373 82 7 ((a : Int) + 1) = I379
            have hGn381 : mt_G I373 I379 := fun p k hp => by rw [← w380, yi_u_ne _ _ (by omega)]
            have hW382 := mt_W_t hW375 (mt_G_F hGn381)
            have hF383 := mt_F_t hF376 (mt_G_F hGn381)
            have hf384 : I379 82 8 = 0 := by rw [← w380, yi_u_ne _ _ (by omega)]; exact hf377
            have hA385 : mt_A I379 te (a + 1) := ⟨by rw [← w380, yi_u_eq]; omega, mt_lt hW382.2.1 hA378.2 (by omega)⟩
            refine yi_D_retv rfl ?_
            have hst : sp_R K P V (12, a, dp, sk, ld, nm, cs) (.inl (13, a + 1, dp, sk, ld, nm, cs ++ [if K a = 2 then (1, V a) else (2, sp_fact (V a))])) := sp_R_1 (by
              show sp_part K P V a dp sk ld nm cs = _
              first
              | (exfalso; omega)
              | (unfold sp_part; rw [if_neg (by omega), if_neg (by omega), if_neg (by omega), if_neg (by omega)]))
            exact ⟨_, rfl, hF383, Or.inl ⟨_, _, hst, by omega, hf384, hA385⟩⟩
    · refine yi_D_if1 false rfl (yi_ge_f h259) ?_
      refine yi_D_run 1 (40, [(3, .inl z257), (2, .inl 0), (0, .inr (.inr (some 82))), (1, .inl (dp : Int))], [.inl 0], (I, L, R, Y), 0, 0) (fun _ => rfl) ?_
      refine yi_D_if1 false rfl (by decide) ?_
      refine yi_D_run 2 (46, [(3, .inl z257), (2, .inl 0), (0, .inr (.inr (some 82))), (1, .inl (dp : Int))], [.inl 40, .inr (.inr (some 82))], (I, L, R, Y), 0, 0) (fun _ => rfl) ?_
      refine yi_D_callv rfl (q_isSign_z (by omega) hW hf hA) ?_
      rintro _ (⟨c386, rfl⟩ | ⟨c386, rfl⟩)
      · show yi_D zi_Ms d zi_m117 k (49, [(3, .inl z257), (2, .inl 0), (0, .inr (.inr (some 82))), (1, .inl (dp : Int))], [.inl 1], (I, L, R, Y), 0, 0) _
        refine yi_D_if1 true rfl (by decide) ?_
        refine yi_D_run 2 (71, [(3, .inl z257), (2, .inl 0), (0, .inr (.inr (some 82))), (1, .inl (dp : Int))], [.inl 5, .inl (dp : Int)], (I, L, R, Y), 0, 0) (fun _ => rfl) ?_
        by_cases h387 : (dp : Int) = 5
        · refine yi_D_if2 false rfl (yi_ne_f h387) ?_
          refine yi_D_run 2 (76, [(3, .inl z257), (2, .inl 0), (0, .inr (.inr (some 82))), (1, .inl (dp : Int))], [.inl 5, .inr (.inr (some 82))], (I, L, R, Y), 0, 0) (fun _ => rfl) ?_
          refine yi_D_callv rfl (q_wrong_z ⟨by omega, by omega⟩ hW hf hA) ?_
          rintro _ ⟨I388, rfl, hg389, he390⟩
          have hGw391 : mt_G I I388 := fun p k hp => hg389 p k (by omega)
          have hW392 := mt_W_t hW (mt_G_F hGw391)
          have hF393 := (mt_G_F hGw391)
          have hG394 := hGw391
          have hz395 : 0 < sp_f P a 5 := mt_f_ne hW hA.2 (by omega)
          have hn396 : 0 < I388 82 8 := by rw [he390]; exact hz395
          have hx397 : sp_R K P V (12, a, dp, sk, ld, nm, cs) (.inr (sp_f P a 5)) := sp_R_1 (by
            show sp_part K P V a dp sk ld nm cs = _
            first
            | (exfalso; omega)
            | (unfold sp_part; (repeat (first | rw [if_pos (by omega)] | rw [if_neg (by omega)])); done))
          show yi_D zi_Ms d zi_m117 k (79, [(3, .inl z257), (2, .inl 0), (0, .inr (.inr (some 82))), (1, .inl (dp : Int))], [], (I388, L, R, Y), 0, 0) _
          refine yi_D_run 1 (80, [(3, .inl z257), (2, .inl 0), (0, .inr (.inr (some 82))), (1, .inl (dp : Int))], [.inr (.inr (some 82))], (I388, L, R, Y), 0, 0) (fun _ => rfl) ?_
          refine yi_D_gi (v := I388 82 8) rfl rfl rfl rfl (fun _ => ?_)
          have h398 : ¬ ((I388 82 8) ≤ 0) := by omega
          refine yi_D_if1 false rfl (yi_le_f h398) ?_
          refine yi_D_retv rfl ?_
          exact ⟨_, rfl, hF393, Or.inr ⟨_, hx397, hz395, he390⟩⟩
        · refine yi_D_if2 true rfl (yi_ne_t h387) ?_
          refine yi_D_run 1 (80, [(3, .inl z257), (2, .inl 0), (0, .inr (.inr (some 82))), (1, .inl (dp : Int))], [.inr (.inr (some 82))], (I, L, R, Y), 0, 0) (fun _ => rfl) ?_
          refine yi_D_gi (v := 0) rfl rfl rfl hf (fun _ => ?_)
          refine yi_D_if1 true rfl (by decide) ?_
          refine yi_D_run 2 (90, [(3, .inl z257), (2, .inl 0), (0, .inr (.inr (some 82))), (1, .inl (dp : Int))], [.inl 26, .inr (.inr (some 82))], (I, L, R, Y), 0, 0) (fun _ => rfl) ?_
          refine yi_D_callv rfl (q_hasWord_z (by omega) (by omega) hW hf hA) ?_
          rintro _ (⟨c399, I400, rfl, hGa401, hf402, hA403⟩ | ⟨c404, I405, rfl, hGa406, hf407, hA408⟩)
          · exfalso; omega
          · have hA408 : mt_A I405 te a := hA408
            have hW409 := mt_W_t hW (mt_G_F hGa406)
            have hF410 := (mt_G_F hGa406)
            have hG411 := hGa406
            show yi_D zi_Ms d zi_m117 k (93, [(3, .inl z257), (2, .inl 0), (0, .inr (.inr (some 82))), (1, .inl (dp : Int))], [.inl 0], (I405, L, R, Y), 0, 0) _
            refine yi_D_if1 true rfl (by decide) ?_
            refine yi_D_run 2 (115, [(3, .inl z257), (2, .inl 0), (0, .inr (.inr (some 82))), (1, .inl (dp : Int))], [.inl 40, .inr (.inr (some 82))], (I405, L, R, Y), 0, 0) (fun _ => rfl) ?_
            refine yi_D_callv rfl (q_hasSign_z (by omega) hW409 hf407 hA408) ?_
            rintro _ (⟨c412, I413, rfl, hGa414, hf415, hA416⟩ | ⟨c417, I418, rfl, hGa419, hf420, hA421⟩)
            · have hA416 : mt_A I413 te (a + 1) := hA416
              have hW422 := mt_W_t hW409 (mt_G_F hGa414)
              have hF423 := mt_F_t hF410 (mt_G_F hGa414)
              have hG424 := mt_G_t hG411 hGa414
              show yi_D zi_Ms d zi_m117 k (118, [(3, .inl z257), (2, .inl 0), (0, .inr (.inr (some 82))), (1, .inl (dp : Int))], [.inl 1], (I413, L, R, Y), 0, 0) _
              refine yi_D_if1 false rfl (by decide) ?_
              refine yi_D_run 3 (124, [(3, .inl z257), (2, .inl 0), (0, .inr (.inr (some 82))), (1, .inl (dp : Int))], [.inl 1, .inl (dp : Int), .inr (.inr (some 82))], (I413, L, R, Y), 0, 0) (fun _ => rfl) ?_
              refine yi_D_iadd rfl ((dp : Int) + 1) (yi_wn (by omega) (by omega)) ?_
              have hst425 : sp_R K P V (12, a, dp, sk, ld, nm, cs) (.inl (8, a + 1, dp + 1, 6 :: sk, ld, nm, cs)) := sp_R_1 (by
                show sp_part K P V a dp sk ld nm cs = _
                first
                | (exfalso; omega)
                | (unfold sp_part; (repeat (first | rw [if_pos (by omega)] | rw [if_neg (by omega)])); done))
              refine yi_D_callv rfl (hRO (dp + 1) (6 :: sk) cs hW422 hf415 hA416 (by omega)) ?_
              rintro _ ⟨I426, rfl, hFr427, (⟨a428, cs429, hR430, lt431, hf432, hA433⟩ | ⟨f434, hR435, hz436, he437⟩)⟩
              · have hW438 := mt_W_t hW422 hFr427
                have hF439 := mt_F_t hF423 hFr427
                have hR440 := sp_R_t hst425 hR430
                show yi_D zi_Ms d zi_m117 k (128, [(3, .inl z257), (2, .inl 0), (0, .inr (.inr (some 82))), (1, .inl (dp : Int))], [], (I426, L, R, Y), 0, 0) _
                refine yi_D_run 2 (131, [(3, .inl z257), (2, .inl 0), (0, .inr (.inr (some 82))), (1, .inl (dp : Int))], [.inl 41, .inr (.inr (some 82))], (I426, L, R, Y), 0, 0) (fun _ => rfl) ?_
                refine yi_D_callv rfl (q_takeSign_z (by omega) hW438 hf432 hA433) ?_
                rintro _ (⟨c441, I442, rfl, hGa443, hf444, hA445⟩ | ⟨c446, I447, rfl, hGa448, he449⟩)
                · have hA445 : mt_A I442 te (a428 + 1) := hA445
                  have hW450 := mt_W_t hW438 (mt_G_F hGa443)
                  have hF451 := mt_F_t hF439 (mt_G_F hGa443)
                  have hR452 : sp_R K P V (12, a, dp, sk, ld, nm, cs) (.inl (13, a428 + 1, dp, sk, ld, nm, cs429)) := sp_R_s hR440 (by
                    show (if K _ = 41 then _ else _) = _
                    rw [if_pos (by omega)]
                    rfl)
                  show yi_D zi_Ms d zi_m117 k (134, [(3, .inl z257), (2, .inl 0), (0, .inr (.inr (some 82))), (1, .inl (dp : Int))], [], (I442, L, R, Y), 0, 0) _
                  refine yi_D_run 1 (178, [(3, .inl z257), (2, .inl 0), (0, .inr (.inr (some 82))), (1, .inl (dp : Int))], [], (I442, L, R, Y), 0, 0) (fun _ => rfl) ?_
                  refine yi_D_retv rfl ?_
                  exact ⟨_, rfl, hF451, Or.inl ⟨_, _, hR452, by omega, hf444, hA445⟩⟩
                · have hW453 := mt_W_t hW438 (mt_G_F hGa448)
                  have hF454 := mt_F_t hF439 (mt_G_F hGa448)
                  have hz455 : 0 < sp_f P a428 1 := mt_f_ne hW438 hA433.2 (by omega)
                  have hn456 : 0 < I447 82 8 := by rw [he449]; exact hz455
                  have hx457 : sp_R K P V (12, a, dp, sk, ld, nm, cs) (.inr (sp_f P a428 1)) := sp_R_s hR440 (by
                    show (if K _ = _ then _ else _) = _
                    rw [if_neg (by omega)])
                  show yi_D zi_Ms d zi_m117 k (134, [(3, .inl z257), (2, .inl 0), (0, .inr (.inr (some 82))), (1, .inl (dp : Int))], [], (I447, L, R, Y), 0, 0) _
                  refine yi_D_run 1 (178, [(3, .inl z257), (2, .inl 0), (0, .inr (.inr (some 82))), (1, .inl (dp : Int))], [], (I447, L, R, Y), 0, 0) (fun _ => rfl) ?_
                  refine yi_D_retv rfl ?_
                  exact ⟨_, rfl, hF454, Or.inr ⟨_, hx457, hz455, he449⟩⟩
              · have hW458 := mt_W_t hW422 hFr427
                have hF459 := mt_F_t hF423 hFr427
                have hn460 : 0 < I426 82 8 := by rw [he437]; exact hz436
                have hx461 : sp_R K P V (12, a, dp, sk, ld, nm, cs) (.inr f434) := sp_R_t hst425 hR435
                show yi_D zi_Ms d zi_m117 k (128, [(3, .inl z257), (2, .inl 0), (0, .inr (.inr (some 82))), (1, .inl (dp : Int))], [], (I426, L, R, Y), 0, 0) _
                refine yi_D_run 2 (131, [(3, .inl z257), (2, .inl 0), (0, .inr (.inr (some 82))), (1, .inl (dp : Int))], [.inl 41, .inr (.inr (some 82))], (I426, L, R, Y), 0, 0) (fun _ => rfl) ?_
                refine yi_D_callv rfl (q_takeSign_f hW458 hn460) ?_
                rintro _ rfl
                show yi_D zi_Ms d zi_m117 k (134, [(3, .inl z257), (2, .inl 0), (0, .inr (.inr (some 82))), (1, .inl (dp : Int))], [], (I426, L, R, Y), 0, 0) _
                refine yi_D_run 1 (178, [(3, .inl z257), (2, .inl 0), (0, .inr (.inr (some 82))), (1, .inl (dp : Int))], [], (I426, L, R, Y), 0, 0) (fun _ => rfl) ?_
                refine yi_D_retv rfl ?_
                exact ⟨_, rfl, hF459, Or.inr ⟨_, hx461, hz436, he437⟩⟩
            · exfalso; omega
      · show yi_D zi_Ms d zi_m117 k (49, [(3, .inl z257), (2, .inl 0), (0, .inr (.inr (some 82))), (1, .inl (dp : Int))], [.inl 0], (I, L, R, Y), 0, 0) _
        refine yi_D_if1 false rfl (by decide) ?_
        refine yi_D_run 2 (55, [(3, .inl z257), (2, .inl 0), (0, .inr (.inr (some 82))), (1, .inl (dp : Int))], [.inl 26, .inr (.inr (some 82))], (I, L, R, Y), 0, 0) (fun _ => rfl) ?_
        refine yi_D_callv rfl (q_isWord_z (by omega) (by omega) hW hf hA) ?_
        rintro _ (⟨c462, rfl⟩ | ⟨c462, rfl⟩)
        · show yi_D zi_Ms d zi_m117 k (58, [(3, .inl z257), (2, .inl 0), (0, .inr (.inr (some 82))), (1, .inl (dp : Int))], [.inl 1], (I, L, R, Y), 0, 0) _
          refine yi_D_if1 true rfl (by decide) ?_
          refine yi_D_run 2 (71, [(3, .inl z257), (2, .inl 0), (0, .inr (.inr (some 82))), (1, .inl (dp : Int))], [.inl 5, .inl (dp : Int)], (I, L, R, Y), 0, 0) (fun _ => rfl) ?_
          by_cases h463 : (dp : Int) = 5
          · refine yi_D_if2 false rfl (yi_ne_f h463) ?_
            refine yi_D_run 2 (76, [(3, .inl z257), (2, .inl 0), (0, .inr (.inr (some 82))), (1, .inl (dp : Int))], [.inl 5, .inr (.inr (some 82))], (I, L, R, Y), 0, 0) (fun _ => rfl) ?_
            refine yi_D_callv rfl (q_wrong_z ⟨by omega, by omega⟩ hW hf hA) ?_
            rintro _ ⟨I464, rfl, hg465, he466⟩
            have hGw467 : mt_G I I464 := fun p k hp => hg465 p k (by omega)
            have hW468 := mt_W_t hW (mt_G_F hGw467)
            have hF469 := (mt_G_F hGw467)
            have hG470 := hGw467
            have hz471 : 0 < sp_f P a 5 := mt_f_ne hW hA.2 (by omega)
            have hn472 : 0 < I464 82 8 := by rw [he466]; exact hz471
            have hx473 : sp_R K P V (12, a, dp, sk, ld, nm, cs) (.inr (sp_f P a 5)) := sp_R_1 (by
              show sp_part K P V a dp sk ld nm cs = _
              first
              | (exfalso; omega)
              | (unfold sp_part; (repeat (first | rw [if_pos (by omega)] | rw [if_neg (by omega)])); done))
            show yi_D zi_Ms d zi_m117 k (79, [(3, .inl z257), (2, .inl 0), (0, .inr (.inr (some 82))), (1, .inl (dp : Int))], [], (I464, L, R, Y), 0, 0) _
            refine yi_D_run 1 (80, [(3, .inl z257), (2, .inl 0), (0, .inr (.inr (some 82))), (1, .inl (dp : Int))], [.inr (.inr (some 82))], (I464, L, R, Y), 0, 0) (fun _ => rfl) ?_
            refine yi_D_gi (v := I464 82 8) rfl rfl rfl rfl (fun _ => ?_)
            have h474 : ¬ ((I464 82 8) ≤ 0) := by omega
            refine yi_D_if1 false rfl (yi_le_f h474) ?_
            refine yi_D_retv rfl ?_
            exact ⟨_, rfl, hF469, Or.inr ⟨_, hx473, hz471, he466⟩⟩
          · refine yi_D_if2 true rfl (yi_ne_t h463) ?_
            refine yi_D_run 1 (80, [(3, .inl z257), (2, .inl 0), (0, .inr (.inr (some 82))), (1, .inl (dp : Int))], [.inr (.inr (some 82))], (I, L, R, Y), 0, 0) (fun _ => rfl) ?_
            refine yi_D_gi (v := 0) rfl rfl rfl hf (fun _ => ?_)
            refine yi_D_if1 true rfl (by decide) ?_
            refine yi_D_run 2 (90, [(3, .inl z257), (2, .inl 0), (0, .inr (.inr (some 82))), (1, .inl (dp : Int))], [.inl 26, .inr (.inr (some 82))], (I, L, R, Y), 0, 0) (fun _ => rfl) ?_
            refine yi_D_callv rfl (q_hasWord_z (by omega) (by omega) hW hf hA) ?_
            rintro _ (⟨c475, I476, rfl, hGa477, hf478, hA479⟩ | ⟨c480, I481, rfl, hGa482, hf483, hA484⟩)
            · have hA479 : mt_A I476 te (a + 1) := hA479
              have hW485 := mt_W_t hW (mt_G_F hGa477)
              have hF486 := (mt_G_F hGa477)
              have hG487 := hGa477
              show yi_D zi_Ms d zi_m117 k (93, [(3, .inl z257), (2, .inl 0), (0, .inr (.inr (some 82))), (1, .inl (dp : Int))], [.inl 1], (I476, L, R, Y), 0, 0) _
              refine yi_D_if1 false rfl (by decide) ?_
              refine yi_D_run 3 (99, [(3, .inl z257), (2, .inl 0), (0, .inr (.inr (some 82))), (1, .inl (dp : Int))], [.inl 1, .inl (dp : Int), .inr (.inr (some 82))], (I476, L, R, Y), 0, 0) (fun _ => rfl) ?_
              refine yi_D_iadd rfl ((dp : Int) + 1) (yi_wn (by omega) (by omega)) ?_
              have hst488 : sp_R K P V (12, a, dp, sk, ld, nm, cs) (.inl (12, a + 1, dp + 1, 5 :: sk, ld, nm, cs)) := sp_R_1 (by
                show sp_part K P V a dp sk ld nm cs = _
                first
                | (exfalso; omega)
                | (unfold sp_part; (repeat (first | rw [if_pos (by omega)] | rw [if_neg (by omega)])); done))
              refine yi_D_callv rfl (hRP (dp + 1) (5 :: sk) cs hW485 hf478 hA479 (by omega)) ?_
              rintro _ ⟨I489, rfl, hFr490, (⟨a491, cs492, hR493, lt494, hf495, hA496⟩ | ⟨f497, hR498, hz499, he500⟩)⟩
              · have hW501 := mt_W_t hW485 hFr490
                have hF502 := mt_F_t hF486 hFr490
                have hR503 : sp_R K P V (12, a, dp, sk, ld, nm, cs) (.inl (13, a491, dp, sk, ld, nm, cs492 ++ [(3, 0)])) := sp_R_s (sp_R_t hst488 hR493) rfl
                show yi_D zi_Ms d zi_m117 k (103, [(3, .inl z257), (2, .inl 0), (0, .inr (.inr (some 82))), (1, .inl (dp : Int))], [], (I489, L, R, Y), 0, 0) _
                refine yi_D_run 3 (106, [(3, .inl z257), (2, .inl 0), (0, .inr (.inr (some 82))), (1, .inl (dp : Int))], [.inl 0, .inl 3, .inr (.inr (some 82))], (I489, L, R, Y), 0, 0) (fun _ => rfl) ?_
                refine yi_D_callv rfl (q_emit hW501) ?_
                rintro _ ⟨I504, rfl, hE505⟩
                have hW506 := mt_W_t hW501 (mt_E_F hE505)
                have hF507 := mt_F_t hF502 (mt_E_F hE505)
                have hf508 : I504 82 8 = 0 := (hE505.1 82 8 (by omega)).trans hf495
                have hA509 : mt_A I504 te a491 := ⟨(hE505.1 82 7 (by omega)).trans hA496.1, hA496.2⟩
                show yi_D zi_Ms d zi_m117 k (109, [(3, .inl z257), (2, .inl 0), (0, .inr (.inr (some 82))), (1, .inl (dp : Int))], [], (I504, L, R, Y), 0, 0) _
                refine yi_D_run 1 (178, [(3, .inl z257), (2, .inl 0), (0, .inr (.inr (some 82))), (1, .inl (dp : Int))], [], (I504, L, R, Y), 0, 0) (fun _ => rfl) ?_
                refine yi_D_retv rfl ?_
                exact ⟨_, rfl, hF507, Or.inl ⟨_, _, hR503, by omega, hf508, hA509⟩⟩
              · have hW510 := mt_W_t hW485 hFr490
                have hF511 := mt_F_t hF486 hFr490
                have hn512 : 0 < I489 82 8 := by rw [he500]; exact hz499
                have hx513 : sp_R K P V (12, a, dp, sk, ld, nm, cs) (.inr f497) := sp_R_t hst488 hR498
                show yi_D zi_Ms d zi_m117 k (103, [(3, .inl z257), (2, .inl 0), (0, .inr (.inr (some 82))), (1, .inl (dp : Int))], [], (I489, L, R, Y), 0, 0) _
                refine yi_D_run 3 (106, [(3, .inl z257), (2, .inl 0), (0, .inr (.inr (some 82))), (1, .inl (dp : Int))], [.inl 0, .inl 3, .inr (.inr (some 82))], (I489, L, R, Y), 0, 0) (fun _ => rfl) ?_
                refine yi_D_callv rfl (q_emit hW510) ?_
                rintro _ ⟨I514, rfl, hE515⟩
                have hW516 := mt_W_t hW510 (mt_E_F hE515)
                have hF517 := mt_F_t hF511 (mt_E_F hE515)
                have hf518 : 0 < I514 82 8 := by rw [hE515.1 82 8 (by omega)]; exact hn512
                have he519 := (hE515.1 82 8 (by omega)).trans he500
                show yi_D zi_Ms d zi_m117 k (109, [(3, .inl z257), (2, .inl 0), (0, .inr (.inr (some 82))), (1, .inl (dp : Int))], [], (I514, L, R, Y), 0, 0) _
                refine yi_D_run 1 (178, [(3, .inl z257), (2, .inl 0), (0, .inr (.inr (some 82))), (1, .inl (dp : Int))], [], (I514, L, R, Y), 0, 0) (fun _ => rfl) ?_
                refine yi_D_retv rfl ?_
                exact ⟨_, rfl, hF517, Or.inr ⟨_, hx513, hz499, he519⟩⟩
            · exfalso; omega
        · show yi_D zi_Ms d zi_m117 k (58, [(3, .inl z257), (2, .inl 0), (0, .inr (.inr (some 82))), (1, .inl (dp : Int))], [.inl 0], (I, L, R, Y), 0, 0) _
          refine yi_D_if1 false rfl (by decide) ?_
          refine yi_D_run 2 (63, [(3, .inl z257), (2, .inl 0), (0, .inr (.inr (some 82))), (1, .inl (dp : Int))], [.inl 1, .inr (.inr (some 82))], (I, L, R, Y), 0, 0) (fun _ => rfl) ?_
          refine yi_D_callv rfl (q_wrong_z ⟨by omega, by omega⟩ hW hf hA) ?_
          rintro _ ⟨I520, rfl, hg521, he522⟩
          have hGw523 : mt_G I I520 := fun p k hp => hg521 p k (by omega)
          have hW524 := mt_W_t hW (mt_G_F hGw523)
          have hF525 := (mt_G_F hGw523)
          have hG526 := hGw523
          have hz527 : 0 < sp_f P a 1 := mt_f_ne hW hA.2 (by omega)
          have hn528 : 0 < I520 82 8 := by rw [he522]; exact hz527
          have hx529 : sp_R K P V (12, a, dp, sk, ld, nm, cs) (.inr (sp_f P a 1)) := sp_R_1 (by
            show sp_part K P V a dp sk ld nm cs = _
            first
            | (exfalso; omega)
            | (unfold sp_part; (repeat (first | rw [if_pos (by omega)] | rw [if_neg (by omega)])); done))
          show yi_D zi_Ms d zi_m117 k (66, [(3, .inl z257), (2, .inl 0), (0, .inr (.inr (some 82))), (1, .inl (dp : Int))], [], (I520, L, R, Y), 0, 0) _
          refine yi_D_run 2 (80, [(3, .inl z257), (2, .inl 0), (0, .inr (.inr (some 82))), (1, .inl (dp : Int))], [.inr (.inr (some 82))], (I520, L, R, Y), 0, 0) (fun _ => rfl) ?_
          refine yi_D_gi (v := I520 82 8) rfl rfl rfl rfl (fun _ => ?_)
          have h530 : ¬ ((I520 82 8) ≤ 0) := by omega
          refine yi_D_if1 false rfl (yi_le_f h530) ?_
          refine yi_D_retv rfl ?_
          exact ⟨_, rfl, hF525, Or.inr ⟨_, hx529, hz527, he522⟩⟩
