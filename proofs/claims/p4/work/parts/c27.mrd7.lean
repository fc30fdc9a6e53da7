/-! The check reader: levels of prices. -/
theorem q_products_s {d : Nat} {I L : Nat → Nat → Int} {R : Nat → Nat → Option Nat} {Y : (Nat → Nat) × (Nat → Nat) × Nat} (hRP : mt_RP d) {K P V : Nat → Int} {te b a : Nat} {ld : Nat → Int} {nm : Int → Int} (hW : mt_W I L R Y K P V te b ld nm) (hf : I 82 8 = 0) (hA : mt_A I te a) (dp : Nat) (sk : List Nat) (cs : List (Int × Int)) (hd : dp ≤ 5) : yi_P zi_Ms (d + 1) 89 [.inr (.inr (some 82)), .inl (dp : Int)] (I, L, R, Y) (mt_QR I L R Y K P V te (11, a, dp, sk, ld, nm, cs) 13 a dp sk ld nm) := by
  refine yi_P_s (M := zi_m89) rfl (fun k => ?_)
  have hS := hW.1
  have ht := hW.2.1.1
  have ha := hA.2
  have hp := hW.2.1.2.1 a hA.2
  show yi_D zi_Ms d zi_m89 k (0, [(0, .inr (.inr (some 82))), (1, .inl (dp : Int))], [], (I, L, R, Y), 0, 0) _
  refine yi_D_run 2 (2, [(0, .inr (.inr (some 82))), (1, .inl (dp : Int))], [.inl (dp : Int), .inr (.inr (some 82))], (I, L, R, Y), 0, 0) (fun _ => rfl) ?_
  have hst1 : sp_R K P V (11, a, dp, sk, ld, nm, cs) (.inl (12, a, dp, 33 :: sk, ld, nm, cs)) := sp_R_1 rfl
  refine yi_D_callv rfl (hRP dp (33 :: sk) cs hW hf hA (by omega)) ?_
  rintro _ ⟨I2, rfl, hFr3, (⟨a4, cs5, hR6, lt7, hf8, hA9⟩ | ⟨f10, hR11, hz12, he13⟩)⟩
  · have hW14 := mt_W_t hW hFr3
    have hF15 := hFr3
    have hR16 := sp_R_t hst1 hR6
    show yi_D zi_Ms d zi_m89 k (5, [(0, .inr (.inr (some 82))), (1, .inl (dp : Int))], [], (I2, L, R, Y), 0, 0) _
    have pt5 : ∀ j5, j5 ≤ k → ∀ (J1 : Nat → Nat → Int) (a1 : Nat) (cs1 : List (Int × Int)), (a < a1) → (mt_F I J1) → (J1 82 8 = 0) → (mt_A J1 te a1) → (sp_R K P V (11, a, dp, sk, ld, nm, cs) (.inl (13, a1, dp, 33 :: sk, ld, nm, cs1))) → yi_D zi_Ms d zi_m89 j5 (5, [(0, .inr (.inr (some 82))), (1, .inl (dp : Int))], [], (J1, L, R, Y), 0, 0) (mt_QR I L R Y K P V te (11, a, dp, sk, ld, nm, cs) 13 a dp sk ld nm) := by
      intro j5
      induction j5 with
      | zero => intros; exact yi_D_0
      | succ j5 ih5 =>
      intro hk5 J1 a1 cs1 lt9 hF9 hf9 hA9 hR9
      have hW9 := mt_W_t hW hF9
      have hle9 := hA9.2
      have hte9 := hW.2.1.1
      refine yi_D_run1 1 (8, [(0, .inr (.inr (some 82))), (1, .inl (dp : Int))], [.inl 42, .inr (.inr (some 82))], (J1, L, R, Y), 0, 0) (fun _ => rfl) ?_
      refine yi_D_callv rfl (q_hasSign_z (by omega) hW9 hf9 hA9) ?_
      rintro _ (⟨c17, I18, rfl, hGa19, hf20, hA21⟩ | ⟨c22, I23, rfl, hGa24, hf25, hA26⟩)
      · have hA21 : mt_A I18 te (a1 + 1) := hA21
        have hW27 := mt_W_t hW9 (mt_G_F hGa19)
        have hF28 := mt_F_t hF9 (mt_G_F hGa19)
        show yi_D zi_Ms d zi_m89 j5 (11, [(0, .inr (.inr (some 82))), (1, .inl (dp : Int))], [.inl 1], (I18, L, R, Y), 0, 0) _
        refine yi_D_if1 false rfl (by decide) ?_
        refine yi_D_run 2 (16, [(0, .inr (.inr (some 82))), (1, .inl (dp : Int))], [.inl (dp : Int), .inr (.inr (some 82))], (I18, L, R, Y), 0, 0) (fun _ => rfl) ?_
        have hli := sp_lev_i (K a1)
        have hst29 : sp_R K P V (11, a, dp, sk, ld, nm, cs) (.inl (12, a1 + 1, dp, (100 + 8 * (K a1).toNat + 3) :: sk, ld, nm, cs1)) := sp_R_s hR9 ((sp_st13 (l := 3) (by omega)).trans (if_pos (by omega)))
        refine yi_D_callv rfl (hRP dp ((100 + 8 * (K a1).toNat + 3) :: sk) cs1 hW27 hf20 hA21 (by omega)) ?_
        rintro _ ⟨I30, rfl, hFr31, (⟨a32, cs33, hR34, lt35, hf36, hA37⟩ | ⟨f38, hR39, hz40, he41⟩)⟩
        · have hW42 := mt_W_t hW27 hFr31
          have hF43 := mt_F_t hF28 hFr31
          have hR44 := sp_R_s (sp_R_t hst29 hR34) (sp_st13b (l := 3) (by omega) (by omega))
          show yi_D zi_Ms d zi_m89 j5 (19, [(0, .inr (.inr (some 82))), (1, .inl (dp : Int))], [], (I30, L, R, Y), 0, 0) _
          refine yi_D_run 3 (23, [(0, .inr (.inr (some 82))), (1, .inl (dp : Int))], [.inl 0, .inl 6, .inr (.inr (some 82))], (I30, L, R, Y), 0, 0) (fun _ => rfl) ?_
          refine yi_D_callv rfl (q_emit hW42) ?_
          rintro _ ⟨I45, rfl, hE46⟩
          have hW47 := mt_W_t hW42 (mt_E_F hE46)
          have hF48 := mt_F_t hF43 (mt_E_F hE46)
          have hf49 : I45 82 8 = 0 := (hE46.1 82 8 (by omega)).trans hf36
          have hA50 : mt_A I45 te a32 := ⟨(hE46.1 82 7 (by omega)).trans hA37.1, hA37.2⟩
          show yi_D zi_Ms d zi_m89 j5 (26, [(0, .inr (.inr (some 82))), (1, .inl (dp : Int))], [], (I45, L, R, Y), 0, 0) _
          refine yi_D_run 1 (5, [(0, .inr (.inr (some 82))), (1, .inl (dp : Int))], [], (I45, L, R, Y), 0, 0) (fun _ => rfl) ?_
          exact yi_D_mono (ih5 (by omega) I45 a32 (cs33 ++ [(sp_sg (K a1).toNat, 0)]) (by omega) hF48 hf49 hA50 hR44) (by omega)
        · have hW51 := mt_W_t hW27 hFr31
          have hF52 := mt_F_t hF28 hFr31
          have hn53 : 0 < I30 82 8 := by rw [he41]; exact hz40
          have hx54 : sp_R K P V (11, a, dp, sk, ld, nm, cs) (.inr f38) := sp_R_t hst29 hR39
          show yi_D zi_Ms d zi_m89 j5 (19, [(0, .inr (.inr (some 82))), (1, .inl (dp : Int))], [], (I30, L, R, Y), 0, 0) _
          refine yi_D_run 3 (23, [(0, .inr (.inr (some 82))), (1, .inl (dp : Int))], [.inl 0, .inl 6, .inr (.inr (some 82))], (I30, L, R, Y), 0, 0) (fun _ => rfl) ?_
          refine yi_D_callv rfl (q_emit hW51) ?_
          rintro _ ⟨I55, rfl, hE56⟩
          have hW57 := mt_W_t hW51 (mt_E_F hE56)
          have hF58 := mt_F_t hF52 (mt_E_F hE56)
          have hf59 : 0 < I55 82 8 := by rw [hE56.1 82 8 (by omega)]; exact hn53
          have he60 := (hE56.1 82 8 (by omega)).trans he41
          show yi_D zi_Ms d zi_m89 j5 (26, [(0, .inr (.inr (some 82))), (1, .inl (dp : Int))], [], (I55, L, R, Y), 0, 0) _
          refine yi_D_run 1 (5, [(0, .inr (.inr (some 82))), (1, .inl (dp : Int))], [], (I55, L, R, Y), 0, 0) (fun _ => rfl) ?_
          refine yi_D_run 2 (8, [(0, .inr (.inr (some 82))), (1, .inl (dp : Int))], [.inl 42, .inr (.inr (some 82))], (I55, L, R, Y), 0, 0) (fun _ => rfl) ?_
          refine yi_D_callv rfl (q_hasSign_f hW57 hf59) ?_
          rintro _ ⟨I61, rfl, hGa62, hq63⟩
          have hW64 := mt_W_t hW57 (mt_G_F hGa62)
          have hF65 := mt_F_t hF58 (mt_G_F hGa62)
          have hf66 : 0 < I61 82 8 := by rw [hq63]; exact hf59
          have he67 := hq63.trans he60
          show yi_D zi_Ms d zi_m89 j5 (11, [(0, .inr (.inr (some 82))), (1, .inl (dp : Int))], [.inl 0], (I61, L, R, Y), 0, 0) _
          refine yi_D_if1 true rfl (by decide) ?_
          refine yi_D_retv rfl ?_
          exact ⟨_, rfl, hF65, Or.inr ⟨_, hx54, hz40, he67⟩⟩
      · have hA26 : mt_A I23 te a1 := hA26
        have hW68 := mt_W_t hW9 (mt_G_F hGa24)
        have hF69 := mt_F_t hF9 (mt_G_F hGa24)
        show yi_D zi_Ms d zi_m89 j5 (11, [(0, .inr (.inr (some 82))), (1, .inl (dp : Int))], [.inl 0], (I23, L, R, Y), 0, 0) _
        refine yi_D_if1 true rfl (by decide) ?_
        refine yi_D_retv rfl ?_
        have hli := sp_lev_i (K a1)
        have hstd := sp_R_s hR9 ((sp_st13 (l := 3) (by omega)).trans (if_neg (by omega)))
        exact ⟨_, rfl, hF69, Or.inl ⟨_, _, hstd, by omega, hf25, hA26⟩⟩
    exact pt5 k (Nat.le_refl _) I2 a4 cs5 (by omega) hF15 hf8 hA9 hR16
  · have hW70 := mt_W_t hW hFr3
    have hF71 := hFr3
    have hn72 : 0 < I2 82 8 := by rw [he13]; exact hz12
    have hx73 : sp_R K P V (11, a, dp, sk, ld, nm, cs) (.inr f10) := sp_R_t hst1 hR11
    show yi_D zi_Ms d zi_m89 k (5, [(0, .inr (.inr (some 82))), (1, .inl (dp : Int))], [], (I2, L, R, Y), 0, 0) _
    refine yi_D_run 2 (8, [(0, .inr (.inr (some 82))), (1, .inl (dp : Int))], [.inl 42, .inr (.inr (some 82))], (I2, L, R, Y), 0, 0) (fun _ => rfl) ?_
    refine yi_D_callv rfl (q_hasSign_f hW70 hn72) ?_
    rintro _ ⟨I74, rfl, hGa75, hq76⟩
    have hW77 := mt_W_t hW70 (mt_G_F hGa75)
    have hF78 := mt_F_t hF71 (mt_G_F hGa75)
    have hf79 : 0 < I74 82 8 := by rw [hq76]; exact hn72
    have he80 := hq76.trans he13
    show yi_D zi_Ms d zi_m89 k (11, [(0, .inr (.inr (some 82))), (1, .inl (dp : Int))], [.inl 0], (I74, L, R, Y), 0, 0) _
    refine yi_D_if1 true rfl (by decide) ?_
    refine yi_D_retv rfl ?_
    exact ⟨_, rfl, hF78, Or.inr ⟨_, hx73, hz12, he80⟩⟩
theorem q_sums_s {d : Nat} {I L : Nat → Nat → Int} {R : Nat → Nat → Option Nat} {Y : (Nat → Nat) × (Nat → Nat) × Nat} (hRD : mt_RD d) {K P V : Nat → Int} {te b a : Nat} {ld : Nat → Int} {nm : Int → Int} (hW : mt_W I L R Y K P V te b ld nm) (hf : I 82 8 = 0) (hA : mt_A I te a) (dp : Nat) (sk : List Nat) (cs : List (Int × Int)) (hd : dp ≤ 5) : yi_P zi_Ms (d + 1) 114 [.inr (.inr (some 82)), .inl (dp : Int)] (I, L, R, Y) (mt_QR I L R Y K P V te (10, a, dp, sk, ld, nm, cs) 13 a dp sk ld nm) := by
  refine yi_P_s (M := zi_m114) rfl (fun k => ?_)
  have hS := hW.1
  have ht := hW.2.1.1
  have ha := hA.2
  have hp := hW.2.1.2.1 a hA.2
  show yi_D zi_Ms d zi_m114 k (0, [(0, .inr (.inr (some 82))), (1, .inl (dp : Int))], [], (I, L, R, Y), 0, 0) _
  refine yi_D_run 2 (2, [(0, .inr (.inr (some 82))), (1, .inl (dp : Int))], [.inl (dp : Int), .inr (.inr (some 82))], (I, L, R, Y), 0, 0) (fun _ => rfl) ?_
  have hst1 : sp_R K P V (10, a, dp, sk, ld, nm, cs) (.inl (11, a, dp, 32 :: sk, ld, nm, cs)) := sp_R_1 rfl
  refine yi_D_callv rfl (hRD dp (32 :: sk) cs hW hf hA (by omega)) ?_
  rintro _ ⟨I2, rfl, hFr3, (⟨a4, cs5, hR6, lt7, hf8, hA9⟩ | ⟨f10, hR11, hz12, he13⟩)⟩
  · have hW14 := mt_W_t hW hFr3
    have hF15 := hFr3
    have hR16 := sp_R_t hst1 hR6
    show yi_D zi_Ms d zi_m114 k (5, [(0, .inr (.inr (some 82))), (1, .inl (dp : Int))], [], (I2, L, R, Y), 0, 0) _
    have pt5 : ∀ j5, j5 ≤ k → ∀ (y2 : Int) (J1 : Nat → Nat → Int) (a1 : Nat) (cs1 : List (Int × Int)), (a < a1) → (mt_F I J1) → (J1 82 8 = 0) → (mt_A J1 te a1) → (sp_R K P V (10, a, dp, sk, ld, nm, cs) (.inl (13, a1, dp, 32 :: sk, ld, nm, cs1))) → yi_D zi_Ms d zi_m114 j5 (5, [(0, .inr (.inr (some 82))), (1, .inl (dp : Int)), (2, .inl y2)], [], (J1, L, R, Y), 0, 0) (mt_QR I L R Y K P V te (10, a, dp, sk, ld, nm, cs) 13 a dp sk ld nm) := by
      intro j5
      induction j5 with
      | zero => intros; exact yi_D_0
      | succ j5 ih5 =>
      intro hk5 y2 J1 a1 cs1 lt9 hF9 hf9 hA9 hR9
      have hW9 := mt_W_t hW hF9
      have hle9 := hA9.2
      have hte9 := hW.2.1.1
      refine yi_D_run1 1 (8, [(0, .inr (.inr (some 82))), (1, .inl (dp : Int)), (2, .inl y2)], [.inl 43, .inr (.inr (some 82))], (J1, L, R, Y), 0, 0) (fun _ => rfl) ?_
      refine yi_D_callv rfl (q_isSign_z (by omega) hW9 hf9 hA9) ?_
      rintro _ (⟨c17, rfl⟩ | ⟨c17, rfl⟩)
      · show yi_D zi_Ms d zi_m114 j5 (11, [(0, .inr (.inr (some 82))), (1, .inl (dp : Int)), (2, .inl y2)], [.inl 1], (J1, L, R, Y), 0, 0) _
        refine yi_D_if1 true rfl (by decide) ?_
        refine yi_D_run 2 (26, [(0, .inr (.inr (some 82))), (1, .inl (dp : Int)), (2, .inl y2)], [.inl 43, .inr (.inr (some 82))], (J1, L, R, Y), 0, 0) (fun _ => rfl) ?_
        refine yi_D_callv rfl (q_isSign_z (by omega) hW9 hf9 hA9) ?_
        rintro _ (⟨c18, rfl⟩ | ⟨c18, rfl⟩)
        · show yi_D zi_Ms d zi_m114 j5 (29, [(0, .inr (.inr (some 82))), (1, .inl (dp : Int)), (2, .inl y2)], [.inl 1], (J1, L, R, Y), 0, 0) _
          refine yi_D_run 3 (32, [(2, .inl 1), (0, .inr (.inr (some 82))), (1, .inl (dp : Int))], [.inr (.inr (some 82)), .inr (.inr (some 82))], (J1, L, R, Y), 0, 0) (fun _ => rfl) ?_
          refine yi_D_gi (v := (a1 : Int)) rfl rfl rfl hA9.1 (fun _ => ?_)
          refine yi_D_run 1 (36, [(2, .inl 1), (0, .inr (.inr (some 82))), (1, .inl (dp : Int))], [.inl 1, .inl (a1 : Int), .inr (.inr (some 82))], (J1, L, R, Y), 0, 0) (fun _ => rfl) ?_
          refine yi_D_iadd rfl ((a1 : Int) + 1) (yi_wn (by omega) (by omega)) ?_
          refine yi_D_pi rfl (fun _ => ?_)
          generalize w20 : yi_u J1 82 7 ((a1 : Int) + 1) = I19
          have hGn21 : mt_G J1 I19 := fun p k hp => by rw [← w20, yi_u_ne _ _ (by omega)]
          have hW22 := mt_W_t hW9 (mt_G_F hGn21)
          have hF23 := mt_F_t hF9 (mt_G_F hGn21)
          have hf24 : I19 82 8 = 0 := by rw [← w20, yi_u_ne _ _ (by omega)]; exact hf9
          have hA25 : mt_A I19 te (a1 + 1) := ⟨by rw [← w20, yi_u_eq]; omega, mt_lt hW22.2.1 hA9.2 (by omega)⟩
          refine yi_D_run 2 (42, [(2, .inl 1), (0, .inr (.inr (some 82))), (1, .inl (dp : Int))], [.inl (dp : Int), .inr (.inr (some 82))], (I19, L, R, Y), 0, 0) (fun _ => rfl) ?_
          have hli := sp_lev_i (K a1)
          have hst26 : sp_R K P V (10, a, dp, sk, ld, nm, cs) (.inl (11, a1 + 1, dp, (100 + 8 * (K a1).toNat + 2) :: sk, ld, nm, cs1)) := sp_R_s hR9 ((sp_st13 (l := 2) (by omega)).trans (if_pos (by omega)))
          refine yi_D_callv rfl (hRD dp ((100 + 8 * (K a1).toNat + 2) :: sk) cs1 hW22 hf24 hA25 (by omega)) ?_
          rintro _ ⟨I27, rfl, hFr28, (⟨a29, cs30, hR31, lt32, hf33, hA34⟩ | ⟨f35, hR36, hz37, he38⟩)⟩
          · have hW39 := mt_W_t hW22 hFr28
            have hF40 := mt_F_t hF23 hFr28
            have hR41 := sp_R_s (sp_R_t hst26 hR31) (sp_st13b (l := 2) (by omega) (by omega))
            show yi_D zi_Ms d zi_m114 j5 (45, [(2, .inl 1), (0, .inr (.inr (some 82))), (1, .inl (dp : Int))], [], (I27, L, R, Y), 0, 0) _
            refine yi_D_run 2 (47, [(2, .inl 1), (0, .inr (.inr (some 82))), (1, .inl (dp : Int))], [.inl 1, .inr (.inr (some 82))], (I27, L, R, Y), 0, 0) (fun _ => rfl) ?_
            refine yi_D_if1 false rfl (by decide) ?_
            refine yi_D_run 3 (56, [(2, .inl 1), (0, .inr (.inr (some 82))), (1, .inl (dp : Int))], [.inl 0, .inl 4, .inr (.inr (some 82))], (I27, L, R, Y), 0, 0) (fun _ => rfl) ?_
            refine yi_D_callv rfl (q_emit hW39) ?_
            rintro _ ⟨I42, rfl, hE43⟩
            have hW44 := mt_W_t hW39 (mt_E_F hE43)
            have hF45 := mt_F_t hF40 (mt_E_F hE43)
            have hf46 : I42 82 8 = 0 := (hE43.1 82 8 (by omega)).trans hf33
            have hA47 : mt_A I42 te a29 := ⟨(hE43.1 82 7 (by omega)).trans hA34.1, hA34.2⟩
            show yi_D zi_Ms d zi_m114 j5 (59, [(2, .inl 1), (0, .inr (.inr (some 82))), (1, .inl (dp : Int))], [], (I42, L, R, Y), 0, 0) _
            refine yi_D_run 1 (5, [(2, .inl 1), (0, .inr (.inr (some 82))), (1, .inl (dp : Int))], [], (I42, L, R, Y), 0, 0) (fun _ => rfl) ?_
            refine yi_D_al (al := [(0, .inr (.inr (some 82))), (1, .inl (dp : Int)), (2, .inl 1)]) (show ([0, 1, 2] : List Nat).Nodup by decide) (show ([2, 0, 1] : List Nat).Nodup by decide) (yi_mc (List.mem_of_getElem? (i := 2) rfl) (yi_mc (List.mem_of_getElem? (i := 0) rfl) (yi_mc (List.mem_of_getElem? (i := 1) rfl) yi_mn))) ?_
            exact yi_D_mono (ih5 (by omega) 1 I42 a29 (cs30 ++ [(sp_sg (K a1).toNat, 0)]) (by omega) hF45 hf46 hA47 hR41) (by omega)
          · have hW48 := mt_W_t hW22 hFr28
            have hF49 := mt_F_t hF23 hFr28
            have hn50 : 0 < I27 82 8 := by rw [he38]; exact hz37
            have hx51 : sp_R K P V (10, a, dp, sk, ld, nm, cs) (.inr f35) := sp_R_t hst26 hR36
            show yi_D zi_Ms d zi_m114 j5 (45, [(2, .inl 1), (0, .inr (.inr (some 82))), (1, .inl (dp : Int))], [], (I27, L, R, Y), 0, 0) _
            refine yi_D_run 2 (47, [(2, .inl 1), (0, .inr (.inr (some 82))), (1, .inl (dp : Int))], [.inl 1, .inr (.inr (some 82))], (I27, L, R, Y), 0, 0) (fun _ => rfl) ?_
            refine yi_D_if1 false rfl (by decide) ?_
            refine yi_D_run 3 (56, [(2, .inl 1), (0, .inr (.inr (some 82))), (1, .inl (dp : Int))], [.inl 0, .inl 4, .inr (.inr (some 82))], (I27, L, R, Y), 0, 0) (fun _ => rfl) ?_
            refine yi_D_callv rfl (q_emit hW48) ?_
            rintro _ ⟨I52, rfl, hE53⟩
            have hW54 := mt_W_t hW48 (mt_E_F hE53)
            have hF55 := mt_F_t hF49 (mt_E_F hE53)
            have hf56 : 0 < I52 82 8 := by rw [hE53.1 82 8 (by omega)]; exact hn50
            have he57 := (hE53.1 82 8 (by omega)).trans he38
            show yi_D zi_Ms d zi_m114 j5 (59, [(2, .inl 1), (0, .inr (.inr (some 82))), (1, .inl (dp : Int))], [], (I52, L, R, Y), 0, 0) _
            refine yi_D_run 1 (5, [(2, .inl 1), (0, .inr (.inr (some 82))), (1, .inl (dp : Int))], [], (I52, L, R, Y), 0, 0) (fun _ => rfl) ?_
            refine yi_D_run 2 (8, [(2, .inl 1), (0, .inr (.inr (some 82))), (1, .inl (dp : Int))], [.inl 43, .inr (.inr (some 82))], (I52, L, R, Y), 0, 0) (fun _ => rfl) ?_
            refine yi_D_callv rfl (q_isSign_f hW54 hf56) ?_
            rintro _ rfl
            show yi_D zi_Ms d zi_m114 j5 (11, [(2, .inl 1), (0, .inr (.inr (some 82))), (1, .inl (dp : Int))], [.inl 0], (I52, L, R, Y), 0, 0) _
            refine yi_D_if1 false rfl (by decide) ?_
            refine yi_D_run 2 (17, [(2, .inl 1), (0, .inr (.inr (some 82))), (1, .inl (dp : Int))], [.inl 45, .inr (.inr (some 82))], (I52, L, R, Y), 0, 0) (fun _ => rfl) ?_
            refine yi_D_callv rfl (q_isSign_f hW54 hf56) ?_
            rintro _ rfl
            show yi_D zi_Ms d zi_m114 j5 (20, [(2, .inl 1), (0, .inr (.inr (some 82))), (1, .inl (dp : Int))], [.inl 0], (I52, L, R, Y), 0, 0) _
            refine yi_D_if1 true rfl (by decide) ?_
            refine yi_D_retv rfl ?_
            exact ⟨_, rfl, hF55, Or.inr ⟨_, hx51, hz37, he57⟩⟩
        · exfalso; omega
      · show yi_D zi_Ms d zi_m114 j5 (11, [(0, .inr (.inr (some 82))), (1, .inl (dp : Int)), (2, .inl y2)], [.inl 0], (J1, L, R, Y), 0, 0) _
        refine yi_D_if1 false rfl (by decide) ?_
        refine yi_D_run 2 (17, [(0, .inr (.inr (some 82))), (1, .inl (dp : Int)), (2, .inl y2)], [.inl 45, .inr (.inr (some 82))], (J1, L, R, Y), 0, 0) (fun _ => rfl) ?_
        refine yi_D_callv rfl (q_isSign_z (by omega) hW9 hf9 hA9) ?_
        rintro _ (⟨c58, rfl⟩ | ⟨c58, rfl⟩)
        · show yi_D zi_Ms d zi_m114 j5 (20, [(0, .inr (.inr (some 82))), (1, .inl (dp : Int)), (2, .inl y2)], [.inl 1], (J1, L, R, Y), 0, 0) _
          refine yi_D_if1 false rfl (by decide) ?_
          refine yi_D_run 2 (26, [(0, .inr (.inr (some 82))), (1, .inl (dp : Int)), (2, .inl y2)], [.inl 43, .inr (.inr (some 82))], (J1, L, R, Y), 0, 0) (fun _ => rfl) ?_
          refine yi_D_callv rfl (q_isSign_z (by omega) hW9 hf9 hA9) ?_
          rintro _ (⟨c59, rfl⟩ | ⟨c59, rfl⟩)
          · exfalso; omega
          · show yi_D zi_Ms d zi_m114 j5 (29, [(0, .inr (.inr (some 82))), (1, .inl (dp : Int)), (2, .inl y2)], [.inl 0], (J1, L, R, Y), 0, 0) _
            refine yi_D_run 3 (32, [(2, .inl 0), (0, .inr (.inr (some 82))), (1, .inl (dp : Int))], [.inr (.inr (some 82)), .inr (.inr (some 82))], (J1, L, R, Y), 0, 0) (fun _ => rfl) ?_
            refine yi_D_gi (v := (a1 : Int)) rfl rfl rfl hA9.1 (fun _ => ?_)
            refine yi_D_run 1 (36, [(2, .inl 0), (0, .inr (.inr (some 82))), (1, .inl (dp : Int))], [.inl 1, .inl (a1 : Int), .inr (.inr (some 82))], (J1, L, R, Y), 0, 0) (fun _ => rfl) ?_
            refine yi_D_iadd rfl ((a1 : Int) + 1) (yi_wn (by omega) (by omega)) ?_
            refine yi_D_pi rfl (fun _ => ?_)
            generalize w61 : yi_u J1 82 7 ((a1 : Int) + 1) = I60
            have hGn62 : mt_G J1 I60 := fun p k hp => by rw [← w61, yi_u_ne _ _ (by omega)]
            have hW63 := mt_W_t hW9 (mt_G_F hGn62)
            have hF64 := mt_F_t hF9 (mt_G_F hGn62)
            have hf65 : I60 82 8 = 0 := by rw [← w61, yi_u_ne _ _ (by omega)]; exact hf9
            have hA66 : mt_A I60 te (a1 + 1) := ⟨by rw [← w61, yi_u_eq]; omega, mt_lt hW63.2.1 hA9.2 (by omega)⟩
            refine yi_D_run 2 (42, [(2, .inl 0), (0, .inr (.inr (some 82))), (1, .inl (dp : Int))], [.inl (dp : Int), .inr (.inr (some 82))], (I60, L, R, Y), 0, 0) (fun _ => rfl) ?_
            have hli := sp_lev_i (K a1)
            have hst67 : sp_R K P V (10, a, dp, sk, ld, nm, cs) (.inl (11, a1 + 1, dp, (100 + 8 * (K a1).toNat + 2) :: sk, ld, nm, cs1)) := sp_R_s hR9 ((sp_st13 (l := 2) (by omega)).trans (if_pos (by omega)))
            refine yi_D_callv rfl (hRD dp ((100 + 8 * (K a1).toNat + 2) :: sk) cs1 hW63 hf65 hA66 (by omega)) ?_
            rintro _ ⟨I68, rfl, hFr69, (⟨a70, cs71, hR72, lt73, hf74, hA75⟩ | ⟨f76, hR77, hz78, he79⟩)⟩
            · have hW80 := mt_W_t hW63 hFr69
              have hF81 := mt_F_t hF64 hFr69
              have hR82 := sp_R_s (sp_R_t hst67 hR72) (sp_st13b (l := 2) (by omega) (by omega))
              show yi_D zi_Ms d zi_m114 j5 (45, [(2, .inl 0), (0, .inr (.inr (some 82))), (1, .inl (dp : Int))], [], (I68, L, R, Y), 0, 0) _
              refine yi_D_run 2 (47, [(2, .inl 0), (0, .inr (.inr (some 82))), (1, .inl (dp : Int))], [.inl 0, .inr (.inr (some 82))], (I68, L, R, Y), 0, 0) (fun _ => rfl) ?_
              refine yi_D_if1 true rfl (by decide) ?_
              refine yi_D_run 2 (56, [(2, .inl 0), (0, .inr (.inr (some 82))), (1, .inl (dp : Int))], [.inl 0, .inl 5, .inr (.inr (some 82))], (I68, L, R, Y), 0, 0) (fun _ => rfl) ?_
              refine yi_D_callv rfl (q_emit hW80) ?_
              rintro _ ⟨I83, rfl, hE84⟩
              have hW85 := mt_W_t hW80 (mt_E_F hE84)
              have hF86 := mt_F_t hF81 (mt_E_F hE84)
              have hf87 : I83 82 8 = 0 := (hE84.1 82 8 (by omega)).trans hf74
              have hA88 : mt_A I83 te a70 := ⟨(hE84.1 82 7 (by omega)).trans hA75.1, hA75.2⟩
              show yi_D zi_Ms d zi_m114 j5 (59, [(2, .inl 0), (0, .inr (.inr (some 82))), (1, .inl (dp : Int))], [], (I83, L, R, Y), 0, 0) _
              refine yi_D_run 1 (5, [(2, .inl 0), (0, .inr (.inr (some 82))), (1, .inl (dp : Int))], [], (I83, L, R, Y), 0, 0) (fun _ => rfl) ?_
              refine yi_D_al (al := [(0, .inr (.inr (some 82))), (1, .inl (dp : Int)), (2, .inl 0)]) (show ([0, 1, 2] : List Nat).Nodup by decide) (show ([2, 0, 1] : List Nat).Nodup by decide) (yi_mc (List.mem_of_getElem? (i := 2) rfl) (yi_mc (List.mem_of_getElem? (i := 0) rfl) (yi_mc (List.mem_of_getElem? (i := 1) rfl) yi_mn))) ?_
              exact yi_D_mono (ih5 (by omega) 0 I83 a70 (cs71 ++ [(sp_sg (K a1).toNat, 0)]) (by omega) hF86 hf87 hA88 hR82) (by omega)
            · have hW89 := mt_W_t hW63 hFr69
              have hF90 := mt_F_t hF64 hFr69
              have hn91 : 0 < I68 82 8 := by rw [he79]; exact hz78
              have hx92 : sp_R K P V (10, a, dp, sk, ld, nm, cs) (.inr f76) := sp_R_t hst67 hR77
              show yi_D zi_Ms d zi_m114 j5 (45, [(2, .inl 0), (0, .inr (.inr (some 82))), (1, .inl (dp : Int))], [], (I68, L, R, Y), 0, 0) _
              refine yi_D_run 2 (47, [(2, .inl 0), (0, .inr (.inr (some 82))), (1, .inl (dp : Int))], [.inl 0, .inr (.inr (some 82))], (I68, L, R, Y), 0, 0) (fun _ => rfl) ?_
              refine yi_D_if1 true rfl (by decide) ?_
              refine yi_D_run 2 (56, [(2, .inl 0), (0, .inr (.inr (some 82))), (1, .inl (dp : Int))], [.inl 0, .inl 5, .inr (.inr (some 82))], (I68, L, R, Y), 0, 0) (fun _ => rfl) ?_
              refine yi_D_callv rfl (q_emit hW89) ?_
              rintro _ ⟨I93, rfl, hE94⟩
              have hW95 := mt_W_t hW89 (mt_E_F hE94)
              have hF96 := mt_F_t hF90 (mt_E_F hE94)
              have hf97 : 0 < I93 82 8 := by rw [hE94.1 82 8 (by omega)]; exact hn91
              have he98 := (hE94.1 82 8 (by omega)).trans he79
              show yi_D zi_Ms d zi_m114 j5 (59, [(2, .inl 0), (0, .inr (.inr (some 82))), (1, .inl (dp : Int))], [], (I93, L, R, Y), 0, 0) _
              refine yi_D_run 1 (5, [(2, .inl 0), (0, .inr (.inr (some 82))), (1, .inl (dp : Int))], [], (I93, L, R, Y), 0, 0) (fun _ => rfl) ?_
              refine yi_D_run 2 (8, [(2, .inl 0), (0, .inr (.inr (some 82))), (1, .inl (dp : Int))], [.inl 43, .inr (.inr (some 82))], (I93, L, R, Y), 0, 0) (fun _ => rfl) ?_
              refine yi_D_callv rfl (q_isSign_f hW95 hf97) ?_
              rintro _ rfl
              show yi_D zi_Ms d zi_m114 j5 (11, [(2, .inl 0), (0, .inr (.inr (some 82))), (1, .inl (dp : Int))], [.inl 0], (I93, L, R, Y), 0, 0) _
              refine yi_D_if1 false rfl (by decide) ?_
              refine yi_D_run 2 (17, [(2, .inl 0), (0, .inr (.inr (some 82))), (1, .inl (dp : Int))], [.inl 45, .inr (.inr (some 82))], (I93, L, R, Y), 0, 0) (fun _ => rfl) ?_
              refine yi_D_callv rfl (q_isSign_f hW95 hf97) ?_
              rintro _ rfl
              show yi_D zi_Ms d zi_m114 j5 (20, [(2, .inl 0), (0, .inr (.inr (some 82))), (1, .inl (dp : Int))], [.inl 0], (I93, L, R, Y), 0, 0) _
              refine yi_D_if1 true rfl (by decide) ?_
              refine yi_D_retv rfl ?_
              exact ⟨_, rfl, hF96, Or.inr ⟨_, hx92, hz78, he98⟩⟩
        · show yi_D zi_Ms d zi_m114 j5 (20, [(0, .inr (.inr (some 82))), (1, .inl (dp : Int)), (2, .inl y2)], [.inl 0], (J1, L, R, Y), 0, 0) _
          refine yi_D_if1 true rfl (by decide) ?_
          refine yi_D_retv rfl ?_
          have hli := sp_lev_i (K a1)
          have hstd := sp_R_s hR9 ((sp_st13 (l := 2) (by omega)).trans (if_neg (by omega)))
          exact ⟨_, rfl, hF9, Or.inl ⟨_, _, hstd, by omega, hf9, hA9⟩⟩
    refine yi_D_al (al := [(0, .inr (.inr (some 82))), (1, .inl (dp : Int)), (2, .inl 0)]) (show ([0, 1, 2] : List Nat).Nodup by decide) (show ([0, 1] : List Nat).Nodup by decide) (yi_mc (List.mem_of_getElem? (i := 0) rfl) (yi_mc (List.mem_of_getElem? (i := 1) rfl) yi_mn)) ?_
    exact pt5 k (Nat.le_refl _) 0 I2 a4 cs5 (by omega) hF15 hf8 hA9 hR16
  · have hW99 := mt_W_t hW hFr3
    have hF100 := hFr3
    have hn101 : 0 < I2 82 8 := by rw [he13]; exact hz12
    have hx102 : sp_R K P V (10, a, dp, sk, ld, nm, cs) (.inr f10) := sp_R_t hst1 hR11
    show yi_D zi_Ms d zi_m114 k (5, [(0, .inr (.inr (some 82))), (1, .inl (dp : Int))], [], (I2, L, R, Y), 0, 0) _
    refine yi_D_run 2 (8, [(0, .inr (.inr (some 82))), (1, .inl (dp : Int))], [.inl 43, .inr (.inr (some 82))], (I2, L, R, Y), 0, 0) (fun _ => rfl) ?_
    refine yi_D_callv rfl (q_isSign_f hW99 hn101) ?_
    rintro _ rfl
    show yi_D zi_Ms d zi_m114 k (11, [(0, .inr (.inr (some 82))), (1, .inl (dp : Int))], [.inl 0], (I2, L, R, Y), 0, 0) _
    refine yi_D_if1 false rfl (by decide) ?_
    refine yi_D_run 2 (17, [(0, .inr (.inr (some 82))), (1, .inl (dp : Int))], [.inl 45, .inr (.inr (some 82))], (I2, L, R, Y), 0, 0) (fun _ => rfl) ?_
    refine yi_D_callv rfl (q_isSign_f hW99 hn101) ?_
    rintro _ rfl
    show yi_D zi_Ms d zi_m114 k (20, [(0, .inr (.inr (some 82))), (1, .inl (dp : Int))], [.inl 0], (I2, L, R, Y), 0, 0) _
    refine yi_D_if1 true rfl (by decide) ?_
    refine yi_D_retv rfl ?_
    exact ⟨_, rfl, hF100, Or.inr ⟨_, hx102, hz12, he13⟩⟩
theorem q_test_s {d : Nat} {I L : Nat → Nat → Int} {R : Nat → Nat → Option Nat} {Y : (Nat → Nat) × (Nat → Nat) × Nat} (hRU : mt_RU d) {K P V : Nat → Int} {te b a : Nat} {ld : Nat → Int} {nm : Int → Int} (hW : mt_W I L R Y K P V te b ld nm) (hf : I 82 8 = 0) (hA : mt_A I te a) (dp : Nat) (sk : List Nat) (cs : List (Int × Int)) (hd : dp ≤ 5) : yi_P zi_Ms (d + 1) 123 [.inr (.inr (some 82)), .inl (dp : Int)] (I, L, R, Y) (mt_QR I L R Y K P V te (9, a, dp, sk, ld, nm, cs) 13 a dp sk ld nm) := by
  refine yi_P_s (M := zi_m123) rfl (fun k => ?_)
  have hS := hW.1
  have ht := hW.2.1.1
  have ha := hA.2
  have hp := hW.2.1.2.1 a hA.2
  show yi_D zi_Ms d zi_m123 k (0, [(0, .inr (.inr (some 82))), (1, .inl (dp : Int))], [], (I, L, R, Y), 0, 0) _
  refine yi_D_run 2 (2, [(0, .inr (.inr (some 82))), (1, .inl (dp : Int))], [.inl (dp : Int), .inr (.inr (some 82))], (I, L, R, Y), 0, 0) (fun _ => rfl) ?_
  have hst1 : sp_R K P V (9, a, dp, sk, ld, nm, cs) (.inl (10, a, dp, 31 :: sk, ld, nm, cs)) := sp_R_1 rfl
  refine yi_D_callv rfl (hRU dp (31 :: sk) cs hW hf hA (by omega)) ?_
  rintro _ ⟨I2, rfl, hFr3, (⟨a4, cs5, hR6, lt7, hf8, hA9⟩ | ⟨f10, hR11, hz12, he13⟩)⟩
  · have hW14 := mt_W_t hW hFr3
    have hF15 := hFr3
    have hR16 := sp_R_t hst1 hR6
    show yi_D zi_Ms d zi_m123 k (5, [(0, .inr (.inr (some 82))), (1, .inl (dp : Int))], [], (I2, L, R, Y), 0, 0) _
    refine yi_D_run 2 (8, [(0, .inr (.inr (some 82))), (1, .inl (dp : Int))], [.inl 60, .inr (.inr (some 82))], (I2, L, R, Y), 0, 0) (fun _ => rfl) ?_
    refine yi_D_callv rfl (q_isSign_z (by omega) hW14 hf8 hA9) ?_
    rintro _ (⟨c17, rfl⟩ | ⟨c17, rfl⟩)
    · show yi_D zi_Ms d zi_m123 k (11, [(0, .inr (.inr (some 82))), (1, .inl (dp : Int))], [.inl 1], (I2, L, R, Y), 0, 0) _
      refine yi_D_run 3 (15, [(2, .inl 1), (0, .inr (.inr (some 82))), (1, .inl (dp : Int))], [.inl 60, .inr (.inr (some 82))], (I2, L, R, Y), 0, 0) (fun _ => rfl) ?_
      refine yi_D_callv rfl (q_hasSign_z (by omega) hW14 hf8 hA9) ?_
      rintro _ (⟨c18, I19, rfl, hGa20, hf21, hA22⟩ | ⟨c23, I24, rfl, hGa25, hf26, hA27⟩)
      · have hA22 : mt_A I19 te (a4 + 1) := hA22
        have hW28 := mt_W_t hW14 (mt_G_F hGa20)
        have hF29 := mt_F_t hF15 (mt_G_F hGa20)
        show yi_D zi_Ms d zi_m123 k (18, [(2, .inl 1), (0, .inr (.inr (some 82))), (1, .inl (dp : Int))], [.inl 1], (I19, L, R, Y), 0, 0) _
        refine yi_D_if1 true rfl (by decide) ?_
        refine yi_D_run 2 (32, [(2, .inl 1), (0, .inr (.inr (some 82))), (1, .inl (dp : Int))], [.inl (dp : Int), .inr (.inr (some 82))], (I19, L, R, Y), 0, 0) (fun _ => rfl) ?_
        have hli := sp_lev_i (K a4)
        have hst30 : sp_R K P V (9, a, dp, sk, ld, nm, cs) (.inl (10, a4 + 1, dp, (100 + 8 * (K a4).toNat + 1) :: sk, ld, nm, cs5)) := sp_R_s hR16 ((sp_st13 (l := 1) (by omega)).trans (if_pos (by omega)))
        refine yi_D_callv rfl (hRU dp ((100 + 8 * (K a4).toNat + 1) :: sk) cs5 hW28 hf21 hA22 (by omega)) ?_
        rintro _ ⟨I31, rfl, hFr32, (⟨a33, cs34, hR35, lt36, hf37, hA38⟩ | ⟨f39, hR40, hz41, he42⟩)⟩
        · have hW43 := mt_W_t hW28 hFr32
          have hF44 := mt_F_t hF29 hFr32
          have hR45 := sp_R_s (sp_R_t hst30 hR35) sp_st13c
          show yi_D zi_Ms d zi_m123 k (35, [(2, .inl 1), (0, .inr (.inr (some 82))), (1, .inl (dp : Int))], [], (I31, L, R, Y), 0, 0) _
          refine yi_D_run 2 (37, [(2, .inl 1), (0, .inr (.inr (some 82))), (1, .inl (dp : Int))], [.inl 1, .inr (.inr (some 82))], (I31, L, R, Y), 0, 0) (fun _ => rfl) ?_
          refine yi_D_if1 false rfl (by decide) ?_
          refine yi_D_run 3 (48, [(2, .inl 1), (0, .inr (.inr (some 82))), (1, .inl (dp : Int))], [.inl 0, .inl 7, .inr (.inr (some 82))], (I31, L, R, Y), 0, 0) (fun _ => rfl) ?_
          refine yi_D_callv rfl (q_emit hW43) ?_
          rintro _ ⟨I46, rfl, hE47⟩
          have hW48 := mt_W_t hW43 (mt_E_F hE47)
          have hF49 := mt_F_t hF44 (mt_E_F hE47)
          have hf50 : I46 82 8 = 0 := (hE47.1 82 8 (by omega)).trans hf37
          have hA51 : mt_A I46 te a33 := ⟨(hE47.1 82 7 (by omega)).trans hA38.1, hA38.2⟩
          show yi_D zi_Ms d zi_m123 k (51, [(2, .inl 1), (0, .inr (.inr (some 82))), (1, .inl (dp : Int))], [], (I46, L, R, Y), 0, 0) _
          refine yi_D_retv rfl ?_
          exact ⟨_, rfl, hF49, Or.inl ⟨_, _, hR45, by omega, hf50, hA51⟩⟩
        · have hW52 := mt_W_t hW28 hFr32
          have hF53 := mt_F_t hF29 hFr32
          have hn54 : 0 < I31 82 8 := by rw [he42]; exact hz41
          have hx55 : sp_R K P V (9, a, dp, sk, ld, nm, cs) (.inr f39) := sp_R_t hst30 hR40
          show yi_D zi_Ms d zi_m123 k (35, [(2, .inl 1), (0, .inr (.inr (some 82))), (1, .inl (dp : Int))], [], (I31, L, R, Y), 0, 0) _
          refine yi_D_run 2 (37, [(2, .inl 1), (0, .inr (.inr (some 82))), (1, .inl (dp : Int))], [.inl 1, .inr (.inr (some 82))], (I31, L, R, Y), 0, 0) (fun _ => rfl) ?_
          refine yi_D_if1 false rfl (by decide) ?_
          refine yi_D_run 3 (48, [(2, .inl 1), (0, .inr (.inr (some 82))), (1, .inl (dp : Int))], [.inl 0, .inl 7, .inr (.inr (some 82))], (I31, L, R, Y), 0, 0) (fun _ => rfl) ?_
          refine yi_D_callv rfl (q_emit hW52) ?_
          rintro _ ⟨I56, rfl, hE57⟩
          have hW58 := mt_W_t hW52 (mt_E_F hE57)
          have hF59 := mt_F_t hF53 (mt_E_F hE57)
          have hf60 : 0 < I56 82 8 := by rw [hE57.1 82 8 (by omega)]; exact hn54
          have he61 := (hE57.1 82 8 (by omega)).trans he42
          show yi_D zi_Ms d zi_m123 k (51, [(2, .inl 1), (0, .inr (.inr (some 82))), (1, .inl (dp : Int))], [], (I56, L, R, Y), 0, 0) _
          refine yi_D_retv rfl ?_
          exact ⟨_, rfl, hF59, Or.inr ⟨_, hx55, hz41, he61⟩⟩
      · exfalso; omega
    · show yi_D zi_Ms d zi_m123 k (11, [(0, .inr (.inr (some 82))), (1, .inl (dp : Int))], [.inl 0], (I2, L, R, Y), 0, 0) _
      refine yi_D_run 3 (15, [(2, .inl 0), (0, .inr (.inr (some 82))), (1, .inl (dp : Int))], [.inl 60, .inr (.inr (some 82))], (I2, L, R, Y), 0, 0) (fun _ => rfl) ?_
      refine yi_D_callv rfl (q_hasSign_z (by omega) hW14 hf8 hA9) ?_
      rintro _ (⟨c62, I63, rfl, hGa64, hf65, hA66⟩ | ⟨c67, I68, rfl, hGa69, hf70, hA71⟩)
      · exfalso; omega
      · have hA71 : mt_A I68 te a4 := hA71
        have hW72 := mt_W_t hW14 (mt_G_F hGa69)
        have hF73 := mt_F_t hF15 (mt_G_F hGa69)
        show yi_D zi_Ms d zi_m123 k (18, [(2, .inl 0), (0, .inr (.inr (some 82))), (1, .inl (dp : Int))], [.inl 0], (I68, L, R, Y), 0, 0) _
        refine yi_D_if1 false rfl (by decide) ?_
        refine yi_D_run 2 (24, [(2, .inl 0), (0, .inr (.inr (some 82))), (1, .inl (dp : Int))], [.inl 61, .inr (.inr (some 82))], (I68, L, R, Y), 0, 0) (fun _ => rfl) ?_
        refine yi_D_callv rfl (q_hasSign_z (by omega) hW72 hf70 hA71) ?_
        rintro _ (⟨c74, I75, rfl, hGa76, hf77, hA78⟩ | ⟨c79, I80, rfl, hGa81, hf82, hA83⟩)
        · have hA78 : mt_A I75 te (a4 + 1) := hA78
          have hW84 := mt_W_t hW72 (mt_G_F hGa76)
          have hF85 := mt_F_t hF73 (mt_G_F hGa76)
          show yi_D zi_Ms d zi_m123 k (27, [(2, .inl 0), (0, .inr (.inr (some 82))), (1, .inl (dp : Int))], [.inl 1], (I75, L, R, Y), 0, 0) _
          refine yi_D_if1 false rfl (by decide) ?_
          refine yi_D_run 2 (32, [(2, .inl 0), (0, .inr (.inr (some 82))), (1, .inl (dp : Int))], [.inl (dp : Int), .inr (.inr (some 82))], (I75, L, R, Y), 0, 0) (fun _ => rfl) ?_
          have hli := sp_lev_i (K a4)
          have hst86 : sp_R K P V (9, a, dp, sk, ld, nm, cs) (.inl (10, a4 + 1, dp, (100 + 8 * (K a4).toNat + 1) :: sk, ld, nm, cs5)) := sp_R_s hR16 ((sp_st13 (l := 1) (by omega)).trans (if_pos (by omega)))
          refine yi_D_callv rfl (hRU dp ((100 + 8 * (K a4).toNat + 1) :: sk) cs5 hW84 hf77 hA78 (by omega)) ?_
          rintro _ ⟨I87, rfl, hFr88, (⟨a89, cs90, hR91, lt92, hf93, hA94⟩ | ⟨f95, hR96, hz97, he98⟩)⟩
          · have hW99 := mt_W_t hW84 hFr88
            have hF100 := mt_F_t hF85 hFr88
            have hR101 := sp_R_s (sp_R_t hst86 hR91) sp_st13c
            show yi_D zi_Ms d zi_m123 k (35, [(2, .inl 0), (0, .inr (.inr (some 82))), (1, .inl (dp : Int))], [], (I87, L, R, Y), 0, 0) _
            refine yi_D_run 2 (37, [(2, .inl 0), (0, .inr (.inr (some 82))), (1, .inl (dp : Int))], [.inl 0, .inr (.inr (some 82))], (I87, L, R, Y), 0, 0) (fun _ => rfl) ?_
            refine yi_D_if1 true rfl (by decide) ?_
            refine yi_D_run 2 (48, [(2, .inl 0), (0, .inr (.inr (some 82))), (1, .inl (dp : Int))], [.inl 0, .inl 8, .inr (.inr (some 82))], (I87, L, R, Y), 0, 0) (fun _ => rfl) ?_
            refine yi_D_callv rfl (q_emit hW99) ?_
            rintro _ ⟨I102, rfl, hE103⟩
            have hW104 := mt_W_t hW99 (mt_E_F hE103)
            have hF105 := mt_F_t hF100 (mt_E_F hE103)
            have hf106 : I102 82 8 = 0 := (hE103.1 82 8 (by omega)).trans hf93
            have hA107 : mt_A I102 te a89 := ⟨(hE103.1 82 7 (by omega)).trans hA94.1, hA94.2⟩
            show yi_D zi_Ms d zi_m123 k (51, [(2, .inl 0), (0, .inr (.inr (some 82))), (1, .inl (dp : Int))], [], (I102, L, R, Y), 0, 0) _
            refine yi_D_retv rfl ?_
            exact ⟨_, rfl, hF105, Or.inl ⟨_, _, hR101, by omega, hf106, hA107⟩⟩
          · have hW108 := mt_W_t hW84 hFr88
            have hF109 := mt_F_t hF85 hFr88
            have hn110 : 0 < I87 82 8 := by rw [he98]; exact hz97
            have hx111 : sp_R K P V (9, a, dp, sk, ld, nm, cs) (.inr f95) := sp_R_t hst86 hR96
            show yi_D zi_Ms d zi_m123 k (35, [(2, .inl 0), (0, .inr (.inr (some 82))), (1, .inl (dp : Int))], [], (I87, L, R, Y), 0, 0) _
            refine yi_D_run 2 (37, [(2, .inl 0), (0, .inr (.inr (some 82))), (1, .inl (dp : Int))], [.inl 0, .inr (.inr (some 82))], (I87, L, R, Y), 0, 0) (fun _ => rfl) ?_
            refine yi_D_if1 true rfl (by decide) ?_
            refine yi_D_run 2 (48, [(2, .inl 0), (0, .inr (.inr (some 82))), (1, .inl (dp : Int))], [.inl 0, .inl 8, .inr (.inr (some 82))], (I87, L, R, Y), 0, 0) (fun _ => rfl) ?_
            refine yi_D_callv rfl (q_emit hW108) ?_
            rintro _ ⟨I112, rfl, hE113⟩
            have hW114 := mt_W_t hW108 (mt_E_F hE113)
            have hF115 := mt_F_t hF109 (mt_E_F hE113)
            have hf116 : 0 < I112 82 8 := by rw [hE113.1 82 8 (by omega)]; exact hn110
            have he117 := (hE113.1 82 8 (by omega)).trans he98
            show yi_D zi_Ms d zi_m123 k (51, [(2, .inl 0), (0, .inr (.inr (some 82))), (1, .inl (dp : Int))], [], (I112, L, R, Y), 0, 0) _
            refine yi_D_retv rfl ?_
            exact ⟨_, rfl, hF115, Or.inr ⟨_, hx111, hz97, he117⟩⟩
        · have hA83 : mt_A I80 te a4 := hA83
          have hW118 := mt_W_t hW72 (mt_G_F hGa81)
          have hF119 := mt_F_t hF73 (mt_G_F hGa81)
          show yi_D zi_Ms d zi_m123 k (27, [(2, .inl 0), (0, .inr (.inr (some 82))), (1, .inl (dp : Int))], [.inl 0], (I80, L, R, Y), 0, 0) _
          refine yi_D_if1 true rfl (by decide) ?_
          refine yi_D_retv rfl ?_
          have hli := sp_lev_i (K a4)
          have hstd := sp_R_s hR16 ((sp_st13 (l := 1) (by omega)).trans (if_neg (by omega)))
          exact ⟨_, rfl, hF119, Or.inl ⟨_, _, hstd, by omega, hf82, hA83⟩⟩
  · have hW120 := mt_W_t hW hFr3
    have hF121 := hFr3
    have hn122 : 0 < I2 82 8 := by rw [he13]; exact hz12
    have hx123 : sp_R K P V (9, a, dp, sk, ld, nm, cs) (.inr f10) := sp_R_t hst1 hR11
    show yi_D zi_Ms d zi_m123 k (5, [(0, .inr (.inr (some 82))), (1, .inl (dp : Int))], [], (I2, L, R, Y), 0, 0) _
    refine yi_D_run 2 (8, [(0, .inr (.inr (some 82))), (1, .inl (dp : Int))], [.inl 60, .inr (.inr (some 82))], (I2, L, R, Y), 0, 0) (fun _ => rfl) ?_
    refine yi_D_callv rfl (q_isSign_f hW120 hn122) ?_
    rintro _ rfl
    show yi_D zi_Ms d zi_m123 k (11, [(0, .inr (.inr (some 82))), (1, .inl (dp : Int))], [.inl 0], (I2, L, R, Y), 0, 0) _
    refine yi_D_run 3 (15, [(2, .inl 0), (0, .inr (.inr (some 82))), (1, .inl (dp : Int))], [.inl 60, .inr (.inr (some 82))], (I2, L, R, Y), 0, 0) (fun _ => rfl) ?_
    refine yi_D_callv rfl (q_hasSign_f hW120 hn122) ?_
    rintro _ ⟨I124, rfl, hGa125, hq126⟩
    have hW127 := mt_W_t hW120 (mt_G_F hGa125)
    have hF128 := mt_F_t hF121 (mt_G_F hGa125)
    have hf129 : 0 < I124 82 8 := by rw [hq126]; exact hn122
    have he130 := hq126.trans he13
    show yi_D zi_Ms d zi_m123 k (18, [(2, .inl 0), (0, .inr (.inr (some 82))), (1, .inl (dp : Int))], [.inl 0], (I124, L, R, Y), 0, 0) _
    refine yi_D_if1 false rfl (by decide) ?_
    refine yi_D_run 2 (24, [(2, .inl 0), (0, .inr (.inr (some 82))), (1, .inl (dp : Int))], [.inl 61, .inr (.inr (some 82))], (I124, L, R, Y), 0, 0) (fun _ => rfl) ?_
    refine yi_D_callv rfl (q_hasSign_f hW127 hf129) ?_
    rintro _ ⟨I131, rfl, hGa132, hq133⟩
    have hW134 := mt_W_t hW127 (mt_G_F hGa132)
    have hF135 := mt_F_t hF128 (mt_G_F hGa132)
    have hf136 : 0 < I131 82 8 := by rw [hq133]; exact hf129
    have he137 := hq133.trans he130
    show yi_D zi_Ms d zi_m123 k (27, [(2, .inl 0), (0, .inr (.inr (some 82))), (1, .inl (dp : Int))], [.inl 0], (I131, L, R, Y), 0, 0) _
    refine yi_D_if1 true rfl (by decide) ?_
    refine yi_D_retv rfl ?_
    exact ⟨_, rfl, hF135, Or.inr ⟨_, hx123, hz12, he137⟩⟩
theorem q_ors_s {d : Nat} {I L : Nat → Nat → Int} {R : Nat → Nat → Option Nat} {Y : (Nat → Nat) × (Nat → Nat) × Nat} (hRS : mt_RS d) {K P V : Nat → Int} {te b a : Nat} {ld : Nat → Int} {nm : Int → Int} (hW : mt_W I L R Y K P V te b ld nm) (hf : I 82 8 = 0) (hA : mt_A I te a) (dp : Nat) (sk : List Nat) (cs : List (Int × Int)) (hd : dp ≤ 5) : yi_P zi_Ms (d + 1) 87 [.inr (.inr (some 82)), .inl (dp : Int)] (I, L, R, Y) (mt_QR I L R Y K P V te (8, a, dp, sk, ld, nm, cs) 13 a dp sk ld nm) := by
  refine yi_P_s (M := zi_m87) rfl (fun k => ?_)
  have hS := hW.1
  have ht := hW.2.1.1
  have ha := hA.2
  have hp := hW.2.1.2.1 a hA.2
  show yi_D zi_Ms d zi_m87 k (0, [(0, .inr (.inr (some 82))), (1, .inl (dp : Int))], [], (I, L, R, Y), 0, 0) _
  refine yi_D_run 2 (2, [(0, .inr (.inr (some 82))), (1, .inl (dp : Int))], [.inl (dp : Int), .inr (.inr (some 82))], (I, L, R, Y), 0, 0) (fun _ => rfl) ?_
  have hst1 : sp_R K P V (8, a, dp, sk, ld, nm, cs) (.inl (9, a, dp, 30 :: sk, ld, nm, cs)) := sp_R_1 rfl
  refine yi_D_callv rfl (hRS dp (30 :: sk) cs hW hf hA (by omega)) ?_
  rintro _ ⟨I2, rfl, hFr3, (⟨a4, cs5, hR6, lt7, hf8, hA9⟩ | ⟨f10, hR11, hz12, he13⟩)⟩
  · have hW14 := mt_W_t hW hFr3
    have hF15 := hFr3
    have hR16 := sp_R_t hst1 hR6
    show yi_D zi_Ms d zi_m87 k (5, [(0, .inr (.inr (some 82))), (1, .inl (dp : Int))], [], (I2, L, R, Y), 0, 0) _
    have pt5 : ∀ j5, j5 ≤ k → ∀ (y2 : Int) (J1 : Nat → Nat → Int) (a1 : Nat) (cs1 : List (Int × Int)), (a < a1) → (mt_F I J1) → (J1 82 8 = 0) → (mt_A J1 te a1) → (sp_R K P V (8, a, dp, sk, ld, nm, cs) (.inl (13, a1, dp, 30 :: sk, ld, nm, cs1))) → yi_D zi_Ms d zi_m87 j5 (5, [(0, .inr (.inr (some 82))), (1, .inl (dp : Int)), (2, .inl y2)], [], (J1, L, R, Y), 0, 0) (mt_QR I L R Y K P V te (8, a, dp, sk, ld, nm, cs) 13 a dp sk ld nm) := by
      intro j5
      induction j5 with
      | zero => intros; exact yi_D_0
      | succ j5 ih5 =>
      intro hk5 y2 J1 a1 cs1 lt9 hF9 hf9 hA9 hR9
      have hW9 := mt_W_t hW hF9
      have hle9 := hA9.2
      have hte9 := hW.2.1.1
      refine yi_D_run1 1 (8, [(0, .inr (.inr (some 82))), (1, .inl (dp : Int)), (2, .inl y2)], [.inl 27, .inr (.inr (some 82))], (J1, L, R, Y), 0, 0) (fun _ => rfl) ?_
      refine yi_D_callv rfl (q_isWord_z (by omega) (by omega) hW9 hf9 hA9) ?_
      rintro _ (⟨c17, rfl⟩ | ⟨c17, rfl⟩)
      · show yi_D zi_Ms d zi_m87 j5 (11, [(0, .inr (.inr (some 82))), (1, .inl (dp : Int)), (2, .inl y2)], [.inl 1], (J1, L, R, Y), 0, 0) _
        refine yi_D_if1 true rfl (by decide) ?_
        refine yi_D_run 2 (26, [(0, .inr (.inr (some 82))), (1, .inl (dp : Int)), (2, .inl y2)], [.inl 27, .inr (.inr (some 82))], (J1, L, R, Y), 0, 0) (fun _ => rfl) ?_
        refine yi_D_callv rfl (q_isWord_z (by omega) (by omega) hW9 hf9 hA9) ?_
        rintro _ (⟨c18, rfl⟩ | ⟨c18, rfl⟩)
        · show yi_D zi_Ms d zi_m87 j5 (29, [(0, .inr (.inr (some 82))), (1, .inl (dp : Int)), (2, .inl y2)], [.inl 1], (J1, L, R, Y), 0, 0) _
          refine yi_D_run 3 (32, [(2, .inl 1), (0, .inr (.inr (some 82))), (1, .inl (dp : Int))], [.inr (.inr (some 82)), .inr (.inr (some 82))], (J1, L, R, Y), 0, 0) (fun _ => rfl) ?_
          refine yi_D_gi (v := (a1 : Int)) rfl rfl rfl hA9.1 (fun _ => ?_)
          refine yi_D_run 1 (36, [(2, .inl 1), (0, .inr (.inr (some 82))), (1, .inl (dp : Int))], [.inl 1, .inl (a1 : Int), .inr (.inr (some 82))], (J1, L, R, Y), 0, 0) (fun _ => rfl) ?_
          refine yi_D_iadd rfl ((a1 : Int) + 1) (yi_wn (by omega) (by omega)) ?_
          refine yi_D_pi rfl (fun _ => ?_)
          generalize w20 : yi_u J1 82 7 ((a1 : Int) + 1) = I19
          have hGn21 : mt_G J1 I19 := fun p k hp => by rw [← w20, yi_u_ne _ _ (by omega)]
          have hW22 := mt_W_t hW9 (mt_G_F hGn21)
          have hF23 := mt_F_t hF9 (mt_G_F hGn21)
          have hf24 : I19 82 8 = 0 := by rw [← w20, yi_u_ne _ _ (by omega)]; exact hf9
          have hA25 : mt_A I19 te (a1 + 1) := ⟨by rw [← w20, yi_u_eq]; omega, mt_lt hW22.2.1 hA9.2 (by omega)⟩
          refine yi_D_run 2 (42, [(2, .inl 1), (0, .inr (.inr (some 82))), (1, .inl (dp : Int))], [.inl (dp : Int), .inr (.inr (some 82))], (I19, L, R, Y), 0, 0) (fun _ => rfl) ?_
          have hli := sp_lev_i (K a1)
          have hst26 : sp_R K P V (8, a, dp, sk, ld, nm, cs) (.inl (9, a1 + 1, dp, (100 + 8 * (K a1).toNat + 0) :: sk, ld, nm, cs1)) := sp_R_s hR9 ((sp_st13 (l := 0) (by omega)).trans (if_pos (by omega)))
          refine yi_D_callv rfl (hRS dp ((100 + 8 * (K a1).toNat + 0) :: sk) cs1 hW22 hf24 hA25 (by omega)) ?_
          rintro _ ⟨I27, rfl, hFr28, (⟨a29, cs30, hR31, lt32, hf33, hA34⟩ | ⟨f35, hR36, hz37, he38⟩)⟩
          · have hW39 := mt_W_t hW22 hFr28
            have hF40 := mt_F_t hF23 hFr28
            have hR41 := sp_R_s (sp_R_t hst26 hR31) (sp_st13b (l := 0) (by omega) (by omega))
            show yi_D zi_Ms d zi_m87 j5 (45, [(2, .inl 1), (0, .inr (.inr (some 82))), (1, .inl (dp : Int))], [], (I27, L, R, Y), 0, 0) _
            refine yi_D_run 2 (47, [(2, .inl 1), (0, .inr (.inr (some 82))), (1, .inl (dp : Int))], [.inl 1, .inr (.inr (some 82))], (I27, L, R, Y), 0, 0) (fun _ => rfl) ?_
            refine yi_D_if1 false rfl (by decide) ?_
            refine yi_D_run 3 (58, [(2, .inl 1), (0, .inr (.inr (some 82))), (1, .inl (dp : Int))], [.inl 0, .inl 9, .inr (.inr (some 82))], (I27, L, R, Y), 0, 0) (fun _ => rfl) ?_
            refine yi_D_callv rfl (q_emit hW39) ?_
            rintro _ ⟨I42, rfl, hE43⟩
            have hW44 := mt_W_t hW39 (mt_E_F hE43)
            have hF45 := mt_F_t hF40 (mt_E_F hE43)
            have hf46 : I42 82 8 = 0 := (hE43.1 82 8 (by omega)).trans hf33
            have hA47 : mt_A I42 te a29 := ⟨(hE43.1 82 7 (by omega)).trans hA34.1, hA34.2⟩
            show yi_D zi_Ms d zi_m87 j5 (61, [(2, .inl 1), (0, .inr (.inr (some 82))), (1, .inl (dp : Int))], [], (I42, L, R, Y), 0, 0) _
            refine yi_D_run 1 (5, [(2, .inl 1), (0, .inr (.inr (some 82))), (1, .inl (dp : Int))], [], (I42, L, R, Y), 0, 0) (fun _ => rfl) ?_
            refine yi_D_al (al := [(0, .inr (.inr (some 82))), (1, .inl (dp : Int)), (2, .inl 1)]) (show ([0, 1, 2] : List Nat).Nodup by decide) (show ([2, 0, 1] : List Nat).Nodup by decide) (yi_mc (List.mem_of_getElem? (i := 2) rfl) (yi_mc (List.mem_of_getElem? (i := 0) rfl) (yi_mc (List.mem_of_getElem? (i := 1) rfl) yi_mn))) ?_
            exact yi_D_mono (ih5 (by omega) 1 I42 a29 (cs30 ++ [(sp_sg (K a1).toNat, 0)]) (by omega) hF45 hf46 hA47 hR41) (by omega)
          · have hW48 := mt_W_t hW22 hFr28
            have hF49 := mt_F_t hF23 hFr28
            have hn50 : 0 < I27 82 8 := by rw [he38]; exact hz37
            have hx51 : sp_R K P V (8, a, dp, sk, ld, nm, cs) (.inr f35) := sp_R_t hst26 hR36
            show yi_D zi_Ms d zi_m87 j5 (45, [(2, .inl 1), (0, .inr (.inr (some 82))), (1, .inl (dp : Int))], [], (I27, L, R, Y), 0, 0) _
            refine yi_D_run 2 (47, [(2, .inl 1), (0, .inr (.inr (some 82))), (1, .inl (dp : Int))], [.inl 1, .inr (.inr (some 82))], (I27, L, R, Y), 0, 0) (fun _ => rfl) ?_
            refine yi_D_if1 false rfl (by decide) ?_
            refine yi_D_run 3 (58, [(2, .inl 1), (0, .inr (.inr (some 82))), (1, .inl (dp : Int))], [.inl 0, .inl 9, .inr (.inr (some 82))], (I27, L, R, Y), 0, 0) (fun _ => rfl) ?_
            refine yi_D_callv rfl (q_emit hW48) ?_
            rintro _ ⟨I52, rfl, hE53⟩
            have hW54 := mt_W_t hW48 (mt_E_F hE53)
            have hF55 := mt_F_t hF49 (mt_E_F hE53)
            have hf56 : 0 < I52 82 8 := by rw [hE53.1 82 8 (by omega)]; exact hn50
            have he57 := (hE53.1 82 8 (by omega)).trans he38
            show yi_D zi_Ms d zi_m87 j5 (61, [(2, .inl 1), (0, .inr (.inr (some 82))), (1, .inl (dp : Int))], [], (I52, L, R, Y), 0, 0) _
            refine yi_D_run 1 (5, [(2, .inl 1), (0, .inr (.inr (some 82))), (1, .inl (dp : Int))], [], (I52, L, R, Y), 0, 0) (fun _ => rfl) ?_
            refine yi_D_run 2 (8, [(2, .inl 1), (0, .inr (.inr (some 82))), (1, .inl (dp : Int))], [.inl 27, .inr (.inr (some 82))], (I52, L, R, Y), 0, 0) (fun _ => rfl) ?_
            refine yi_D_callv rfl (q_isWord_f hW54 hf56) ?_
            rintro _ rfl
            show yi_D zi_Ms d zi_m87 j5 (11, [(2, .inl 1), (0, .inr (.inr (some 82))), (1, .inl (dp : Int))], [.inl 0], (I52, L, R, Y), 0, 0) _
            refine yi_D_if1 false rfl (by decide) ?_
            refine yi_D_run 2 (17, [(2, .inl 1), (0, .inr (.inr (some 82))), (1, .inl (dp : Int))], [.inl 28, .inr (.inr (some 82))], (I52, L, R, Y), 0, 0) (fun _ => rfl) ?_
            refine yi_D_callv rfl (q_isWord_f hW54 hf56) ?_
            rintro _ rfl
            show yi_D zi_Ms d zi_m87 j5 (20, [(2, .inl 1), (0, .inr (.inr (some 82))), (1, .inl (dp : Int))], [.inl 0], (I52, L, R, Y), 0, 0) _
            refine yi_D_if1 true rfl (by decide) ?_
            refine yi_D_retv rfl ?_
            exact ⟨_, rfl, hF55, Or.inr ⟨_, hx51, hz37, he57⟩⟩
        · exfalso; omega
      · show yi_D zi_Ms d zi_m87 j5 (11, [(0, .inr (.inr (some 82))), (1, .inl (dp : Int)), (2, .inl y2)], [.inl 0], (J1, L, R, Y), 0, 0) _
        refine yi_D_if1 false rfl (by decide) ?_
        refine yi_D_run 2 (17, [(0, .inr (.inr (some 82))), (1, .inl (dp : Int)), (2, .inl y2)], [.inl 28, .inr (.inr (some 82))], (J1, L, R, Y), 0, 0) (fun _ => rfl) ?_
        refine yi_D_callv rfl (q_isWord_z (by omega) (by omega) hW9 hf9 hA9) ?_
        rintro _ (⟨c58, rfl⟩ | ⟨c58, rfl⟩)
        · show yi_D zi_Ms d zi_m87 j5 (20, [(0, .inr (.inr (some 82))), (1, .inl (dp : Int)), (2, .inl y2)], [.inl 1], (J1, L, R, Y), 0, 0) _
          refine yi_D_if1 false rfl (by decide) ?_
          refine yi_D_run 2 (26, [(0, .inr (.inr (some 82))), (1, .inl (dp : Int)), (2, .inl y2)], [.inl 27, .inr (.inr (some 82))], (J1, L, R, Y), 0, 0) (fun _ => rfl) ?_
          refine yi_D_callv rfl (q_isWord_z (by omega) (by omega) hW9 hf9 hA9) ?_
          rintro _ (⟨c59, rfl⟩ | ⟨c59, rfl⟩)
          · exfalso; omega
          · show yi_D zi_Ms d zi_m87 j5 (29, [(0, .inr (.inr (some 82))), (1, .inl (dp : Int)), (2, .inl y2)], [.inl 0], (J1, L, R, Y), 0, 0) _
            refine yi_D_run 3 (32, [(2, .inl 0), (0, .inr (.inr (some 82))), (1, .inl (dp : Int))], [.inr (.inr (some 82)), .inr (.inr (some 82))], (J1, L, R, Y), 0, 0) (fun _ => rfl) ?_
            refine yi_D_gi (v := (a1 : Int)) rfl rfl rfl hA9.1 (fun _ => ?_)
            refine yi_D_run 1 (36, [(2, .inl 0), (0, .inr (.inr (some 82))), (1, .inl (dp : Int))], [.inl 1, .inl (a1 : Int), .inr (.inr (some 82))], (J1, L, R, Y), 0, 0) (fun _ => rfl) ?_
            refine yi_D_iadd rfl ((a1 : Int) + 1) (yi_wn (by omega) (by omega)) ?_
            refine yi_D_pi rfl (fun _ => ?_)
            generalize w61 : yi_u J1 82 7 ((a1 : Int) + 1) = I60
            have hGn62 : mt_G J1 I60 := fun p k hp => by rw [← w61, yi_u_ne _ _ (by omega)]
            have hW63 := mt_W_t hW9 (mt_G_F hGn62)
            have hF64 := mt_F_t hF9 (mt_G_F hGn62)
            have hf65 : I60 82 8 = 0 := by rw [← w61, yi_u_ne _ _ (by omega)]; exact hf9
            have hA66 : mt_A I60 te (a1 + 1) := ⟨by rw [← w61, yi_u_eq]; omega, mt_lt hW63.2.1 hA9.2 (by omega)⟩
            refine yi_D_run 2 (42, [(2, .inl 0), (0, .inr (.inr (some 82))), (1, .inl (dp : Int))], [.inl (dp : Int), .inr (.inr (some 82))], (I60, L, R, Y), 0, 0) (fun _ => rfl) ?_
            have hli := sp_lev_i (K a1)
            have hst67 : sp_R K P V (8, a, dp, sk, ld, nm, cs) (.inl (9, a1 + 1, dp, (100 + 8 * (K a1).toNat + 0) :: sk, ld, nm, cs1)) := sp_R_s hR9 ((sp_st13 (l := 0) (by omega)).trans (if_pos (by omega)))
            refine yi_D_callv rfl (hRS dp ((100 + 8 * (K a1).toNat + 0) :: sk) cs1 hW63 hf65 hA66 (by omega)) ?_
            rintro _ ⟨I68, rfl, hFr69, (⟨a70, cs71, hR72, lt73, hf74, hA75⟩ | ⟨f76, hR77, hz78, he79⟩)⟩
            · have hW80 := mt_W_t hW63 hFr69
              have hF81 := mt_F_t hF64 hFr69
              have hR82 := sp_R_s (sp_R_t hst67 hR72) (sp_st13b (l := 0) (by omega) (by omega))
              show yi_D zi_Ms d zi_m87 j5 (45, [(2, .inl 0), (0, .inr (.inr (some 82))), (1, .inl (dp : Int))], [], (I68, L, R, Y), 0, 0) _
              refine yi_D_run 2 (47, [(2, .inl 0), (0, .inr (.inr (some 82))), (1, .inl (dp : Int))], [.inl 0, .inr (.inr (some 82))], (I68, L, R, Y), 0, 0) (fun _ => rfl) ?_
              refine yi_D_if1 true rfl (by decide) ?_
              refine yi_D_run 2 (58, [(2, .inl 0), (0, .inr (.inr (some 82))), (1, .inl (dp : Int))], [.inl 0, .inl 10, .inr (.inr (some 82))], (I68, L, R, Y), 0, 0) (fun _ => rfl) ?_
              refine yi_D_callv rfl (q_emit hW80) ?_
              rintro _ ⟨I83, rfl, hE84⟩
              have hW85 := mt_W_t hW80 (mt_E_F hE84)
              have hF86 := mt_F_t hF81 (mt_E_F hE84)
              have hf87 : I83 82 8 = 0 := (hE84.1 82 8 (by omega)).trans hf74
              have hA88 : mt_A I83 te a70 := ⟨(hE84.1 82 7 (by omega)).trans hA75.1, hA75.2⟩
              show yi_D zi_Ms d zi_m87 j5 (61, [(2, .inl 0), (0, .inr (.inr (some 82))), (1, .inl (dp : Int))], [], (I83, L, R, Y), 0, 0) _
              refine yi_D_run 1 (5, [(2, .inl 0), (0, .inr (.inr (some 82))), (1, .inl (dp : Int))], [], (I83, L, R, Y), 0, 0) (fun _ => rfl) ?_
              refine yi_D_al (al := [(0, .inr (.inr (some 82))), (1, .inl (dp : Int)), (2, .inl 0)]) (show ([0, 1, 2] : List Nat).Nodup by decide) (show ([2, 0, 1] : List Nat).Nodup by decide) (yi_mc (List.mem_of_getElem? (i := 2) rfl) (yi_mc (List.mem_of_getElem? (i := 0) rfl) (yi_mc (List.mem_of_getElem? (i := 1) rfl) yi_mn))) ?_
              exact yi_D_mono (ih5 (by omega) 0 I83 a70 (cs71 ++ [(sp_sg (K a1).toNat, 0)]) (by omega) hF86 hf87 hA88 hR82) (by omega)
            · have hW89 := mt_W_t hW63 hFr69
              have hF90 := mt_F_t hF64 hFr69
              have hn91 : 0 < I68 82 8 := by rw [he79]; exact hz78
              have hx92 : sp_R K P V (8, a, dp, sk, ld, nm, cs) (.inr f76) := sp_R_t hst67 hR77
              show yi_D zi_Ms d zi_m87 j5 (45, [(2, .inl 0), (0, .inr (.inr (some 82))), (1, .inl (dp : Int))], [], (I68, L, R, Y), 0, 0) _
              refine yi_D_run 2 (47, [(2, .inl 0), (0, .inr (.inr (some 82))), (1, .inl (dp : Int))], [.inl 0, .inr (.inr (some 82))], (I68, L, R, Y), 0, 0) (fun _ => rfl) ?_
              refine yi_D_if1 true rfl (by decide) ?_
              refine yi_D_run 2 (58, [(2, .inl 0), (0, .inr (.inr (some 82))), (1, .inl (dp : Int))], [.inl 0, .inl 10, .inr (.inr (some 82))], (I68, L, R, Y), 0, 0) (fun _ => rfl) ?_
              refine yi_D_callv rfl (q_emit hW89) ?_
              rintro _ ⟨I93, rfl, hE94⟩
              have hW95 := mt_W_t hW89 (mt_E_F hE94)
              have hF96 := mt_F_t hF90 (mt_E_F hE94)
              have hf97 : 0 < I93 82 8 := by rw [hE94.1 82 8 (by omega)]; exact hn91
              have he98 := (hE94.1 82 8 (by omega)).trans he79
              show yi_D zi_Ms d zi_m87 j5 (61, [(2, .inl 0), (0, .inr (.inr (some 82))), (1, .inl (dp : Int))], [], (I93, L, R, Y), 0, 0) _
              refine yi_D_run 1 (5, [(2, .inl 0), (0, .inr (.inr (some 82))), (1, .inl (dp : Int))], [], (I93, L, R, Y), 0, 0) (fun _ => rfl) ?_
              refine yi_D_run 2 (8, [(2, .inl 0), (0, .inr (.inr (some 82))), (1, .inl (dp : Int))], [.inl 27, .inr (.inr (some 82))], (I93, L, R, Y), 0, 0) (fun _ => rfl) ?_
              refine yi_D_callv rfl (q_isWord_f hW95 hf97) ?_
              rintro _ rfl
              show yi_D zi_Ms d zi_m87 j5 (11, [(2, .inl 0), (0, .inr (.inr (some 82))), (1, .inl (dp : Int))], [.inl 0], (I93, L, R, Y), 0, 0) _
              refine yi_D_if1 false rfl (by decide) ?_
              refine yi_D_run 2 (17, [(2, .inl 0), (0, .inr (.inr (some 82))), (1, .inl (dp : Int))], [.inl 28, .inr (.inr (some 82))], (I93, L, R, Y), 0, 0) (fun _ => rfl) ?_
              refine yi_D_callv rfl (q_isWord_f hW95 hf97) ?_
              rintro _ rfl
              show yi_D zi_Ms d zi_m87 j5 (20, [(2, .inl 0), (0, .inr (.inr (some 82))), (1, .inl (dp : Int))], [.inl 0], (I93, L, R, Y), 0, 0) _
              refine yi_D_if1 true rfl (by decide) ?_
              refine yi_D_retv rfl ?_
              exact ⟨_, rfl, hF96, Or.inr ⟨_, hx92, hz78, he98⟩⟩
        · show yi_D zi_Ms d zi_m87 j5 (20, [(0, .inr (.inr (some 82))), (1, .inl (dp : Int)), (2, .inl y2)], [.inl 0], (J1, L, R, Y), 0, 0) _
          refine yi_D_if1 true rfl (by decide) ?_
          refine yi_D_retv rfl ?_
          have hli := sp_lev_i (K a1)
          have hstd := sp_R_s hR9 ((sp_st13 (l := 0) (by omega)).trans (if_neg (by omega)))
          exact ⟨_, rfl, hF9, Or.inl ⟨_, _, hstd, by omega, hf9, hA9⟩⟩
    refine yi_D_al (al := [(0, .inr (.inr (some 82))), (1, .inl (dp : Int)), (2, .inl 0)]) (show ([0, 1, 2] : List Nat).Nodup by decide) (show ([0, 1] : List Nat).Nodup by decide) (yi_mc (List.mem_of_getElem? (i := 0) rfl) (yi_mc (List.mem_of_getElem? (i := 1) rfl) yi_mn)) ?_
    exact pt5 k (Nat.le_refl _) 0 I2 a4 cs5 (by omega) hF15 hf8 hA9 hR16
  · have hW99 := mt_W_t hW hFr3
    have hF100 := hFr3
    have hn101 : 0 < I2 82 8 := by rw [he13]; exact hz12
    have hx102 : sp_R K P V (8, a, dp, sk, ld, nm, cs) (.inr f10) := sp_R_t hst1 hR11
    show yi_D zi_Ms d zi_m87 k (5, [(0, .inr (.inr (some 82))), (1, .inl (dp : Int))], [], (I2, L, R, Y), 0, 0) _
    refine yi_D_run 2 (8, [(0, .inr (.inr (some 82))), (1, .inl (dp : Int))], [.inl 27, .inr (.inr (some 82))], (I2, L, R, Y), 0, 0) (fun _ => rfl) ?_
    refine yi_D_callv rfl (q_isWord_f hW99 hn101) ?_
    rintro _ rfl
    show yi_D zi_Ms d zi_m87 k (11, [(0, .inr (.inr (some 82))), (1, .inl (dp : Int))], [.inl 0], (I2, L, R, Y), 0, 0) _
    refine yi_D_if1 false rfl (by decide) ?_
    refine yi_D_run 2 (17, [(0, .inr (.inr (some 82))), (1, .inl (dp : Int))], [.inl 28, .inr (.inr (some 82))], (I2, L, R, Y), 0, 0) (fun _ => rfl) ?_
    refine yi_D_callv rfl (q_isWord_f hW99 hn101) ?_
    rintro _ rfl
    show yi_D zi_Ms d zi_m87 k (20, [(0, .inr (.inr (some 82))), (1, .inl (dp : Int))], [.inl 0], (I2, L, R, Y), 0, 0) _
    refine yi_D_if1 true rfl (by decide) ?_
    refine yi_D_retv rfl ?_
    exact ⟨_, rfl, hF100, Or.inr ⟨_, hx102, hz12, he13⟩⟩
theorem q_readExpr : ∀ d, mt_RP d ∧ mt_RD d ∧ mt_RU d ∧ mt_RS d ∧ mt_RO d
  | 0 => ⟨fun _ _ _ _ _ _ _ => yi_P_0, fun _ _ _ _ _ _ _ => yi_P_0, fun _ _ _ _ _ _ _ => yi_P_0, fun _ _ _ _ _ _ _ => yi_P_0, fun _ _ _ _ _ _ _ => yi_P_0⟩
  | d + 1 => by
    obtain ⟨h1, h2, h3, h4, h5⟩ := q_readExpr d
    exact ⟨fun dp sk cs hW hf hA hd => q_takePart_s h1 h5 hW hf hA dp sk cs hd, fun dp sk cs hW hf hA hd => q_products_s h1 hW hf hA dp sk cs hd, fun dp sk cs hW hf hA hd => q_sums_s h2 hW hf hA dp sk cs hd, fun dp sk cs hW hf hA hd => q_test_s h3 hW hf hA dp sk cs hd, fun dp sk cs hW hf hA hd => q_ors_s h4 hW hf hA dp sk cs hd⟩
theorem q_ors_z {d : Nat} : mt_RO d := (q_readExpr d).2.2.2.2
theorem q_futuresOf {d : Nat} {I L : Nat → Nat → Int} {R : Nat → Nat → Option Nat} {Y : (Nat → Nat) × (Nat → Nat) × Nat} {da p e : Int} (d0 : 1 ≤ da ∧ da ≤ 6) (p0 : 0 ≤ p ∧ p ≤ 5) (e0 : 0 ≤ e ∧ e ≤ 5) : yi_P zi_Ms d 37 [.inl da, .inl p, .inl e] (I, L, R, Y) (fun r => ∃ z, r = (some (.inl z), (I, L, R, Y), 0, 0) ∧ (z < 0 ↔ sp_bigb da p e = 1)) := by
  refine yi_P_of (M := zi_m37) rfl (fun d k => ?_)
  have hm0 := Int.mul_le_mul (a := da) (c := 6) (b := p) (d := 5) (by omega) (by omega) (by omega) (by omega)
  have hm1 := Int.mul_nonneg (a := da) (b := p) (by omega) (by omega)
  have hs : sp_bigb da p e = 1 ↔ (0 < e ∧ 32768 < e ^ (da * p).toNat) := by
    unfold sp_bigb
    split
    · rename_i h
      exact ⟨fun _ => h, fun _ => rfl⟩
    · rename_i h
      exact ⟨fun z => absurd z (by decide), fun z => absurd z h⟩
  show yi_D zi_Ms d zi_m37 k (0, [(0, .inl da), (1, .inl p), (2, .inl e)], [], (I, L, R, Y), 0, 0) _
  refine yi_D_run 4 (5, [(5, .inl 0), (3, .inr (.inl 1)), (0, .inl da), (1, .inl p), (2, .inl e)], [], (I, L, R, Y), 0, 0) (fun _ => rfl) ?_
  have pt5 : ∀ j5, j5 ≤ k → ∀ (y5 : Int) (y3 : Int), (0 ≤ y5 ∧ y5 ≤ da * p) → (1 ≤ y3 ∧ y3 ≤ 163840) → ((0 < e → (y3 ≤ 32768 → y3 = e ^ y5.toNat) ∧ (32768 < y3 → 32768 < e ^ y5.toNat)) ∧ (e = 0 → y3 = 1)) → yi_D zi_Ms d zi_m37 j5 (5, [(5, .inl y5), (3, .inr (.inl y3)), (0, .inl da), (1, .inl p), (2, .inl e)], [], (I, L, R, Y), 0, 0) (fun r => ∃ z, r = (some (.inl z), (I, L, R, Y), 0, 0) ∧ (z < 0 ↔ sp_bigb da p e = 1)) := by
    intro j5
    induction j5 with
    | zero => intros; exact yi_D_0
    | succ j5 ih5 =>
    intro hk5 y5 y3 h5 h3 hpw
    refine yi_D_run1 2 (9, [(5, .inl y5), (3, .inr (.inl y3)), (0, .inl da), (1, .inl p), (2, .inl e)], [.inl p, .inl da, .inl y5], (I, L, R, Y), 0, 0) (fun _ => rfl) ?_
    refine yi_D_imul rfl (da * p) (yi_wn (by omega) (by omega)) ?_
    by_cases h1 : (da * p) ≤ y5
    · refine yi_D_if2 true rfl (yi_ge_t h1) ?_
      refine yi_D_run 1 (41, [(5, .inl y5), (3, .inr (.inl y3)), (0, .inl da), (1, .inl p), (2, .inl e)], [.inr (.inl y3)], (I, L, R, Y), 0, 0) (fun _ => rfl) ?_
      refine yi_D_ldc2 (32768) rfl (by decide +kernel) ?_
      refine yi_D_run 1 (45, [(5, .inl y5), (3, .inr (.inl y3)), (0, .inl da), (1, .inl p), (2, .inl e)], [.inl (yi_lcmp y3 32768)], (I, L, R, Y), 0, 0) (fun _ => rfl) ?_
      by_cases h2 : y3 ≤ 32768
      · refine yi_D_if1 true rfl (yi_Lle_t h2) ?_
        refine yi_D_run 1 (53, [(5, .inl y5), (3, .inr (.inl y3)), (0, .inl da), (1, .inl p), (2, .inl e)], [.inr (.inl y3)], (I, L, R, Y), 0, 0) (fun _ => rfl) ?_
        refine yi_D_l2i rfl (y3) (yi_wn (by omega) (by omega)) ?_
        refine yi_D_reti rfl ?_
        refine ⟨_, rfl, ?_⟩
        rw [hs]
        have hx : 0 < e → y5.toNat = (da * p).toNat := fun _ => by omega
        constructor
        · intro hz
          have he : 0 < e := by
            by_cases c : e = 0
            · have := hpw.2 c; omega
            · omega
          refine ⟨he, ?_⟩
          rw [← hx he]
          first | exact (hpw.1 he).2 (by omega) | (exfalso; omega)
        · rintro ⟨he, hb⟩
          rw [← hx he] at hb
          have := (hpw.1 he).1
          omega
      · refine yi_D_if1 false rfl (yi_Lle_f h2) ?_
        refine yi_D_run 2 (54, [(5, .inl y5), (3, .inr (.inl y3)), (0, .inl da), (1, .inl p), (2, .inl e)], [.inl (-1)], (I, L, R, Y), 0, 0) (fun _ => rfl) ?_
        refine yi_D_reti rfl ?_
        refine ⟨_, rfl, ?_⟩
        rw [hs]
        have hx : 0 < e → y5.toNat = (da * p).toNat := fun _ => by omega
        constructor
        · intro hz
          have he : 0 < e := by
            by_cases c : e = 0
            · have := hpw.2 c; omega
            · omega
          refine ⟨he, ?_⟩
          rw [← hx he]
          first | exact (hpw.1 he).2 (by omega) | (exfalso; omega)
        · rintro ⟨he, hb⟩
          rw [← hx he] at hb
          have := (hpw.1 he).1
          omega
    · refine yi_D_if2 false rfl (yi_ge_f h1) ?_
      refine yi_D_run 1 (14, [(5, .inl y5), (3, .inr (.inl y3)), (0, .inl da), (1, .inl p), (2, .inl e)], [.inl e], (I, L, R, Y), 0, 0) (fun _ => rfl) ?_
      by_cases h3 : e ≤ 0
      · refine yi_D_if1 true rfl (yi_le_t h3) ?_
        refine yi_D_run 1 (41, [(5, .inl y5), (3, .inr (.inl y3)), (0, .inl da), (1, .inl p), (2, .inl e)], [.inr (.inl y3)], (I, L, R, Y), 0, 0) (fun _ => rfl) ?_
        refine yi_D_ldc2 (32768) rfl (by decide +kernel) ?_
        refine yi_D_run 1 (45, [(5, .inl y5), (3, .inr (.inl y3)), (0, .inl da), (1, .inl p), (2, .inl e)], [.inl (yi_lcmp y3 32768)], (I, L, R, Y), 0, 0) (fun _ => rfl) ?_
        by_cases h4 : y3 ≤ 32768
        · refine yi_D_if1 true rfl (yi_Lle_t h4) ?_
          refine yi_D_run 1 (53, [(5, .inl y5), (3, .inr (.inl y3)), (0, .inl da), (1, .inl p), (2, .inl e)], [.inr (.inl y3)], (I, L, R, Y), 0, 0) (fun _ => rfl) ?_
          refine yi_D_l2i rfl (y3) (yi_wn (by omega) (by omega)) ?_
          refine yi_D_reti rfl ?_
          refine ⟨_, rfl, ?_⟩
          rw [hs]
          have hx : 0 < e → y5.toNat = (da * p).toNat := fun _ => by omega
          constructor
          · intro hz
            have he : 0 < e := by
              by_cases c : e = 0
              · have := hpw.2 c; omega
              · omega
            refine ⟨he, ?_⟩
            rw [← hx he]
            first | exact (hpw.1 he).2 (by omega) | (exfalso; omega)
          · rintro ⟨he, hb⟩
            rw [← hx he] at hb
            have := (hpw.1 he).1
            omega
        · refine yi_D_if1 false rfl (yi_Lle_f h4) ?_
          refine yi_D_run 2 (54, [(5, .inl y5), (3, .inr (.inl y3)), (0, .inl da), (1, .inl p), (2, .inl e)], [.inl (-1)], (I, L, R, Y), 0, 0) (fun _ => rfl) ?_
          refine yi_D_reti rfl ?_
          refine ⟨_, rfl, ?_⟩
          rw [hs]
          have hx : 0 < e → y5.toNat = (da * p).toNat := fun _ => by omega
          constructor
          · intro hz
            have he : 0 < e := by
              by_cases c : e = 0
              · have := hpw.2 c; omega
              · omega
            refine ⟨he, ?_⟩
            rw [← hx he]
            first | exact (hpw.1 he).2 (by omega) | (exfalso; omega)
          · rintro ⟨he, hb⟩
            rw [← hx he] at hb
            have := (hpw.1 he).1
            omega
      · refine yi_D_if1 false rfl (yi_le_f h3) ?_
        refine yi_D_run 1 (18, [(5, .inl y5), (3, .inr (.inl y3)), (0, .inl da), (1, .inl p), (2, .inl e)], [.inr (.inl y3)], (I, L, R, Y), 0, 0) (fun _ => rfl) ?_
        refine yi_D_ldc2 (32768) rfl (by decide +kernel) ?_
        refine yi_D_run 1 (22, [(5, .inl y5), (3, .inr (.inl y3)), (0, .inl da), (1, .inl p), (2, .inl e)], [.inl (yi_lcmp y3 32768)], (I, L, R, Y), 0, 0) (fun _ => rfl) ?_
        by_cases h5 : y3 ≤ 32768
        · refine yi_D_if1 true rfl (yi_Lle_t h5) ?_
          refine yi_D_run 3 (32, [(5, .inl y5), (3, .inr (.inl y3)), (0, .inl da), (1, .inl p), (2, .inl e)], [.inr (.inl e), .inr (.inl y3)], (I, L, R, Y), 0, 0) (fun _ => rfl) ?_
          have hm2 := Int.mul_le_mul (a := y3) (c := 32768) (b := e) (d := 5) (by omega) (by omega) (by omega) (by omega)
          have hm3 := Int.mul_le_mul (a := 1) (c := y3) (b := 1) (d := e) (by omega) (by omega) (by omega) (by omega)
          have hpn : (0 < e → (y3 * e ≤ 32768 → y3 * e = e ^ (y5 + 1).toNat) ∧ (32768 < y3 * e → 32768 < e ^ (y5 + 1).toNat)) ∧ (e = 0 → y3 * e = 1) := by
            rw [show (y5 + 1).toNat = y5.toNat + 1 by omega, Int.pow_succ]
            have hq := (hpw.1 (by omega)).1 (by omega)
            rw [← hq]
            exact ⟨fun _ => ⟨fun _ => rfl, fun h => h⟩, fun h => by omega⟩
          refine yi_D_lmul rfl (y3 * e) (yi_Wn (by omega) (by omega)) ?_
          refine yi_D_run 1 (34, [(3, .inr (.inl (y3 * e))), (5, .inl y5), (0, .inl da), (1, .inl p), (2, .inl e)], [], (I, L, R, Y), 0, 0) (fun _ => rfl) ?_
          refine yi_D_iinc [(5, .inl (y5 + 1)), (3, .inr (.inl (y3 * e))), (0, .inl da), (1, .inl p), (2, .inl e)] rfl rfl rfl (by rw [show yi_w (y5 + 1) = y5 + 1 from (yi_wn (by omega) (by omega)).trans (by omega)]; rfl) ?_
          refine yi_D_run 1 (5, [(5, .inl (y5 + 1)), (3, .inr (.inl (y3 * e))), (0, .inl da), (1, .inl p), (2, .inl e)], [], (I, L, R, Y), 0, 0) (fun _ => rfl) ?_
          exact yi_D_mono (ih5 (by omega) (y5 + 1) (y3 * e) (by omega) (by omega) (by assumption)) (by omega)
        · refine yi_D_if1 false rfl (yi_Lle_f h5) ?_
          have hpn : (0 < e → (y3 ≤ 32768 → y3 = e ^ (y5 + 1).toNat) ∧ (32768 < y3 → 32768 < e ^ (y5 + 1).toNat)) ∧ (e = 0 → y3 = 1) := by
            refine ⟨fun he => ⟨fun h => by omega, fun h => ?_⟩, hpw.2⟩
            have := sp_pw (e := e) (by omega) y5.toNat (y5 + 1).toNat (by omega)
            have := (hpw.1 he).2 h
            omega
          refine yi_D_run 3 (34, [(3, .inr (.inl y3)), (5, .inl y5), (0, .inl da), (1, .inl p), (2, .inl e)], [], (I, L, R, Y), 0, 0) (fun _ => rfl) ?_
          refine yi_D_iinc [(5, .inl (y5 + 1)), (3, .inr (.inl y3)), (0, .inl da), (1, .inl p), (2, .inl e)] rfl rfl rfl (by rw [show yi_w (y5 + 1) = y5 + 1 from (yi_wn (by omega) (by omega)).trans (by omega)]; rfl) ?_
          refine yi_D_run 1 (5, [(5, .inl (y5 + 1)), (3, .inr (.inl y3)), (0, .inl da), (1, .inl p), (2, .inl e)], [], (I, L, R, Y), 0, 0) (fun _ => rfl) ?_
          exact yi_D_mono (ih5 (by omega) (y5 + 1) y3 (by omega) (by omega) (by assumption)) (by omega)
  exact pt5 k (Nat.le_refl _) 0 1 (by omega) (by omega) ⟨fun _ => ⟨fun _ => by rw [Int.toNat_zero, Int.pow_zero], fun h => absurd h (by decide)⟩, fun _ => rfl⟩
