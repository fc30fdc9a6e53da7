/-! The worlds of a land. -/
theorem k_fillBlocks (D : Nat) (hD : 3 ≤ D) {E : List Nat} {I L : cl_I} {R : cl_Rr} {Y : cl_Y} (hC : cl_C E I L R Y) {p : Nat} (tp : cl_T E Y p 4) {x : Int} {y : Int} {v : Int} {w : Int} (hy : 0 ≤ y ∧ y ≤ 131076) (hv : v ≤ 32769) (hw : w ≤ 131076) : yi_E zi_Ms D 307 [.inr (.inr (some p)), .inl x, .inl y, .inl v, .inl w] (I, L, R, Y) (fun r => ∃ I', ∃ L', ∃ R', ∃ Y', ∃ nc ns, r = (none, (I', L', R', Y'), nc, ns) ∧ cl_P E I L R Y I' L' R' Y' ∧ nc ≤ 3 ∧ ns ≤ 3 + (max (I p 9) 1).toNat ∧ (v ≤ 0 → nc = 0 ∧ ns = 0) ∧ (∀ q k, cl_T E Y q 4 → I' q k = I q k)) := by
  obtain ⟨d, rfl⟩ : ∃ d, D = d + 1 := ⟨D - 1, by omega⟩
  refine yi_E_of (M := zi_m307) rfl rfl ?_
  have hP : cl_P E I L R Y I L R Y := cl_P_r hC
  show yi_G zi_Ms d zi_m307 (0, [(0, .inr (.inr (some p))), (1, .inl x), (2, .inl y), (3, .inl v), (4, .inl w)], [], (I, L, R, Y), 0, 0) _
  refine yi_G_run 1 (1, [(0, .inr (.inr (some p))), (1, .inl x), (2, .inl y), (3, .inl v), (4, .inl w)], [.inl x], (I, L, R, Y), 0, 0) (fun _ => rfl) ?_
  by_cases h1 : x < 0
  · refine yi_G_if1 true rfl (yi_lt_t h1) ?_
    exact yi_G_retv rfl rfl (⟨_, _, _, _, _, _, rfl, hP, by omega, by omega, by omega, (fun _ _ _ => rfl)⟩)
  · refine yi_G_if1 false rfl (yi_lt_f h1) ?_
    refine yi_G_run 2 (6, [(0, .inr (.inr (some p))), (1, .inl x), (2, .inl y), (3, .inl v), (4, .inl w)], [.inr (.inr (some p)), .inl x], (I, L, R, Y), 0, 0) (fun _ => rfl) ?_
    obtain ⟨q2, e3, t4, n5⟩ := cl_rn hP.1 tp (k := 3) (m := 95) rfl
    refine cl_G_gr rfl (cl_T_K tp) rfl rfl rfl e3 ?_
    refine cl_G_len rfl t4 (by omega) ?_
    by_cases h6 : ((Y.2.1 q2 : Int)) ≤ x
    · refine yi_G_if2 true rfl (yi_ge_t h6) ?_
      exact yi_G_retv rfl rfl (⟨_, _, _, _, _, _, rfl, hP, by omega, by omega, by omega, (fun _ _ _ => rfl)⟩)
    · refine yi_G_if2 false rfl (yi_ge_f h6) ?_
      refine yi_G_run 1 (14, [(0, .inr (.inr (some p))), (1, .inl x), (2, .inl y), (3, .inl v), (4, .inl w)], [.inl v], (I, L, R, Y), 0, 0) (fun _ => rfl) ?_
      by_cases h7 : v ≤ 0
      · refine yi_G_if1 true rfl (yi_le_t h7) ?_
        exact yi_G_retv rfl rfl (⟨_, _, _, _, _, _, rfl, hP, by omega, by omega, by omega, (fun _ _ _ => rfl)⟩)
      · refine yi_G_if1 false rfl (yi_le_f h7) ?_
        refine yi_G_run 1 (19, [(0, .inr (.inr (some p))), (1, .inl x), (2, .inl y), (3, .inl v), (4, .inl w)], [.inl w], (I, L, R, Y), 0, 0) (fun _ => rfl) ?_
        by_cases h8 : 0 < w
        · refine yi_G_if1 true rfl (yi_gt_t h8) ?_
          refine yi_G_run 1 (24, [(0, .inr (.inr (some p))), (1, .inl x), (2, .inl y), (3, .inl v), (4, .inl w)], [.inr (.inr (some p))], (I, L, R, Y), 0, 0) (fun _ => rfl) ?_
          refine cl_G_gr rfl (cl_T_K tp) rfl rfl rfl e3 ?_
          refine yi_G_run 1 (28, [(0, .inr (.inr (some p))), (1, .inl x), (2, .inl y), (3, .inl v), (4, .inl w)], [.inl x, .inr (.inr (some q2))], (I, L, R, Y), 0, 0) (fun _ => rfl) ?_
          rcases cl_ro hP.1 t4 (k := x.toNat) rfl with e10 | ⟨q9, e10, t11⟩
          · refine cl_G_aald rfl t4 (by omega) (by omega) (by omega) e10 ?_
            refine yi_G_run 2 (33, [(5, .inr (.inr none)), (0, .inr (.inr (some p))), (1, .inl x), (2, .inl y), (3, .inl v), (4, .inl w)], [.inr (.inr none)], (I, L, R, Y), 0, 0) (fun _ => rfl) ?_
            refine cl_G_nnl true rfl rfl ?_
            refine cl_G_mko (m := 2) rfl hP rfl rfl (fun e12x I12 L12 R12 Y12 ee12 hP12 x12 tt12 z12 y12 k12 g12 m12 o12 => ?_)
            have t13 := tt12 _ _ tp
            have n14 := (cl_T_n t4 x12).trans n5
            have t15 := tt12 _ _ t4
            have e16 := (o12 p 3 (tp).2.1).1.trans e3
            have e17 := (o12 q2 x.toNat (t4).2.1).1.trans e10
            refine yi_G_run 1 (40, [(5, .inr (.inr none)), (0, .inr (.inr (some p))), (1, .inl x), (2, .inl y), (3, .inl v), (4, .inl w)], [.inr (.inr (some e12x)), .inr (.inr (some e12x))], (I12, L12, R12, Y12), 0 + 1, 0 + 2) (fun _ => rfl) ?_
            have r19 : I12 p 9 = I p 9 := by rw [(o12 p 9 (tp).2.1).2]
            have r20 : I12 p 2 = I p 2 := by rw [(o12 p 2 (tp).2.1).2]
            refine cl_G_callx rfl rfl rfl rfl (k_FS0 d (by omega) hP12.1 g12 k12 m12 z12 y12  ) ?_
            rintro _ ⟨I18, L18, R18, Y18, nc18, ns18, rfl, hQ18, ca18, cb18, t18, x18a⟩
            have hP18 := cl_P_t hP12 hQ18
            have t21 := cl_T_x (cl_T_d t13) hQ18.2.1
            have t22 := cl_T_x (cl_T_d t15) hQ18.2.1
            have n23 := (cl_T_n t15 hQ18.2.1).trans n14
            show yi_G zi_Ms d zi_m307 (43, [(5, .inr (.inr none)), (0, .inr (.inr (some p))), (1, .inl x), (2, .inl y), (3, .inl v), (4, .inl w)], [.inr (.inr (some e12x))], (I18, L18, R18, Y18), 0 + 1 + nc18, 0 + 2 + ns18) _
            refine yi_G_run 2 (46, [(5, .inr (.inr (some e12x))), (0, .inr (.inr (some p))), (1, .inl x), (2, .inl y), (3, .inl v), (4, .inl w)], [.inr (.inr (some p))], (I18, L18, R18, Y18), 0 + 1 + nc18, 0 + 2 + ns18) (fun _ => rfl) ?_
            obtain ⟨q24, e25, t26, n27⟩ := cl_rn hP18.1 t21 (k := 3) (m := 95) rfl
            refine cl_G_gr rfl (cl_T_K t21) rfl rfl rfl e25 ?_
            refine yi_G_run 2 (52, [(5, .inr (.inr (some e12x))), (0, .inr (.inr (some p))), (1, .inl x), (2, .inl y), (3, .inl v), (4, .inl w)], [.inr (.inr (some e12x)), .inl x, .inr (.inr (some q24))], (I18, L18, R18, Y18), 0 + 1 + nc18, 0 + 2 + ns18) (fun _ => rfl) ?_
            refine cl_G_aast rfl t26 (by omega) rfl (by omega) (by omega) (Or.inr ⟨_, rfl, t18⟩) ?_
            have hP28 := cl_P_uR (k := (x.toNat)) (v := (some e12x)) hP18 t26 (by omega) (by omega) (cl_hro rfl t18)
            generalize w29 : cl_u R18 q24 (x.toNat) (some e12x) = R30 at hP28 ⊢
            have e31 : R30 p 3 = some q24 := by rw [← w29, cl_u_ne _ _ (fun z => cl_ne t21 t26 (by decide) z.1)]; exact e25
            have e32 : R30 q24 (x.toNat) = some e12x := by rw [← w29, cl_u_eq]
            refine yi_G_run 2 (56, [(5, .inr (.inr (some e12x))), (0, .inr (.inr (some p))), (1, .inl x), (2, .inl y), (3, .inl v), (4, .inl w)], [.inr (.inr (some p)), .inr (.inr (some e12x))], (I18, L18, R30, Y18), 0 + 1 + nc18, 0 + 2 + ns18) (fun _ => rfl) ?_
            have b33 := cl_rd hP28.1 t21 (k := 9) (lo := 1) (hi := 513) rfl
            have r34 : I18 p 9 = I p 9 := by rw [x18a p 9 (cl_T_x (E := E) tp hP12.2.1).2.1 (by have a := tp.2.1; have b := hP.2.1.1; omega), (o12 p 9 (tp).2.1).2]
            refine cl_G_gi rfl (cl_T_K t21) rfl rfl rfl ?_
            have r36 : I18 p 9 = I p 9 := by rw [x18a p 9 (cl_T_x (E := E) tp hP12.2.1).2.1 (by have a := tp.2.1; have b := hP.2.1.1; omega), (o12 p 9 (tp).2.1).2]
            have r37 : I18 p 2 = I p 2 := by rw [x18a p 2 (cl_T_x (E := E) tp hP12.2.1).2.1 (by have a := tp.2.1; have b := hP.2.1.1; omega), (o12 p 2 (tp).2.1).2]
            refine yi_G_callv rfl rfl (cl_rcv t18 rfl) rfl (k_resize d (by omega) hP28.1 t18 (by omega)) ?_
            rintro _ ⟨I35, L35, R35, Y35, nc35, ns35, rfl, hQ35, ca35, cb35, x35a, x35b, x35c, x35d⟩
            have hP35 := cl_P_t hP28 hQ35
            have t38 := cl_T_x t21 hQ35.2.1
            have t39 := cl_T_x t22 hQ35.2.1
            have n40 := (cl_T_n t22 hQ35.2.1).trans n23
            have t41 := cl_T_x t18 hQ35.2.1
            have t42 := cl_T_x t26 hQ35.2.1
            have n43 := (cl_T_n t26 hQ35.2.1).trans n27
            show yi_G zi_Ms d zi_m307 (62, [(5, .inr (.inr (some e12x))), (0, .inr (.inr (some p))), (1, .inl x), (2, .inl y), (3, .inl v), (4, .inl w)], [], (I35, L35, R35, Y35), 0 + 1 + nc18 + nc35, 0 + 2 + ns18 + ns35) _
            refine yi_G_run 1 (64, [(5, .inr (.inr (some e12x))), (0, .inr (.inr (some p))), (1, .inl x), (2, .inl y), (3, .inl v), (4, .inl w)], [.inr (.inr (some e12x))], (I35, L35, R35, Y35), 0 + 1 + nc18 + nc35, 0 + 2 + ns18 + ns35) (fun _ => rfl) ?_
            have r45 : I35 p 9 = I p 9 := by rw [(x35c p 9 (cl_T_x tp hP28.2.1).2.1 (cl_ne (cl_T_x tp hP28.2.1) t18 (by decide))).1, x18a p 9 (cl_T_x (E := E) tp hP12.2.1).2.1 (by have a := tp.2.1; have b := hP.2.1.1; omega), (o12 p 9 (tp).2.1).2]
            have r46 : I35 p 2 = I p 2 := by rw [(x35c p 2 (cl_T_x tp hP28.2.1).2.1 (cl_ne (cl_T_x tp hP28.2.1) t18 (by decide))).1, x18a p 2 (cl_T_x (E := E) tp hP12.2.1).2.1 (by have a := tp.2.1; have b := hP.2.1.1; omega), (o12 p 2 (tp).2.1).2]
            refine yi_G_callv rfl rfl (cl_rcv t41 rfl) rfl (k_clear d (by omega) hP35.1 t41 ) ?_
            rintro _ ⟨L44, rfl, hQ44⟩
            have hP44 := cl_P_t hP35 hQ44
            show yi_G zi_Ms d zi_m307 (67, [(5, .inr (.inr (some e12x))), (0, .inr (.inr (some p))), (1, .inl x), (2, .inl y), (3, .inl v), (4, .inl w)], [], (I35, L44, R35, Y35), 0 + 1 + nc18 + nc35, 0 + 2 + ns18 + ns35) _
            refine yi_G_run 2 (70, [(6, .inl y), (5, .inr (.inr (some e12x))), (0, .inr (.inr (some p))), (1, .inl x), (2, .inl y), (3, .inl v), (4, .inl w)], [], (I35, L44, R35, Y35), 0 + 1 + nc18 + nc35, 0 + 2 + ns18 + ns35) (fun _ => rfl) ?_
            have pt70 : ∀ (m_ : Nat) (j : Int) (Lp70 : cl_I), (cl_P E I L R Y I35 Lp70 R35 Y35) → (0 ≤ j ∧ j ≤ 163845) → (163845 - j).toNat = m_ → yi_G zi_Ms d zi_m307 (70, [(6, .inl j), (5, .inr (.inr (some e12x))), (0, .inr (.inr (some p))), (1, .inl x), (2, .inl y), (3, .inl v), (4, .inl w)], [], (I35, Lp70, R35, Y35), 0 + 1 + nc18 + nc35, 0 + 2 + ns18 + ns35) (fun r => ∃ I', ∃ L', ∃ R', ∃ Y', ∃ nc ns, r = (none, (I', L', R', Y'), nc, ns) ∧ cl_P E I L R Y I' L' R' Y' ∧ nc ≤ 3 ∧ ns ≤ 3 + (max (I p 9) 1).toNat ∧ (v ≤ 0 → nc = 0 ∧ ns = 0) ∧ (∀ q k, cl_T E Y q 4 → I' q k = I q k)) := by
              intro m70
              induction m70 using Nat.strongRecOn with
              | _ m70 ih70 =>
              intro j Lp70 hPp70 j0 hm70
              refine yi_G_run 2 (73, [(6, .inl j), (5, .inr (.inr (some e12x))), (0, .inr (.inr (some p))), (1, .inl x), (2, .inl y), (3, .inl v), (4, .inl w)], [.inr (.inr (some p)), .inl j], (I35, Lp70, R35, Y35), 0 + 1 + nc18 + nc35, 0 + 2 + ns18 + ns35) (fun _ => rfl) ?_
              have b47 := cl_rd hPp70.1 t38 (k := 2) (lo := 1) (hi := 32769) rfl
              have r48 : I35 p 2 = I p 2 := by rw [(x35c p 2 (cl_T_x tp hP28.2.1).2.1 (cl_ne (cl_T_x tp hP28.2.1) t18 (by decide))).1, x18a p 2 (cl_T_x (E := E) tp hP12.2.1).2.1 (by have a := tp.2.1; have b := hP.2.1.1; omega), (o12 p 2 (tp).2.1).2]
              refine cl_G_gi rfl (cl_T_K t38) rfl rfl rfl ?_
              by_cases h49 : (I35 p 2) ≤ j
              · refine yi_G_if2 true rfl (yi_ge_t h49) ?_
                exact yi_G_retv rfl rfl (⟨_, _, _, _, _, _, rfl, hPp70, by omega, by omega, by omega, (fun q k tq => by rw [(x35c q k (cl_T_x tq hP28.2.1).2.1 (cl_ne (cl_T_x tq hP28.2.1) t18 (by decide))).1, x18a q k (cl_T_x (E := E) tq hP12.2.1).2.1 (by have a := tq.2.1; have b := hP.2.1.1; omega), (o12 q k (cl_T_x tq hP.2.1).2.1).2])⟩)
              · refine yi_G_if2 false rfl (yi_ge_f h49) ?_
                refine yi_G_run 4 (86, [(6, .inl j), (5, .inr (.inr (some e12x))), (0, .inr (.inr (some p))), (1, .inl x), (2, .inl y), (3, .inl v), (4, .inl w)], [.inl v, .inl j, .inl j, .inr (.inr (some e12x))], (I35, Lp70, R35, Y35), 0 + 1 + nc18 + nc35, 0 + 2 + ns18 + ns35) (fun _ => rfl) ?_
                refine yi_G_iadd rfl (j + v) (yi_wn (by omega) (by omega)) ?_
                have r51 : I35 p 9 = I p 9 := by rw [(x35c p 9 (cl_T_x tp hP28.2.1).2.1 (cl_ne (cl_T_x tp hP28.2.1) t18 (by decide))).1, x18a p 9 (cl_T_x (E := E) tp hP12.2.1).2.1 (by have a := tp.2.1; have b := hP.2.1.1; omega), (o12 p 9 (tp).2.1).2]
                have r52 : I35 p 2 = I p 2 := by rw [(x35c p 2 (cl_T_x tp hP28.2.1).2.1 (cl_ne (cl_T_x tp hP28.2.1) t18 (by decide))).1, x18a p 2 (cl_T_x (E := E) tp hP12.2.1).2.1 (by have a := tp.2.1; have b := hP.2.1.1; omega), (o12 p 2 (tp).2.1).2]
                refine yi_G_callv rfl rfl (cl_rcv t41 rfl) rfl (k_addRange d (by omega) hPp70.1 t41 (by omega)) ?_
                rintro _ ⟨L50, rfl, hQ50⟩
                have hP50 := cl_P_t hPp70 hQ50
                show yi_G zi_Ms d zi_m307 (90, [(6, .inl j), (5, .inr (.inr (some e12x))), (0, .inr (.inr (some p))), (1, .inl x), (2, .inl y), (3, .inl v), (4, .inl w)], [], (I35, L50, R35, Y35), 0 + 1 + nc18 + nc35, 0 + 2 + ns18 + ns35) _
                refine yi_G_run 2 (94, [(6, .inl j), (5, .inr (.inr (some e12x))), (0, .inr (.inr (some p))), (1, .inl x), (2, .inl y), (3, .inl v), (4, .inl w)], [.inl w, .inl j], (I35, L50, R35, Y35), 0 + 1 + nc18 + nc35, 0 + 2 + ns18 + ns35) (fun _ => rfl) ?_
                refine yi_G_iadd rfl (j + w) (yi_wn (by omega) (by omega)) ?_
                refine yi_G_run 2 (70, [(6, .inl (j + w)), (5, .inr (.inr (some e12x))), (0, .inr (.inr (some p))), (1, .inl x), (2, .inl y), (3, .inl v), (4, .inl w)], [], (I35, L50, R35, Y35), 0 + 1 + nc18 + nc35, 0 + 2 + ns18 + ns35) (fun _ => rfl) ?_
                have r53 : I35 p 9 = I p 9 := by rw [(x35c p 9 (cl_T_x tp hP28.2.1).2.1 (cl_ne (cl_T_x tp hP28.2.1) t18 (by decide))).1, x18a p 9 (cl_T_x (E := E) tp hP12.2.1).2.1 (by have a := tp.2.1; have b := hP.2.1.1; omega), (o12 p 9 (tp).2.1).2]
                have r54 : I35 p 2 = I p 2 := by rw [(x35c p 2 (cl_T_x tp hP28.2.1).2.1 (cl_ne (cl_T_x tp hP28.2.1) t18 (by decide))).1, x18a p 2 (cl_T_x (E := E) tp hP12.2.1).2.1 (by have a := tp.2.1; have b := hP.2.1.1; omega), (o12 p 2 (tp).2.1).2]
                exact ih70 _ (by omega) (j + w) L50 hP50 (by omega) rfl
            have r55 : I35 p 9 = I p 9 := by rw [(x35c p 9 (cl_T_x tp hP28.2.1).2.1 (cl_ne (cl_T_x tp hP28.2.1) t18 (by decide))).1, x18a p 9 (cl_T_x (E := E) tp hP12.2.1).2.1 (by have a := tp.2.1; have b := hP.2.1.1; omega), (o12 p 9 (tp).2.1).2]
            have r56 : I35 p 2 = I p 2 := by rw [(x35c p 2 (cl_T_x tp hP28.2.1).2.1 (cl_ne (cl_T_x tp hP28.2.1) t18 (by decide))).1, x18a p 2 (cl_T_x (E := E) tp hP12.2.1).2.1 (by have a := tp.2.1; have b := hP.2.1.1; omega), (o12 p 2 (tp).2.1).2]
            exact pt70 _ y L44 hP44 (by omega) rfl
          · refine cl_G_aald rfl t4 (by omega) (by omega) (by omega) e10 ?_
            refine yi_G_run 2 (33, [(5, .inr (.inr (some q9))), (0, .inr (.inr (some p))), (1, .inl x), (2, .inl y), (3, .inl v), (4, .inl w)], [.inr (.inr (some q9))], (I, L, R, Y), 0, 0) (fun _ => rfl) ?_
            refine cl_G_nnl false rfl rfl ?_
            refine yi_G_run 2 (56, [(5, .inr (.inr (some q9))), (0, .inr (.inr (some p))), (1, .inl x), (2, .inl y), (3, .inl v), (4, .inl w)], [.inr (.inr (some p)), .inr (.inr (some q9))], (I, L, R, Y), 0, 0) (fun _ => rfl) ?_
            have b57 := cl_rd hP.1 tp (k := 9) (lo := 1) (hi := 513) rfl
            refine cl_G_gi rfl (cl_T_K tp) rfl rfl rfl ?_
            refine yi_G_callv rfl rfl (cl_rcv t11 rfl) rfl (k_resize d (by omega) hP.1 t11 (by omega)) ?_
            rintro _ ⟨I58, L58, R58, Y58, nc58, ns58, rfl, hQ58, ca58, cb58, x58a, x58b, x58c, x58d⟩
            have hP58 := cl_P_t hP hQ58
            have t59 := cl_T_x tp hQ58.2.1
            have t60 := cl_T_x t4 hQ58.2.1
            have n61 := (cl_T_n t4 hQ58.2.1).trans n5
            have t62 := cl_T_x t11 hQ58.2.1
            show yi_G zi_Ms d zi_m307 (62, [(5, .inr (.inr (some q9))), (0, .inr (.inr (some p))), (1, .inl x), (2, .inl y), (3, .inl v), (4, .inl w)], [], (I58, L58, R58, Y58), 0 + nc58, 0 + ns58) _
            refine yi_G_run 1 (64, [(5, .inr (.inr (some q9))), (0, .inr (.inr (some p))), (1, .inl x), (2, .inl y), (3, .inl v), (4, .inl w)], [.inr (.inr (some q9))], (I58, L58, R58, Y58), 0 + nc58, 0 + ns58) (fun _ => rfl) ?_
            have r64 : I58 p 9 = I p 9 := by rw [(x58c p 9 (cl_T_x tp hP.2.1).2.1 (cl_ne (cl_T_x tp hP.2.1) t11 (by decide))).1]
            have r65 : I58 p 2 = I p 2 := by rw [(x58c p 2 (cl_T_x tp hP.2.1).2.1 (cl_ne (cl_T_x tp hP.2.1) t11 (by decide))).1]
            refine yi_G_callv rfl rfl (cl_rcv t62 rfl) rfl (k_clear d (by omega) hP58.1 t62 ) ?_
            rintro _ ⟨L63, rfl, hQ63⟩
            have hP63 := cl_P_t hP58 hQ63
            show yi_G zi_Ms d zi_m307 (67, [(5, .inr (.inr (some q9))), (0, .inr (.inr (some p))), (1, .inl x), (2, .inl y), (3, .inl v), (4, .inl w)], [], (I58, L63, R58, Y58), 0 + nc58, 0 + ns58) _
            refine yi_G_run 2 (70, [(6, .inl y), (5, .inr (.inr (some q9))), (0, .inr (.inr (some p))), (1, .inl x), (2, .inl y), (3, .inl v), (4, .inl w)], [], (I58, L63, R58, Y58), 0 + nc58, 0 + ns58) (fun _ => rfl) ?_
            have pt70 : ∀ (m_ : Nat) (j : Int) (Lp70 : cl_I), (cl_P E I L R Y I58 Lp70 R58 Y58) → (0 ≤ j ∧ j ≤ 163845) → (163845 - j).toNat = m_ → yi_G zi_Ms d zi_m307 (70, [(6, .inl j), (5, .inr (.inr (some q9))), (0, .inr (.inr (some p))), (1, .inl x), (2, .inl y), (3, .inl v), (4, .inl w)], [], (I58, Lp70, R58, Y58), 0 + nc58, 0 + ns58) (fun r => ∃ I', ∃ L', ∃ R', ∃ Y', ∃ nc ns, r = (none, (I', L', R', Y'), nc, ns) ∧ cl_P E I L R Y I' L' R' Y' ∧ nc ≤ 3 ∧ ns ≤ 3 + (max (I p 9) 1).toNat ∧ (v ≤ 0 → nc = 0 ∧ ns = 0) ∧ (∀ q k, cl_T E Y q 4 → I' q k = I q k)) := by
              intro m70
              induction m70 using Nat.strongRecOn with
              | _ m70 ih70 =>
              intro j Lp70 hPp70 j0 hm70
              refine yi_G_run 2 (73, [(6, .inl j), (5, .inr (.inr (some q9))), (0, .inr (.inr (some p))), (1, .inl x), (2, .inl y), (3, .inl v), (4, .inl w)], [.inr (.inr (some p)), .inl j], (I58, Lp70, R58, Y58), 0 + nc58, 0 + ns58) (fun _ => rfl) ?_
              have b66 := cl_rd hPp70.1 t59 (k := 2) (lo := 1) (hi := 32769) rfl
              have r67 : I58 p 2 = I p 2 := by rw [(x58c p 2 (cl_T_x tp hP.2.1).2.1 (cl_ne (cl_T_x tp hP.2.1) t11 (by decide))).1]
              refine cl_G_gi rfl (cl_T_K t59) rfl rfl rfl ?_
              by_cases h68 : (I58 p 2) ≤ j
              · refine yi_G_if2 true rfl (yi_ge_t h68) ?_
                exact yi_G_retv rfl rfl (⟨_, _, _, _, _, _, rfl, hPp70, by omega, by omega, by omega, (fun q k tq => by rw [(x58c q k (cl_T_x tq hP.2.1).2.1 (cl_ne (cl_T_x tq hP.2.1) t11 (by decide))).1])⟩)
              · refine yi_G_if2 false rfl (yi_ge_f h68) ?_
                refine yi_G_run 4 (86, [(6, .inl j), (5, .inr (.inr (some q9))), (0, .inr (.inr (some p))), (1, .inl x), (2, .inl y), (3, .inl v), (4, .inl w)], [.inl v, .inl j, .inl j, .inr (.inr (some q9))], (I58, Lp70, R58, Y58), 0 + nc58, 0 + ns58) (fun _ => rfl) ?_
                refine yi_G_iadd rfl (j + v) (yi_wn (by omega) (by omega)) ?_
                have r70 : I58 p 9 = I p 9 := by rw [(x58c p 9 (cl_T_x tp hP.2.1).2.1 (cl_ne (cl_T_x tp hP.2.1) t11 (by decide))).1]
                have r71 : I58 p 2 = I p 2 := by rw [(x58c p 2 (cl_T_x tp hP.2.1).2.1 (cl_ne (cl_T_x tp hP.2.1) t11 (by decide))).1]
                refine yi_G_callv rfl rfl (cl_rcv t62 rfl) rfl (k_addRange d (by omega) hPp70.1 t62 (by omega)) ?_
                rintro _ ⟨L69, rfl, hQ69⟩
                have hP69 := cl_P_t hPp70 hQ69
                show yi_G zi_Ms d zi_m307 (90, [(6, .inl j), (5, .inr (.inr (some q9))), (0, .inr (.inr (some p))), (1, .inl x), (2, .inl y), (3, .inl v), (4, .inl w)], [], (I58, L69, R58, Y58), 0 + nc58, 0 + ns58) _
                refine yi_G_run 2 (94, [(6, .inl j), (5, .inr (.inr (some q9))), (0, .inr (.inr (some p))), (1, .inl x), (2, .inl y), (3, .inl v), (4, .inl w)], [.inl w, .inl j], (I58, L69, R58, Y58), 0 + nc58, 0 + ns58) (fun _ => rfl) ?_
                refine yi_G_iadd rfl (j + w) (yi_wn (by omega) (by omega)) ?_
                refine yi_G_run 2 (70, [(6, .inl (j + w)), (5, .inr (.inr (some q9))), (0, .inr (.inr (some p))), (1, .inl x), (2, .inl y), (3, .inl v), (4, .inl w)], [], (I58, L69, R58, Y58), 0 + nc58, 0 + ns58) (fun _ => rfl) ?_
                have r72 : I58 p 9 = I p 9 := by rw [(x58c p 9 (cl_T_x tp hP.2.1).2.1 (cl_ne (cl_T_x tp hP.2.1) t11 (by decide))).1]
                have r73 : I58 p 2 = I p 2 := by rw [(x58c p 2 (cl_T_x tp hP.2.1).2.1 (cl_ne (cl_T_x tp hP.2.1) t11 (by decide))).1]
                exact ih70 _ (by omega) (j + w) L69 hP69 (by omega) rfl
            have r74 : I58 p 9 = I p 9 := by rw [(x58c p 9 (cl_T_x tp hP.2.1).2.1 (cl_ne (cl_T_x tp hP.2.1) t11 (by decide))).1]
            have r75 : I58 p 2 = I p 2 := by rw [(x58c p 2 (cl_T_x tp hP.2.1).2.1 (cl_ne (cl_T_x tp hP.2.1) t11 (by decide))).1]
            exact pt70 _ y L63 hP63 (by omega) rfl
        · refine yi_G_if1 false rfl (yi_gt_f h8) ?_
          exact yi_G_retv rfl rfl (⟨_, _, _, _, _, _, rfl, hP, by omega, by omega, by omega, (fun _ _ _ => rfl)⟩)
theorem k_buildWords0 (D : Nat) (hD : 3 ≤ D) {E : List Nat} {I L : cl_I} {R : cl_Rr} {Y : cl_Y} (hC : cl_C E I L R Y) {p : Nat} (tp : cl_T E Y p 4) : yi_E zi_Ms D 304 [.inr (.inr (some p)), .inl 0] (I, L, R, Y) (fun r => ∃ I', ∃ L', ∃ R', ∃ Y', ∃ nc ns, r = (none, (I', L', R', Y'), nc, ns) ∧ cl_P E I L R Y I' L' R' Y' ∧ nc ≤ 0 ∧ ns ≤ 0 ∧ (∀ q k, cl_T E Y q 4 → I' q k = I q k)) := by
  obtain ⟨d, rfl⟩ : ∃ d, D = d + 1 := ⟨D - 1, by omega⟩
  refine yi_E_of (M := zi_m304) rfl rfl ?_
  have hP : cl_P E I L R Y I L R Y := cl_P_r hC
  show yi_G zi_Ms d zi_m304 (0, [(0, .inr (.inr (some p))), (1, .inl 0)], [], (I, L, R, Y), 0, 0) _
  refine yi_G_run 1 (1, [(0, .inr (.inr (some p))), (1, .inl 0)], [.inr (.inr (some p))], (I, L, R, Y), 0, 0) (fun _ => rfl) ?_
  have b1 := cl_rd hP.1 tp (k := 2) (lo := 1) (hi := 32769) rfl
  refine cl_G_gi rfl (cl_T_K tp) rfl rfl rfl ?_
  refine yi_G_run 5 (9, [(3, .inl 1), (2, .inl (I p 2)), (0, .inr (.inr (some p))), (1, .inl 0)], [.inr (.inr (some p)), .inl 1], (I, L, R, Y), 0, 0) (fun _ => rfl) ?_
  have b2 := cl_rd hP.1 tp (k := 7) (lo := 1) (hi := 6) rfl
  refine cl_G_gi rfl (cl_T_K tp) rfl rfl rfl ?_
  by_cases h3 : (I p 7) < 1
  · refine yi_G_if2 true rfl (yi_gt_t h3) ?_
    exact yi_G_retv rfl rfl (⟨_, _, _, _, _, _, rfl, hP, by omega, by omega, (fun _ _ _ => rfl)⟩)
  · refine yi_G_if2 false rfl (yi_gt_f h3) ?_
    refine yi_G_run 1 (16, [(3, .inl 1), (2, .inl (I p 2)), (0, .inr (.inr (some p))), (1, .inl 0)], [.inl 0], (I, L, R, Y), 0, 0) (fun _ => rfl) ?_
    refine yi_G_if1 true rfl (by decide) ?_
    exact yi_G_retv rfl rfl (⟨_, _, _, _, _, _, rfl, hP, by omega, by omega, (fun _ _ _ => rfl)⟩)
theorem k_buildWords1 (D : Nat) (hD : 4 ≤ D) {E : List Nat} {I L : cl_I} {R : cl_Rr} {Y : cl_Y} (hC : cl_C E I L R Y) {p : Nat} (tp : cl_T E Y p 4) (hl : I p 9 ≤ 1) : yi_E zi_Ms D 304 [.inr (.inr (some p)), .inl 1] (I, L, R, Y) (fun r => ∃ I', ∃ L', ∃ R', ∃ Y', ∃ nc ns, r = (none, (I', L', R', Y'), nc, ns) ∧ cl_P E I L R Y I' L' R' Y' ∧ nc ≤ 72 ∧ ns ≤ 96 ∧ (∀ q k, cl_T E Y q 4 → I' q k = I q k)) := by
  obtain ⟨d, rfl⟩ : ∃ d, D = d + 1 := ⟨D - 1, by omega⟩
  refine yi_E_of (M := zi_m304) rfl rfl ?_
  have hP : cl_P E I L R Y I L R Y := cl_P_r hC
  show yi_G zi_Ms d zi_m304 (0, [(0, .inr (.inr (some p))), (1, .inl 1)], [], (I, L, R, Y), 0, 0) _
  refine yi_G_run 1 (1, [(0, .inr (.inr (some p))), (1, .inl 1)], [.inr (.inr (some p))], (I, L, R, Y), 0, 0) (fun _ => rfl) ?_
  have b1 := cl_rd hP.1 tp (k := 2) (lo := 1) (hi := 32769) rfl
  refine cl_G_gi rfl (cl_T_K tp) rfl rfl rfl ?_
  refine yi_G_run 3 (7, [(3, .inl 1), (2, .inl (I p 2)), (0, .inr (.inr (some p))), (1, .inl 1)], [], (I, L, R, Y), 0, 0) (fun _ => rfl) ?_
  have pt7 : ∀ (m_ : Nat) (dy : Int) (bl : Int) (Ip7 : cl_I) (Lp7 : cl_I) (Rp7 : cl_Rr) (Yp7 : cl_Y) (ncp7 : Nat) (nsp7 : Nat), (cl_P E I L R Y Ip7 Lp7 Rp7 Yp7) → (cl_T E Yp7 p 4) → (1 ≤ dy ∧ dy ≤ 7) → (0 ≤ bl ∧ bl ≤ 32769) → ((ncp7 : Int) ≤ 12 * (dy - 1)) → (∀ q k, cl_T E Y q 4 → Ip7 q k = I q k) → ((nsp7 : Int) ≤ 16 * (dy - 1)) → (7 - dy).toNat = m_ → yi_G zi_Ms d zi_m304 (7, [(3, .inl dy), (2, .inl bl), (0, .inr (.inr (some p))), (1, .inl 1)], [], (Ip7, Lp7, Rp7, Yp7), ncp7, nsp7) (fun r => ∃ I', ∃ L', ∃ R', ∃ Y', ∃ nc ns, r = (none, (I', L', R', Y'), nc, ns) ∧ cl_P E I L R Y I' L' R' Y' ∧ nc ≤ 72 ∧ ns ≤ 96 ∧ (∀ q k, cl_T E Y q 4 → I' q k = I q k)) := by
    intro m7
    induction m7 using Nat.strongRecOn with
    | _ m7 ih7 =>
    intro dy bl Ip7 Lp7 Rp7 Yp7 ncp7 nsp7 hPp7 tpp7 dy0 bl0 nc7 kw7 rm7 hm7
    refine yi_G_run 2 (9, [(3, .inl dy), (2, .inl bl), (0, .inr (.inr (some p))), (1, .inl 1)], [.inr (.inr (some p)), .inl dy], (Ip7, Lp7, Rp7, Yp7), ncp7, nsp7) (fun _ => rfl) ?_
    have b2 := cl_rd hPp7.1 tpp7 (k := 7) (lo := 1) (hi := 6) rfl
    have r3 : Ip7 p 7 = I p 7 := by rw [kw7 p 7 tp]
    refine cl_G_gi rfl (cl_T_K tpp7) rfl rfl rfl ?_
    by_cases h4 : (Ip7 p 7) < dy
    · refine yi_G_if2 true rfl (yi_gt_t h4) ?_
      exact yi_G_retv rfl rfl (⟨_, _, _, _, _, _, rfl, hPp7, by omega, by omega, (fun q k tq => by rw [kw7 q k tq])⟩)
    · refine yi_G_if2 false rfl (yi_gt_f h4) ?_
      refine yi_G_run 1 (16, [(3, .inl dy), (2, .inl bl), (0, .inr (.inr (some p))), (1, .inl 1)], [.inl 1], (Ip7, Lp7, Rp7, Yp7), ncp7, nsp7) (fun _ => rfl) ?_
      refine yi_G_if1 false rfl (by decide) ?_
      refine yi_G_run 2 (22, [(4, .inl 0), (3, .inl dy), (2, .inl bl), (0, .inr (.inr (some p))), (1, .inl 1)], [], (Ip7, Lp7, Rp7, Yp7), ncp7, nsp7) (fun _ => rfl) ?_
      have pt22 : ∀ (m_ : Nat) (pe : Int) (bm : Int) (Ip22 : cl_I) (Lp22 : cl_I) (Rp22 : cl_Rr) (Yp22 : cl_Y) (ncp22 : Nat) (nsp22 : Nat), (cl_P E I L R Y Ip22 Lp22 Rp22 Yp22) → (cl_T E Yp22 p 4) → (0 ≤ pe ∧ pe ≤ 4) → (0 ≤ bm ∧ bm ≤ 32769) → ((ncp22 : Int) ≤ 12 * (dy - 1) + 3 * pe) → (∀ q k, cl_T E Y q 4 → Ip22 q k = I q k) → ((nsp22 : Int) ≤ 16 * (dy - 1) + 4 * pe) → (4 - pe).toNat = m_ → yi_G zi_Ms d zi_m304 (22, [(4, .inl pe), (3, .inl dy), (2, .inl bm), (0, .inr (.inr (some p))), (1, .inl 1)], [], (Ip22, Lp22, Rp22, Yp22), ncp22, nsp22) (fun r => ∃ I', ∃ L', ∃ R', ∃ Y', ∃ nc ns, r = (none, (I', L', R', Y'), nc, ns) ∧ cl_P E I L R Y I' L' R' Y' ∧ nc ≤ 72 ∧ ns ≤ 96 ∧ (∀ q k, cl_T E Y q 4 → I' q k = I q k)) := by
        intro m22
        induction m22 using Nat.strongRecOn with
        | _ m22 ih22 =>
        intro pe bm Ip22 Lp22 Rp22 Yp22 ncp22 nsp22 hPp22 tpp22 pe0 bm0 nc22 kw22 rm22 hm22
        refine yi_G_run 2 (25, [(4, .inl pe), (3, .inl dy), (2, .inl bm), (0, .inr (.inr (some p))), (1, .inl 1)], [.inr (.inr (some p)), .inl pe], (Ip22, Lp22, Rp22, Yp22), ncp22, nsp22) (fun _ => rfl) ?_
        have b5 := cl_rd hPp22.1 tpp22 (k := 8) (lo := 0) (hi := 4) rfl
        have r6 : Ip22 p 8 = I p 8 := by rw [kw22 p 8 tp]
        refine cl_G_gi rfl (cl_T_K tpp22) rfl rfl rfl ?_
        by_cases h7 : (Ip22 p 8) ≤ pe
        · refine yi_G_if2 true rfl (yi_ge_t h7) ?_
          refine yi_G_iinc [(3, .inl (dy + 1)), (4, .inl pe), (2, .inl bm), (0, .inr (.inr (some p))), (1, .inl 1)] rfl rfl rfl (by rw [show yi_w (dy + 1) = dy + 1 from (yi_wn (by omega) (by omega)).trans (by omega)]; rfl) ?_
          refine yi_G_run 1 (7, [(3, .inl (dy + 1)), (4, .inl pe), (2, .inl bm), (0, .inr (.inr (some p))), (1, .inl 1)], [], (Ip22, Lp22, Rp22, Yp22), ncp22, nsp22) (fun _ => rfl) ?_
          have r8 : Ip22 p 9 = I p 9 := by rw [kw22 p 9 tp]
          have r9 : Ip22 p 2 = I p 2 := by rw [kw22 p 2 tp]
          refine yi_G_al (al := [(3, .inl (dy + 1)), (2, .inl bm), (0, .inr (.inr (some p))), (1, .inl 1)]) (show ([3, 2, 0, 1] : List Nat).Nodup by decide) (show ([3, 4, 2, 0, 1] : List Nat).Nodup by decide) (yi_mc (List.mem_of_getElem? (i := 0) rfl) (yi_mc (List.mem_of_getElem? (i := 2) rfl) (yi_mc (List.mem_of_getElem? (i := 3) rfl) (yi_mc (List.mem_of_getElem? (i := 4) rfl) yi_mn)))) ?_
          exact ih7 _ (by omega) (dy + 1) bm Ip22 Lp22 Rp22 Yp22 (ncp22) (nsp22) hPp22 tpp22 (by omega) (by omega) (by omega) (fun q k tq => by rw [kw22 q k tq]) (by omega) rfl
        · refine yi_G_if2 false rfl (yi_ge_f h7) ?_
          refine yi_G_run 2 (33, [(4, .inl pe), (3, .inl dy), (2, .inl bm), (0, .inr (.inr (some p))), (1, .inl 1)], [.inl 1, .inl bm], (Ip22, Lp22, Rp22, Yp22), ncp22, nsp22) (fun _ => rfl) ?_
          refine yi_G_idiv rfl (by decide) (bm / 1) (yi_dv (by omega) rfl (by omega) (by omega)) ?_
          refine yi_G_run 3 (38, [(5, .inl 0), (2, .inl (bm / 1)), (4, .inl pe), (3, .inl dy), (0, .inr (.inr (some p))), (1, .inl 1)], [], (Ip22, Lp22, Rp22, Yp22), ncp22, nsp22) (fun _ => rfl) ?_
          have pt38 : ∀ (m_ : Nat) (ev : Int) (bn : Int) (Ip38 : cl_I) (Lp38 : cl_I) (Rp38 : cl_Rr) (Yp38 : cl_Y) (ncp38 : Nat) (nsp38 : Nat), (cl_P E I L R Y Ip38 Lp38 Rp38 Yp38) → (cl_T E Yp38 p 4) → (0 ≤ ev ∧ ev ≤ 1) → (0 ≤ bn ∧ bn ≤ 32769) → ((ncp38 : Int) ≤ 12 * (dy - 1) + 3 * pe + 3 * ev) → (∀ q k, cl_T E Y q 4 → Ip38 q k = I q k) → ((nsp38 : Int) ≤ 16 * (dy - 1) + 4 * pe + 4 * ev) → (1 - ev).toNat = m_ → yi_G zi_Ms d zi_m304 (38, [(5, .inl ev), (2, .inl bn), (4, .inl pe), (3, .inl dy), (0, .inr (.inr (some p))), (1, .inl 1)], [], (Ip38, Lp38, Rp38, Yp38), ncp38, nsp38) (fun r => ∃ I', ∃ L', ∃ R', ∃ Y', ∃ nc ns, r = (none, (I', L', R', Y'), nc, ns) ∧ cl_P E I L R Y I' L' R' Y' ∧ nc ≤ 72 ∧ ns ≤ 96 ∧ (∀ q k, cl_T E Y q 4 → I' q k = I q k)) := by
            intro m38
            induction m38 using Nat.strongRecOn with
            | _ m38 ih38 =>
            intro ev bn Ip38 Lp38 Rp38 Yp38 ncp38 nsp38 hPp38 tpp38 ev0 bn0 nc38 kw38 rm38 hm38
            have l9 := cl_rd hPp38.1 tpp38 (k := 9) (lo := 1) (hi := 513) rfl
            refine yi_G_run 2 (41, [(5, .inl ev), (2, .inl bn), (4, .inl pe), (3, .inl dy), (0, .inr (.inr (some p))), (1, .inl 1)], [.inl 1, .inl ev], (Ip38, Lp38, Rp38, Yp38), ncp38, nsp38) (fun _ => rfl) ?_
            by_cases h10 : 1 ≤ ev
            · refine yi_G_if2 true rfl (yi_ge_t h10) ?_
              refine yi_G_iinc [(4, .inl (pe + 1)), (5, .inl ev), (2, .inl bn), (3, .inl dy), (0, .inr (.inr (some p))), (1, .inl 1)] rfl rfl rfl (by rw [show yi_w (pe + 1) = pe + 1 from (yi_wn (by omega) (by omega)).trans (by omega)]; rfl) ?_
              refine yi_G_run 1 (22, [(4, .inl (pe + 1)), (5, .inl ev), (2, .inl bn), (3, .inl dy), (0, .inr (.inr (some p))), (1, .inl 1)], [], (Ip38, Lp38, Rp38, Yp38), ncp38, nsp38) (fun _ => rfl) ?_
              have r11 : Ip38 p 9 = I p 9 := by rw [kw38 p 9 tp]
              have r12 : Ip38 p 2 = I p 2 := by rw [kw38 p 2 tp]
              refine yi_G_al (al := [(4, .inl (pe + 1)), (3, .inl dy), (2, .inl bn), (0, .inr (.inr (some p))), (1, .inl 1)]) (show ([4, 3, 2, 0, 1] : List Nat).Nodup by decide) (show ([4, 5, 2, 3, 0, 1] : List Nat).Nodup by decide) (yi_mc (List.mem_of_getElem? (i := 0) rfl) (yi_mc (List.mem_of_getElem? (i := 3) rfl) (yi_mc (List.mem_of_getElem? (i := 2) rfl) (yi_mc (List.mem_of_getElem? (i := 4) rfl) (yi_mc (List.mem_of_getElem? (i := 5) rfl) yi_mn))))) ?_
              exact ih22 _ (by omega) (pe + 1) bn Ip38 Lp38 Rp38 Yp38 (ncp38) (nsp38) hPp38 tpp38 (by omega) (by omega) (by omega) (fun q k tq => by rw [kw38 q k tq]) (by omega) rfl
            · refine yi_G_if2 false rfl (yi_ge_f h10) ?_
              refine yi_G_run 4 (50, [(5, .inl ev), (2, .inl bn), (4, .inl pe), (3, .inl dy), (0, .inr (.inr (some p))), (1, .inl 1)], [.inl ev, .inl dy, .inl pe, .inr (.inr (some p))], (Ip38, Lp38, Rp38, Yp38), ncp38, nsp38) (fun _ => rfl) ?_
              have r14 : Ip38 p 9 = I p 9 := by rw [kw38 p 9 tp]
              have r15 : Ip38 p 2 = I p 2 := by rw [kw38 p 2 tp]
              refine yi_G_calls rfl rfl (k_wordNumber d (by omega) hPp38.1  ) ?_
              rintro _ ⟨z13, rfl⟩
              show yi_G zi_Ms d zi_m304 (53, [(5, .inl ev), (2, .inl bn), (4, .inl pe), (3, .inl dy), (0, .inr (.inr (some p))), (1, .inl 1)], [.inl z13, .inr (.inr (some p))], (Ip38, Lp38, Rp38, Yp38), ncp38, nsp38) _
              refine yi_G_run 2 (56, [(5, .inl ev), (2, .inl bn), (4, .inl pe), (3, .inl dy), (0, .inr (.inr (some p))), (1, .inl 1)], [.inl bn, .inl ev, .inl z13, .inr (.inr (some p))], (Ip38, Lp38, Rp38, Yp38), ncp38, nsp38) (fun _ => rfl) ?_
              have mb16 := yi_mb (a := ev) (b := bn) (A := 4) (B := 32769) (by omega) (by omega) (by omega) (by omega)
              refine yi_G_imul rfl (ev * bn) (yi_wn (by omega) (by omega)) ?_
              refine yi_G_run 3 (60, [(5, .inl ev), (2, .inl bn), (4, .inl pe), (3, .inl dy), (0, .inr (.inr (some p))), (1, .inl 1)], [.inl 1, .inl bn, .inl bn, .inl (ev * bn), .inl z13, .inr (.inr (some p))], (Ip38, Lp38, Rp38, Yp38), ncp38, nsp38) (fun _ => rfl) ?_
              refine yi_G_imul rfl (bn * 1) (yi_wn (by omega) (by omega)) ?_
              have r18 : Ip38 p 9 = I p 9 := by rw [kw38 p 9 tp]
              have r19 : Ip38 p 2 = I p 2 := by rw [kw38 p 2 tp]
              refine yi_G_callv rfl rfl (cl_rcv tpp38 rfl) rfl (k_fillBlocks d (by omega) hPp38.1 tpp38 (by omega) (by omega) (by omega)) ?_
              rintro _ ⟨I17, L17, R17, Y17, nc17, ns17, rfl, hQ17, ca17, cb17, x17a, x17b⟩
              have hP17 := cl_P_t hPp38 hQ17
              have t20 := cl_T_x tpp38 hQ17.2.1
              show yi_G zi_Ms d zi_m304 (64, [(5, .inl ev), (2, .inl bn), (4, .inl pe), (3, .inl dy), (0, .inr (.inr (some p))), (1, .inl 1)], [], (I17, L17, R17, Y17), ncp38 + nc17, nsp38 + ns17) _
              refine yi_G_iinc [(5, .inl (ev + 1)), (2, .inl bn), (4, .inl pe), (3, .inl dy), (0, .inr (.inr (some p))), (1, .inl 1)] rfl rfl rfl (by rw [show yi_w (ev + 1) = ev + 1 from (yi_wn (by omega) (by omega)).trans (by omega)]; rfl) ?_
              refine yi_G_run 1 (38, [(5, .inl (ev + 1)), (2, .inl bn), (4, .inl pe), (3, .inl dy), (0, .inr (.inr (some p))), (1, .inl 1)], [], (I17, L17, R17, Y17), ncp38 + nc17, nsp38 + ns17) (fun _ => rfl) ?_
              have r21 : I17 p 9 = I p 9 := by rw [x17b p 9 (cl_T_x tp hPp38.2.1), kw38 p 9 tp]
              have r22 : I17 p 2 = I p 2 := by rw [x17b p 2 (cl_T_x tp hPp38.2.1), kw38 p 2 tp]
              exact ih38 _ (by omega) (ev + 1) bn I17 L17 R17 Y17 (ncp38 + nc17) (nsp38 + ns17) hP17 t20 (by omega) (by omega) (by omega) (fun q k tq => by rw [x17b q k (cl_T_x tq hPp38.2.1), kw38 q k tq]) (by omega) rfl
          have r23 : Ip22 p 9 = I p 9 := by rw [kw22 p 9 tp]
          have r24 : Ip22 p 2 = I p 2 := by rw [kw22 p 2 tp]
          exact pt38 _ 0 (bm / 1) Ip22 Lp22 Rp22 Yp22 (ncp22) (nsp22) hPp22 tpp22 (by omega) (by omega) (by omega) (fun q k tq => by rw [kw22 q k tq]) (by omega) rfl
      have r25 : Ip7 p 9 = I p 9 := by rw [kw7 p 9 tp]
      have r26 : Ip7 p 2 = I p 2 := by rw [kw7 p 2 tp]
      exact pt22 _ 0 bl Ip7 Lp7 Rp7 Yp7 (ncp7) (nsp7) hPp7 tpp7 (by omega) (by omega) (by omega) (fun q k tq => by rw [kw7 q k tq]) (by omega) rfl
  exact pt7 _ 1 (I p 2) I L R Y (0) (0) hP tp (by omega) (by omega) (by omega) (fun _ _ _ => rfl) (by omega) rfl
theorem k_buildWords2 (D : Nat) (hD : 4 ≤ D) {E : List Nat} {I L : cl_I} {R : cl_Rr} {Y : cl_Y} (hC : cl_C E I L R Y) {p : Nat} (tp : cl_T E Y p 4) : yi_E zi_Ms D 304 [.inr (.inr (some p)), .inl 2] (I, L, R, Y) (fun r => ∃ I', ∃ L', ∃ R', ∃ Y', ∃ nc ns, r = (none, (I', L', R', Y'), nc, ns) ∧ cl_P E I L R Y I' L' R' Y' ∧ nc ≤ 144 ∧ ns ≤ 15480 ∧ (∀ q k, cl_T E Y q 4 → I' q k = I q k)) := by
  obtain ⟨d, rfl⟩ : ∃ d, D = d + 1 := ⟨D - 1, by omega⟩
  refine yi_E_of (M := zi_m304) rfl rfl ?_
  have hP : cl_P E I L R Y I L R Y := cl_P_r hC
  have sT := cl_s2_b (I p 2)
  show yi_G zi_Ms d zi_m304 (0, [(0, .inr (.inr (some p))), (1, .inl 2)], [], (I, L, R, Y), 0, 0) _
  refine yi_G_run 1 (1, [(0, .inr (.inr (some p))), (1, .inl 2)], [.inr (.inr (some p))], (I, L, R, Y), 0, 0) (fun _ => rfl) ?_
  have b1 := cl_rd hP.1 tp (k := 2) (lo := 1) (hi := 32769) rfl
  refine cl_G_gi rfl (cl_T_K tp) rfl rfl rfl ?_
  refine yi_G_run 3 (7, [(3, .inl 1), (2, .inl (I p 2)), (0, .inr (.inr (some p))), (1, .inl 2)], [], (I, L, R, Y), 0, 0) (fun _ => rfl) ?_
  have pt7 : ∀ (m_ : Nat) (dy : Int) (bl : Int) (Ip7 : cl_I) (Lp7 : cl_I) (Rp7 : cl_Rr) (Yp7 : cl_Y) (ncp7 : Nat) (nsp7 : Nat), (cl_P E I L R Y Ip7 Lp7 Rp7 Yp7) → (cl_T E Yp7 p 4) → (1 ≤ dy ∧ dy ≤ 7) → (0 ≤ bl ∧ bl ≤ 32769) → ((ncp7 : Int) ≤ 24 * (dy - 1)) → (∀ q k, cl_T E Y q 4 → Ip7 q k = I q k) → (((nsp7 : Int) + 1032 * cl_s2 bl ≤ 15480)) → (7 - dy).toNat = m_ → yi_G zi_Ms d zi_m304 (7, [(3, .inl dy), (2, .inl bl), (0, .inr (.inr (some p))), (1, .inl 2)], [], (Ip7, Lp7, Rp7, Yp7), ncp7, nsp7) (fun r => ∃ I', ∃ L', ∃ R', ∃ Y', ∃ nc ns, r = (none, (I', L', R', Y'), nc, ns) ∧ cl_P E I L R Y I' L' R' Y' ∧ nc ≤ 144 ∧ ns ≤ 15480 ∧ (∀ q k, cl_T E Y q 4 → I' q k = I q k)) := by
    intro m7
    induction m7 using Nat.strongRecOn with
    | _ m7 ih7 =>
    intro dy bl Ip7 Lp7 Rp7 Yp7 ncp7 nsp7 hPp7 tpp7 dy0 bl0 nc7 kw7 rm7 hm7
    have sbl := cl_s2_b bl
    refine yi_G_run 2 (9, [(3, .inl dy), (2, .inl bl), (0, .inr (.inr (some p))), (1, .inl 2)], [.inr (.inr (some p)), .inl dy], (Ip7, Lp7, Rp7, Yp7), ncp7, nsp7) (fun _ => rfl) ?_
    have b2 := cl_rd hPp7.1 tpp7 (k := 7) (lo := 1) (hi := 6) rfl
    have r3 : Ip7 p 7 = I p 7 := by rw [kw7 p 7 tp]
    refine cl_G_gi rfl (cl_T_K tpp7) rfl rfl rfl ?_
    by_cases h4 : (Ip7 p 7) < dy
    · refine yi_G_if2 true rfl (yi_gt_t h4) ?_
      exact yi_G_retv rfl rfl (⟨_, _, _, _, _, _, rfl, hPp7, by omega, by omega, (fun q k tq => by rw [kw7 q k tq])⟩)
    · refine yi_G_if2 false rfl (yi_gt_f h4) ?_
      refine yi_G_run 1 (16, [(3, .inl dy), (2, .inl bl), (0, .inr (.inr (some p))), (1, .inl 2)], [.inl 2], (Ip7, Lp7, Rp7, Yp7), ncp7, nsp7) (fun _ => rfl) ?_
      refine yi_G_if1 false rfl (by decide) ?_
      refine yi_G_run 2 (22, [(4, .inl 0), (3, .inl dy), (2, .inl bl), (0, .inr (.inr (some p))), (1, .inl 2)], [], (Ip7, Lp7, Rp7, Yp7), ncp7, nsp7) (fun _ => rfl) ?_
      have pt22 : ∀ (m_ : Nat) (pe : Int) (bm : Int) (Ip22 : cl_I) (Lp22 : cl_I) (Rp22 : cl_Rr) (Yp22 : cl_Y) (ncp22 : Nat) (nsp22 : Nat), (cl_P E I L R Y Ip22 Lp22 Rp22 Yp22) → (cl_T E Yp22 p 4) → (0 ≤ pe ∧ pe ≤ 4) → (0 ≤ bm ∧ bm ≤ 32769) → ((ncp22 : Int) ≤ 24 * (dy - 1) + 6 * pe) → (∀ q k, cl_T E Y q 4 → Ip22 q k = I q k) → (((nsp22 : Int) + 1032 * cl_s2 bm ≤ 15480)) → (4 - pe).toNat = m_ → yi_G zi_Ms d zi_m304 (22, [(4, .inl pe), (3, .inl dy), (2, .inl bm), (0, .inr (.inr (some p))), (1, .inl 2)], [], (Ip22, Lp22, Rp22, Yp22), ncp22, nsp22) (fun r => ∃ I', ∃ L', ∃ R', ∃ Y', ∃ nc ns, r = (none, (I', L', R', Y'), nc, ns) ∧ cl_P E I L R Y I' L' R' Y' ∧ nc ≤ 144 ∧ ns ≤ 15480 ∧ (∀ q k, cl_T E Y q 4 → I' q k = I q k)) := by
        intro m22
        induction m22 using Nat.strongRecOn with
        | _ m22 ih22 =>
        intro pe bm Ip22 Lp22 Rp22 Yp22 ncp22 nsp22 hPp22 tpp22 pe0 bm0 nc22 kw22 rm22 hm22
        refine yi_G_run 2 (25, [(4, .inl pe), (3, .inl dy), (2, .inl bm), (0, .inr (.inr (some p))), (1, .inl 2)], [.inr (.inr (some p)), .inl pe], (Ip22, Lp22, Rp22, Yp22), ncp22, nsp22) (fun _ => rfl) ?_
        have b5 := cl_rd hPp22.1 tpp22 (k := 8) (lo := 0) (hi := 4) rfl
        have r6 : Ip22 p 8 = I p 8 := by rw [kw22 p 8 tp]
        refine cl_G_gi rfl (cl_T_K tpp22) rfl rfl rfl ?_
        by_cases h7 : (Ip22 p 8) ≤ pe
        · refine yi_G_if2 true rfl (yi_ge_t h7) ?_
          refine yi_G_iinc [(3, .inl (dy + 1)), (4, .inl pe), (2, .inl bm), (0, .inr (.inr (some p))), (1, .inl 2)] rfl rfl rfl (by rw [show yi_w (dy + 1) = dy + 1 from (yi_wn (by omega) (by omega)).trans (by omega)]; rfl) ?_
          refine yi_G_run 1 (7, [(3, .inl (dy + 1)), (4, .inl pe), (2, .inl bm), (0, .inr (.inr (some p))), (1, .inl 2)], [], (Ip22, Lp22, Rp22, Yp22), ncp22, nsp22) (fun _ => rfl) ?_
          have r8 : Ip22 p 9 = I p 9 := by rw [kw22 p 9 tp]
          have r9 : Ip22 p 2 = I p 2 := by rw [kw22 p 2 tp]
          refine yi_G_al (al := [(3, .inl (dy + 1)), (2, .inl bm), (0, .inr (.inr (some p))), (1, .inl 2)]) (show ([3, 2, 0, 1] : List Nat).Nodup by decide) (show ([3, 4, 2, 0, 1] : List Nat).Nodup by decide) (yi_mc (List.mem_of_getElem? (i := 0) rfl) (yi_mc (List.mem_of_getElem? (i := 2) rfl) (yi_mc (List.mem_of_getElem? (i := 3) rfl) (yi_mc (List.mem_of_getElem? (i := 4) rfl) yi_mn)))) ?_
          exact ih7 _ (by omega) (dy + 1) bm Ip22 Lp22 Rp22 Yp22 (ncp22) (nsp22) hPp22 tpp22 (by omega) (by omega) (by omega) (fun q k tq => by rw [kw22 q k tq]) (by omega) rfl
        · refine yi_G_if2 false rfl (yi_ge_f h7) ?_
          refine yi_G_run 2 (33, [(4, .inl pe), (3, .inl dy), (2, .inl bm), (0, .inr (.inr (some p))), (1, .inl 2)], [.inl 2, .inl bm], (Ip22, Lp22, Rp22, Yp22), ncp22, nsp22) (fun _ => rfl) ?_
          have sb0 := cl_s2_b bm
          have sb1 := cl_s2_b (bm / 2)
          have ss : 1 ≤ bm / 2 → cl_s2 bm = cl_s2 (bm / 2) + 1 := fun h => cl_s2_s h (by omega)
          have s0 : bm / 2 ≤ 0 → cl_s2 (bm / 2) = 0 := fun h => by unfold cl_s2; rw [if_pos (by omega)]
          refine yi_G_idiv rfl (by decide) (bm / 2) (yi_dv (by omega) rfl (by omega) (by omega)) ?_
          refine yi_G_run 3 (38, [(5, .inl 0), (2, .inl (bm / 2)), (4, .inl pe), (3, .inl dy), (0, .inr (.inr (some p))), (1, .inl 2)], [], (Ip22, Lp22, Rp22, Yp22), ncp22, nsp22) (fun _ => rfl) ?_
          have pt38 : ∀ (m_ : Nat) (ev : Int) (bn : Int) (Ip38 : cl_I) (Lp38 : cl_I) (Rp38 : cl_Rr) (Yp38 : cl_Y) (ncp38 : Nat) (nsp38 : Nat), (cl_P E I L R Y Ip38 Lp38 Rp38 Yp38) → (cl_T E Yp38 p 4) → (0 ≤ ev ∧ ev ≤ 2) → (0 ≤ bn ∧ bn ≤ 32769) → ((ncp38 : Int) ≤ 24 * (dy - 1) + 6 * pe + 3 * ev) → (∀ q k, cl_T E Y q 4 → Ip38 q k = I q k) → ((1 ≤ bn → (nsp38 : Int) + 516 * (2 - ev) + 1032 * cl_s2 bn ≤ 15480) ∧ (bn ≤ 0 → (nsp38 : Int) + 1032 * cl_s2 bn ≤ 15480)) → (2 - ev).toNat = m_ → yi_G zi_Ms d zi_m304 (38, [(5, .inl ev), (2, .inl bn), (4, .inl pe), (3, .inl dy), (0, .inr (.inr (some p))), (1, .inl 2)], [], (Ip38, Lp38, Rp38, Yp38), ncp38, nsp38) (fun r => ∃ I', ∃ L', ∃ R', ∃ Y', ∃ nc ns, r = (none, (I', L', R', Y'), nc, ns) ∧ cl_P E I L R Y I' L' R' Y' ∧ nc ≤ 144 ∧ ns ≤ 15480 ∧ (∀ q k, cl_T E Y q 4 → I' q k = I q k)) := by
            intro m38
            induction m38 using Nat.strongRecOn with
            | _ m38 ih38 =>
            intro ev bn Ip38 Lp38 Rp38 Yp38 ncp38 nsp38 hPp38 tpp38 ev0 bn0 nc38 kw38 rm38 hm38
            have l9 := cl_rd hPp38.1 tpp38 (k := 9) (lo := 1) (hi := 513) rfl
            refine yi_G_run 2 (41, [(5, .inl ev), (2, .inl bn), (4, .inl pe), (3, .inl dy), (0, .inr (.inr (some p))), (1, .inl 2)], [.inl 2, .inl ev], (Ip38, Lp38, Rp38, Yp38), ncp38, nsp38) (fun _ => rfl) ?_
            by_cases h10 : 2 ≤ ev
            · refine yi_G_if2 true rfl (yi_ge_t h10) ?_
              refine yi_G_iinc [(4, .inl (pe + 1)), (5, .inl ev), (2, .inl bn), (3, .inl dy), (0, .inr (.inr (some p))), (1, .inl 2)] rfl rfl rfl (by rw [show yi_w (pe + 1) = pe + 1 from (yi_wn (by omega) (by omega)).trans (by omega)]; rfl) ?_
              refine yi_G_run 1 (22, [(4, .inl (pe + 1)), (5, .inl ev), (2, .inl bn), (3, .inl dy), (0, .inr (.inr (some p))), (1, .inl 2)], [], (Ip38, Lp38, Rp38, Yp38), ncp38, nsp38) (fun _ => rfl) ?_
              have r11 : Ip38 p 9 = I p 9 := by rw [kw38 p 9 tp]
              have r12 : Ip38 p 2 = I p 2 := by rw [kw38 p 2 tp]
              refine yi_G_al (al := [(4, .inl (pe + 1)), (3, .inl dy), (2, .inl bn), (0, .inr (.inr (some p))), (1, .inl 2)]) (show ([4, 3, 2, 0, 1] : List Nat).Nodup by decide) (show ([4, 5, 2, 3, 0, 1] : List Nat).Nodup by decide) (yi_mc (List.mem_of_getElem? (i := 0) rfl) (yi_mc (List.mem_of_getElem? (i := 3) rfl) (yi_mc (List.mem_of_getElem? (i := 2) rfl) (yi_mc (List.mem_of_getElem? (i := 4) rfl) (yi_mc (List.mem_of_getElem? (i := 5) rfl) yi_mn))))) ?_
              exact ih22 _ (by omega) (pe + 1) bn Ip38 Lp38 Rp38 Yp38 (ncp38) (nsp38) hPp38 tpp38 (by omega) (by omega) (by omega) (fun q k tq => by rw [kw38 q k tq]) (by omega) rfl
            · refine yi_G_if2 false rfl (yi_ge_f h10) ?_
              refine yi_G_run 4 (50, [(5, .inl ev), (2, .inl bn), (4, .inl pe), (3, .inl dy), (0, .inr (.inr (some p))), (1, .inl 2)], [.inl ev, .inl dy, .inl pe, .inr (.inr (some p))], (Ip38, Lp38, Rp38, Yp38), ncp38, nsp38) (fun _ => rfl) ?_
              have r14 : Ip38 p 9 = I p 9 := by rw [kw38 p 9 tp]
              have r15 : Ip38 p 2 = I p 2 := by rw [kw38 p 2 tp]
              refine yi_G_calls rfl rfl (k_wordNumber d (by omega) hPp38.1  ) ?_
              rintro _ ⟨z13, rfl⟩
              show yi_G zi_Ms d zi_m304 (53, [(5, .inl ev), (2, .inl bn), (4, .inl pe), (3, .inl dy), (0, .inr (.inr (some p))), (1, .inl 2)], [.inl z13, .inr (.inr (some p))], (Ip38, Lp38, Rp38, Yp38), ncp38, nsp38) _
              refine yi_G_run 2 (56, [(5, .inl ev), (2, .inl bn), (4, .inl pe), (3, .inl dy), (0, .inr (.inr (some p))), (1, .inl 2)], [.inl bn, .inl ev, .inl z13, .inr (.inr (some p))], (Ip38, Lp38, Rp38, Yp38), ncp38, nsp38) (fun _ => rfl) ?_
              have mb16 := yi_mb (a := ev) (b := bn) (A := 4) (B := 32769) (by omega) (by omega) (by omega) (by omega)
              refine yi_G_imul rfl (ev * bn) (yi_wn (by omega) (by omega)) ?_
              refine yi_G_run 3 (60, [(5, .inl ev), (2, .inl bn), (4, .inl pe), (3, .inl dy), (0, .inr (.inr (some p))), (1, .inl 2)], [.inl 2, .inl bn, .inl bn, .inl (ev * bn), .inl z13, .inr (.inr (some p))], (Ip38, Lp38, Rp38, Yp38), ncp38, nsp38) (fun _ => rfl) ?_
              refine yi_G_imul rfl (bn * 2) (yi_wn (by omega) (by omega)) ?_
              have r18 : Ip38 p 9 = I p 9 := by rw [kw38 p 9 tp]
              have r19 : Ip38 p 2 = I p 2 := by rw [kw38 p 2 tp]
              refine yi_G_callv rfl rfl (cl_rcv tpp38 rfl) rfl (k_fillBlocks d (by omega) hPp38.1 tpp38 (by omega) (by omega) (by omega)) ?_
              rintro _ ⟨I17, L17, R17, Y17, nc17, ns17, rfl, hQ17, ca17, cb17, x17a, x17b⟩
              have hP17 := cl_P_t hPp38 hQ17
              have t20 := cl_T_x tpp38 hQ17.2.1
              show yi_G zi_Ms d zi_m304 (64, [(5, .inl ev), (2, .inl bn), (4, .inl pe), (3, .inl dy), (0, .inr (.inr (some p))), (1, .inl 2)], [], (I17, L17, R17, Y17), ncp38 + nc17, nsp38 + ns17) _
              refine yi_G_iinc [(5, .inl (ev + 1)), (2, .inl bn), (4, .inl pe), (3, .inl dy), (0, .inr (.inr (some p))), (1, .inl 2)] rfl rfl rfl (by rw [show yi_w (ev + 1) = ev + 1 from (yi_wn (by omega) (by omega)).trans (by omega)]; rfl) ?_
              refine yi_G_run 1 (38, [(5, .inl (ev + 1)), (2, .inl bn), (4, .inl pe), (3, .inl dy), (0, .inr (.inr (some p))), (1, .inl 2)], [], (I17, L17, R17, Y17), ncp38 + nc17, nsp38 + ns17) (fun _ => rfl) ?_
              have r21 : I17 p 9 = I p 9 := by rw [x17b p 9 (cl_T_x tp hPp38.2.1), kw38 p 9 tp]
              have r22 : I17 p 2 = I p 2 := by rw [x17b p 2 (cl_T_x tp hPp38.2.1), kw38 p 2 tp]
              exact ih38 _ (by omega) (ev + 1) bn I17 L17 R17 Y17 (ncp38 + nc17) (nsp38 + ns17) hP17 t20 (by omega) (by omega) (by omega) (fun q k tq => by rw [x17b q k (cl_T_x tq hPp38.2.1), kw38 q k tq]) (by omega) rfl
          have r23 : Ip22 p 9 = I p 9 := by rw [kw22 p 9 tp]
          have r24 : Ip22 p 2 = I p 2 := by rw [kw22 p 2 tp]
          exact pt38 _ 0 (bm / 2) Ip22 Lp22 Rp22 Yp22 (ncp22) (nsp22) hPp22 tpp22 (by omega) (by omega) (by omega) (fun q k tq => by rw [kw22 q k tq]) (by omega) rfl
      have r25 : Ip7 p 9 = I p 9 := by rw [kw7 p 9 tp]
      have r26 : Ip7 p 2 = I p 2 := by rw [kw7 p 2 tp]
      exact pt22 _ 0 bl Ip7 Lp7 Rp7 Yp7 (ncp7) (nsp7) hPp7 tpp7 (by omega) (by omega) (by omega) (fun q k tq => by rw [kw7 q k tq]) (by omega) rfl
  exact pt7 _ 1 (I p 2) I L R Y (0) (0) hP tp (by omega) (by omega) (by omega) (fun _ _ _ => rfl) (by omega) rfl
theorem k_buildWords3 (D : Nat) (hD : 4 ≤ D) {E : List Nat} {I L : cl_I} {R : cl_Rr} {Y : cl_Y} (hC : cl_C E I L R Y) {p : Nat} (tp : cl_T E Y p 4) : yi_E zi_Ms D 304 [.inr (.inr (some p)), .inl 3] (I, L, R, Y) (fun r => ∃ I', ∃ L', ∃ R', ∃ Y', ∃ nc ns, r = (none, (I', L', R', Y'), nc, ns) ∧ cl_P E I L R Y I' L' R' Y' ∧ nc ≤ 216 ∧ ns ≤ 13932 ∧ (∀ q k, cl_T E Y q 4 → I' q k = I q k)) := by
  obtain ⟨d, rfl⟩ : ∃ d, D = d + 1 := ⟨D - 1, by omega⟩
  refine yi_E_of (M := zi_m304) rfl rfl ?_
  have hP : cl_P E I L R Y I L R Y := cl_P_r hC
  have sT := cl_s3_b (I p 2)
  show yi_G zi_Ms d zi_m304 (0, [(0, .inr (.inr (some p))), (1, .inl 3)], [], (I, L, R, Y), 0, 0) _
  refine yi_G_run 1 (1, [(0, .inr (.inr (some p))), (1, .inl 3)], [.inr (.inr (some p))], (I, L, R, Y), 0, 0) (fun _ => rfl) ?_
  have b1 := cl_rd hP.1 tp (k := 2) (lo := 1) (hi := 32769) rfl
  refine cl_G_gi rfl (cl_T_K tp) rfl rfl rfl ?_
  refine yi_G_run 3 (7, [(3, .inl 1), (2, .inl (I p 2)), (0, .inr (.inr (some p))), (1, .inl 3)], [], (I, L, R, Y), 0, 0) (fun _ => rfl) ?_
  have pt7 : ∀ (m_ : Nat) (dy : Int) (bl : Int) (Ip7 : cl_I) (Lp7 : cl_I) (Rp7 : cl_Rr) (Yp7 : cl_Y) (ncp7 : Nat) (nsp7 : Nat), (cl_P E I L R Y Ip7 Lp7 Rp7 Yp7) → (cl_T E Yp7 p 4) → (1 ≤ dy ∧ dy ≤ 7) → (0 ≤ bl ∧ bl ≤ 32769) → ((ncp7 : Int) ≤ 36 * (dy - 1)) → (∀ q k, cl_T E Y q 4 → Ip7 q k = I q k) → (((nsp7 : Int) + 1548 * cl_s3 bl ≤ 13932)) → (7 - dy).toNat = m_ → yi_G zi_Ms d zi_m304 (7, [(3, .inl dy), (2, .inl bl), (0, .inr (.inr (some p))), (1, .inl 3)], [], (Ip7, Lp7, Rp7, Yp7), ncp7, nsp7) (fun r => ∃ I', ∃ L', ∃ R', ∃ Y', ∃ nc ns, r = (none, (I', L', R', Y'), nc, ns) ∧ cl_P E I L R Y I' L' R' Y' ∧ nc ≤ 216 ∧ ns ≤ 13932 ∧ (∀ q k, cl_T E Y q 4 → I' q k = I q k)) := by
    intro m7
    induction m7 using Nat.strongRecOn with
    | _ m7 ih7 =>
    intro dy bl Ip7 Lp7 Rp7 Yp7 ncp7 nsp7 hPp7 tpp7 dy0 bl0 nc7 kw7 rm7 hm7
    have sbl := cl_s3_b bl
    refine yi_G_run 2 (9, [(3, .inl dy), (2, .inl bl), (0, .inr (.inr (some p))), (1, .inl 3)], [.inr (.inr (some p)), .inl dy], (Ip7, Lp7, Rp7, Yp7), ncp7, nsp7) (fun _ => rfl) ?_
    have b2 := cl_rd hPp7.1 tpp7 (k := 7) (lo := 1) (hi := 6) rfl
    have r3 : Ip7 p 7 = I p 7 := by rw [kw7 p 7 tp]
    refine cl_G_gi rfl (cl_T_K tpp7) rfl rfl rfl ?_
    by_cases h4 : (Ip7 p 7) < dy
    · refine yi_G_if2 true rfl (yi_gt_t h4) ?_
      exact yi_G_retv rfl rfl (⟨_, _, _, _, _, _, rfl, hPp7, by omega, by omega, (fun q k tq => by rw [kw7 q k tq])⟩)
    · refine yi_G_if2 false rfl (yi_gt_f h4) ?_
      refine yi_G_run 1 (16, [(3, .inl dy), (2, .inl bl), (0, .inr (.inr (some p))), (1, .inl 3)], [.inl 3], (Ip7, Lp7, Rp7, Yp7), ncp7, nsp7) (fun _ => rfl) ?_
      refine yi_G_if1 false rfl (by decide) ?_
      refine yi_G_run 2 (22, [(4, .inl 0), (3, .inl dy), (2, .inl bl), (0, .inr (.inr (some p))), (1, .inl 3)], [], (Ip7, Lp7, Rp7, Yp7), ncp7, nsp7) (fun _ => rfl) ?_
      have pt22 : ∀ (m_ : Nat) (pe : Int) (bm : Int) (Ip22 : cl_I) (Lp22 : cl_I) (Rp22 : cl_Rr) (Yp22 : cl_Y) (ncp22 : Nat) (nsp22 : Nat), (cl_P E I L R Y Ip22 Lp22 Rp22 Yp22) → (cl_T E Yp22 p 4) → (0 ≤ pe ∧ pe ≤ 4) → (0 ≤ bm ∧ bm ≤ 32769) → ((ncp22 : Int) ≤ 36 * (dy - 1) + 9 * pe) → (∀ q k, cl_T E Y q 4 → Ip22 q k = I q k) → (((nsp22 : Int) + 1548 * cl_s3 bm ≤ 13932)) → (4 - pe).toNat = m_ → yi_G zi_Ms d zi_m304 (22, [(4, .inl pe), (3, .inl dy), (2, .inl bm), (0, .inr (.inr (some p))), (1, .inl 3)], [], (Ip22, Lp22, Rp22, Yp22), ncp22, nsp22) (fun r => ∃ I', ∃ L', ∃ R', ∃ Y', ∃ nc ns, r = (none, (I', L', R', Y'), nc, ns) ∧ cl_P E I L R Y I' L' R' Y' ∧ nc ≤ 216 ∧ ns ≤ 13932 ∧ (∀ q k, cl_T E Y q 4 → I' q k = I q k)) := by
        intro m22
        induction m22 using Nat.strongRecOn with
        | _ m22 ih22 =>
        intro pe bm Ip22 Lp22 Rp22 Yp22 ncp22 nsp22 hPp22 tpp22 pe0 bm0 nc22 kw22 rm22 hm22
        refine yi_G_run 2 (25, [(4, .inl pe), (3, .inl dy), (2, .inl bm), (0, .inr (.inr (some p))), (1, .inl 3)], [.inr (.inr (some p)), .inl pe], (Ip22, Lp22, Rp22, Yp22), ncp22, nsp22) (fun _ => rfl) ?_
        have b5 := cl_rd hPp22.1 tpp22 (k := 8) (lo := 0) (hi := 4) rfl
        have r6 : Ip22 p 8 = I p 8 := by rw [kw22 p 8 tp]
        refine cl_G_gi rfl (cl_T_K tpp22) rfl rfl rfl ?_
        by_cases h7 : (Ip22 p 8) ≤ pe
        · refine yi_G_if2 true rfl (yi_ge_t h7) ?_
          refine yi_G_iinc [(3, .inl (dy + 1)), (4, .inl pe), (2, .inl bm), (0, .inr (.inr (some p))), (1, .inl 3)] rfl rfl rfl (by rw [show yi_w (dy + 1) = dy + 1 from (yi_wn (by omega) (by omega)).trans (by omega)]; rfl) ?_
          refine yi_G_run 1 (7, [(3, .inl (dy + 1)), (4, .inl pe), (2, .inl bm), (0, .inr (.inr (some p))), (1, .inl 3)], [], (Ip22, Lp22, Rp22, Yp22), ncp22, nsp22) (fun _ => rfl) ?_
          have r8 : Ip22 p 9 = I p 9 := by rw [kw22 p 9 tp]
          have r9 : Ip22 p 2 = I p 2 := by rw [kw22 p 2 tp]
          refine yi_G_al (al := [(3, .inl (dy + 1)), (2, .inl bm), (0, .inr (.inr (some p))), (1, .inl 3)]) (show ([3, 2, 0, 1] : List Nat).Nodup by decide) (show ([3, 4, 2, 0, 1] : List Nat).Nodup by decide) (yi_mc (List.mem_of_getElem? (i := 0) rfl) (yi_mc (List.mem_of_getElem? (i := 2) rfl) (yi_mc (List.mem_of_getElem? (i := 3) rfl) (yi_mc (List.mem_of_getElem? (i := 4) rfl) yi_mn)))) ?_
          exact ih7 _ (by omega) (dy + 1) bm Ip22 Lp22 Rp22 Yp22 (ncp22) (nsp22) hPp22 tpp22 (by omega) (by omega) (by omega) (fun q k tq => by rw [kw22 q k tq]) (by omega) rfl
        · refine yi_G_if2 false rfl (yi_ge_f h7) ?_
          refine yi_G_run 2 (33, [(4, .inl pe), (3, .inl dy), (2, .inl bm), (0, .inr (.inr (some p))), (1, .inl 3)], [.inl 3, .inl bm], (Ip22, Lp22, Rp22, Yp22), ncp22, nsp22) (fun _ => rfl) ?_
          have sb0 := cl_s3_b bm
          have sb1 := cl_s3_b (bm / 3)
          have ss : 1 ≤ bm / 3 → cl_s3 bm = cl_s3 (bm / 3) + 1 := fun h => cl_s3_s h (by omega)
          have s0 : bm / 3 ≤ 0 → cl_s3 (bm / 3) = 0 := fun h => by unfold cl_s3; rw [if_pos (by omega)]
          refine yi_G_idiv rfl (by decide) (bm / 3) (yi_dv (by omega) rfl (by omega) (by omega)) ?_
          refine yi_G_run 3 (38, [(5, .inl 0), (2, .inl (bm / 3)), (4, .inl pe), (3, .inl dy), (0, .inr (.inr (some p))), (1, .inl 3)], [], (Ip22, Lp22, Rp22, Yp22), ncp22, nsp22) (fun _ => rfl) ?_
          have pt38 : ∀ (m_ : Nat) (ev : Int) (bn : Int) (Ip38 : cl_I) (Lp38 : cl_I) (Rp38 : cl_Rr) (Yp38 : cl_Y) (ncp38 : Nat) (nsp38 : Nat), (cl_P E I L R Y Ip38 Lp38 Rp38 Yp38) → (cl_T E Yp38 p 4) → (0 ≤ ev ∧ ev ≤ 3) → (0 ≤ bn ∧ bn ≤ 32769) → ((ncp38 : Int) ≤ 36 * (dy - 1) + 9 * pe + 3 * ev) → (∀ q k, cl_T E Y q 4 → Ip38 q k = I q k) → ((1 ≤ bn → (nsp38 : Int) + 516 * (3 - ev) + 1548 * cl_s3 bn ≤ 13932) ∧ (bn ≤ 0 → (nsp38 : Int) + 1548 * cl_s3 bn ≤ 13932)) → (3 - ev).toNat = m_ → yi_G zi_Ms d zi_m304 (38, [(5, .inl ev), (2, .inl bn), (4, .inl pe), (3, .inl dy), (0, .inr (.inr (some p))), (1, .inl 3)], [], (Ip38, Lp38, Rp38, Yp38), ncp38, nsp38) (fun r => ∃ I', ∃ L', ∃ R', ∃ Y', ∃ nc ns, r = (none, (I', L', R', Y'), nc, ns) ∧ cl_P E I L R Y I' L' R' Y' ∧ nc ≤ 216 ∧ ns ≤ 13932 ∧ (∀ q k, cl_T E Y q 4 → I' q k = I q k)) := by
            intro m38
            induction m38 using Nat.strongRecOn with
            | _ m38 ih38 =>
            intro ev bn Ip38 Lp38 Rp38 Yp38 ncp38 nsp38 hPp38 tpp38 ev0 bn0 nc38 kw38 rm38 hm38
            have l9 := cl_rd hPp38.1 tpp38 (k := 9) (lo := 1) (hi := 513) rfl
            refine yi_G_run 2 (41, [(5, .inl ev), (2, .inl bn), (4, .inl pe), (3, .inl dy), (0, .inr (.inr (some p))), (1, .inl 3)], [.inl 3, .inl ev], (Ip38, Lp38, Rp38, Yp38), ncp38, nsp38) (fun _ => rfl) ?_
            by_cases h10 : 3 ≤ ev
            · refine yi_G_if2 true rfl (yi_ge_t h10) ?_
              refine yi_G_iinc [(4, .inl (pe + 1)), (5, .inl ev), (2, .inl bn), (3, .inl dy), (0, .inr (.inr (some p))), (1, .inl 3)] rfl rfl rfl (by rw [show yi_w (pe + 1) = pe + 1 from (yi_wn (by omega) (by omega)).trans (by omega)]; rfl) ?_
              refine yi_G_run 1 (22, [(4, .inl (pe + 1)), (5, .inl ev), (2, .inl bn), (3, .inl dy), (0, .inr (.inr (some p))), (1, .inl 3)], [], (Ip38, Lp38, Rp38, Yp38), ncp38, nsp38) (fun _ => rfl) ?_
              have r11 : Ip38 p 9 = I p 9 := by rw [kw38 p 9 tp]
              have r12 : Ip38 p 2 = I p 2 := by rw [kw38 p 2 tp]
              refine yi_G_al (al := [(4, .inl (pe + 1)), (3, .inl dy), (2, .inl bn), (0, .inr (.inr (some p))), (1, .inl 3)]) (show ([4, 3, 2, 0, 1] : List Nat).Nodup by decide) (show ([4, 5, 2, 3, 0, 1] : List Nat).Nodup by decide) (yi_mc (List.mem_of_getElem? (i := 0) rfl) (yi_mc (List.mem_of_getElem? (i := 3) rfl) (yi_mc (List.mem_of_getElem? (i := 2) rfl) (yi_mc (List.mem_of_getElem? (i := 4) rfl) (yi_mc (List.mem_of_getElem? (i := 5) rfl) yi_mn))))) ?_
              exact ih22 _ (by omega) (pe + 1) bn Ip38 Lp38 Rp38 Yp38 (ncp38) (nsp38) hPp38 tpp38 (by omega) (by omega) (by omega) (fun q k tq => by rw [kw38 q k tq]) (by omega) rfl
            · refine yi_G_if2 false rfl (yi_ge_f h10) ?_
              refine yi_G_run 4 (50, [(5, .inl ev), (2, .inl bn), (4, .inl pe), (3, .inl dy), (0, .inr (.inr (some p))), (1, .inl 3)], [.inl ev, .inl dy, .inl pe, .inr (.inr (some p))], (Ip38, Lp38, Rp38, Yp38), ncp38, nsp38) (fun _ => rfl) ?_
              have r14 : Ip38 p 9 = I p 9 := by rw [kw38 p 9 tp]
              have r15 : Ip38 p 2 = I p 2 := by rw [kw38 p 2 tp]
              refine yi_G_calls rfl rfl (k_wordNumber d (by omega) hPp38.1  ) ?_
              rintro _ ⟨z13, rfl⟩
              show yi_G zi_Ms d zi_m304 (53, [(5, .inl ev), (2, .inl bn), (4, .inl pe), (3, .inl dy), (0, .inr (.inr (some p))), (1, .inl 3)], [.inl z13, .inr (.inr (some p))], (Ip38, Lp38, Rp38, Yp38), ncp38, nsp38) _
              refine yi_G_run 2 (56, [(5, .inl ev), (2, .inl bn), (4, .inl pe), (3, .inl dy), (0, .inr (.inr (some p))), (1, .inl 3)], [.inl bn, .inl ev, .inl z13, .inr (.inr (some p))], (Ip38, Lp38, Rp38, Yp38), ncp38, nsp38) (fun _ => rfl) ?_
              have mb16 := yi_mb (a := ev) (b := bn) (A := 4) (B := 32769) (by omega) (by omega) (by omega) (by omega)
              refine yi_G_imul rfl (ev * bn) (yi_wn (by omega) (by omega)) ?_
              refine yi_G_run 3 (60, [(5, .inl ev), (2, .inl bn), (4, .inl pe), (3, .inl dy), (0, .inr (.inr (some p))), (1, .inl 3)], [.inl 3, .inl bn, .inl bn, .inl (ev * bn), .inl z13, .inr (.inr (some p))], (Ip38, Lp38, Rp38, Yp38), ncp38, nsp38) (fun _ => rfl) ?_
              refine yi_G_imul rfl (bn * 3) (yi_wn (by omega) (by omega)) ?_
              have r18 : Ip38 p 9 = I p 9 := by rw [kw38 p 9 tp]
              have r19 : Ip38 p 2 = I p 2 := by rw [kw38 p 2 tp]
              refine yi_G_callv rfl rfl (cl_rcv tpp38 rfl) rfl (k_fillBlocks d (by omega) hPp38.1 tpp38 (by omega) (by omega) (by omega)) ?_
              rintro _ ⟨I17, L17, R17, Y17, nc17, ns17, rfl, hQ17, ca17, cb17, x17a, x17b⟩
              have hP17 := cl_P_t hPp38 hQ17
              have t20 := cl_T_x tpp38 hQ17.2.1
              show yi_G zi_Ms d zi_m304 (64, [(5, .inl ev), (2, .inl bn), (4, .inl pe), (3, .inl dy), (0, .inr (.inr (some p))), (1, .inl 3)], [], (I17, L17, R17, Y17), ncp38 + nc17, nsp38 + ns17) _
              refine yi_G_iinc [(5, .inl (ev + 1)), (2, .inl bn), (4, .inl pe), (3, .inl dy), (0, .inr (.inr (some p))), (1, .inl 3)] rfl rfl rfl (by rw [show yi_w (ev + 1) = ev + 1 from (yi_wn (by omega) (by omega)).trans (by omega)]; rfl) ?_
              refine yi_G_run 1 (38, [(5, .inl (ev + 1)), (2, .inl bn), (4, .inl pe), (3, .inl dy), (0, .inr (.inr (some p))), (1, .inl 3)], [], (I17, L17, R17, Y17), ncp38 + nc17, nsp38 + ns17) (fun _ => rfl) ?_
              have r21 : I17 p 9 = I p 9 := by rw [x17b p 9 (cl_T_x tp hPp38.2.1), kw38 p 9 tp]
              have r22 : I17 p 2 = I p 2 := by rw [x17b p 2 (cl_T_x tp hPp38.2.1), kw38 p 2 tp]
              exact ih38 _ (by omega) (ev + 1) bn I17 L17 R17 Y17 (ncp38 + nc17) (nsp38 + ns17) hP17 t20 (by omega) (by omega) (by omega) (fun q k tq => by rw [x17b q k (cl_T_x tq hPp38.2.1), kw38 q k tq]) (by omega) rfl
          have r23 : Ip22 p 9 = I p 9 := by rw [kw22 p 9 tp]
          have r24 : Ip22 p 2 = I p 2 := by rw [kw22 p 2 tp]
          exact pt38 _ 0 (bm / 3) Ip22 Lp22 Rp22 Yp22 (ncp22) (nsp22) hPp22 tpp22 (by omega) (by omega) (by omega) (fun q k tq => by rw [kw22 q k tq]) (by omega) rfl
      have r25 : Ip7 p 9 = I p 9 := by rw [kw7 p 9 tp]
      have r26 : Ip7 p 2 = I p 2 := by rw [kw7 p 2 tp]
      exact pt22 _ 0 bl Ip7 Lp7 Rp7 Yp7 (ncp7) (nsp7) hPp7 tpp7 (by omega) (by omega) (by omega) (fun q k tq => by rw [kw7 q k tq]) (by omega) rfl
  exact pt7 _ 1 (I p 2) I L R Y (0) (0) hP tp (by omega) (by omega) (by omega) (fun _ _ _ => rfl) (by omega) rfl
theorem k_buildWords4 (D : Nat) (hD : 4 ≤ D) {E : List Nat} {I L : cl_I} {R : cl_Rr} {Y : cl_Y} (hC : cl_C E I L R Y) {p : Nat} (tp : cl_T E Y p 4) : yi_E zi_Ms D 304 [.inr (.inr (some p)), .inl 4] (I, L, R, Y) (fun r => ∃ I', ∃ L', ∃ R', ∃ Y', ∃ nc ns, r = (none, (I', L', R', Y'), nc, ns) ∧ cl_P E I L R Y I' L' R' Y' ∧ nc ≤ 288 ∧ ns ≤ 14448 ∧ (∀ q k, cl_T E Y q 4 → I' q k = I q k)) := by
  obtain ⟨d, rfl⟩ : ∃ d, D = d + 1 := ⟨D - 1, by omega⟩
  refine yi_E_of (M := zi_m304) rfl rfl ?_
  have hP : cl_P E I L R Y I L R Y := cl_P_r hC
  have sT := cl_s4_b (I p 2)
  show yi_G zi_Ms d zi_m304 (0, [(0, .inr (.inr (some p))), (1, .inl 4)], [], (I, L, R, Y), 0, 0) _
  refine yi_G_run 1 (1, [(0, .inr (.inr (some p))), (1, .inl 4)], [.inr (.inr (some p))], (I, L, R, Y), 0, 0) (fun _ => rfl) ?_
  have b1 := cl_rd hP.1 tp (k := 2) (lo := 1) (hi := 32769) rfl
  refine cl_G_gi rfl (cl_T_K tp) rfl rfl rfl ?_
  refine yi_G_run 3 (7, [(3, .inl 1), (2, .inl (I p 2)), (0, .inr (.inr (some p))), (1, .inl 4)], [], (I, L, R, Y), 0, 0) (fun _ => rfl) ?_
  have pt7 : ∀ (m_ : Nat) (dy : Int) (bl : Int) (Ip7 : cl_I) (Lp7 : cl_I) (Rp7 : cl_Rr) (Yp7 : cl_Y) (ncp7 : Nat) (nsp7 : Nat), (cl_P E I L R Y Ip7 Lp7 Rp7 Yp7) → (cl_T E Yp7 p 4) → (1 ≤ dy ∧ dy ≤ 7) → (0 ≤ bl ∧ bl ≤ 32769) → ((ncp7 : Int) ≤ 48 * (dy - 1)) → (∀ q k, cl_T E Y q 4 → Ip7 q k = I q k) → (((nsp7 : Int) + 2064 * cl_s4 bl ≤ 14448)) → (7 - dy).toNat = m_ → yi_G zi_Ms d zi_m304 (7, [(3, .inl dy), (2, .inl bl), (0, .inr (.inr (some p))), (1, .inl 4)], [], (Ip7, Lp7, Rp7, Yp7), ncp7, nsp7) (fun r => ∃ I', ∃ L', ∃ R', ∃ Y', ∃ nc ns, r = (none, (I', L', R', Y'), nc, ns) ∧ cl_P E I L R Y I' L' R' Y' ∧ nc ≤ 288 ∧ ns ≤ 14448 ∧ (∀ q k, cl_T E Y q 4 → I' q k = I q k)) := by
    intro m7
    induction m7 using Nat.strongRecOn with
    | _ m7 ih7 =>
    intro dy bl Ip7 Lp7 Rp7 Yp7 ncp7 nsp7 hPp7 tpp7 dy0 bl0 nc7 kw7 rm7 hm7
    have sbl := cl_s4_b bl
    refine yi_G_run 2 (9, [(3, .inl dy), (2, .inl bl), (0, .inr (.inr (some p))), (1, .inl 4)], [.inr (.inr (some p)), .inl dy], (Ip7, Lp7, Rp7, Yp7), ncp7, nsp7) (fun _ => rfl) ?_
    have b2 := cl_rd hPp7.1 tpp7 (k := 7) (lo := 1) (hi := 6) rfl
    have r3 : Ip7 p 7 = I p 7 := by rw [kw7 p 7 tp]
    refine cl_G_gi rfl (cl_T_K tpp7) rfl rfl rfl ?_
    by_cases h4 : (Ip7 p 7) < dy
    · refine yi_G_if2 true rfl (yi_gt_t h4) ?_
      exact yi_G_retv rfl rfl (⟨_, _, _, _, _, _, rfl, hPp7, by omega, by omega, (fun q k tq => by rw [kw7 q k tq])⟩)
    · refine yi_G_if2 false rfl (yi_gt_f h4) ?_
      refine yi_G_run 1 (16, [(3, .inl dy), (2, .inl bl), (0, .inr (.inr (some p))), (1, .inl 4)], [.inl 4], (Ip7, Lp7, Rp7, Yp7), ncp7, nsp7) (fun _ => rfl) ?_
      refine yi_G_if1 false rfl (by decide) ?_
      refine yi_G_run 2 (22, [(4, .inl 0), (3, .inl dy), (2, .inl bl), (0, .inr (.inr (some p))), (1, .inl 4)], [], (Ip7, Lp7, Rp7, Yp7), ncp7, nsp7) (fun _ => rfl) ?_
      have pt22 : ∀ (m_ : Nat) (pe : Int) (bm : Int) (Ip22 : cl_I) (Lp22 : cl_I) (Rp22 : cl_Rr) (Yp22 : cl_Y) (ncp22 : Nat) (nsp22 : Nat), (cl_P E I L R Y Ip22 Lp22 Rp22 Yp22) → (cl_T E Yp22 p 4) → (0 ≤ pe ∧ pe ≤ 4) → (0 ≤ bm ∧ bm ≤ 32769) → ((ncp22 : Int) ≤ 48 * (dy - 1) + 12 * pe) → (∀ q k, cl_T E Y q 4 → Ip22 q k = I q k) → (((nsp22 : Int) + 2064 * cl_s4 bm ≤ 14448)) → (4 - pe).toNat = m_ → yi_G zi_Ms d zi_m304 (22, [(4, .inl pe), (3, .inl dy), (2, .inl bm), (0, .inr (.inr (some p))), (1, .inl 4)], [], (Ip22, Lp22, Rp22, Yp22), ncp22, nsp22) (fun r => ∃ I', ∃ L', ∃ R', ∃ Y', ∃ nc ns, r = (none, (I', L', R', Y'), nc, ns) ∧ cl_P E I L R Y I' L' R' Y' ∧ nc ≤ 288 ∧ ns ≤ 14448 ∧ (∀ q k, cl_T E Y q 4 → I' q k = I q k)) := by
        intro m22
        induction m22 using Nat.strongRecOn with
        | _ m22 ih22 =>
        intro pe bm Ip22 Lp22 Rp22 Yp22 ncp22 nsp22 hPp22 tpp22 pe0 bm0 nc22 kw22 rm22 hm22
        refine yi_G_run 2 (25, [(4, .inl pe), (3, .inl dy), (2, .inl bm), (0, .inr (.inr (some p))), (1, .inl 4)], [.inr (.inr (some p)), .inl pe], (Ip22, Lp22, Rp22, Yp22), ncp22, nsp22) (fun _ => rfl) ?_
        have b5 := cl_rd hPp22.1 tpp22 (k := 8) (lo := 0) (hi := 4) rfl
        have r6 : Ip22 p 8 = I p 8 := by rw [kw22 p 8 tp]
        refine cl_G_gi rfl (cl_T_K tpp22) rfl rfl rfl ?_
        by_cases h7 : (Ip22 p 8) ≤ pe
        · refine yi_G_if2 true rfl (yi_ge_t h7) ?_
          refine yi_G_iinc [(3, .inl (dy + 1)), (4, .inl pe), (2, .inl bm), (0, .inr (.inr (some p))), (1, .inl 4)] rfl rfl rfl (by rw [show yi_w (dy + 1) = dy + 1 from (yi_wn (by omega) (by omega)).trans (by omega)]; rfl) ?_
          refine yi_G_run 1 (7, [(3, .inl (dy + 1)), (4, .inl pe), (2, .inl bm), (0, .inr (.inr (some p))), (1, .inl 4)], [], (Ip22, Lp22, Rp22, Yp22), ncp22, nsp22) (fun _ => rfl) ?_
          have r8 : Ip22 p 9 = I p 9 := by rw [kw22 p 9 tp]
          have r9 : Ip22 p 2 = I p 2 := by rw [kw22 p 2 tp]
          refine yi_G_al (al := [(3, .inl (dy + 1)), (2, .inl bm), (0, .inr (.inr (some p))), (1, .inl 4)]) (show ([3, 2, 0, 1] : List Nat).Nodup by decide) (show ([3, 4, 2, 0, 1] : List Nat).Nodup by decide) (yi_mc (List.mem_of_getElem? (i := 0) rfl) (yi_mc (List.mem_of_getElem? (i := 2) rfl) (yi_mc (List.mem_of_getElem? (i := 3) rfl) (yi_mc (List.mem_of_getElem? (i := 4) rfl) yi_mn)))) ?_
          exact ih7 _ (by omega) (dy + 1) bm Ip22 Lp22 Rp22 Yp22 (ncp22) (nsp22) hPp22 tpp22 (by omega) (by omega) (by omega) (fun q k tq => by rw [kw22 q k tq]) (by omega) rfl
        · refine yi_G_if2 false rfl (yi_ge_f h7) ?_
          refine yi_G_run 2 (33, [(4, .inl pe), (3, .inl dy), (2, .inl bm), (0, .inr (.inr (some p))), (1, .inl 4)], [.inl 4, .inl bm], (Ip22, Lp22, Rp22, Yp22), ncp22, nsp22) (fun _ => rfl) ?_
          have sb0 := cl_s4_b bm
          have sb1 := cl_s4_b (bm / 4)
          have ss : 1 ≤ bm / 4 → cl_s4 bm = cl_s4 (bm / 4) + 1 := fun h => cl_s4_s h (by omega)
          have s0 : bm / 4 ≤ 0 → cl_s4 (bm / 4) = 0 := fun h => by unfold cl_s4; rw [if_pos (by omega)]
          refine yi_G_idiv rfl (by decide) (bm / 4) (yi_dv (by omega) rfl (by omega) (by omega)) ?_
          refine yi_G_run 3 (38, [(5, .inl 0), (2, .inl (bm / 4)), (4, .inl pe), (3, .inl dy), (0, .inr (.inr (some p))), (1, .inl 4)], [], (Ip22, Lp22, Rp22, Yp22), ncp22, nsp22) (fun _ => rfl) ?_
          have pt38 : ∀ (m_ : Nat) (ev : Int) (bn : Int) (Ip38 : cl_I) (Lp38 : cl_I) (Rp38 : cl_Rr) (Yp38 : cl_Y) (ncp38 : Nat) (nsp38 : Nat), (cl_P E I L R Y Ip38 Lp38 Rp38 Yp38) → (cl_T E Yp38 p 4) → (0 ≤ ev ∧ ev ≤ 4) → (0 ≤ bn ∧ bn ≤ 32769) → ((ncp38 : Int) ≤ 48 * (dy - 1) + 12 * pe + 3 * ev) → (∀ q k, cl_T E Y q 4 → Ip38 q k = I q k) → ((1 ≤ bn → (nsp38 : Int) + 516 * (4 - ev) + 2064 * cl_s4 bn ≤ 14448) ∧ (bn ≤ 0 → (nsp38 : Int) + 2064 * cl_s4 bn ≤ 14448)) → (4 - ev).toNat = m_ → yi_G zi_Ms d zi_m304 (38, [(5, .inl ev), (2, .inl bn), (4, .inl pe), (3, .inl dy), (0, .inr (.inr (some p))), (1, .inl 4)], [], (Ip38, Lp38, Rp38, Yp38), ncp38, nsp38) (fun r => ∃ I', ∃ L', ∃ R', ∃ Y', ∃ nc ns, r = (none, (I', L', R', Y'), nc, ns) ∧ cl_P E I L R Y I' L' R' Y' ∧ nc ≤ 288 ∧ ns ≤ 14448 ∧ (∀ q k, cl_T E Y q 4 → I' q k = I q k)) := by
            intro m38
            induction m38 using Nat.strongRecOn with
            | _ m38 ih38 =>
            intro ev bn Ip38 Lp38 Rp38 Yp38 ncp38 nsp38 hPp38 tpp38 ev0 bn0 nc38 kw38 rm38 hm38
            have l9 := cl_rd hPp38.1 tpp38 (k := 9) (lo := 1) (hi := 513) rfl
            refine yi_G_run 2 (41, [(5, .inl ev), (2, .inl bn), (4, .inl pe), (3, .inl dy), (0, .inr (.inr (some p))), (1, .inl 4)], [.inl 4, .inl ev], (Ip38, Lp38, Rp38, Yp38), ncp38, nsp38) (fun _ => rfl) ?_
            by_cases h10 : 4 ≤ ev
            · refine yi_G_if2 true rfl (yi_ge_t h10) ?_
              refine yi_G_iinc [(4, .inl (pe + 1)), (5, .inl ev), (2, .inl bn), (3, .inl dy), (0, .inr (.inr (some p))), (1, .inl 4)] rfl rfl rfl (by rw [show yi_w (pe + 1) = pe + 1 from (yi_wn (by omega) (by omega)).trans (by omega)]; rfl) ?_
              refine yi_G_run 1 (22, [(4, .inl (pe + 1)), (5, .inl ev), (2, .inl bn), (3, .inl dy), (0, .inr (.inr (some p))), (1, .inl 4)], [], (Ip38, Lp38, Rp38, Yp38), ncp38, nsp38) (fun _ => rfl) ?_
              have r11 : Ip38 p 9 = I p 9 := by rw [kw38 p 9 tp]
              have r12 : Ip38 p 2 = I p 2 := by rw [kw38 p 2 tp]
              refine yi_G_al (al := [(4, .inl (pe + 1)), (3, .inl dy), (2, .inl bn), (0, .inr (.inr (some p))), (1, .inl 4)]) (show ([4, 3, 2, 0, 1] : List Nat).Nodup by decide) (show ([4, 5, 2, 3, 0, 1] : List Nat).Nodup by decide) (yi_mc (List.mem_of_getElem? (i := 0) rfl) (yi_mc (List.mem_of_getElem? (i := 3) rfl) (yi_mc (List.mem_of_getElem? (i := 2) rfl) (yi_mc (List.mem_of_getElem? (i := 4) rfl) (yi_mc (List.mem_of_getElem? (i := 5) rfl) yi_mn))))) ?_
              exact ih22 _ (by omega) (pe + 1) bn Ip38 Lp38 Rp38 Yp38 (ncp38) (nsp38) hPp38 tpp38 (by omega) (by omega) (by omega) (fun q k tq => by rw [kw38 q k tq]) (by omega) rfl
            · refine yi_G_if2 false rfl (yi_ge_f h10) ?_
              refine yi_G_run 4 (50, [(5, .inl ev), (2, .inl bn), (4, .inl pe), (3, .inl dy), (0, .inr (.inr (some p))), (1, .inl 4)], [.inl ev, .inl dy, .inl pe, .inr (.inr (some p))], (Ip38, Lp38, Rp38, Yp38), ncp38, nsp38) (fun _ => rfl) ?_
              have r14 : Ip38 p 9 = I p 9 := by rw [kw38 p 9 tp]
              have r15 : Ip38 p 2 = I p 2 := by rw [kw38 p 2 tp]
              refine yi_G_calls rfl rfl (k_wordNumber d (by omega) hPp38.1  ) ?_
              rintro _ ⟨z13, rfl⟩
              show yi_G zi_Ms d zi_m304 (53, [(5, .inl ev), (2, .inl bn), (4, .inl pe), (3, .inl dy), (0, .inr (.inr (some p))), (1, .inl 4)], [.inl z13, .inr (.inr (some p))], (Ip38, Lp38, Rp38, Yp38), ncp38, nsp38) _
              refine yi_G_run 2 (56, [(5, .inl ev), (2, .inl bn), (4, .inl pe), (3, .inl dy), (0, .inr (.inr (some p))), (1, .inl 4)], [.inl bn, .inl ev, .inl z13, .inr (.inr (some p))], (Ip38, Lp38, Rp38, Yp38), ncp38, nsp38) (fun _ => rfl) ?_
              have mb16 := yi_mb (a := ev) (b := bn) (A := 4) (B := 32769) (by omega) (by omega) (by omega) (by omega)
              refine yi_G_imul rfl (ev * bn) (yi_wn (by omega) (by omega)) ?_
              refine yi_G_run 3 (60, [(5, .inl ev), (2, .inl bn), (4, .inl pe), (3, .inl dy), (0, .inr (.inr (some p))), (1, .inl 4)], [.inl 4, .inl bn, .inl bn, .inl (ev * bn), .inl z13, .inr (.inr (some p))], (Ip38, Lp38, Rp38, Yp38), ncp38, nsp38) (fun _ => rfl) ?_
              refine yi_G_imul rfl (bn * 4) (yi_wn (by omega) (by omega)) ?_
              have r18 : Ip38 p 9 = I p 9 := by rw [kw38 p 9 tp]
              have r19 : Ip38 p 2 = I p 2 := by rw [kw38 p 2 tp]
              refine yi_G_callv rfl rfl (cl_rcv tpp38 rfl) rfl (k_fillBlocks d (by omega) hPp38.1 tpp38 (by omega) (by omega) (by omega)) ?_
              rintro _ ⟨I17, L17, R17, Y17, nc17, ns17, rfl, hQ17, ca17, cb17, x17a, x17b⟩
              have hP17 := cl_P_t hPp38 hQ17
              have t20 := cl_T_x tpp38 hQ17.2.1
              show yi_G zi_Ms d zi_m304 (64, [(5, .inl ev), (2, .inl bn), (4, .inl pe), (3, .inl dy), (0, .inr (.inr (some p))), (1, .inl 4)], [], (I17, L17, R17, Y17), ncp38 + nc17, nsp38 + ns17) _
              refine yi_G_iinc [(5, .inl (ev + 1)), (2, .inl bn), (4, .inl pe), (3, .inl dy), (0, .inr (.inr (some p))), (1, .inl 4)] rfl rfl rfl (by rw [show yi_w (ev + 1) = ev + 1 from (yi_wn (by omega) (by omega)).trans (by omega)]; rfl) ?_
              refine yi_G_run 1 (38, [(5, .inl (ev + 1)), (2, .inl bn), (4, .inl pe), (3, .inl dy), (0, .inr (.inr (some p))), (1, .inl 4)], [], (I17, L17, R17, Y17), ncp38 + nc17, nsp38 + ns17) (fun _ => rfl) ?_
              have r21 : I17 p 9 = I p 9 := by rw [x17b p 9 (cl_T_x tp hPp38.2.1), kw38 p 9 tp]
              have r22 : I17 p 2 = I p 2 := by rw [x17b p 2 (cl_T_x tp hPp38.2.1), kw38 p 2 tp]
              exact ih38 _ (by omega) (ev + 1) bn I17 L17 R17 Y17 (ncp38 + nc17) (nsp38 + ns17) hP17 t20 (by omega) (by omega) (by omega) (fun q k tq => by rw [x17b q k (cl_T_x tq hPp38.2.1), kw38 q k tq]) (by omega) rfl
          have r23 : Ip22 p 9 = I p 9 := by rw [kw22 p 9 tp]
          have r24 : Ip22 p 2 = I p 2 := by rw [kw22 p 2 tp]
          exact pt38 _ 0 (bm / 4) Ip22 Lp22 Rp22 Yp22 (ncp22) (nsp22) hPp22 tpp22 (by omega) (by omega) (by omega) (fun q k tq => by rw [kw22 q k tq]) (by omega) rfl
      have r25 : Ip7 p 9 = I p 9 := by rw [kw7 p 9 tp]
      have r26 : Ip7 p 2 = I p 2 := by rw [kw7 p 2 tp]
      exact pt22 _ 0 bl Ip7 Lp7 Rp7 Yp7 (ncp7) (nsp7) hPp7 tpp7 (by omega) (by omega) (by omega) (fun q k tq => by rw [kw7 q k tq]) (by omega) rfl
  exact pt7 _ 1 (I p 2) I L R Y (0) (0) hP tp (by omega) (by omega) (by omega) (fun _ _ _ => rfl) (by omega) rfl
theorem k_buildWords (D : Nat) (hD : 4 ≤ D) {E : List Nat} {I L : cl_I} {R : cl_Rr} {Y : cl_Y} (hC : cl_C E I L R Y) {p : Nat} (tp : cl_T E Y p 4) {y : Int} (hy : 0 ≤ y ∧ y ≤ 4) (hl : y = 1 → I p 9 ≤ 1) : yi_E zi_Ms D 304 [.inr (.inr (some p)), .inl y] (I, L, R, Y) (fun r => ∃ I', ∃ L', ∃ R', ∃ Y', ∃ nc ns, r = (none, (I', L', R', Y'), nc, ns) ∧ cl_P E I L R Y I' L' R' Y' ∧ nc ≤ 288 ∧ ns ≤ 15480 ∧ (∀ q k, cl_T E Y q 4 → I' q k = I q k)) := by
  rcases (show y = 0 ∨ y = 1 ∨ y = 2 ∨ y = 3 ∨ y = 4 by omega) with z | z | z | z | z <;> subst z
  · exact (k_buildWords0 D (by omega) hC tp).imp (fun r h => by obtain ⟨a, b, c, e, f, g, h0, h1, h2, h3, h4⟩ := h; exact ⟨a, b, c, e, f, g, h0, h1, by omega, by omega, h4⟩)
  · exact (k_buildWords1 D (by omega) hC tp (hl rfl)).imp (fun r h => by obtain ⟨a, b, c, e, f, g, h0, h1, h2, h3, h4⟩ := h; exact ⟨a, b, c, e, f, g, h0, h1, by omega, by omega, h4⟩)
  · exact (k_buildWords2 D (by omega) hC tp).imp (fun r h => by obtain ⟨a, b, c, e, f, g, h0, h1, h2, h3, h4⟩ := h; exact ⟨a, b, c, e, f, g, h0, h1, by omega, by omega, h4⟩)
  · exact (k_buildWords3 D (by omega) hC tp).imp (fun r h => by obtain ⟨a, b, c, e, f, g, h0, h1, h2, h3, h4⟩ := h; exact ⟨a, b, c, e, f, g, h0, h1, by omega, by omega, h4⟩)
  · exact (k_buildWords4 D (by omega) hC tp).imp (fun r h => by obtain ⟨a, b, c, e, f, g, h0, h1, h2, h3, h4⟩ := h; exact ⟨a, b, c, e, f, g, h0, h1, by omega, by omega, h4⟩)
