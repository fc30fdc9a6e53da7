/-! The worlds of a land. -/
theorem k_fillBlocks (D : Nat) (hD : 3 ≤ D) {E : List Nat} {I L : cl_I} {R : cl_Rr} {Y : cl_Y} (hC : cl_C E I L R Y) {p : Nat} (tp : cl_T E Y p 4) {x : Int} {y : Int} {v : Int} {w : Int} (hy : 0 ≤ y ∧ y ≤ 131076) (hv : v ≤ 32769) (hw : w ≤ 131076) : yi_E zi_Ms D 307 [.inr (.inr (some p)), .inl x, .inl y, .inl v, .inl w] (I, L, R, Y) (fun r => ∃ I', ∃ L', ∃ R', ∃ Y', ∃ nc ns, r = (none, (I', L', R', Y'), nc, ns) ∧ cl_P E I L R Y I' L' R' Y' ∧ nc ≤ 3 ∧ ns ≤ 3 + (max (I p 9) 1).toNat ∧ (v ≤ 0 → nc = 0 ∧ ns = 0) ∧ (∀ q k, cl_T E Y q 4 → I' q k = I q k)) := by
  obtain ⟨d, rfl⟩ : ∃ d, D = d + 1 := ⟨D - 1, by omega⟩
  refine yi_E_of (M := zi_m307) rfl rfl ?_
  have hP : cl_P E I L R Y I L R Y := cl_P_r hC
  show yi_G zi_Ms d zi_m307 (0, [(0, .inr (.inr (some p))), (1, .inl x), (2, .inl y), (3, .inl v), (4, .inl w)], [], (I, L, R, Y), 0, 0) _
  refine yi_G_run 1 (1, [(0, .inr (.inr (some p))), (1, .inl x), (2, .inl y), (3, .inl v), (4, .inl w)], [.inl x], (I, L, R, Y), 0, 0) (fun _ => rfl) ?_
  by_cases h1 : x < 0
  · refine yi_G_if1 true rfl (yi_lt_t h1) ?_
    exact yi_G_retv rfl rfl (⟨_, _, _, _, _, _, rfl, hP, by omega, by omega, by omega, (fun _ _ _ => rfl)⟩)
  · refine yi_G_if1 false rfl (yi_lt_f h1) ?_
    refine yi_G_run 2 (6, [(0, .inr (.inr (some p))), (1, .inl x), (2, .inl y), (3, .inl v), (4, .inl w)], [.inr (.inr (some p)), .inl x], (I, L, R, Y), 0, 0) (fun _ => rfl) ?_
    obtain ⟨q2, e3, t4, n5⟩ := cl_rn hP.1 tp (k := 3) (m := 95) rfl
    refine cl_G_gr rfl (cl_T_K tp) rfl rfl rfl e3 ?_
    refine cl_G_len rfl t4 (by omega) ?_
    by_cases h6 : ((Y.2.1 q2 : Int)) ≤ x
    · refine yi_G_if2 true rfl (yi_ge_t h6) ?_
      exact yi_G_retv rfl rfl (⟨_, _, _, _, _, _, rfl, hP, by omega, by omega, by omega, (fun _ _ _ => rfl)⟩)
    · refine yi_G_if2 false rfl (yi_ge_f h6) ?_
      refine yi_G_run 1 (14, [(0, .inr (.inr (some p))), (1, .inl x), (2, .inl y), (3, .inl v), (4, .inl w)], [.inl v], (I, L, R, Y), 0, 0) (fun _ => rfl) ?_
      by_cases h7 : v ≤ 0
      · refine yi_G_if1 true rfl (yi_le_t h7) ?_
        exact yi_G_retv rfl rfl (⟨_, _, _, _, _, _, rfl, hP, by omega, by omega, by omega, (fun _ _ _ => rfl)⟩)
      · refine yi_G_if1 false rfl (yi_le_f h7) ?_
        refine yi_G_run 1 (19, [(0, .inr (.inr (some p))), (1, .inl x), (2, .inl y), (3, .inl v), (4, .inl w)], [.inl w], (I, L, R, Y), 0, 0) (fun _ => rfl) ?_
        by_cases h8 : 0 < w
        · refine yi_G_if1 true rfl (yi_gt_t h8) ?_
          refine yi_G_run 1 (24, [(0, .inr (.inr (some p))), (1, .inl x), (2, .inl y), (3, .inl v), (4, .inl w)], [.inr (.inr (some p))], (I, L, R, Y), 0, 0) (fun _ => rfl) ?_
          refine cl_G_gr rfl (cl_T_K tp) rfl rfl rfl e3 ?_
          refine yi_G_run 1 (28, [(0, .inr (.inr (some p))), (1, .inl x), (2, .inl y), (3, .inl v), (4, .inl w)], [.inl x, .inr (.inr (some q2))], (I, L, R, Y), 0, 0) (fun _ => rfl) ?_
          rcases cl_ro hP.1 t4 (k := x.toNat) rfl with e10 | ⟨q9, e10, t11⟩
          · refine cl_G_aald rfl t4 (by omega) (by omega) (by omega) e10 ?_
            refine yi_G_run 2 (33, [(5, .inr (.inr none)), (0, .inr (.inr (some p))), (1, .inl x), (2, .inl y), (3, .inl v), (4, .inl w)], [.inr (.inr none)], (I, L, R, Y), 0, 0) (fun _ => rfl) ?_
            refine cl_G_nnl true rfl rfl ?_
            refine cl_G_mko (m := 2) rfl hP rfl rfl (fun e12x I12 L12 R12 Y12 ee12 hP12 x12 tt12 z12 y12 k12 g12 m12 o12 => ?_)
            have t13 := tt12 _ _ tp
            have n14 := (cl_T_n t4 x12).trans n5
            have t15 := tt12 _ _ t4
            have e16 := (o12 p 3 (tp).2.1).1.trans e3
            have e17 := (o12 q2 (x.toNat) (t4).2.1).1.trans e10
            refine yi_G_run 1 (40, [(5, .inr (.inr none)), (0, .inr (.inr (some p))), (1, .inl x), (2, .inl y), (3, .inl v), (4, .inl w)], [.inr (.inr (some e12x)), .inr (.inr (some e12x))], (I12, L12, R12, Y12), 0 + 1, 0 + 2) (fun _ => rfl) ?_
            have r19 : I12 p 9 = I p 9 := by rw [(o12 p 9 (tp).2.1).2]
            have r20 : I12 p 2 = I p 2 := by rw [(o12 p 2 (tp).2.1).2]
            refine cl_G_callx rfl rfl rfl rfl (k_FS0 d (by omega) hP12.1 g12 k12 m12 z12 y12  ) ?_
            rintro _ ⟨I18, L18, R18, Y18, nc18, ns18, rfl, hQ18, ca18, cb18, t18, x18a⟩
            have hP18 := cl_P_t hP12 hQ18
            have t21 := cl_T_x (cl_T_d t13) hQ18.2.1
            have t22 := cl_T_x (cl_T_d t15) hQ18.2.1
            have n23 := (cl_T_n t15 hQ18.2.1).trans n14
            have e24 := (x18a p 3 t13.2.1 (fun z => t13.2.2.2.1 (by rw [z]; simp))).2.trans e16
            have e25 := (x18a q2 (x.toNat) t15.2.1 (fun z => t15.2.2.2.1 (by rw [z]; simp))).2.trans e17
            show yi_G zi_Ms d zi_m307 (43, [(5, .inr (.inr none)), (0, .inr (.inr (some p))), (1, .inl x), (2, .inl y), (3, .inl v), (4, .inl w)], [.inr (.inr (some e12x))], (I18, L18, R18, Y18), 0 + 1 + nc18, 0 + 2 + ns18) _
            refine yi_G_run 2 (46, [(5, .inr (.inr (some e12x))), (0, .inr (.inr (some p))), (1, .inl x), (2, .inl y), (3, .inl v), (4, .inl w)], [.inr (.inr (some p))], (I18, L18, R18, Y18), 0 + 1 + nc18, 0 + 2 + ns18) (fun _ => rfl) ?_
            refine cl_G_gr rfl (cl_T_K t21) rfl rfl rfl e24 ?_
            refine yi_G_run 2 (52, [(5, .inr (.inr (some e12x))), (0, .inr (.inr (some p))), (1, .inl x), (2, .inl y), (3, .inl v), (4, .inl w)], [.inr (.inr (some e12x)), .inl x, .inr (.inr (some q2))], (I18, L18, R18, Y18), 0 + 1 + nc18, 0 + 2 + ns18) (fun _ => rfl) ?_
            refine cl_G_aast rfl t22 (by omega) rfl (by omega) (by omega) (Or.inr ⟨_, rfl, t18⟩) ?_
            have hP26 := cl_P_uR (k := (x.toNat)) (v := (some e12x)) hP18 t22 (by omega) (by omega) (cl_hro rfl t18)
            generalize w27 : cl_u R18 q2 (x.toNat) (some e12x) = R28 at hP26 ⊢
            have e29 : R28 p 3 = some q2 := by rw [← w27, cl_u_ne _ _ (fun z => cl_ne t21 t22 (by decide) z.1)]; exact e24
            have e30 : R28 q2 (x.toNat) = some e12x := by rw [← w27, cl_u_eq]
            refine yi_G_run 2 (56, [(5, .inr (.inr (some e12x))), (0, .inr (.inr (some p))), (1, .inl x), (2, .inl y), (3, .inl v), (4, .inl w)], [.inr (.inr (some p)), .inr (.inr (some e12x))], (I18, L18, R28, Y18), 0 + 1 + nc18, 0 + 2 + ns18) (fun _ => rfl) ?_
            have b31 := cl_rd hP26.1 t21 (k := 9) (lo := 1) (hi := 513) rfl
            have r32 : I18 p 9 = I p 9 := by rw [(x18a p 9 (cl_T_x (E := E) tp hP12.2.1).2.1 (by have a := tp.2.1; have b := hP.2.1.1; omega)).1, (o12 p 9 (tp).2.1).2]
            refine cl_G_gi rfl (cl_T_K t21) rfl rfl rfl ?_
            have r34 : I18 p 9 = I p 9 := by rw [(x18a p 9 (cl_T_x (E := E) tp hP12.2.1).2.1 (by have a := tp.2.1; have b := hP.2.1.1; omega)).1, (o12 p 9 (tp).2.1).2]
            have r35 : I18 p 2 = I p 2 := by rw [(x18a p 2 (cl_T_x (E := E) tp hP12.2.1).2.1 (by have a := tp.2.1; have b := hP.2.1.1; omega)).1, (o12 p 2 (tp).2.1).2]
            refine yi_G_callv rfl rfl (cl_rcv t18 rfl) rfl (k_resize d (by omega) hP26.1 t18 (by omega)) ?_
            rintro _ ⟨I33, L33, R33, Y33, nc33, ns33, rfl, hQ33, ca33, cb33, x33a, x33b, x33c, x33d⟩
            have hP33 := cl_P_t hP26 hQ33
            have t36 := cl_T_x t21 hQ33.2.1
            have t37 := cl_T_x t22 hQ33.2.1
            have n38 := (cl_T_n t22 hQ33.2.1).trans n23
            have t39 := cl_T_x t18 hQ33.2.1
            show yi_G zi_Ms d zi_m307 (62, [(5, .inr (.inr (some e12x))), (0, .inr (.inr (some p))), (1, .inl x), (2, .inl y), (3, .inl v), (4, .inl w)], [], (I33, L33, R33, Y33), 0 + 1 + nc18 + nc33, 0 + 2 + ns18 + ns33) _
            refine yi_G_run 1 (64, [(5, .inr (.inr (some e12x))), (0, .inr (.inr (some p))), (1, .inl x), (2, .inl y), (3, .inl v), (4, .inl w)], [.inr (.inr (some e12x))], (I33, L33, R33, Y33), 0 + 1 + nc18 + nc33, 0 + 2 + ns18 + ns33) (fun _ => rfl) ?_
            have r41 : I33 p 9 = I p 9 := by rw [(x33c p 9 (cl_T_x tp hP26.2.1).2.1 (cl_ne (cl_T_x tp hP26.2.1) t18 (by decide))).1, (x18a p 9 (cl_T_x (E := E) tp hP12.2.1).2.1 (by have a := tp.2.1; have b := hP.2.1.1; omega)).1, (o12 p 9 (tp).2.1).2]
            have r42 : I33 p 2 = I p 2 := by rw [(x33c p 2 (cl_T_x tp hP26.2.1).2.1 (cl_ne (cl_T_x tp hP26.2.1) t18 (by decide))).1, (x18a p 2 (cl_T_x (E := E) tp hP12.2.1).2.1 (by have a := tp.2.1; have b := hP.2.1.1; omega)).1, (o12 p 2 (tp).2.1).2]
            refine yi_G_callv rfl rfl (cl_rcv t39 rfl) rfl (k_clear d (by omega) hP33.1 t39 ) ?_
            rintro _ ⟨L40, rfl, hQ40⟩
            have hP40 := cl_P_t hP33 hQ40
            show yi_G zi_Ms d zi_m307 (67, [(5, .inr (.inr (some e12x))), (0, .inr (.inr (some p))), (1, .inl x), (2, .inl y), (3, .inl v), (4, .inl w)], [], (I33, L40, R33, Y33), 0 + 1 + nc18 + nc33, 0 + 2 + ns18 + ns33) _
            refine yi_G_run 2 (70, [(6, .inl y), (5, .inr (.inr (some e12x))), (0, .inr (.inr (some p))), (1, .inl x), (2, .inl y), (3, .inl v), (4, .inl w)], [], (I33, L40, R33, Y33), 0 + 1 + nc18 + nc33, 0 + 2 + ns18 + ns33) (fun _ => rfl) ?_
            have pt70 : ∀ (m_ : Nat) (j : Int) (Lp70 : cl_I), (cl_P E I L R Y I33 Lp70 R33 Y33) → (0 ≤ j ∧ j ≤ 163845) → (163845 - j).toNat = m_ → yi_G zi_Ms d zi_m307 (70, [(6, .inl j), (5, .inr (.inr (some e12x))), (0, .inr (.inr (some p))), (1, .inl x), (2, .inl y), (3, .inl v), (4, .inl w)], [], (I33, Lp70, R33, Y33), 0 + 1 + nc18 + nc33, 0 + 2 + ns18 + ns33) (fun r => ∃ I', ∃ L', ∃ R', ∃ Y', ∃ nc ns, r = (none, (I', L', R', Y'), nc, ns) ∧ cl_P E I L R Y I' L' R' Y' ∧ nc ≤ 3 ∧ ns ≤ 3 + (max (I p 9) 1).toNat ∧ (v ≤ 0 → nc = 0 ∧ ns = 0) ∧ (∀ q k, cl_T E Y q 4 → I' q k = I q k)) := by
              intro m70
              induction m70 using Nat.strongRecOn with
              | _ m70 ih70 =>
              intro j Lp70 hPp70 j0 hm70
              refine yi_G_run 2 (73, [(6, .inl j), (5, .inr (.inr (some e12x))), (0, .inr (.inr (some p))), (1, .inl x), (2, .inl y), (3, .inl v), (4, .inl w)], [.inr (.inr (some p)), .inl j], (I33, Lp70, R33, Y33), 0 + 1 + nc18 + nc33, 0 + 2 + ns18 + ns33) (fun _ => rfl) ?_
              have b43 := cl_rd hPp70.1 t36 (k := 2) (lo := 1) (hi := 32769) rfl
              have r44 : I33 p 2 = I p 2 := by rw [(x33c p 2 (cl_T_x tp hP26.2.1).2.1 (cl_ne (cl_T_x tp hP26.2.1) t18 (by decide))).1, (x18a p 2 (cl_T_x (E := E) tp hP12.2.1).2.1 (by have a := tp.2.1; have b := hP.2.1.1; omega)).1, (o12 p 2 (tp).2.1).2]
              refine cl_G_gi rfl (cl_T_K t36) rfl rfl rfl ?_
              by_cases h45 : (I33 p 2) ≤ j
              · refine yi_G_if2 true rfl (yi_ge_t h45) ?_
                exact yi_G_retv rfl rfl (⟨_, _, _, _, _, _, rfl, hPp70, by omega, by omega, by omega, (fun q k tq => by rw [(x33c q k (cl_T_x tq hP26.2.1).2.1 (cl_ne (cl_T_x tq hP26.2.1) t18 (by decide))).1, (x18a q k (cl_T_x (E := E) tq hP12.2.1).2.1 (by have a := tq.2.1; have b := hP.2.1.1; omega)).1, (o12 q k (cl_T_x tq hP.2.1).2.1).2])⟩)
              · refine yi_G_if2 false rfl (yi_ge_f h45) ?_
                refine yi_G_run 4 (86, [(6, .inl j), (5, .inr (.inr (some e12x))), (0, .inr (.inr (some p))), (1, .inl x), (2, .inl y), (3, .inl v), (4, .inl w)], [.inl v, .inl j, .inl j, .inr (.inr (some e12x))], (I33, Lp70, R33, Y33), 0 + 1 + nc18 + nc33, 0 + 2 + ns18 + ns33) (fun _ => rfl) ?_
                refine yi_G_iadd rfl (j + v) (yi_wn (by omega) (by omega)) ?_
                have r47 : I33 p 9 = I p 9 := by rw [(x33c p 9 (cl_T_x tp hP26.2.1).2.1 (cl_ne (cl_T_x tp hP26.2.1) t18 (by decide))).1, (x18a p 9 (cl_T_x (E := E) tp hP12.2.1).2.1 (by have a := tp.2.1; have b := hP.2.1.1; omega)).1, (o12 p 9 (tp).2.1).2]
                have r48 : I33 p 2 = I p 2 := by rw [(x33c p 2 (cl_T_x tp hP26.2.1).2.1 (cl_ne (cl_T_x tp hP26.2.1) t18 (by decide))).1, (x18a p 2 (cl_T_x (E := E) tp hP12.2.1).2.1 (by have a := tp.2.1; have b := hP.2.1.1; omega)).1, (o12 p 2 (tp).2.1).2]
                refine yi_G_callv rfl rfl (cl_rcv t39 rfl) rfl (k_addRange d (by omega) hPp70.1 t39 (by omega)) ?_
                rintro _ ⟨L46, rfl, hQ46⟩
                have hP46 := cl_P_t hPp70 hQ46
                show yi_G zi_Ms d zi_m307 (90, [(6, .inl j), (5, .inr (.inr (some e12x))), (0, .inr (.inr (some p))), (1, .inl x), (2, .inl y), (3, .inl v), (4, .inl w)], [], (I33, L46, R33, Y33), 0 + 1 + nc18 + nc33, 0 + 2 + ns18 + ns33) _
                refine yi_G_run 2 (94, [(6, .inl j), (5, .inr (.inr (some e12x))), (0, .inr (.inr (some p))), (1, .inl x), (2, .inl y), (3, .inl v), (4, .inl w)], [.inl w, .inl j], (I33, L46, R33, Y33), 0 + 1 + nc18 + nc33, 0 + 2 + ns18 + ns33) (fun _ => rfl) ?_
                refine yi_G_iadd rfl (j + w) (yi_wn (by omega) (by omega)) ?_
                refine yi_G_run 2 (70, [(6, .inl (j + w)), (5, .inr (.inr (some e12x))), (0, .inr (.inr (some p))), (1, .inl x), (2, .inl y), (3, .inl v), (4, .inl w)], [], (I33, L46, R33, Y33), 0 + 1 + nc18 + nc33, 0 + 2 + ns18 + ns33) (fun _ => rfl) ?_
                have r49 : I33 p 9 = I p 9 := by rw [(x33c p 9 (cl_T_x tp hP26.2.1).2.1 (cl_ne (cl_T_x tp hP26.2.1) t18 (by decide))).1, (x18a p 9 (cl_T_x (E := E) tp hP12.2.1).2.1 (by have a := tp.2.1; have b := hP.2.1.1; omega)).1, (o12 p 9 (tp).2.1).2]
                have r50 : I33 p 2 = I p 2 := by rw [(x33c p 2 (cl_T_x tp hP26.2.1).2.1 (cl_ne (cl_T_x tp hP26.2.1) t18 (by decide))).1, (x18a p 2 (cl_T_x (E := E) tp hP12.2.1).2.1 (by have a := tp.2.1; have b := hP.2.1.1; omega)).1, (o12 p 2 (tp).2.1).2]
                exact ih70 _ (by omega) (j + w) L46 hP46 (by omega) rfl
            have r51 : I33 p 9 = I p 9 := by rw [(x33c p 9 (cl_T_x tp hP26.2.1).2.1 (cl_ne (cl_T_x tp hP26.2.1) t18 (by decide))).1, (x18a p 9 (cl_T_x (E := E) tp hP12.2.1).2.1 (by have a := tp.2.1; have b := hP.2.1.1; omega)).1, (o12 p 9 (tp).2.1).2]
            have r52 : I33 p 2 = I p 2 := by rw [(x33c p 2 (cl_T_x tp hP26.2.1).2.1 (cl_ne (cl_T_x tp hP26.2.1) t18 (by decide))).1, (x18a p 2 (cl_T_x (E := E) tp hP12.2.1).2.1 (by have a := tp.2.1; have b := hP.2.1.1; omega)).1, (o12 p 2 (tp).2.1).2]
            exact pt70 _ y L40 hP40 (by omega) rfl
          · refine cl_G_aald rfl t4 (by omega) (by omega) (by omega) e10 ?_
            refine yi_G_run 2 (33, [(5, .inr (.inr (some q9))), (0, .inr (.inr (some p))), (1, .inl x), (2, .inl y), (3, .inl v), (4, .inl w)], [.inr (.inr (some q9))], (I, L, R, Y), 0, 0) (fun _ => rfl) ?_
            refine cl_G_nnl false rfl rfl ?_
            refine yi_G_run 2 (56, [(5, .inr (.inr (some q9))), (0, .inr (.inr (some p))), (1, .inl x), (2, .inl y), (3, .inl v), (4, .inl w)], [.inr (.inr (some p)), .inr (.inr (some q9))], (I, L, R, Y), 0, 0) (fun _ => rfl) ?_
            have b53 := cl_rd hP.1 tp (k := 9) (lo := 1) (hi := 513) rfl
            refine cl_G_gi rfl (cl_T_K tp) rfl rfl rfl ?_
            refine yi_G_callv rfl rfl (cl_rcv t11 rfl) rfl (k_resize d (by omega) hP.1 t11 (by omega)) ?_
            rintro _ ⟨I54, L54, R54, Y54, nc54, ns54, rfl, hQ54, ca54, cb54, x54a, x54b, x54c, x54d⟩
            have hP54 := cl_P_t hP hQ54
            have t55 := cl_T_x tp hQ54.2.1
            have t56 := cl_T_x t4 hQ54.2.1
            have n57 := (cl_T_n t4 hQ54.2.1).trans n5
            have t58 := cl_T_x t11 hQ54.2.1
            show yi_G zi_Ms d zi_m307 (62, [(5, .inr (.inr (some q9))), (0, .inr (.inr (some p))), (1, .inl x), (2, .inl y), (3, .inl v), (4, .inl w)], [], (I54, L54, R54, Y54), 0 + nc54, 0 + ns54) _
            refine yi_G_run 1 (64, [(5, .inr (.inr (some q9))), (0, .inr (.inr (some p))), (1, .inl x), (2, .inl y), (3, .inl v), (4, .inl w)], [.inr (.inr (some q9))], (I54, L54, R54, Y54), 0 + nc54, 0 + ns54) (fun _ => rfl) ?_
            have r60 : I54 p 9 = I p 9 := by rw [(x54c p 9 (cl_T_x tp hP.2.1).2.1 (cl_ne (cl_T_x tp hP.2.1) t11 (by decide))).1]
            have r61 : I54 p 2 = I p 2 := by rw [(x54c p 2 (cl_T_x tp hP.2.1).2.1 (cl_ne (cl_T_x tp hP.2.1) t11 (by decide))).1]
            refine yi_G_callv rfl rfl (cl_rcv t58 rfl) rfl (k_clear d (by omega) hP54.1 t58 ) ?_
            rintro _ ⟨L59, rfl, hQ59⟩
            have hP59 := cl_P_t hP54 hQ59
            show yi_G zi_Ms d zi_m307 (67, [(5, .inr (.inr (some q9))), (0, .inr (.inr (some p))), (1, .inl x), (2, .inl y), (3, .inl v), (4, .inl w)], [], (I54, L59, R54, Y54), 0 + nc54, 0 + ns54) _
            refine yi_G_run 2 (70, [(6, .inl y), (5, .inr (.inr (some q9))), (0, .inr (.inr (some p))), (1, .inl x), (2, .inl y), (3, .inl v), (4, .inl w)], [], (I54, L59, R54, Y54), 0 + nc54, 0 + ns54) (fun _ => rfl) ?_
            have pt70 : ∀ (m_ : Nat) (j : Int) (Lp70 : cl_I), (cl_P E I L R Y I54 Lp70 R54 Y54) → (0 ≤ j ∧ j ≤ 163845) → (163845 - j).toNat = m_ → yi_G zi_Ms d zi_m307 (70, [(6, .inl j), (5, .inr (.inr (some q9))), (0, .inr (.inr (some p))), (1, .inl x), (2, .inl y), (3, .inl v), (4, .inl w)], [], (I54, Lp70, R54, Y54), 0 + nc54, 0 + ns54) (fun r => ∃ I', ∃ L', ∃ R', ∃ Y', ∃ nc ns, r = (none, (I', L', R', Y'), nc, ns) ∧ cl_P E I L R Y I' L' R' Y' ∧ nc ≤ 3 ∧ ns ≤ 3 + (max (I p 9) 1).toNat ∧ (v ≤ 0 → nc = 0 ∧ ns = 0) ∧ (∀ q k, cl_T E Y q 4 → I' q k = I q k)) := by
              intro m70
              induction m70 using Nat.strongRecOn with
              | _ m70 ih70 =>
              intro j Lp70 hPp70 j0 hm70
              refine yi_G_run 2 (73, [(6, .inl j), (5, .inr (.inr (some q9))), (0, .inr (.inr (some p))), (1, .inl x), (2, .inl y), (3, .inl v), (4, .inl w)], [.inr (.inr (some p)), .inl j], (I54, Lp70, R54, Y54), 0 + nc54, 0 + ns54) (fun _ => rfl) ?_
              have b62 := cl_rd hPp70.1 t55 (k := 2) (lo := 1) (hi := 32769) rfl
              have r63 : I54 p 2 = I p 2 := by rw [(x54c p 2 (cl_T_x tp hP.2.1).2.1 (cl_ne (cl_T_x tp hP.2.1) t11 (by decide))).1]
              refine cl_G_gi rfl (cl_T_K t55) rfl rfl rfl ?_
              by_cases h64 : (I54 p 2) ≤ j
              · refine yi_G_if2 true rfl (yi_ge_t h64) ?_
                exact yi_G_retv rfl rfl (⟨_, _, _, _, _, _, rfl, hPp70, by omega, by omega, by omega, (fun q k tq => by rw [(x54c q k (cl_T_x tq hP.2.1).2.1 (cl_ne (cl_T_x tq hP.2.1) t11 (by decide))).1])⟩)
              · refine yi_G_if2 false rfl (yi_ge_f h64) ?_
                refine yi_G_run 4 (86, [(6, .inl j), (5, .inr (.inr (some q9))), (0, .inr (.inr (some p))), (1, .inl x), (2, .inl y), (3, .inl v), (4, .inl w)], [.inl v, .inl j, .inl j, .inr (.inr (some q9))], (I54, Lp70, R54, Y54), 0 + nc54, 0 + ns54) (fun _ => rfl) ?_
                refine yi_G_iadd rfl (j + v) (yi_wn (by omega) (by omega)) ?_
                have r66 : I54 p 9 = I p 9 := by rw [(x54c p 9 (cl_T_x tp hP.2.1).2.1 (cl_ne (cl_T_x tp hP.2.1) t11 (by decide))).1]
                have r67 : I54 p 2 = I p 2 := by rw [(x54c p 2 (cl_T_x tp hP.2.1).2.1 (cl_ne (cl_T_x tp hP.2.1) t11 (by decide))).1]
                refine yi_G_callv rfl rfl (cl_rcv t58 rfl) rfl (k_addRange d (by omega) hPp70.1 t58 (by omega)) ?_
                rintro _ ⟨L65, rfl, hQ65⟩
                have hP65 := cl_P_t hPp70 hQ65
                show yi_G zi_Ms d zi_m307 (90, [(6, .inl j), (5, .inr (.inr (some q9))), (0, .inr (.inr (some p))), (1, .inl x), (2, .inl y), (3, .inl v), (4, .inl w)], [], (I54, L65, R54, Y54), 0 + nc54, 0 + ns54) _
                refine yi_G_run 2 (94, [(6, .inl j), (5, .inr (.inr (some q9))), (0, .inr (.inr (some p))), (1, .inl x), (2, .inl y), (3, .inl v), (4, .inl w)], [.inl w, .inl j], (I54, L65, R54, Y54), 0 + nc54, 0 + ns54) (fun _ => rfl) ?_
                refine yi_G_iadd rfl (j + w) (yi_wn (by omega) (by omega)) ?_
                refine yi_G_run 2 (70, [(6, .inl (j + w)), (5, .inr (.inr (some q9))), (0, .inr (.inr (some p))), (1, .inl x), (2, .inl y), (3, .inl v), (4, .inl w)], [], (I54, L65, R54, Y54), 0 + nc54, 0 + ns54) (fun _ => rfl) ?_
                have r68 : I54 p 9 = I p 9 := by rw [(x54c p 9 (cl_T_x tp hP.2.1).2.1 (cl_ne (cl_T_x tp hP.2.1) t11 (by decide))).1]
                have r69 : I54 p 2 = I p 2 := by rw [(x54c p 2 (cl_T_x tp hP.2.1).2.1 (cl_ne (cl_T_x tp hP.2.1) t11 (by decide))).1]
                exact ih70 _ (by omega) (j + w) L65 hP65 (by omega) rfl
            have r70 : I54 p 9 = I p 9 := by rw [(x54c p 9 (cl_T_x tp hP.2.1).2.1 (cl_ne (cl_T_x tp hP.2.1) t11 (by decide))).1]
            have r71 : I54 p 2 = I p 2 := by rw [(x54c p 2 (cl_T_x tp hP.2.1).2.1 (cl_ne (cl_T_x tp hP.2.1) t11 (by decide))).1]
            exact pt70 _ y L59 hP59 (by omega) rfl
        · refine yi_G_if1 false rfl (yi_gt_f h8) ?_
          exact yi_G_retv rfl rfl (⟨_, _, _, _, _, _, rfl, hP, by omega, by omega, by omega, (fun _ _ _ => rfl)⟩)
theorem k_buildWords0 (D : Nat) (hD : 3 ≤ D) {E : List Nat} {I L : cl_I} {R : cl_Rr} {Y : cl_Y} (hC : cl_C E I L R Y) {p : Nat} (tp : cl_T E Y p 4) : yi_E zi_Ms D 304 [.inr (.inr (some p)), .inl 0] (I, L, R, Y) (fun r => ∃ I', ∃ L', ∃ R', ∃ Y', ∃ nc ns, r = (none, (I', L', R', Y'), nc, ns) ∧ cl_P E I L R Y I' L' R' Y' ∧ nc ≤ 0 ∧ ns ≤ 0 ∧ (∀ q k, cl_T E Y q 4 → I' q k = I q k)) := by
  obtain ⟨d, rfl⟩ : ∃ d, D = d + 1 := ⟨D - 1, by omega⟩
  refine yi_E_of (M := zi_m304) rfl rfl ?_
  have hP : cl_P E I L R Y I L R Y := cl_P_r hC
  show yi_G zi_Ms d zi_m304 (0, [(0, .inr (.inr (some p))), (1, .inl 0)], [], (I, L, R, Y), 0, 0) _
  refine yi_G_run 1 (1, [(0, .inr (.inr (some p))), (1, .inl 0)], [.inr (.inr (some p))], (I, L, R, Y), 0, 0) (fun _ => rfl) ?_
  have b1 := cl_rd hP.1 tp (k := 2) (lo := 1) (hi := 32769) rfl
  refine cl_G_gi rfl (cl_T_K tp) rfl rfl rfl ?_
  refine yi_G_run 5 (9, [(3, .inl 1), (2, .inl (I p 2)), (0, .inr (.inr (some p))), (1, .inl 0)], [.inr (.inr (some p)), .inl 1], (I, L, R, Y), 0, 0) (fun _ => rfl) ?_
  have b2 := cl_rd hP.1 tp (k := 7) (lo := 1) (hi := 6) rfl
  refine cl_G_gi rfl (cl_T_K tp) rfl rfl rfl ?_
  by_cases h3 : (I p 7) < 1
  · refine yi_G_if2 true rfl (yi_gt_t h3) ?_
    exact yi_G_retv rfl rfl (⟨_, _, _, _, _, _, rfl, hP, by omega, by omega, (fun _ _ _ => rfl)⟩)
  · refine yi_G_if2 false rfl (yi_gt_f h3) ?_
    refine yi_G_run 1 (16, [(3, .inl 1), (2, .inl (I p 2)), (0, .inr (.inr (some p))), (1, .inl 0)], [.inl 0], (I, L, R, Y), 0, 0) (fun _ => rfl) ?_
    refine yi_G_if1 true rfl (by decide) ?_
    exact yi_G_retv rfl rfl (⟨_, _, _, _, _, _, rfl, hP, by omega, by omega, (fun _ _ _ => rfl)⟩)
theorem k_buildWords1 (D : Nat) (hD : 4 ≤ D) {E : List Nat} {I L : cl_I} {R : cl_Rr} {Y : cl_Y} (hC : cl_C E I L R Y) {p : Nat} (tp : cl_T E Y p 4) (hl : I p 9 ≤ 1) : yi_E zi_Ms D 304 [.inr (.inr (some p)), .inl 1] (I, L, R, Y) (fun r => ∃ I', ∃ L', ∃ R', ∃ Y', ∃ nc ns, r = (none, (I', L', R', Y'), nc, ns) ∧ cl_P E I L R Y I' L' R' Y' ∧ nc ≤ 72 ∧ ns ≤ 96 ∧ (∀ q k, cl_T E Y q 4 → I' q k = I q k)) := by
  obtain ⟨d, rfl⟩ : ∃ d, D = d + 1 := ⟨D - 1, by omega⟩
  refine yi_E_of (M := zi_m304) rfl rfl ?_
  have hP : cl_P E I L R Y I L R Y := cl_P_r hC
  show yi_G zi_Ms d zi_m304 (0, [(0, .inr (.inr (some p))), (1, .inl 1)], [], (I, L, R, Y), 0, 0) _
  refine yi_G_run 1 (1, [(0, .inr (.inr (some p))), (1, .inl 1)], [.inr (.inr (some p))], (I, L, R, Y), 0, 0) (fun _ => rfl) ?_
  have b1 := cl_rd hP.1 tp (k := 2) (lo := 1) (hi := 32769) rfl
  refine cl_G_gi rfl (cl_T_K tp) rfl rfl rfl ?_
  refine yi_G_run 3 (7, [(3, .inl 1), (2, .inl (I p 2)), (0, .inr (.inr (some p))), (1, .inl 1)], [], (I, L, R, Y), 0, 0) (fun _ => rfl) ?_
  have pt7 : ∀ (m_ : Nat) (dy : Int) (bl : Int) (Ip7 : cl_I) (Lp7 : cl_I) (Rp7 : cl_Rr) (Yp7 : cl_Y) (ncp7 : Nat) (nsp7 : Nat), (cl_P E I L R Y Ip7 Lp7 Rp7 Yp7) → (cl_T E Yp7 p 4) → (1 ≤ dy ∧ dy ≤ 7) → (0 ≤ bl ∧ bl ≤ 32769) → ((ncp7 : Int) ≤ 12 * (dy - 1)) → (∀ q k, cl_T E Y q 4 → Ip7 q k = I q k) → ((nsp7 : Int) ≤ 16 * (dy - 1)) → (7 - dy).toNat = m_ → yi_G zi_Ms d zi_m304 (7, [(3, .inl dy), (2, .inl bl), (0, .inr (.inr (some p))), (1, .inl 1)], [], (Ip7, Lp7, Rp7, Yp7), ncp7, nsp7) (fun r => ∃ I', ∃ L', ∃ R', ∃ Y', ∃ nc ns, r = (none, (I', L', R', Y'), nc, ns) ∧ cl_P E I L R Y I' L' R' Y' ∧ nc ≤ 72 ∧ ns ≤ 96 ∧ (∀ q k, cl_T E Y q 4 → I' q k = I q k)) := by
    intro m7
    induction m7 using Nat.strongRecOn with
    | _ m7 ih7 =>
    intro dy bl Ip7 Lp7 Rp7 Yp7 ncp7 nsp7 hPp7 tpp7 dy0 bl0 nc7 kw7 rm7 hm7
    refine yi_G_run 2 (9, [(3, .inl dy), (2, .inl bl), (0, .inr (.inr (some p))), (1, .inl 1)], [.inr (.inr (some p)), .inl dy], (Ip7, Lp7, Rp7, Yp7), ncp7, nsp7) (fun _ => rfl) ?_
    have b2 := cl_rd hPp7.1 tpp7 (k := 7) (lo := 1) (hi := 6) rfl
    have r3 : Ip7 p 7 = I p 7 := by rw [kw7 p 7 tp]
    refine cl_G_gi rfl (cl_T_K tpp7) rfl rfl rfl ?_
    by_cases h4 : (Ip7 p 7) < dy
    · refine yi_G_if2 true rfl (yi_gt_t h4) ?_
      exact yi_G_retv rfl rfl (⟨_, _, _, _, _, _, rfl, hPp7, by omega, by omega, (fun q k tq => by rw [kw7 q k tq])⟩)
    · refine yi_G_if2 false rfl (yi_gt_f h4) ?_
      refine yi_G_run 1 (16, [(3, .inl dy), (2, .inl bl), (0, .inr (.inr (some p))), (1, .inl 1)], [.inl 1], (Ip7, Lp7, Rp7, Yp7), ncp7, nsp7) (fun _ => rfl) ?_
      refine yi_G_if1 false rfl (by decide) ?_
      refine yi_G_run 2 (22, [(4, .inl 0), (3, .inl dy), (2, .inl bl), (0, .inr (.inr (some p))), (1, .inl 1)], [], (Ip7, Lp7, Rp7, Yp7), ncp7, nsp7) (fun _ => rfl) ?_
      have pt22 : ∀ (m_ : Nat) (pe : Int) (bm : Int) (Ip22 : cl_I) (Lp22 : cl_I) (Rp22 : cl_Rr) (Yp22 : cl_Y) (ncp22 : Nat) (nsp22 : Nat), (cl_P E I L R Y Ip22 Lp22 Rp22 Yp22) → (cl_T E Yp22 p 4) → (0 ≤ pe ∧ pe ≤ 4) → (0 ≤ bm ∧ bm ≤ 32769) → ((ncp22 : Int) ≤ 12 * (dy - 1) + 3 * pe) → (∀ q k, cl_T E Y q 4 → Ip22 q k = I q k) → ((nsp22 : Int) ≤ 16 * (dy - 1) + 4 * pe) → (4 - pe).toNat = m_ → yi_G zi_Ms d zi_m304 (22, [(4, .inl pe), (3, .inl dy), (2, .inl bm), (0, .inr (.inr (some p))), (1, .inl 1)], [], (Ip22, Lp22, Rp22, Yp22), ncp22, nsp22) (fun r => ∃ I', ∃ L', ∃ R', ∃ Y', ∃ nc ns, r = (none, (I', L', R', Y'), nc, ns) ∧ cl_P E I L R Y I' L' R' Y' ∧ nc ≤ 72 ∧ ns ≤ 96 ∧ (∀ q k, cl_T E Y q 4 → I' q k = I q k)) := by
        intro m22
        induction m22 using Nat.strongRecOn with
        | _ m22 ih22 =>
        intro pe bm Ip22 Lp22 Rp22 Yp22 ncp22 nsp22 hPp22 tpp22 pe0 bm0 nc22 kw22 rm22 hm22
        refine yi_G_run 2 (25, [(4, .inl pe), (3, .inl dy), (2, .inl bm), (0, .inr (.inr (some p))), (1, .inl 1)], [.inr (.inr (some p)), .inl pe], (Ip22, Lp22, Rp22, Yp22), ncp22, nsp22) (fun _ => rfl) ?_
        have b5 := cl_rd hPp22.1 tpp22 (k := 8) (lo := 0) (hi := 4) rfl
        have r6 : Ip22 p 8 = I p 8 := by rw [kw22 p 8 tp]
        refine cl_G_gi rfl (cl_T_K tpp22) rfl rfl rfl ?_
        by_cases h7 : (Ip22 p 8) ≤ pe
        · refine yi_G_if2 true rfl (yi_ge_t h7) ?_
          refine yi_G_iinc [(3, .inl (dy + 1)), (4, .inl pe), (2, .inl bm), (0, .inr (.inr (some p))), (1, .inl 1)] rfl rfl rfl (by rw [show yi_w (dy + 1) = dy + 1 from (yi_wn (by omega) (by omega)).trans (by omega)]; rfl) ?_
          refine yi_G_run 1 (7, [(3, .inl (dy + 1)), (4, .inl pe), (2, .inl bm), (0, .inr (.inr (some p))), (1, .inl 1)], [], (Ip22, Lp22, Rp22, Yp22), ncp22, nsp22) (fun _ => rfl) ?_
          have r8 : Ip22 p 9 = I p 9 := by rw [kw22 p 9 tp]
          have r9 : Ip22 p 2 = I p 2 := by rw [kw22 p 2 tp]
          refine yi_G_al (al := [(3, .inl (dy + 1)), (2, .inl bm), (0, .inr (.inr (some p))), (1, .inl 1)]) (show ([3, 2, 0, 1] : List Nat).Nodup by decide) (show ([3, 4, 2, 0, 1] : List Nat).Nodup by decide) (yi_mc (List.mem_of_getElem? (i := 0) rfl) (yi_mc (List.mem_of_getElem? (i := 2) rfl) (yi_mc (List.mem_of_getElem? (i := 3) rfl) (yi_mc (List.mem_of_getElem? (i := 4) rfl) yi_mn)))) ?_
          exact ih7 _ (by omega) (dy + 1) bm Ip22 Lp22 Rp22 Yp22 (ncp22) (nsp22) hPp22 tpp22 (by omega) (by omega) (by omega) (fun q k tq => by rw [kw22 q k tq]) (by omega) rfl
        · refine yi_G_if2 false rfl (yi_ge_f h7) ?_
          refine yi_G_run 2 (33, [(4, .inl pe), (3, .inl dy), (2, .inl bm), (0, .inr (.inr (some p))), (1, .inl 1)], [.inl 1, .inl bm], (Ip22, Lp22, Rp22, Yp22), ncp22, nsp22) (fun _ => rfl) ?_
          refine yi_G_idiv rfl (by decide) (bm / 1) (yi_dv (by omega) rfl (by omega) (by omega)) ?_
          refine yi_G_run 3 (38, [(5, .inl 0), (2, .inl (bm / 1)), (4, .inl pe), (3, .inl dy), (0, .inr (.inr (some p))), (1, .inl 1)], [], (Ip22, Lp22, Rp22, Yp22), ncp22, nsp22) (fun _ => rfl) ?_
          have pt38 : ∀ (m_ : Nat) (ev : Int) (bn : Int) (Ip38 : cl_I) (Lp38 : cl_I) (Rp38 : cl_Rr) (Yp38 : cl_Y) (ncp38 : Nat) (nsp38 : Nat), (cl_P E I L R Y Ip38 Lp38 Rp38 Yp38) → (cl_T E Yp38 p 4) → (0 ≤ ev ∧ ev ≤ 1) → (0 ≤ bn ∧ bn ≤ 32769) → ((ncp38 : Int) ≤ 12 * (dy - 1) + 3 * pe + 3 * ev) → (∀ q k, cl_T E Y q 4 → Ip38 q k = I q k) → ((nsp38 : Int) ≤ 16 * (dy - 1) + 4 * pe + 4 * ev) → (1 - ev).toNat = m_ → yi_G zi_Ms d zi_m304 (38, [(5, .inl ev), (2, .inl bn), (4, .inl pe), (3, .inl dy), (0, .inr (.inr (some p))), (1, .inl 1)], [], (Ip38, Lp38, Rp38, Yp38), ncp38, nsp38) (fun r => ∃ I', ∃ L', ∃ R', ∃ Y', ∃ nc ns, r = (none, (I', L', R', Y'), nc, ns) ∧ cl_P E I L R Y I' L' R' Y' ∧ nc ≤ 72 ∧ ns ≤ 96 ∧ (∀ q k, cl_T E Y q 4 → I' q k = I q k)) := by
            intro m38
            induction m38 using Nat.strongRecOn with
            | _ m38 ih38 =>
            intro ev bn Ip38 Lp38 Rp38 Yp38 ncp38 nsp38 hPp38 tpp38 ev0 bn0 nc38 kw38 rm38 hm38
            have l9 := cl_rd hPp38.1 tpp38 (k := 9) (lo := 1) (hi := 513) rfl
            refine yi_G_run 2 (41, [(5, .inl ev), (2, .inl bn), (4, .inl pe), (3, .inl dy), (0, .inr (.inr (some p))), (1, .inl 1)], [.inl 1, .inl ev], (Ip38, Lp38, Rp38, Yp38), ncp38, nsp38) (fun _ => rfl) ?_
            by_cases h10 : 1 ≤ ev
            · refine yi_G_if2 true rfl (yi_ge_t h10) ?_
              refine yi_G_iinc [(4, .inl (pe + 1)), (5, .inl ev), (2, .inl bn), (3, .inl dy), (0, .inr (.inr (some p))), (1, .inl 1)] rfl rfl rfl (by rw [show yi_w (pe + 1) = pe + 1 from (yi_wn (by omega) (by omega)).trans (by omega)]; rfl) ?_
              refine yi_G_run 1 (22, [(4, .inl (pe + 1)), (5, .inl ev), (2, .inl bn), (3, .inl dy), (0, .inr (.inr (some p))), (1, .inl 1)], [], (Ip38, Lp38, Rp38, Yp38), ncp38, nsp38) (fun _ => rfl) ?_
              have r11 : Ip38 p 9 = I p 9 := by rw [kw38 p 9 tp]
              have r12 : Ip38 p 2 = I p 2 := by rw [kw38 p 2 tp]
              refine yi_G_al (al := [(4, .inl (pe + 1)), (3, .inl dy), (2, .inl bn), (0, .inr (.inr (some p))), (1, .inl 1)]) (show ([4, 3, 2, 0, 1] : List Nat).Nodup by decide) (show ([4, 5, 2, 3, 0, 1] : List Nat).Nodup by decide) (yi_mc (List.mem_of_getElem? (i := 0) rfl) (yi_mc (List.mem_of_getElem? (i := 3) rfl) (yi_mc (List.mem_of_getElem? (i := 2) rfl) (yi_mc (List.mem_of_getElem? (i := 4) rfl) (yi_mc (List.mem_of_getElem? (i := 5) rfl) yi_mn))))) ?_
              exact ih22 _ (by omega) (pe + 1) bn Ip38 Lp38 Rp38 Yp38 (ncp38) (nsp38) hPp38 tpp38 (by omega) (by omega) (by omega) (fun q k tq => by rw [kw38 q k tq]) (by omega) rfl
            · refine yi_G_if2 false rfl (yi_ge_f h10) ?_
              refine yi_G_run 4 (50, [(5, .inl ev), (2, .inl bn), (4, .inl pe), (3, .inl dy), (0, .inr (.inr (some p))), (1, .inl 1)], [.inl ev, .inl dy, .inl pe, .inr (.inr (some p))], (Ip38, Lp38, Rp38, Yp38), ncp38, nsp38) (fun _ => rfl) ?_
              have r14 : Ip38 p 9 = I p 9 := by rw [kw38 p 9 tp]
              have r15 : Ip38 p 2 = I p 2 := by rw [kw38 p 2 tp]
              refine yi_G_calls rfl rfl (k_wordNumber d (by omega) hPp38.1  ) ?_
              rintro _ ⟨z13, rfl⟩
              show yi_G zi_Ms d zi_m304 (53, [(5, .inl ev), (2, .inl bn), (4, .inl pe), (3, .inl dy), (0, .inr (.inr (some p))), (1, .inl 1)], [.inl z13, .inr (.inr (some p))], (Ip38, Lp38, Rp38, Yp38), ncp38, nsp38) _
              refine yi_G_run 2 (56, [(5, .inl ev), (2, .inl bn), (4, .inl pe), (3, .inl dy), (0, .inr (.inr (some p))), (1, .inl 1)], [.inl bn, .inl ev, .inl z13, .inr (.inr (some p))], (Ip38, Lp38, Rp38, Yp38), ncp38, nsp38) (fun _ => rfl) ?_
              have mb16 := yi_mb (a := ev) (b := bn) (A := 4) (B := 32769) (by omega) (by omega) (by omega) (by omega)
              refine yi_G_imul rfl (ev * bn) (yi_wn (by omega) (by omega)) ?_
              refine yi_G_run 3 (60, [(5, .inl ev), (2, .inl bn), (4, .inl pe), (3, .inl dy), (0, .inr (.inr (some p))), (1, .inl 1)], [.inl 1, .inl bn, .inl bn, .inl (ev * bn), .inl z13, .inr (.inr (some p))], (Ip38, Lp38, Rp38, Yp38), ncp38, nsp38) (fun _ => rfl) ?_
              refine yi_G_imul rfl (bn * 1) (yi_wn (by omega) (by omega)) ?_
              have r18 : Ip38 p 9 = I p 9 := by rw [kw38 p 9 tp]
              have r19 : Ip38 p 2 = I p 2 := by rw [kw38 p 2 tp]
              refine yi_G_callv rfl rfl (cl_rcv tpp38 rfl) rfl (k_fillBlocks d (by omega) hPp38.1 tpp38 (by omega) (by omega) (by omega)) ?_
              rintro _ ⟨I17, L17, R17, Y17, nc17, ns17, rfl, hQ17, ca17, cb17, x17a, x17b⟩
              have hP17 := cl_P_t hPp38 hQ17
              have t20 := cl_T_x tpp38 hQ17.2.1
              show yi_G zi_Ms d zi_m304 (64, [(5, .inl ev), (2, .inl bn), (4, .inl pe), (3, .inl dy), (0, .inr (.inr (some p))), (1, .inl 1)], [], (I17, L17, R17, Y17), ncp38 + nc17, nsp38 + ns17) _
              refine yi_G_iinc [(5, .inl (ev + 1)), (2, .inl bn), (4, .inl pe), (3, .inl dy), (0, .inr (.inr (some p))), (1, .inl 1)] rfl rfl rfl (by rw [show yi_w (ev + 1) = ev + 1 from (yi_wn (by omega) (by omega)).trans (by omega)]; rfl) ?_
              refine yi_G_run 1 (38, [(5, .inl (ev + 1)), (2, .inl bn), (4, .inl pe), (3, .inl dy), (0, .inr (.inr (some p))), (1, .inl 1)], [], (I17, L17, R17, Y17), ncp38 + nc17, nsp38 + ns17) (fun _ => rfl) ?_
              have r21 : I17 p 9 = I p 9 := by rw [x17b p 9 (cl_T_x tp hPp38.2.1), kw38 p 9 tp]
              have r22 : I17 p 2 = I p 2 := by rw [x17b p 2 (cl_T_x tp hPp38.2.1), kw38 p 2 tp]
              exact ih38 _ (by omega) (ev + 1) bn I17 L17 R17 Y17 (ncp38 + nc17) (nsp38 + ns17) hP17 t20 (by omega) (by omega) (by omega) (fun q k tq => by rw [x17b q k (cl_T_x tq hPp38.2.1), kw38 q k tq]) (by omega) rfl
          have r23 : Ip22 p 9 = I p 9 := by rw [kw22 p 9 tp]
          have r24 : Ip22 p 2 = I p 2 := by rw [kw22 p 2 tp]
          exact pt38 _ 0 (bm / 1) Ip22 Lp22 Rp22 Yp22 (ncp22) (nsp22) hPp22 tpp22 (by omega) (by omega) (by omega) (fun q k tq => by rw [kw22 q k tq]) (by omega) rfl
      have r25 : Ip7 p 9 = I p 9 := by rw [kw7 p 9 tp]
      have r26 : Ip7 p 2 = I p 2 := by rw [kw7 p 2 tp]
      exact pt22 _ 0 bl Ip7 Lp7 Rp7 Yp7 (ncp7) (nsp7) hPp7 tpp7 (by omega) (by omega) (by omega) (fun q k tq => by rw [kw7 q k tq]) (by omega) rfl
  exact pt7 _ 1 (I p 2) I L R Y (0) (0) hP tp (by omega) (by omega) (by omega) (fun _ _ _ => rfl) (by omega) rfl
theorem k_buildWords2 (D : Nat) (hD : 4 ≤ D) {E : List Nat} {I L : cl_I} {R : cl_Rr} {Y : cl_Y} (hC : cl_C E I L R Y) {p : Nat} (tp : cl_T E Y p 4) : yi_E zi_Ms D 304 [.inr (.inr (some p)), .inl 2] (I, L, R, Y) (fun r => ∃ I', ∃ L', ∃ R', ∃ Y', ∃ nc ns, r = (none, (I', L', R', Y'), nc, ns) ∧ cl_P E I L R Y I' L' R' Y' ∧ nc ≤ 144 ∧ ns ≤ 15480 ∧ (∀ q k, cl_T E Y q 4 → I' q k = I q k)) := by
  obtain ⟨d, rfl⟩ : ∃ d, D = d + 1 := ⟨D - 1, by omega⟩
  refine yi_E_of (M := zi_m304) rfl rfl ?_
  have hP : cl_P E I L R Y I L R Y := cl_P_r hC
  have sT := cl_s2_b (I p 2)
  show yi_G zi_Ms d zi_m304 (0, [(0, .inr (.inr (some p))), (1, .inl 2)], [], (I, L, R, Y), 0, 0) _
  refine yi_G_run 1 (1, [(0, .inr (.inr (some p))), (1, .inl 2)], [.inr (.inr (some p))], (I, L, R, Y), 0, 0) (fun _ => rfl) ?_
  have b1 := cl_rd hP.1 tp (k := 2) (lo := 1) (hi := 32769) rfl
  refine cl_G_gi rfl (cl_T_K tp) rfl rfl rfl ?_
  refine yi_G_run 3 (7, [(3, .inl 1), (2, .inl (I p 2)), (0, .inr (.inr (some p))), (1, .inl 2)], [], (I, L, R, Y), 0, 0) (fun _ => rfl) ?_
  have pt7 : ∀ (m_ : Nat) (dy : Int) (bl : Int) (Ip7 : cl_I) (Lp7 : cl_I) (Rp7 : cl_Rr) (Yp7 : cl_Y) (ncp7 : Nat) (nsp7 : Nat), (cl_P E I L R Y Ip7 Lp7 Rp7 Yp7) → (cl_T E Yp7 p 4) → (1 ≤ dy ∧ dy ≤ 7) → (0 ≤ bl ∧ bl ≤ 32769) → ((ncp7 : Int) ≤ 24 * (dy - 1)) → (∀ q k, cl_T E Y q 4 → Ip7 q k = I q k) → (((nsp7 : Int) + 1032 * cl_s2 bl ≤ 15480)) → (7 - dy).toNat = m_ → yi_G zi_Ms d zi_m304 (7, [(3, .inl dy), (2, .inl bl), (0, .inr (.inr (some p))), (1, .inl 2)], [], (Ip7, Lp7, Rp7, Yp7), ncp7, nsp7) (fun r => ∃ I', ∃ L', ∃ R', ∃ Y', ∃ nc ns, r = (none, (I', L', R', Y'), nc, ns) ∧ cl_P E I L R Y I' L' R' Y' ∧ nc ≤ 144 ∧ ns ≤ 15480 ∧ (∀ q k, cl_T E Y q 4 → I' q k = I q k)) := by
    intro m7
    induction m7 using Nat.strongRecOn with
    | _ m7 ih7 =>
    intro dy bl Ip7 Lp7 Rp7 Yp7 ncp7 nsp7 hPp7 tpp7 dy0 bl0 nc7 kw7 rm7 hm7
    have sbl := cl_s2_b bl
    refine yi_G_run 2 (9, [(3, .inl dy), (2, .inl bl), (0, .inr (.inr (some p))), (1, .inl 2)], [.inr (.inr (some p)), .inl dy], (Ip7, Lp7, Rp7, Yp7), ncp7, nsp7) (fun _ => rfl) ?_
    have b2 := cl_rd hPp7.1 tpp7 (k := 7) (lo := 1) (hi := 6) rfl
    have r3 : Ip7 p 7 = I p 7 := by rw [kw7 p 7 tp]
    refine cl_G_gi rfl (cl_T_K tpp7) rfl rfl rfl ?_
    by_cases h4 : (Ip7 p 7) < dy
    · refine yi_G_if2 true rfl (yi_gt_t h4) ?_
      exact yi_G_retv rfl rfl (⟨_, _, _, _, _, _, rfl, hPp7, by omega, by omega, (fun q k tq => by rw [kw7 q k tq])⟩)
    · refine yi_G_if2 false rfl (yi_gt_f h4) ?_
      refine yi_G_run 1 (16, [(3, .inl dy), (2, .inl bl), (0, .inr (.inr (some p))), (1, .inl 2)], [.inl 2], (Ip7, Lp7, Rp7, Yp7), ncp7, nsp7) (fun _ => rfl) ?_
      refine yi_G_if1 false rfl (by decide) ?_
      refine yi_G_run 2 (22, [(4, .inl 0), (3, .inl dy), (2, .inl bl), (0, .inr (.inr (some p))), (1, .inl 2)], [], (Ip7, Lp7, Rp7, Yp7), ncp7, nsp7) (fun _ => rfl) ?_
      have pt22 : ∀ (m_ : Nat) (pe : Int) (bm : Int) (Ip22 : cl_I) (Lp22 : cl_I) (Rp22 : cl_Rr) (Yp22 : cl_Y) (ncp22 : Nat) (nsp22 : Nat), (cl_P E I L R Y Ip22 Lp22 Rp22 Yp22) → (cl_T E Yp22 p 4) → (0 ≤ pe ∧ pe ≤ 4) → (0 ≤ bm ∧ bm ≤ 32769) → ((ncp22 : Int) ≤ 24 * (dy - 1) + 6 * pe) → (∀ q k, cl_T E Y q 4 → Ip22 q k = I q k) → (((nsp22 : Int) + 1032 * cl_s2 bm ≤ 15480)) → (4 - pe).toNat = m_ → yi_G zi_Ms d zi_m304 (22, [(4, .inl pe), (3, .inl dy), (2, .inl bm), (0, .inr (.inr (some p))), (1, .inl 2)], [], (Ip22, Lp22, Rp22, Yp22), ncp22, nsp22) (fun r => ∃ I', ∃ L', ∃ R', ∃ Y', ∃ nc ns, r = (none, (I', L', R', Y'), nc, ns) ∧ cl_P E I L R Y I' L' R' Y' ∧ nc ≤ 144 ∧ ns ≤ 15480 ∧ (∀ q k, cl_T E Y q 4 → I' q k = I q k)) := by
        intro m22
        induction m22 using Nat.strongRecOn with
        | _ m22 ih22 =>
        intro pe bm Ip22 Lp22 Rp22 Yp22 ncp22 nsp22 hPp22 tpp22 pe0 bm0 nc22 kw22 rm22 hm22
        refine yi_G_run 2 (25, [(4, .inl pe), (3, .inl dy), (2, .inl bm), (0, .inr (.inr (some p))), (1, .inl 2)], [.inr (.inr (some p)), .inl pe], (Ip22, Lp22, Rp22, Yp22), ncp22, nsp22) (fun _ => rfl) ?_
        have b5 := cl_rd hPp22.1 tpp22 (k := 8) (lo := 0) (hi := 4) rfl
        have r6 : Ip22 p 8 = I p 8 := by rw [kw22 p 8 tp]
        refine cl_G_gi rfl (cl_T_K tpp22) rfl rfl rfl ?_
        by_cases h7 : (Ip22 p 8) ≤ pe
        · refine yi_G_if2 true rfl (yi_ge_t h7) ?_
          refine yi_G_iinc [(3, .inl (dy + 1)), (4, .inl pe), (2, .inl bm), (0, .inr (.inr (some p))), (1, .inl 2)] rfl rfl rfl (by rw [show yi_w (dy + 1) = dy + 1 from (yi_wn (by omega) (by omega)).trans (by omega)]; rfl) ?_
          refine yi_G_run 1 (7, [(3, .inl (dy + 1)), (4, .inl pe), (2, .inl bm), (0, .inr (.inr (some p))), (1, .inl 2)], [], (Ip22, Lp22, Rp22, Yp22), ncp22, nsp22) (fun _ => rfl) ?_
          have r8 : Ip22 p 9 = I p 9 := by rw [kw22 p 9 tp]
          have r9 : Ip22 p 2 = I p 2 := by rw [kw22 p 2 tp]
          refine yi_G_al (al := [(3, .inl (dy + 1)), (2, .inl bm), (0, .inr (.inr (some p))), (1, .inl 2)]) (show ([3, 2, 0, 1] : List Nat).Nodup by decide) (show ([3, 4, 2, 0, 1] : List Nat).Nodup by decide) (yi_mc (List.mem_of_getElem? (i := 0) rfl) (yi_mc (List.mem_of_getElem? (i := 2) rfl) (yi_mc (List.mem_of_getElem? (i := 3) rfl) (yi_mc (List.mem_of_getElem? (i := 4) rfl) yi_mn)))) ?_
          exact ih7 _ (by omega) (dy + 1) bm Ip22 Lp22 Rp22 Yp22 (ncp22) (nsp22) hPp22 tpp22 (by omega) (by omega) (by omega) (fun q k tq => by rw [kw22 q k tq]) (by omega) rfl
        · refine yi_G_if2 false rfl (yi_ge_f h7) ?_
          refine yi_G_run 2 (33, [(4, .inl pe), (3, .inl dy), (2, .inl bm), (0, .inr (.inr (some p))), (1, .inl 2)], [.inl 2, .inl bm], (Ip22, Lp22, Rp22, Yp22), ncp22, nsp22) (fun _ => rfl) ?_
          have sb0 := cl_s2_b bm
          have sb1 := cl_s2_b (bm / 2)
          have ss : 1 ≤ bm / 2 → cl_s2 bm = cl_s2 (bm / 2) + 1 := fun h => cl_s2_s h (by omega)
          have s0 : bm / 2 ≤ 0 → cl_s2 (bm / 2) = 0 := fun h => by unfold cl_s2; rw [if_pos (by omega)]
          refine yi_G_idiv rfl (by decide) (bm / 2) (yi_dv (by omega) rfl (by omega) (by omega)) ?_
          refine yi_G_run 3 (38, [(5, .inl 0), (2, .inl (bm / 2)), (4, .inl pe), (3, .inl dy), (0, .inr (.inr (some p))), (1, .inl 2)], [], (Ip22, Lp22, Rp22, Yp22), ncp22, nsp22) (fun _ => rfl) ?_
          have pt38 : ∀ (m_ : Nat) (ev : Int) (bn : Int) (Ip38 : cl_I) (Lp38 : cl_I) (Rp38 : cl_Rr) (Yp38 : cl_Y) (ncp38 : Nat) (nsp38 : Nat), (cl_P E I L R Y Ip38 Lp38 Rp38 Yp38) → (cl_T E Yp38 p 4) → (0 ≤ ev ∧ ev ≤ 2) → (0 ≤ bn ∧ bn ≤ 32769) → ((ncp38 : Int) ≤ 24 * (dy - 1) + 6 * pe + 3 * ev) → (∀ q k, cl_T E Y q 4 → Ip38 q k = I q k) → ((1 ≤ bn → (nsp38 : Int) + 516 * (2 - ev) + 1032 * cl_s2 bn ≤ 15480) ∧ (bn ≤ 0 → (nsp38 : Int) + 1032 * cl_s2 bn ≤ 15480)) → (2 - ev).toNat = m_ → yi_G zi_Ms d zi_m304 (38, [(5, .inl ev), (2, .inl bn), (4, .inl pe), (3, .inl dy), (0, .inr (.inr (some p))), (1, .inl 2)], [], (Ip38, Lp38, Rp38, Yp38), ncp38, nsp38) (fun r => ∃ I', ∃ L', ∃ R', ∃ Y', ∃ nc ns, r = (none, (I', L', R', Y'), nc, ns) ∧ cl_P E I L R Y I' L' R' Y' ∧ nc ≤ 144 ∧ ns ≤ 15480 ∧ (∀ q k, cl_T E Y q 4 → I' q k = I q k)) := by
            intro m38
            induction m38 using Nat.strongRecOn with
            | _ m38 ih38 =>
            intro ev bn Ip38 Lp38 Rp38 Yp38 ncp38 nsp38 hPp38 tpp38 ev0 bn0 nc38 kw38 rm38 hm38
            have l9 := cl_rd hPp38.1 tpp38 (k := 9) (lo := 1) (hi := 513) rfl
            refine yi_G_run 2 (41, [(5, .inl ev), (2, .inl bn), (4, .inl pe), (3, .inl dy), (0, .inr (.inr (some p))), (1, .inl 2)], [.inl 2, .inl ev], (Ip38, Lp38, Rp38, Yp38), ncp38, nsp38) (fun _ => rfl) ?_
            by_cases h10 : 2 ≤ ev
            · refine yi_G_if2 true rfl (yi_ge_t h10) ?_
              refine yi_G_iinc [(4, .inl (pe + 1)), (5, .inl ev), (2, .inl bn), (3, .inl dy), (0, .inr (.inr (some p))), (1, .inl 2)] rfl rfl rfl (by rw [show yi_w (pe + 1) = pe + 1 from (yi_wn (by omega) (by omega)).trans (by omega)]; rfl) ?_
              refine yi_G_run 1 (22, [(4, .inl (pe + 1)), (5, .inl ev), (2, .inl bn), (3, .inl dy), (0, .inr (.inr (some p))), (1, .inl 2)], [], (Ip38, Lp38, Rp38, Yp38), ncp38, nsp38) (fun _ => rfl) ?_
              have r11 : Ip38 p 9 = I p 9 := by rw [kw38 p 9 tp]
              have r12 : Ip38 p 2 = I p 2 := by rw [kw38 p 2 tp]
              refine yi_G_al (al := [(4, .inl (pe + 1)), (3, .inl dy), (2, .inl bn), (0, .inr (.inr (some p))), (1, .inl 2)]) (show ([4, 3, 2, 0, 1] : List Nat).Nodup by decide) (show ([4, 5, 2, 3, 0, 1] : List Nat).Nodup by decide) (yi_mc (List.mem_of_getElem? (i := 0) rfl) (yi_mc (List.mem_of_getElem? (i := 3) rfl) (yi_mc (List.mem_of_getElem? (i := 2) rfl) (yi_mc (List.mem_of_getElem? (i := 4) rfl) (yi_mc (List.mem_of_getElem? (i := 5) rfl) yi_mn))))) ?_
              exact ih22 _ (by omega) (pe + 1) bn Ip38 Lp38 Rp38 Yp38 (ncp38) (nsp38) hPp38 tpp38 (by omega) (by omega) (by omega) (fun q k tq => by rw [kw38 q k tq]) (by omega) rfl
            · refine yi_G_if2 false rfl (yi_ge_f h10) ?_
              refine yi_G_run 4 (50, [(5, .inl ev), (2, .inl bn), (4, .inl pe), (3, .inl dy), (0, .inr (.inr (some p))), (1, .inl 2)], [.inl ev, .inl dy, .inl pe, .inr (.inr (some p))], (Ip38, Lp38, Rp38, Yp38), ncp38, nsp38) (fun _ => rfl) ?_
              have r14 : Ip38 p 9 = I p 9 := by rw [kw38 p 9 tp]
              have r15 : Ip38 p 2 = I p 2 := by rw [kw38 p 2 tp]
              refine yi_G_calls rfl rfl (k_wordNumber d (by omega) hPp38.1  ) ?_
              rintro _ ⟨z13, rfl⟩
              show yi_G zi_Ms d zi_m304 (53, [(5, .inl ev), (2, .inl bn), (4, .inl pe), (3, .inl dy), (0, .inr (.inr (some p))), (1, .inl 2)], [.inl z13, .inr (.inr (some p))], (Ip38, Lp38, Rp38, Yp38), ncp38, nsp38) _
              refine yi_G_run 2 (56, [(5, .inl ev), (2, .inl bn), (4, .inl pe), (3, .inl dy), (0, .inr (.inr (some p))), (1, .inl 2)], [.inl bn, .inl ev, .inl z13, .inr (.inr (some p))], (Ip38, Lp38, Rp38, Yp38), ncp38, nsp38) (fun _ => rfl) ?_
              have mb16 := yi_mb (a := ev) (b := bn) (A := 4) (B := 32769) (by omega) (by omega) (by omega) (by omega)
              refine yi_G_imul rfl (ev * bn) (yi_wn (by omega) (by omega)) ?_
              refine yi_G_run 3 (60, [(5, .inl ev), (2, .inl bn), (4, .inl pe), (3, .inl dy), (0, .inr (.inr (some p))), (1, .inl 2)], [.inl 2, .inl bn, .inl bn, .inl (ev * bn), .inl z13, .inr (.inr (some p))], (Ip38, Lp38, Rp38, Yp38), ncp38, nsp38) (fun _ => rfl) ?_
              refine yi_G_imul rfl (bn * 2) (yi_wn (by omega) (by omega)) ?_
              have r18 : Ip38 p 9 = I p 9 := by rw [kw38 p 9 tp]
              have r19 : Ip38 p 2 = I p 2 := by rw [kw38 p 2 tp]
              refine yi_G_callv rfl rfl (cl_rcv tpp38 rfl) rfl (k_fillBlocks d (by omega) hPp38.1 tpp38 (by omega) (by omega) (by omega)) ?_
              rintro _ ⟨I17, L17, R17, Y17, nc17, ns17, rfl, hQ17, ca17, cb17, x17a, x17b⟩
              have hP17 := cl_P_t hPp38 hQ17
              have t20 := cl_T_x tpp38 hQ17.2.1
              show yi_G zi_Ms d zi_m304 (64, [(5, .inl ev), (2, .inl bn), (4, .inl pe), (3, .inl dy), (0, .inr (.inr (some p))), (1, .inl 2)], [], (I17, L17, R17, Y17), ncp38 + nc17, nsp38 + ns17) _
              refine yi_G_iinc [(5, .inl (ev + 1)), (2, .inl bn), (4, .inl pe), (3, .inl dy), (0, .inr (.inr (some p))), (1, .inl 2)] rfl rfl rfl (by rw [show yi_w (ev + 1) = ev + 1 from (yi_wn (by omega) (by omega)).trans (by omega)]; rfl) ?_
              refine yi_G_run 1 (38, [(5, .inl (ev + 1)), (2, .inl bn), (4, .inl pe), (3, .inl dy), (0, .inr (.inr (some p))), (1, .inl 2)], [], (I17, L17, R17, Y17), ncp38 + nc17, nsp38 + ns17) (fun _ => rfl) ?_
              have r21 : I17 p 9 = I p 9 := by rw [x17b p 9 (cl_T_x tp hPp38.2.1), kw38 p 9 tp]
              have r22 : I17 p 2 = I p 2 := by rw [x17b p 2 (cl_T_x tp hPp38.2.1), kw38 p 2 tp]
              exact ih38 _ (by omega) (ev + 1) bn I17 L17 R17 Y17 (ncp38 + nc17) (nsp38 + ns17) hP17 t20 (by omega) (by omega) (by omega) (fun q k tq => by rw [x17b q k (cl_T_x tq hPp38.2.1), kw38 q k tq]) (by omega) rfl
          have r23 : Ip22 p 9 = I p 9 := by rw [kw22 p 9 tp]
          have r24 : Ip22 p 2 = I p 2 := by rw [kw22 p 2 tp]
          exact pt38 _ 0 (bm / 2) Ip22 Lp22 Rp22 Yp22 (ncp22) (nsp22) hPp22 tpp22 (by omega) (by omega) (by omega) (fun q k tq => by rw [kw22 q k tq]) (by omega) rfl
      have r25 : Ip7 p 9 = I p 9 := by rw [kw7 p 9 tp]
      have r26 : Ip7 p 2 = I p 2 := by rw [kw7 p 2 tp]
      exact pt22 _ 0 bl Ip7 Lp7 Rp7 Yp7 (ncp7) (nsp7) hPp7 tpp7 (by omega) (by omega) (by omega) (fun q k tq => by rw [kw7 q k tq]) (by omega) rfl
  exact pt7 _ 1 (I p 2) I L R Y (0) (0) hP tp (by omega) (by omega) (by omega) (fun _ _ _ => rfl) (by omega) rfl
theorem k_buildWords3 (D : Nat) (hD : 4 ≤ D) {E : List Nat} {I L : cl_I} {R : cl_Rr} {Y : cl_Y} (hC : cl_C E I L R Y) {p : Nat} (tp : cl_T E Y p 4) : yi_E zi_Ms D 304 [.inr (.inr (some p)), .inl 3] (I, L, R, Y) (fun r => ∃ I', ∃ L', ∃ R', ∃ Y', ∃ nc ns, r = (none, (I', L', R', Y'), nc, ns) ∧ cl_P E I L R Y I' L' R' Y' ∧ nc ≤ 216 ∧ ns ≤ 13932 ∧ (∀ q k, cl_T E Y q 4 → I' q k = I q k)) := by
  obtain ⟨d, rfl⟩ : ∃ d, D = d + 1 := ⟨D - 1, by omega⟩
  refine yi_E_of (M := zi_m304) rfl rfl ?_
  have hP : cl_P E I L R Y I L R Y := cl_P_r hC
  have sT := cl_s3_b (I p 2)
  show yi_G zi_Ms d zi_m304 (0, [(0, .inr (.inr (some p))), (1, .inl 3)], [], (I, L, R, Y), 0, 0) _
  refine yi_G_run 1 (1, [(0, .inr (.inr (some p))), (1, .inl 3)], [.inr (.inr (some p))], (I, L, R, Y), 0, 0) (fun _ => rfl) ?_
  have b1 := cl_rd hP.1 tp (k := 2) (lo := 1) (hi := 32769) rfl
  refine cl_G_gi rfl (cl_T_K tp) rfl rfl rfl ?_
  refine yi_G_run 3 (7, [(3, .inl 1), (2, .inl (I p 2)), (0, .inr (.inr (some p))), (1, .inl 3)], [], (I, L, R, Y), 0, 0) (fun _ => rfl) ?_
  have pt7 : ∀ (m_ : Nat) (dy : Int) (bl : Int) (Ip7 : cl_I) (Lp7 : cl_I) (Rp7 : cl_Rr) (Yp7 : cl_Y) (ncp7 : Nat) (nsp7 : Nat), (cl_P E I L R Y Ip7 Lp7 Rp7 Yp7) → (cl_T E Yp7 p 4) → (1 ≤ dy ∧ dy ≤ 7) → (0 ≤ bl ∧ bl ≤ 32769) → ((ncp7 : Int) ≤ 36 * (dy - 1)) → (∀ q k, cl_T E Y q 4 → Ip7 q k = I q k) → (((nsp7 : Int) + 1548 * cl_s3 bl ≤ 13932)) → (7 - dy).toNat = m_ → yi_G zi_Ms d zi_m304 (7, [(3, .inl dy), (2, .inl bl), (0, .inr (.inr (some p))), (1, .inl 3)], [], (Ip7, Lp7, Rp7, Yp7), ncp7, nsp7) (fun r => ∃ I', ∃ L', ∃ R', ∃ Y', ∃ nc ns, r = (none, (I', L', R', Y'), nc, ns) ∧ cl_P E I L R Y I' L' R' Y' ∧ nc ≤ 216 ∧ ns ≤ 13932 ∧ (∀ q k, cl_T E Y q 4 → I' q k = I q k)) := by
    intro m7
    induction m7 using Nat.strongRecOn with
    | _ m7 ih7 =>
    intro dy bl Ip7 Lp7 Rp7 Yp7 ncp7 nsp7 hPp7 tpp7 dy0 bl0 nc7 kw7 rm7 hm7
    have sbl := cl_s3_b bl
    refine yi_G_run 2 (9, [(3, .inl dy), (2, .inl bl), (0, .inr (.inr (some p))), (1, .inl 3)], [.inr (.inr (some p)), .inl dy], (Ip7, Lp7, Rp7, Yp7), ncp7, nsp7) (fun _ => rfl) ?_
    have b2 := cl_rd hPp7.1 tpp7 (k := 7) (lo := 1) (hi := 6) rfl
    have r3 : Ip7 p 7 = I p 7 := by rw [kw7 p 7 tp]
    refine cl_G_gi rfl (cl_T_K tpp7) rfl rfl rfl ?_
    by_cases h4 : (Ip7 p 7) < dy
    · refine yi_G_if2 true rfl (yi_gt_t h4) ?_
      exact yi_G_retv rfl rfl (⟨_, _, _, _, _, _, rfl, hPp7, by omega, by omega, (fun q k tq => by rw [kw7 q k tq])⟩)
    · refine yi_G_if2 false rfl (yi_gt_f h4) ?_
      refine yi_G_run 1 (16, [(3, .inl dy), (2, .inl bl), (0, .inr (.inr (some p))), (1, .inl 3)], [.inl 3], (Ip7, Lp7, Rp7, Yp7), ncp7, nsp7) (fun _ => rfl) ?_
      refine yi_G_if1 false rfl (by decide) ?_
      refine yi_G_run 2 (22, [(4, .inl 0), (3, .inl dy), (2, .inl bl), (0, .inr (.inr (some p))), (1, .inl 3)], [], (Ip7, Lp7, Rp7, Yp7), ncp7, nsp7) (fun _ => rfl) ?_
      have pt22 : ∀ (m_ : Nat) (pe : Int) (bm : Int) (Ip22 : cl_I) (Lp22 : cl_I) (Rp22 : cl_Rr) (Yp22 : cl_Y) (ncp22 : Nat) (nsp22 : Nat), (cl_P E I L R Y Ip22 Lp22 Rp22 Yp22) → (cl_T E Yp22 p 4) → (0 ≤ pe ∧ pe ≤ 4) → (0 ≤ bm ∧ bm ≤ 32769) → ((ncp22 : Int) ≤ 36 * (dy - 1) + 9 * pe) → (∀ q k, cl_T E Y q 4 → Ip22 q k = I q k) → (((nsp22 : Int) + 1548 * cl_s3 bm ≤ 13932)) → (4 - pe).toNat = m_ → yi_G zi_Ms d zi_m304 (22, [(4, .inl pe), (3, .inl dy), (2, .inl bm), (0, .inr (.inr (some p))), (1, .inl 3)], [], (Ip22, Lp22, Rp22, Yp22), ncp22, nsp22) (fun r => ∃ I', ∃ L', ∃ R', ∃ Y', ∃ nc ns, r = (none, (I', L', R', Y'), nc, ns) ∧ cl_P E I L R Y I' L' R' Y' ∧ nc ≤ 216 ∧ ns ≤ 13932 ∧ (∀ q k, cl_T E Y q 4 → I' q k = I q k)) := by
        intro m22
        induction m22 using Nat.strongRecOn with
        | _ m22 ih22 =>
        intro pe bm Ip22 Lp22 Rp22 Yp22 ncp22 nsp22 hPp22 tpp22 pe0 bm0 nc22 kw22 rm22 hm22
        refine yi_G_run 2 (25, [(4, .inl pe), (3, .inl dy), (2, .inl bm), (0, .inr (.inr (some p))), (1, .inl 3)], [.inr (.inr (some p)), .inl pe], (Ip22, Lp22, Rp22, Yp22), ncp22, nsp22) (fun _ => rfl) ?_
        have b5 := cl_rd hPp22.1 tpp22 (k := 8) (lo := 0) (hi := 4) rfl
        have r6 : Ip22 p 8 = I p 8 := by rw [kw22 p 8 tp]
        refine cl_G_gi rfl (cl_T_K tpp22) rfl rfl rfl ?_
        by_cases h7 : (Ip22 p 8) ≤ pe
        · refine yi_G_if2 true rfl (yi_ge_t h7) ?_
          refine yi_G_iinc [(3, .inl (dy + 1)), (4, .inl pe), (2, .inl bm), (0, .inr (.inr (some p))), (1, .inl 3)] rfl rfl rfl (by rw [show yi_w (dy + 1) = dy + 1 from (yi_wn (by omega) (by omega)).trans (by omega)]; rfl) ?_
          refine yi_G_run 1 (7, [(3, .inl (dy + 1)), (4, .inl pe), (2, .inl bm), (0, .inr (.inr (some p))), (1, .inl 3)], [], (Ip22, Lp22, Rp22, Yp22), ncp22, nsp22) (fun _ => rfl) ?_
          have r8 : Ip22 p 9 = I p 9 := by rw [kw22 p 9 tp]
          have r9 : Ip22 p 2 = I p 2 := by rw [kw22 p 2 tp]
          refine yi_G_al (al := [(3, .inl (dy + 1)), (2, .inl bm), (0, .inr (.inr (some p))), (1, .inl 3)]) (show ([3, 2, 0, 1] : List Nat).Nodup by decide) (show ([3, 4, 2, 0, 1] : List Nat).Nodup by decide) (yi_mc (List.mem_of_getElem? (i := 0) rfl) (yi_mc (List.mem_of_getElem? (i := 2) rfl) (yi_mc (List.mem_of_getElem? (i := 3) rfl) (yi_mc (List.mem_of_getElem? (i := 4) rfl) yi_mn)))) ?_
          exact ih7 _ (by omega) (dy + 1) bm Ip22 Lp22 Rp22 Yp22 (ncp22) (nsp22) hPp22 tpp22 (by omega) (by omega) (by omega) (fun q k tq => by rw [kw22 q k tq]) (by omega) rfl
        · refine yi_G_if2 false rfl (yi_ge_f h7) ?_
          refine yi_G_run 2 (33, [(4, .inl pe), (3, .inl dy), (2, .inl bm), (0, .inr (.inr (some p))), (1, .inl 3)], [.inl 3, .inl bm], (Ip22, Lp22, Rp22, Yp22), ncp22, nsp22) (fun _ => rfl) ?_
          have sb0 := cl_s3_b bm
          have sb1 := cl_s3_b (bm / 3)
          have ss : 1 ≤ bm / 3 → cl_s3 bm = cl_s3 (bm / 3) + 1 := fun h => cl_s3_s h (by omega)
          have s0 : bm / 3 ≤ 0 → cl_s3 (bm / 3) = 0 := fun h => by unfold cl_s3; rw [if_pos (by omega)]
          refine yi_G_idiv rfl (by decide) (bm / 3) (yi_dv (by omega) rfl (by omega) (by omega)) ?_
          refine yi_G_run 3 (38, [(5, .inl 0), (2, .inl (bm / 3)), (4, .inl pe), (3, .inl dy), (0, .inr (.inr (some p))), (1, .inl 3)], [], (Ip22, Lp22, Rp22, Yp22), ncp22, nsp22) (fun _ => rfl) ?_
          have pt38 : ∀ (m_ : Nat) (ev : Int) (bn : Int) (Ip38 : cl_I) (Lp38 : cl_I) (Rp38 : cl_Rr) (Yp38 : cl_Y) (ncp38 : Nat) (nsp38 : Nat), (cl_P E I L R Y Ip38 Lp38 Rp38 Yp38) → (cl_T E Yp38 p 4) → (0 ≤ ev ∧ ev ≤ 3) → (0 ≤ bn ∧ bn ≤ 32769) → ((ncp38 : Int) ≤ 36 * (dy - 1) + 9 * pe + 3 * ev) → (∀ q k, cl_T E Y q 4 → Ip38 q k = I q k) → ((1 ≤ bn → (nsp38 : Int) + 516 * (3 - ev) + 1548 * cl_s3 bn ≤ 13932) ∧ (bn ≤ 0 → (nsp38 : Int) + 1548 * cl_s3 bn ≤ 13932)) → (3 - ev).toNat = m_ → yi_G zi_Ms d zi_m304 (38, [(5, .inl ev), (2, .inl bn), (4, .inl pe), (3, .inl dy), (0, .inr (.inr (some p))), (1, .inl 3)], [], (Ip38, Lp38, Rp38, Yp38), ncp38, nsp38) (fun r => ∃ I', ∃ L', ∃ R', ∃ Y', ∃ nc ns, r = (none, (I', L', R', Y'), nc, ns) ∧ cl_P E I L R Y I' L' R' Y' ∧ nc ≤ 216 ∧ ns ≤ 13932 ∧ (∀ q k, cl_T E Y q 4 → I' q k = I q k)) := by
            intro m38
            induction m38 using Nat.strongRecOn with
            | _ m38 ih38 =>
            intro ev bn Ip38 Lp38 Rp38 Yp38 ncp38 nsp38 hPp38 tpp38 ev0 bn0 nc38 kw38 rm38 hm38
            have l9 := cl_rd hPp38.1 tpp38 (k := 9) (lo := 1) (hi := 513) rfl
            refine yi_G_run 2 (41, [(5, .inl ev), (2, .inl bn), (4, .inl pe), (3, .inl dy), (0, .inr (.inr (some p))), (1, .inl 3)], [.inl 3, .inl ev], (Ip38, Lp38, Rp38, Yp38), ncp38, nsp38) (fun _ => rfl) ?_
            by_cases h10 : 3 ≤ ev
            · refine yi_G_if2 true rfl (yi_ge_t h10) ?_
              refine yi_G_iinc [(4, .inl (pe + 1)), (5, .inl ev), (2, .inl bn), (3, .inl dy), (0, .inr (.inr (some p))), (1, .inl 3)] rfl rfl rfl (by rw [show yi_w (pe + 1) = pe + 1 from (yi_wn (by omega) (by omega)).trans (by omega)]; rfl) ?_
              refine yi_G_run 1 (22, [(4, .inl (pe + 1)), (5, .inl ev), (2, .inl bn), (3, .inl dy), (0, .inr (.inr (some p))), (1, .inl 3)], [], (Ip38, Lp38, Rp38, Yp38), ncp38, nsp38) (fun _ => rfl) ?_
              have r11 : Ip38 p 9 = I p 9 := by rw [kw38 p 9 tp]
              have r12 : Ip38 p 2 = I p 2 := by rw [kw38 p 2 tp]
              refine yi_G_al (al := [(4, .inl (pe + 1)), (3, .inl dy), (2, .inl bn), (0, .inr (.inr (some p))), (1, .inl 3)]) (show ([4, 3, 2, 0, 1] : List Nat).Nodup by decide) (show ([4, 5, 2, 3, 0, 1] : List Nat).Nodup by decide) (yi_mc (List.mem_of_getElem? (i := 0) rfl) (yi_mc (List.mem_of_getElem? (i := 3) rfl) (yi_mc (List.mem_of_getElem? (i := 2) rfl) (yi_mc (List.mem_of_getElem? (i := 4) rfl) (yi_mc (List.mem_of_getElem? (i := 5) rfl) yi_mn))))) ?_
              exact ih22 _ (by omega) (pe + 1) bn Ip38 Lp38 Rp38 Yp38 (ncp38) (nsp38) hPp38 tpp38 (by omega) (by omega) (by omega) (fun q k tq => by rw [kw38 q k tq]) (by omega) rfl
            · refine yi_G_if2 false rfl (yi_ge_f h10) ?_
              refine yi_G_run 4 (50, [(5, .inl ev), (2, .inl bn), (4, .inl pe), (3, .inl dy), (0, .inr (.inr (some p))), (1, .inl 3)], [.inl ev, .inl dy, .inl pe, .inr (.inr (some p))], (Ip38, Lp38, Rp38, Yp38), ncp38, nsp38) (fun _ => rfl) ?_
              have r14 : Ip38 p 9 = I p 9 := by rw [kw38 p 9 tp]
              have r15 : Ip38 p 2 = I p 2 := by rw [kw38 p 2 tp]
              refine yi_G_calls rfl rfl (k_wordNumber d (by omega) hPp38.1  ) ?_
              rintro _ ⟨z13, rfl⟩
              show yi_G zi_Ms d zi_m304 (53, [(5, .inl ev), (2, .inl bn), (4, .inl pe), (3, .inl dy), (0, .inr (.inr (some p))), (1, .inl 3)], [.inl z13, .inr (.inr (some p))], (Ip38, Lp38, Rp38, Yp38), ncp38, nsp38) _
              refine yi_G_run 2 (56, [(5, .inl ev), (2, .inl bn), (4, .inl pe), (3, .inl dy), (0, .inr (.inr (some p))), (1, .inl 3)], [.inl bn, .inl ev, .inl z13, .inr (.inr (some p))], (Ip38, Lp38, Rp38, Yp38), ncp38, nsp38) (fun _ => rfl) ?_
              have mb16 := yi_mb (a := ev) (b := bn) (A := 4) (B := 32769) (by omega) (by omega) (by omega) (by omega)
              refine yi_G_imul rfl (ev * bn) (yi_wn (by omega) (by omega)) ?_
              refine yi_G_run 3 (60, [(5, .inl ev), (2, .inl bn), (4, .inl pe), (3, .inl dy), (0, .inr (.inr (some p))), (1, .inl 3)], [.inl 3, .inl bn, .inl bn, .inl (ev * bn), .inl z13, .inr (.inr (some p))], (Ip38, Lp38, Rp38, Yp38), ncp38, nsp38) (fun _ => rfl) ?_
              refine yi_G_imul rfl (bn * 3) (yi_wn (by omega) (by omega)) ?_
              have r18 : Ip38 p 9 = I p 9 := by rw [kw38 p 9 tp]
              have r19 : Ip38 p 2 = I p 2 := by rw [kw38 p 2 tp]
              refine yi_G_callv rfl rfl (cl_rcv tpp38 rfl) rfl (k_fillBlocks d (by omega) hPp38.1 tpp38 (by omega) (by omega) (by omega)) ?_
              rintro _ ⟨I17, L17, R17, Y17, nc17, ns17, rfl, hQ17, ca17, cb17, x17a, x17b⟩
              have hP17 := cl_P_t hPp38 hQ17
              have t20 := cl_T_x tpp38 hQ17.2.1
              show yi_G zi_Ms d zi_m304 (64, [(5, .inl ev), (2, .inl bn), (4, .inl pe), (3, .inl dy), (0, .inr (.inr (some p))), (1, .inl 3)], [], (I17, L17, R17, Y17), ncp38 + nc17, nsp38 + ns17) _
              refine yi_G_iinc [(5, .inl (ev + 1)), (2, .inl bn), (4, .inl pe), (3, .inl dy), (0, .inr (.inr (some p))), (1, .inl 3)] rfl rfl rfl (by rw [show yi_w (ev + 1) = ev + 1 from (yi_wn (by omega) (by omega)).trans (by omega)]; rfl) ?_
              refine yi_G_run 1 (38, [(5, .inl (ev + 1)), (2, .inl bn), (4, .inl pe), (3, .inl dy), (0, .inr (.inr (some p))), (1, .inl 3)], [], (I17, L17, R17, Y17), ncp38 + nc17, nsp38 + ns17) (fun _ => rfl) ?_
              have r21 : I17 p 9 = I p 9 := by rw [x17b p 9 (cl_T_x tp hPp38.2.1), kw38 p 9 tp]
              have r22 : I17 p 2 = I p 2 := by rw [x17b p 2 (cl_T_x tp hPp38.2.1), kw38 p 2 tp]
              exact ih38 _ (by omega) (ev + 1) bn I17 L17 R17 Y17 (ncp38 + nc17) (nsp38 + ns17) hP17 t20 (by omega) (by omega) (by omega) (fun q k tq => by rw [x17b q k (cl_T_x tq hPp38.2.1), kw38 q k tq]) (by omega) rfl
          have r23 : Ip22 p 9 = I p 9 := by rw [kw22 p 9 tp]
          have r24 : Ip22 p 2 = I p 2 := by rw [kw22 p 2 tp]
          exact pt38 _ 0 (bm / 3) Ip22 Lp22 Rp22 Yp22 (ncp22) (nsp22) hPp22 tpp22 (by omega) (by omega) (by omega) (fun q k tq => by rw [kw22 q k tq]) (by omega) rfl
      have r25 : Ip7 p 9 = I p 9 := by rw [kw7 p 9 tp]
      have r26 : Ip7 p 2 = I p 2 := by rw [kw7 p 2 tp]
      exact pt22 _ 0 bl Ip7 Lp7 Rp7 Yp7 (ncp7) (nsp7) hPp7 tpp7 (by omega) (by omega) (by omega) (fun q k tq => by rw [kw7 q k tq]) (by omega) rfl
  exact pt7 _ 1 (I p 2) I L R Y (0) (0) hP tp (by omega) (by omega) (by omega) (fun _ _ _ => rfl) (by omega) rfl
theorem k_buildWords4 (D : Nat) (hD : 4 ≤ D) {E : List Nat} {I L : cl_I} {R : cl_Rr} {Y : cl_Y} (hC : cl_C E I L R Y) {p : Nat} (tp : cl_T E Y p 4) : yi_E zi_Ms D 304 [.inr (.inr (some p)), .inl 4] (I, L, R, Y) (fun r => ∃ I', ∃ L', ∃ R', ∃ Y', ∃ nc ns, r = (none, (I', L', R', Y'), nc, ns) ∧ cl_P E I L R Y I' L' R' Y' ∧ nc ≤ 288 ∧ ns ≤ 14448 ∧ (∀ q k, cl_T E Y q 4 → I' q k = I q k)) := by
  obtain ⟨d, rfl⟩ : ∃ d, D = d + 1 := ⟨D - 1, by omega⟩
  refine yi_E_of (M := zi_m304) rfl rfl ?_
  have hP : cl_P E I L R Y I L R Y := cl_P_r hC
  have sT := cl_s4_b (I p 2)
  show yi_G zi_Ms d zi_m304 (0, [(0, .inr (.inr (some p))), (1, .inl 4)], [], (I, L, R, Y), 0, 0) _
  refine yi_G_run 1 (1, [(0, .inr (.inr (some p))), (1, .inl 4)], [.inr (.inr (some p))], (I, L, R, Y), 0, 0) (fun _ => rfl) ?_
  have b1 := cl_rd hP.1 tp (k := 2) (lo := 1) (hi := 32769) rfl
  refine cl_G_gi rfl (cl_T_K tp) rfl rfl rfl ?_
  refine yi_G_run 3 (7, [(3, .inl 1), (2, .inl (I p 2)), (0, .inr (.inr (some p))), (1, .inl 4)], [], (I, L, R, Y), 0, 0) (fun _ => rfl) ?_
  have pt7 : ∀ (m_ : Nat) (dy : Int) (bl : Int) (Ip7 : cl_I) (Lp7 : cl_I) (Rp7 : cl_Rr) (Yp7 : cl_Y) (ncp7 : Nat) (nsp7 : Nat), (cl_P E I L R Y Ip7 Lp7 Rp7 Yp7) → (cl_T E Yp7 p 4) → (1 ≤ dy ∧ dy ≤ 7) → (0 ≤ bl ∧ bl ≤ 32769) → ((ncp7 : Int) ≤ 48 * (dy - 1)) → (∀ q k, cl_T E Y q 4 → Ip7 q k = I q k) → (((nsp7 : Int) + 2064 * cl_s4 bl ≤ 14448)) → (7 - dy).toNat = m_ → yi_G zi_Ms d zi_m304 (7, [(3, .inl dy), (2, .inl bl), (0, .inr (.inr (some p))), (1, .inl 4)], [], (Ip7, Lp7, Rp7, Yp7), ncp7, nsp7) (fun r => ∃ I', ∃ L', ∃ R', ∃ Y', ∃ nc ns, r = (none, (I', L', R', Y'), nc, ns) ∧ cl_P E I L R Y I' L' R' Y' ∧ nc ≤ 288 ∧ ns ≤ 14448 ∧ (∀ q k, cl_T E Y q 4 → I' q k = I q k)) := by
    intro m7
    induction m7 using Nat.strongRecOn with
    | _ m7 ih7 =>
    intro dy bl Ip7 Lp7 Rp7 Yp7 ncp7 nsp7 hPp7 tpp7 dy0 bl0 nc7 kw7 rm7 hm7
    have sbl := cl_s4_b bl
    refine yi_G_run 2 (9, [(3, .inl dy), (2, .inl bl), (0, .inr (.inr (some p))), (1, .inl 4)], [.inr (.inr (some p)), .inl dy], (Ip7, Lp7, Rp7, Yp7), ncp7, nsp7) (fun _ => rfl) ?_
    have b2 := cl_rd hPp7.1 tpp7 (k := 7) (lo := 1) (hi := 6) rfl
    have r3 : Ip7 p 7 = I p 7 := by rw [kw7 p 7 tp]
    refine cl_G_gi rfl (cl_T_K tpp7) rfl rfl rfl ?_
    by_cases h4 : (Ip7 p 7) < dy
    · refine yi_G_if2 true rfl (yi_gt_t h4) ?_
      exact yi_G_retv rfl rfl (⟨_, _, _, _, _, _, rfl, hPp7, by omega, by omega, (fun q k tq => by rw [kw7 q k tq])⟩)
    · refine yi_G_if2 false rfl (yi_gt_f h4) ?_
      refine yi_G_run 1 (16, [(3, .inl dy), (2, .inl bl), (0, .inr (.inr (some p))), (1, .inl 4)], [.inl 4], (Ip7, Lp7, Rp7, Yp7), ncp7, nsp7) (fun _ => rfl) ?_
      refine yi_G_if1 false rfl (by decide) ?_
      refine yi_G_run 2 (22, [(4, .inl 0), (3, .inl dy), (2, .inl bl), (0, .inr (.inr (some p))), (1, .inl 4)], [], (Ip7, Lp7, Rp7, Yp7), ncp7, nsp7) (fun _ => rfl) ?_
      have pt22 : ∀ (m_ : Nat) (pe : Int) (bm : Int) (Ip22 : cl_I) (Lp22 : cl_I) (Rp22 : cl_Rr) (Yp22 : cl_Y) (ncp22 : Nat) (nsp22 : Nat), (cl_P E I L R Y Ip22 Lp22 Rp22 Yp22) → (cl_T E Yp22 p 4) → (0 ≤ pe ∧ pe ≤ 4) → (0 ≤ bm ∧ bm ≤ 32769) → ((ncp22 : Int) ≤ 48 * (dy - 1) + 12 * pe) → (∀ q k, cl_T E Y q 4 → Ip22 q k = I q k) → (((nsp22 : Int) + 2064 * cl_s4 bm ≤ 14448)) → (4 - pe).toNat = m_ → yi_G zi_Ms d zi_m304 (22, [(4, .inl pe), (3, .inl dy), (2, .inl bm), (0, .inr (.inr (some p))), (1, .inl 4)], [], (Ip22, Lp22, Rp22, Yp22), ncp22, nsp22) (fun r => ∃ I', ∃ L', ∃ R', ∃ Y', ∃ nc ns, r = (none, (I', L', R', Y'), nc, ns) ∧ cl_P E I L R Y I' L' R' Y' ∧ nc ≤ 288 ∧ ns ≤ 14448 ∧ (∀ q k, cl_T E Y q 4 → I' q k = I q k)) := by
        intro m22
        induction m22 using Nat.strongRecOn with
        | _ m22 ih22 =>
        intro pe bm Ip22 Lp22 Rp22 Yp22 ncp22 nsp22 hPp22 tpp22 pe0 bm0 nc22 kw22 rm22 hm22
        refine yi_G_run 2 (25, [(4, .inl pe), (3, .inl dy), (2, .inl bm), (0, .inr (.inr (some p))), (1, .inl 4)], [.inr (.inr (some p)), .inl pe], (Ip22, Lp22, Rp22, Yp22), ncp22, nsp22) (fun _ => rfl) ?_
        have b5 := cl_rd hPp22.1 tpp22 (k := 8) (lo := 0) (hi := 4) rfl
        have r6 : Ip22 p 8 = I p 8 := by rw [kw22 p 8 tp]
        refine cl_G_gi rfl (cl_T_K tpp22) rfl rfl rfl ?_
        by_cases h7 : (Ip22 p 8) ≤ pe
        · refine yi_G_if2 true rfl (yi_ge_t h7) ?_
          refine yi_G_iinc [(3, .inl (dy + 1)), (4, .inl pe), (2, .inl bm), (0, .inr (.inr (some p))), (1, .inl 4)] rfl rfl rfl (by rw [show yi_w (dy + 1) = dy + 1 from (yi_wn (by omega) (by omega)).trans (by omega)]; rfl) ?_
          refine yi_G_run 1 (7, [(3, .inl (dy + 1)), (4, .inl pe), (2, .inl bm), (0, .inr (.inr (some p))), (1, .inl 4)], [], (Ip22, Lp22, Rp22, Yp22), ncp22, nsp22) (fun _ => rfl) ?_
          have r8 : Ip22 p 9 = I p 9 := by rw [kw22 p 9 tp]
          have r9 : Ip22 p 2 = I p 2 := by rw [kw22 p 2 tp]
          refine yi_G_al (al := [(3, .inl (dy + 1)), (2, .inl bm), (0, .inr (.inr (some p))), (1, .inl 4)]) (show ([3, 2, 0, 1] : List Nat).Nodup by decide) (show ([3, 4, 2, 0, 1] : List Nat).Nodup by decide) (yi_mc (List.mem_of_getElem? (i := 0) rfl) (yi_mc (List.mem_of_getElem? (i := 2) rfl) (yi_mc (List.mem_of_getElem? (i := 3) rfl) (yi_mc (List.mem_of_getElem? (i := 4) rfl) yi_mn)))) ?_
          exact ih7 _ (by omega) (dy + 1) bm Ip22 Lp22 Rp22 Yp22 (ncp22) (nsp22) hPp22 tpp22 (by omega) (by omega) (by omega) (fun q k tq => by rw [kw22 q k tq]) (by omega) rfl
        · refine yi_G_if2 false rfl (yi_ge_f h7) ?_
          refine yi_G_run 2 (33, [(4, .inl pe), (3, .inl dy), (2, .inl bm), (0, .inr (.inr (some p))), (1, .inl 4)], [.inl 4, .inl bm], (Ip22, Lp22, Rp22, Yp22), ncp22, nsp22) (fun _ => rfl) ?_
          have sb0 := cl_s4_b bm
          have sb1 := cl_s4_b (bm / 4)
          have ss : 1 ≤ bm / 4 → cl_s4 bm = cl_s4 (bm / 4) + 1 := fun h => cl_s4_s h (by omega)
          have s0 : bm / 4 ≤ 0 → cl_s4 (bm / 4) = 0 := fun h => by unfold cl_s4; rw [if_pos (by omega)]
          refine yi_G_idiv rfl (by decide) (bm / 4) (yi_dv (by omega) rfl (by omega) (by omega)) ?_
          refine yi_G_run 3 (38, [(5, .inl 0), (2, .inl (bm / 4)), (4, .inl pe), (3, .inl dy), (0, .inr (.inr (some p))), (1, .inl 4)], [], (Ip22, Lp22, Rp22, Yp22), ncp22, nsp22) (fun _ => rfl) ?_
          have pt38 : ∀ (m_ : Nat) (ev : Int) (bn : Int) (Ip38 : cl_I) (Lp38 : cl_I) (Rp38 : cl_Rr) (Yp38 : cl_Y) (ncp38 : Nat) (nsp38 : Nat), (cl_P E I L R Y Ip38 Lp38 Rp38 Yp38) → (cl_T E Yp38 p 4) → (0 ≤ ev ∧ ev ≤ 4) → (0 ≤ bn ∧ bn ≤ 32769) → ((ncp38 : Int) ≤ 48 * (dy - 1) + 12 * pe + 3 * ev) → (∀ q k, cl_T E Y q 4 → Ip38 q k = I q k) → ((1 ≤ bn → (nsp38 : Int) + 516 * (4 - ev) + 2064 * cl_s4 bn ≤ 14448) ∧ (bn ≤ 0 → (nsp38 : Int) + 2064 * cl_s4 bn ≤ 14448)) → (4 - ev).toNat = m_ → yi_G zi_Ms d zi_m304 (38, [(5, .inl ev), (2, .inl bn), (4, .inl pe), (3, .inl dy), (0, .inr (.inr (some p))), (1, .inl 4)], [], (Ip38, Lp38, Rp38, Yp38), ncp38, nsp38) (fun r => ∃ I', ∃ L', ∃ R', ∃ Y', ∃ nc ns, r = (none, (I', L', R', Y'), nc, ns) ∧ cl_P E I L R Y I' L' R' Y' ∧ nc ≤ 288 ∧ ns ≤ 14448 ∧ (∀ q k, cl_T E Y q 4 → I' q k = I q k)) := by
            intro m38
            induction m38 using Nat.strongRecOn with
            | _ m38 ih38 =>
            intro ev bn Ip38 Lp38 Rp38 Yp38 ncp38 nsp38 hPp38 tpp38 ev0 bn0 nc38 kw38 rm38 hm38
            have l9 := cl_rd hPp38.1 tpp38 (k := 9) (lo := 1) (hi := 513) rfl
            refine yi_G_run 2 (41, [(5, .inl ev), (2, .inl bn), (4, .inl pe), (3, .inl dy), (0, .inr (.inr (some p))), (1, .inl 4)], [.inl 4, .inl ev], (Ip38, Lp38, Rp38, Yp38), ncp38, nsp38) (fun _ => rfl) ?_
            by_cases h10 : 4 ≤ ev
            · refine yi_G_if2 true rfl (yi_ge_t h10) ?_
              refine yi_G_iinc [(4, .inl (pe + 1)), (5, .inl ev), (2, .inl bn), (3, .inl dy), (0, .inr (.inr (some p))), (1, .inl 4)] rfl rfl rfl (by rw [show yi_w (pe + 1) = pe + 1 from (yi_wn (by omega) (by omega)).trans (by omega)]; rfl) ?_
              refine yi_G_run 1 (22, [(4, .inl (pe + 1)), (5, .inl ev), (2, .inl bn), (3, .inl dy), (0, .inr (.inr (some p))), (1, .inl 4)], [], (Ip38, Lp38, Rp38, Yp38), ncp38, nsp38) (fun _ => rfl) ?_
              have r11 : Ip38 p 9 = I p 9 := by rw [kw38 p 9 tp]
              have r12 : Ip38 p 2 = I p 2 := by rw [kw38 p 2 tp]
              refine yi_G_al (al := [(4, .inl (pe + 1)), (3, .inl dy), (2, .inl bn), (0, .inr (.inr (some p))), (1, .inl 4)]) (show ([4, 3, 2, 0, 1] : List Nat).Nodup by decide) (show ([4, 5, 2, 3, 0, 1] : List Nat).Nodup by decide) (yi_mc (List.mem_of_getElem? (i := 0) rfl) (yi_mc (List.mem_of_getElem? (i := 3) rfl) (yi_mc (List.mem_of_getElem? (i := 2) rfl) (yi_mc (List.mem_of_getElem? (i := 4) rfl) (yi_mc (List.mem_of_getElem? (i := 5) rfl) yi_mn))))) ?_
              exact ih22 _ (by omega) (pe + 1) bn Ip38 Lp38 Rp38 Yp38 (ncp38) (nsp38) hPp38 tpp38 (by omega) (by omega) (by omega) (fun q k tq => by rw [kw38 q k tq]) (by omega) rfl
            · refine yi_G_if2 false rfl (yi_ge_f h10) ?_
              refine yi_G_run 4 (50, [(5, .inl ev), (2, .inl bn), (4, .inl pe), (3, .inl dy), (0, .inr (.inr (some p))), (1, .inl 4)], [.inl ev, .inl dy, .inl pe, .inr (.inr (some p))], (Ip38, Lp38, Rp38, Yp38), ncp38, nsp38) (fun _ => rfl) ?_
              have r14 : Ip38 p 9 = I p 9 := by rw [kw38 p 9 tp]
              have r15 : Ip38 p 2 = I p 2 := by rw [kw38 p 2 tp]
              refine yi_G_calls rfl rfl (k_wordNumber d (by omega) hPp38.1  ) ?_
              rintro _ ⟨z13, rfl⟩
              show yi_G zi_Ms d zi_m304 (53, [(5, .inl ev), (2, .inl bn), (4, .inl pe), (3, .inl dy), (0, .inr (.inr (some p))), (1, .inl 4)], [.inl z13, .inr (.inr (some p))], (Ip38, Lp38, Rp38, Yp38), ncp38, nsp38) _
              refine yi_G_run 2 (56, [(5, .inl ev), (2, .inl bn), (4, .inl pe), (3, .inl dy), (0, .inr (.inr (some p))), (1, .inl 4)], [.inl bn, .inl ev, .inl z13, .inr (.inr (some p))], (Ip38, Lp38, Rp38, Yp38), ncp38, nsp38) (fun _ => rfl) ?_
              have mb16 := yi_mb (a := ev) (b := bn) (A := 4) (B := 32769) (by omega) (by omega) (by omega) (by omega)
              refine yi_G_imul rfl (ev * bn) (yi_wn (by omega) (by omega)) ?_
              refine yi_G_run 3 (60, [(5, .inl ev), (2, .inl bn), (4, .inl pe), (3, .inl dy), (0, .inr (.inr (some p))), (1, .inl 4)], [.inl 4, .inl bn, .inl bn, .inl (ev * bn), .inl z13, .inr (.inr (some p))], (Ip38, Lp38, Rp38, Yp38), ncp38, nsp38) (fun _ => rfl) ?_
              refine yi_G_imul rfl (bn * 4) (yi_wn (by omega) (by omega)) ?_
              have r18 : Ip38 p 9 = I p 9 := by rw [kw38 p 9 tp]
              have r19 : Ip38 p 2 = I p 2 := by rw [kw38 p 2 tp]
              refine yi_G_callv rfl rfl (cl_rcv tpp38 rfl) rfl (k_fillBlocks d (by omega) hPp38.1 tpp38 (by omega) (by omega) (by omega)) ?_
              rintro _ ⟨I17, L17, R17, Y17, nc17, ns17, rfl, hQ17, ca17, cb17, x17a, x17b⟩
              have hP17 := cl_P_t hPp38 hQ17
              have t20 := cl_T_x tpp38 hQ17.2.1
              show yi_G zi_Ms d zi_m304 (64, [(5, .inl ev), (2, .inl bn), (4, .inl pe), (3, .inl dy), (0, .inr (.inr (some p))), (1, .inl 4)], [], (I17, L17, R17, Y17), ncp38 + nc17, nsp38 + ns17) _
              refine yi_G_iinc [(5, .inl (ev + 1)), (2, .inl bn), (4, .inl pe), (3, .inl dy), (0, .inr (.inr (some p))), (1, .inl 4)] rfl rfl rfl (by rw [show yi_w (ev + 1) = ev + 1 from (yi_wn (by omega) (by omega)).trans (by omega)]; rfl) ?_
              refine yi_G_run 1 (38, [(5, .inl (ev + 1)), (2, .inl bn), (4, .inl pe), (3, .inl dy), (0, .inr (.inr (some p))), (1, .inl 4)], [], (I17, L17, R17, Y17), ncp38 + nc17, nsp38 + ns17) (fun _ => rfl) ?_
              have r21 : I17 p 9 = I p 9 := by rw [x17b p 9 (cl_T_x tp hPp38.2.1), kw38 p 9 tp]
              have r22 : I17 p 2 = I p 2 := by rw [x17b p 2 (cl_T_x tp hPp38.2.1), kw38 p 2 tp]
              exact ih38 _ (by omega) (ev + 1) bn I17 L17 R17 Y17 (ncp38 + nc17) (nsp38 + ns17) hP17 t20 (by omega) (by omega) (by omega) (fun q k tq => by rw [x17b q k (cl_T_x tq hPp38.2.1), kw38 q k tq]) (by omega) rfl
          have r23 : Ip22 p 9 = I p 9 := by rw [kw22 p 9 tp]
          have r24 : Ip22 p 2 = I p 2 := by rw [kw22 p 2 tp]
          exact pt38 _ 0 (bm / 4) Ip22 Lp22 Rp22 Yp22 (ncp22) (nsp22) hPp22 tpp22 (by omega) (by omega) (by omega) (fun q k tq => by rw [kw22 q k tq]) (by omega) rfl
      have r25 : Ip7 p 9 = I p 9 := by rw [kw7 p 9 tp]
      have r26 : Ip7 p 2 = I p 2 := by rw [kw7 p 2 tp]
      exact pt22 _ 0 bl Ip7 Lp7 Rp7 Yp7 (ncp7) (nsp7) hPp7 tpp7 (by omega) (by omega) (by omega) (fun q k tq => by rw [kw7 q k tq]) (by omega) rfl
  exact pt7 _ 1 (I p 2) I L R Y (0) (0) hP tp (by omega) (by omega) (by omega) (fun _ _ _ => rfl) (by omega) rfl
theorem k_buildWords (D : Nat) (hD : 4 ≤ D) {E : List Nat} {I L : cl_I} {R : cl_Rr} {Y : cl_Y} (hC : cl_C E I L R Y) {p : Nat} (tp : cl_T E Y p 4) {y : Int} (hy : 0 ≤ y ∧ y ≤ 4) (hl : y = 1 → I p 9 ≤ 1) : yi_E zi_Ms D 304 [.inr (.inr (some p)), .inl y] (I, L, R, Y) (fun r => ∃ I', ∃ L', ∃ R', ∃ Y', ∃ nc ns, r = (none, (I', L', R', Y'), nc, ns) ∧ cl_P E I L R Y I' L' R' Y' ∧ nc ≤ 288 ∧ ns ≤ 15480 ∧ (∀ q k, cl_T E Y q 4 → I' q k = I q k)) := by
  rcases (show y = 0 ∨ y = 1 ∨ y = 2 ∨ y = 3 ∨ y = 4 by omega) with z | z | z | z | z <;> subst z
  · exact (k_buildWords0 D (by omega) hC tp).imp (fun r h => by obtain ⟨a, b, c, e, f, g, h0, h1, h2, h3, h4⟩ := h; exact ⟨a, b, c, e, f, g, h0, h1, by omega, by omega, h4⟩)
  · exact (k_buildWords1 D (by omega) hC tp (hl rfl)).imp (fun r h => by obtain ⟨a, b, c, e, f, g, h0, h1, h2, h3, h4⟩ := h; exact ⟨a, b, c, e, f, g, h0, h1, by omega, by omega, h4⟩)
  · exact (k_buildWords2 D (by omega) hC tp).imp (fun r h => by obtain ⟨a, b, c, e, f, g, h0, h1, h2, h3, h4⟩ := h; exact ⟨a, b, c, e, f, g, h0, h1, by omega, by omega, h4⟩)
  · exact (k_buildWords3 D (by omega) hC tp).imp (fun r h => by obtain ⟨a, b, c, e, f, g, h0, h1, h2, h3, h4⟩ := h; exact ⟨a, b, c, e, f, g, h0, h1, by omega, by omega, h4⟩)
  · exact (k_buildWords4 D (by omega) hC tp).imp (fun r h => by obtain ⟨a, b, c, e, f, g, h0, h1, h2, h3, h4⟩ := h; exact ⟨a, b, c, e, f, g, h0, h1, by omega, by omega, h4⟩)
theorem k_build (D : Nat) (hD : 7 ≤ D) {E : List Nat} {I L : cl_I} {R : cl_Rr} {Y : cl_Y} (hC : cl_C E I L R Y) {p : Nat} (tp : cl_T E Y p 4) {u : Nat} (tu : cl_T E Y u 3) {a : Nat} (ta : cl_T E Y a 20) : yi_E zi_Ms D 303 [.inr (.inr (some p)), .inr (.inr (some u)), .inr (.inr (some a))] (I, L, R, Y) (fun r => ∃ I', ∃ L', ∃ R', ∃ Y', ∃ nc ns, r = (none, (I', L', R', Y'), nc, ns) ∧ cl_P E I L R Y I' L' R' Y' ∧ nc ≤ 320 ∧ ns ≤ 21200) := by
  obtain ⟨d, rfl⟩ : ∃ d, D = d + 1 := ⟨D - 1, by omega⟩
  refine yi_E_of (M := zi_m303) rfl rfl ?_
  have hP : cl_P E I L R Y I L R Y := cl_P_r hC
  show yi_G zi_Ms d zi_m303 (0, [(0, .inr (.inr (some p))), (1, .inr (.inr (some u))), (2, .inr (.inr (some a)))], [], (I, L, R, Y), 0, 0) _
  refine yi_G_run 2 (2, [(0, .inr (.inr (some p))), (1, .inr (.inr (some u))), (2, .inr (.inr (some a)))], [.inr (.inr (some u)), .inr (.inr (some p))], (I, L, R, Y), 0, 0) (fun _ => rfl) ?_
  have b1 := cl_rd hP.1 tu (k := 14) (lo := 1) (hi := 6) rfl
  refine cl_G_gi rfl (cl_T_K tu) rfl rfl rfl ?_
  refine cl_G_pi rfl (cl_T_K tp) rfl rfl rfl ?_
  have hP2 := cl_P_uI (k := 7) (v := I u 14) hP tp (by decide) (cl_hv rfl (by omega) (by omega))
  generalize w3 : yi_u I p 7 (I u 14) = I4 at hP2 ⊢
  refine yi_G_run 2 (10, [(0, .inr (.inr (some p))), (1, .inr (.inr (some u))), (2, .inr (.inr (some a)))], [.inr (.inr (some u)), .inr (.inr (some p))], (I4, L, R, Y), 0, 0) (fun _ => rfl) ?_
  have b5 := cl_rd hP2.1 tu (k := 15) (lo := 0) (hi := 4) rfl
  have r6 : I4 u 15 = I u 15 := by rw [← w3, yi_u_ne _ _ (fun z => cl_ne tu tp (by decide) z.1)]
  refine cl_G_gi rfl (cl_T_K tu) rfl rfl rfl ?_
  refine cl_G_pi rfl (cl_T_K tp) rfl rfl rfl ?_
  have hP7 := cl_P_uI (k := 8) (v := I4 u 15) hP2 tp (by decide) (cl_hv rfl (by omega) (by omega))
  generalize w8 : yi_u I4 p 8 (I4 u 15) = I9 at hP7 ⊢
  refine yi_G_run 3 (19, [(0, .inr (.inr (some p))), (1, .inr (.inr (some u))), (2, .inr (.inr (some a)))], [.inr (.inr (some u)), .inr (.inr (some u)), .inr (.inr (some p))], (I9, L, R, Y), 0, 0) (fun _ => rfl) ?_
  have b10 := cl_rd hP7.1 tu (k := 15) (lo := 0) (hi := 4) rfl
  have r11 : I9 u 15 = I u 15 := by rw [← w8, yi_u_ne _ _ (fun z => cl_ne tu tp (by decide) z.1), ← w3, yi_u_ne _ _ (fun z => cl_ne tu tp (by decide) z.1)]
  refine cl_G_gi rfl (cl_T_K tu) rfl rfl rfl ?_
  refine yi_G_run 1 (23, [(0, .inr (.inr (some p))), (1, .inr (.inr (some u))), (2, .inr (.inr (some a)))], [.inr (.inr (some u)), .inl (I9 u 15), .inr (.inr (some u)), .inr (.inr (some p))], (I9, L, R, Y), 0, 0) (fun _ => rfl) ?_
  have b12 := cl_rd hP7.1 tu (k := 16) (lo := 0) (hi := 4) rfl
  have r13 : I9 u 16 = I u 16 := by rw [← w8, yi_u_ne _ _ (fun z => cl_ne tu tp (by decide) z.1), ← w3, yi_u_ne _ _ (fun z => cl_ne tu tp (by decide) z.1)]
  refine cl_G_gi rfl (cl_T_K tu) rfl rfl rfl ?_
  have r15 : I9 p 9 = I p 9 := by rw [← w8, yi_u_ne _ _ (fun z => absurd z.2 (by decide)), ← w3, yi_u_ne _ _ (fun z => absurd z.2 (by decide))]
  have r16 : I9 p 2 = I p 2 := by rw [← w8, yi_u_ne _ _ (fun z => absurd z.2 (by decide)), ← w3, yi_u_ne _ _ (fun z => absurd z.2 (by decide))]
  refine yi_G_callv rfl rfl (cl_rcv tu rfl) rfl (k_futuresWith d (by omega) hP7.1 tu (by omega) (by omega)) ?_
  rintro _ ⟨z14, rfl, x14a, x14b⟩
  show yi_G zi_Ms d zi_m303 (29, [(0, .inr (.inr (some p))), (1, .inr (.inr (some u))), (2, .inr (.inr (some a)))], [.inl z14, .inr (.inr (some p))], (I9, L, R, Y), 0, 0) _
  refine cl_G_pi rfl (cl_T_K tp) rfl rfl rfl ?_
  have hP17 := cl_P_uI (k := 2) (v := z14) hP7 tp (by decide) (cl_hv rfl (by omega) (by omega))
  generalize w18 : yi_u I9 p 2 z14 = I19 at hP17 ⊢
  refine yi_G_run 2 (34, [(0, .inr (.inr (some p))), (1, .inr (.inr (some u))), (2, .inr (.inr (some a)))], [.inr (.inr (some p)), .inr (.inr (some p))], (I19, L, R, Y), 0, 0) (fun _ => rfl) ?_
  have b20 := cl_rd hP17.1 tp (k := 2) (lo := 1) (hi := 32769) rfl
  have r21 : I19 p 2 = z14 := by rw [← w18, yi_u_eq]
  refine cl_G_gi rfl (cl_T_K tp) rfl rfl rfl ?_
  refine yi_G_run 1 (39, [(0, .inr (.inr (some p))), (1, .inr (.inr (some u))), (2, .inr (.inr (some a)))], [.inl 64, .inl (I19 p 2), .inr (.inr (some p))], (I19, L, R, Y), 0, 0) (fun _ => rfl) ?_
  refine yi_G_iadd rfl ((I19 p 2) + 64) (yi_wn (by omega) (by omega)) ?_
  refine yi_G_run 1 (41, [(0, .inr (.inr (some p))), (1, .inr (.inr (some u))), (2, .inr (.inr (some a)))], [.inl 1, .inl ((I19 p 2) + 64), .inr (.inr (some p))], (I19, L, R, Y), 0, 0) (fun _ => rfl) ?_
  refine yi_G_isub rfl (((I19 p 2) + 64) - 1) (yi_wn (by omega) (by omega)) ?_
  refine yi_G_run 1 (44, [(0, .inr (.inr (some p))), (1, .inr (.inr (some u))), (2, .inr (.inr (some a)))], [.inl 64, .inl (((I19 p 2) + 64) - 1), .inr (.inr (some p))], (I19, L, R, Y), 0, 0) (fun _ => rfl) ?_
  refine yi_G_idiv rfl (by decide) ((((I19 p 2) + 64) - 1) / 64) (yi_dv (by omega) rfl (by omega) (by omega)) ?_
  refine cl_G_pi rfl (cl_T_K tp) rfl rfl rfl ?_
  have hP22 := cl_P_uI (k := 9) (v := (((I19 p 2) + 64) - 1) / 64) hP17 tp (by decide) (cl_hv rfl (by omega) (by omega))
  generalize w23 : yi_u I19 p 9 ((((I19 p 2) + 64) - 1) / 64) = I24 at hP22 ⊢
  refine yi_G_run 2 (50, [(0, .inr (.inr (some p))), (1, .inr (.inr (some u))), (2, .inr (.inr (some a)))], [.inr (.inr (some u)), .inr (.inr (some p))], (I24, L, R, Y), 0, 0) (fun _ => rfl) ?_
  have b25 := cl_rd hP22.1 tu (k := 16) (lo := 0) (hi := 4) rfl
  have r26 : I24 u 16 = I u 16 := by rw [← w23, yi_u_ne _ _ (fun z => cl_ne tu tp (by decide) z.1), ← w18, yi_u_ne _ _ (fun z => cl_ne tu tp (by decide) z.1), ← w8, yi_u_ne _ _ (fun z => cl_ne tu tp (by decide) z.1), ← w3, yi_u_ne _ _ (fun z => cl_ne tu tp (by decide) z.1)]
  refine cl_G_gi rfl (cl_T_K tu) rfl rfl rfl ?_
  have r28 : I24 p 9 = (((I19 p 2) + 64) - 1) / 64 := by rw [← w23, yi_u_eq]
  have r29 : I24 p 2 = z14 := by rw [← w23, yi_u_ne _ _ (fun z => absurd z.2 (by decide)), ← w18, yi_u_eq]
  refine yi_G_callv rfl rfl (cl_rcv tp rfl) rfl (k_buildWords d (by omega) hP22.1 tp (by omega) (by omega)) ?_
  rintro _ ⟨I27, L27, R27, Y27, nc27, ns27, rfl, hQ27, ca27, cb27, x27a⟩
  have hP27 := cl_P_t hP22 hQ27
  have t30 := cl_T_x tp hQ27.2.1
  have t31 := cl_T_x tu hQ27.2.1
  have t32 := cl_T_x ta hQ27.2.1
  have n33 := cl_T_n ta hQ27.2.1
  show yi_G zi_Ms d zi_m303 (56, [(0, .inr (.inr (some p))), (1, .inr (.inr (some u))), (2, .inr (.inr (some a)))], [], (I27, L27, R27, Y27), 0 + nc27, 0 + ns27) _
  refine yi_G_run 1 (57, [(0, .inr (.inr (some p))), (1, .inr (.inr (some u))), (2, .inr (.inr (some a)))], [.inr (.inr (some p))], (I27, L27, R27, Y27), 0 + nc27, 0 + ns27) (fun _ => rfl) ?_
  obtain ⟨q34, e35, t36⟩ := cl_rf hP27.1 t30 (k := 0) rfl
  refine cl_G_gr rfl (cl_T_K t30) rfl rfl rfl e35 ?_
  refine yi_G_run 1 (61, [(0, .inr (.inr (some p))), (1, .inr (.inr (some u))), (2, .inr (.inr (some a)))], [.inr (.inr (some p)), .inr (.inr (some q34))], (I27, L27, R27, Y27), 0 + nc27, 0 + ns27) (fun _ => rfl) ?_
  have b37 := cl_rd hP27.1 t30 (k := 9) (lo := 1) (hi := 513) rfl
  have r38 : I27 p 9 = (((I19 p 2) + 64) - 1) / 64 := by rw [x27a p 9 (cl_T_x tp hP22.2.1), ← w23, yi_u_eq]
  refine cl_G_gi rfl (cl_T_K t30) rfl rfl rfl ?_
  have r40 : I27 p 9 = (((I19 p 2) + 64) - 1) / 64 := by rw [x27a p 9 (cl_T_x tp hP22.2.1), ← w23, yi_u_eq]
  have r41 : I27 p 2 = z14 := by rw [x27a p 2 (cl_T_x tp hP22.2.1), ← w23, yi_u_ne _ _ (fun z => absurd z.2 (by decide)), ← w18, yi_u_eq]
  refine yi_G_callv rfl rfl (cl_rcv t36 rfl) rfl (k_resize d (by omega) hP27.1 t36 (by omega)) ?_
  rintro _ ⟨I39, L39, R39, Y39, nc39, ns39, rfl, hQ39, ca39, cb39, x39a, x39b, x39c, x39d⟩
  have hP39 := cl_P_t hP27 hQ39
  have t42 := cl_T_x t30 hQ39.2.1
  have t43 := cl_T_x t31 hQ39.2.1
  have t44 := cl_T_x t32 hQ39.2.1
  have n45 := cl_T_n t32 hQ39.2.1
  have t46 := cl_T_x t36 hQ39.2.1
  show yi_G zi_Ms d zi_m303 (67, [(0, .inr (.inr (some p))), (1, .inr (.inr (some u))), (2, .inr (.inr (some a)))], [], (I39, L39, R39, Y39), 0 + nc27 + nc39, 0 + ns27 + ns39) _
  refine yi_G_run 1 (68, [(0, .inr (.inr (some p))), (1, .inr (.inr (some u))), (2, .inr (.inr (some a)))], [.inr (.inr (some p))], (I39, L39, R39, Y39), 0 + nc27 + nc39, 0 + ns27 + ns39) (fun _ => rfl) ?_
  obtain ⟨q47, e48, t49⟩ := cl_rf hP39.1 t42 (k := 0) rfl
  refine cl_G_gr rfl (cl_T_K t42) rfl rfl rfl e48 ?_
  have r51 : I39 p 9 = (((I19 p 2) + 64) - 1) / 64 := by rw [(x39c p 9 (cl_T_x tp hP27.2.1).2.1 (cl_ne (cl_T_x tp hP27.2.1) t36 (by decide))).1, x27a p 9 (cl_T_x tp hP22.2.1), ← w23, yi_u_eq]
  have r52 : I39 p 2 = z14 := by rw [(x39c p 2 (cl_T_x tp hP27.2.1).2.1 (cl_ne (cl_T_x tp hP27.2.1) t36 (by decide))).1, x27a p 2 (cl_T_x tp hP22.2.1), ← w23, yi_u_ne _ _ (fun z => absurd z.2 (by decide)), ← w18, yi_u_eq]
  refine yi_G_callv rfl rfl (cl_rcv t49 rfl) rfl (k_clear d (by omega) hP39.1 t49 ) ?_
  rintro _ ⟨L50, rfl, hQ50⟩
  have hP50 := cl_P_t hP39 hQ50
  show yi_G zi_Ms d zi_m303 (74, [(0, .inr (.inr (some p))), (1, .inr (.inr (some u))), (2, .inr (.inr (some a)))], [], (I39, L50, R39, Y39), 0 + nc27 + nc39, 0 + ns27 + ns39) _
  refine yi_G_run 1 (75, [(0, .inr (.inr (some p))), (1, .inr (.inr (some u))), (2, .inr (.inr (some a)))], [.inr (.inr (some p))], (I39, L50, R39, Y39), 0 + nc27 + nc39, 0 + ns27 + ns39) (fun _ => rfl) ?_
  refine cl_G_gr rfl (cl_T_K t42) rfl rfl rfl e48 ?_
  refine yi_G_run 2 (80, [(0, .inr (.inr (some p))), (1, .inr (.inr (some u))), (2, .inr (.inr (some a)))], [.inr (.inr (some p)), .inl 0, .inr (.inr (some q47))], (I39, L50, R39, Y39), 0 + nc27 + nc39, 0 + ns27 + ns39) (fun _ => rfl) ?_
  have b53 := cl_rd hP50.1 t42 (k := 2) (lo := 1) (hi := 32769) rfl
  have r54 : I39 p 2 = z14 := by rw [(x39c p 2 (cl_T_x tp hP27.2.1).2.1 (cl_ne (cl_T_x tp hP27.2.1) t36 (by decide))).1, x27a p 2 (cl_T_x tp hP22.2.1), ← w23, yi_u_ne _ _ (fun z => absurd z.2 (by decide)), ← w18, yi_u_eq]
  refine cl_G_gi rfl (cl_T_K t42) rfl rfl rfl ?_
  have r56 : I39 p 9 = (((I19 p 2) + 64) - 1) / 64 := by rw [(x39c p 9 (cl_T_x tp hP27.2.1).2.1 (cl_ne (cl_T_x tp hP27.2.1) t36 (by decide))).1, x27a p 9 (cl_T_x tp hP22.2.1), ← w23, yi_u_eq]
  have r57 : I39 p 2 = z14 := by rw [(x39c p 2 (cl_T_x tp hP27.2.1).2.1 (cl_ne (cl_T_x tp hP27.2.1) t36 (by decide))).1, x27a p 2 (cl_T_x tp hP22.2.1), ← w23, yi_u_ne _ _ (fun z => absurd z.2 (by decide)), ← w18, yi_u_eq]
  refine yi_G_callv rfl rfl (cl_rcv t49 rfl) rfl (k_addRange d (by omega) hP50.1 t49 (by omega)) ?_
  rintro _ ⟨L55, rfl, hQ55⟩
  have hP55 := cl_P_t hP50 hQ55
  show yi_G zi_Ms d zi_m303 (86, [(0, .inr (.inr (some p))), (1, .inr (.inr (some u))), (2, .inr (.inr (some a)))], [], (I39, L55, R39, Y39), 0 + nc27 + nc39, 0 + ns27 + ns39) _
  refine yi_G_run 2 (88, [(3, .inl 0), (0, .inr (.inr (some p))), (1, .inr (.inr (some u))), (2, .inr (.inr (some a)))], [], (I39, L55, R39, Y39), 0 + nc27 + nc39, 0 + ns27 + ns39) (fun _ => rfl) ?_
  have pt88 : ∀ (m_ : Nat) (j : Int) (Ip88 : cl_I) (Lp88 : cl_I) (Rp88 : cl_Rr) (Yp88 : cl_Y) (ncp88 : Nat) (nsp88 : Nat), (cl_P E I L R Y Ip88 Lp88 Rp88 Yp88) → (cl_T E Yp88 a 20) → (cl_T E Yp88 p 4) → (cl_T E Yp88 u 3) → (0 ≤ j ∧ j ≤ 4) → ((nsp88 : Int) ≤ 15993 + 513 * j ∧ (ncp88 : Int) ≤ 289 + j) → (4 - j).toNat = m_ → yi_G zi_Ms d zi_m303 (88, [(3, .inl j), (0, .inr (.inr (some p))), (1, .inr (.inr (some u))), (2, .inr (.inr (some a)))], [], (Ip88, Lp88, Rp88, Yp88), ncp88, nsp88) (fun r => ∃ I', ∃ L', ∃ R', ∃ Y', ∃ nc ns, r = (none, (I', L', R', Y'), nc, ns) ∧ cl_P E I L R Y I' L' R' Y' ∧ nc ≤ 320 ∧ ns ≤ 21200) := by
    intro m88
    induction m88 using Nat.strongRecOn with
    | _ m88 ih88 =>
    intro j Ip88 Lp88 Rp88 Yp88 ncp88 nsp88 hPp88 tap88 tpp88 tup88 j0 n0 hm88
    refine yi_G_run 2 (90, [(3, .inl j), (0, .inr (.inr (some p))), (1, .inr (.inr (some u))), (2, .inr (.inr (some a)))], [.inr (.inr (some u)), .inl j], (Ip88, Lp88, Rp88, Yp88), ncp88, nsp88) (fun _ => rfl) ?_
    have b58 := cl_rd hPp88.1 tup88 (k := 18) (lo := 0) (hi := 4) rfl
    refine cl_G_gi rfl (cl_T_K tup88) rfl rfl rfl ?_
    by_cases h59 : (Ip88 u 18) ≤ j
    · refine yi_G_if2 true rfl (yi_ge_t h59) ?_
      refine yi_G_run 2 (141, [(3, .inl 0), (0, .inr (.inr (some p))), (1, .inr (.inr (some u))), (2, .inr (.inr (some a)))], [], (Ip88, Lp88, Rp88, Yp88), ncp88, nsp88) (fun _ => rfl) ?_
      have pt141 : ∀ (m_ : Nat) (i : Int) (Ip141 : cl_I) (Lp141 : cl_I) (Rp141 : cl_Rr) (Yp141 : cl_Y) (ncp141 : Nat) (nsp141 : Nat), (cl_P E I L R Y Ip141 Lp141 Rp141 Yp141) → (cl_T E Yp141 a 20) → (cl_T E Yp141 p 4) → (cl_T E Yp141 u 3) → (0 ≤ i ∧ i ≤ 6) → ((nsp141 : Int) ≤ 18045 + 516 * i ∧ (ncp141 : Int) ≤ 293 + 3 * i) → (6 - i).toNat = m_ → yi_G zi_Ms d zi_m303 (141, [(3, .inl i), (0, .inr (.inr (some p))), (1, .inr (.inr (some u))), (2, .inr (.inr (some a)))], [], (Ip141, Lp141, Rp141, Yp141), ncp141, nsp141) (fun r => ∃ I', ∃ L', ∃ R', ∃ Y', ∃ nc ns, r = (none, (I', L', R', Y'), nc, ns) ∧ cl_P E I L R Y I' L' R' Y' ∧ nc ≤ 320 ∧ ns ≤ 21200) := by
        intro m141
        induction m141 using Nat.strongRecOn with
        | _ m141 ih141 =>
        intro i Ip141 Lp141 Rp141 Yp141 ncp141 nsp141 hPp141 tap141 tpp141 tup141 i0 n1 hm141
        refine yi_G_run 2 (143, [(3, .inl i), (0, .inr (.inr (some p))), (1, .inr (.inr (some u))), (2, .inr (.inr (some a)))], [.inr (.inr (some u)), .inl i], (Ip141, Lp141, Rp141, Yp141), ncp141, nsp141) (fun _ => rfl) ?_
        have b60 := cl_rd hPp141.1 tup141 (k := 19) (lo := 0) (hi := 6) rfl
        refine cl_G_gi rfl (cl_T_K tup141) rfl rfl rfl ?_
        by_cases h61 : (Ip141 u 19) ≤ i
        · refine yi_G_if2 true rfl (yi_ge_t h61) ?_
          exact yi_G_retv rfl rfl (⟨_, _, _, _, _, _, rfl, hPp141, by omega, by omega⟩)
        · refine yi_G_if2 false rfl (yi_ge_f h61) ?_
          refine yi_G_run 2 (152, [(3, .inl i), (0, .inr (.inr (some p))), (1, .inr (.inr (some u))), (2, .inr (.inr (some a)))], [.inl 6, .inl i], (Ip141, Lp141, Rp141, Yp141), ncp141, nsp141) (fun _ => rfl) ?_
          by_cases h62 : 6 ≤ i
          · refine yi_G_if2 true rfl (yi_ge_t h62) ?_
            exact yi_G_retv rfl rfl (⟨_, _, _, _, _, _, rfl, hPp141, by omega, by omega⟩)
          · refine yi_G_if2 false rfl (yi_ge_f h62) ?_
            refine yi_G_run 1 (156, [(3, .inl i), (0, .inr (.inr (some p))), (1, .inr (.inr (some u))), (2, .inr (.inr (some a)))], [.inr (.inr (some p))], (Ip141, Lp141, Rp141, Yp141), ncp141, nsp141) (fun _ => rfl) ?_
            obtain ⟨q63, e64, t65, n66⟩ := cl_rn hPp141.1 tpp141 (k := 4) (m := 5) rfl
            refine cl_G_gr rfl (cl_T_K tpp141) rfl rfl rfl e64 ?_
            refine yi_G_run 1 (160, [(3, .inl i), (0, .inr (.inr (some p))), (1, .inr (.inr (some u))), (2, .inr (.inr (some a)))], [.inl i, .inr (.inr (some q63))], (Ip141, Lp141, Rp141, Yp141), ncp141, nsp141) (fun _ => rfl) ?_
            rcases cl_ro hPp141.1 t65 (k := i.toNat) rfl with e68 | ⟨q67, e68, t69⟩
            · refine cl_G_aald rfl t65 (by omega) (by omega) (by omega) e68 ?_
              refine cl_G_nnl true rfl rfl ?_
              refine yi_G_run 1 (165, [(3, .inl i), (0, .inr (.inr (some p))), (1, .inr (.inr (some u))), (2, .inr (.inr (some a)))], [.inr (.inr (some p))], (Ip141, Lp141, Rp141, Yp141), ncp141, nsp141) (fun _ => rfl) ?_
              refine cl_G_gr rfl (cl_T_K tpp141) rfl rfl rfl e64 ?_
              refine yi_G_run 1 (169, [(3, .inl i), (0, .inr (.inr (some p))), (1, .inr (.inr (some u))), (2, .inr (.inr (some a)))], [.inl i, .inr (.inr (some q63))], (Ip141, Lp141, Rp141, Yp141), ncp141, nsp141) (fun _ => rfl) ?_
              refine cl_G_mko (m := 2) rfl hPp141 rfl rfl (fun e70x I70 L70 R70 Y70 ee70 hP70 x70 tt70 z70 y70 k70 g70 m70 o70 => ?_)
              have t71 := tt70 _ _ tap141
              have t72 := tt70 _ _ tpp141
              have t73 := tt70 _ _ tup141
              have n74 := (cl_T_n t65 x70).trans n66
              have t75 := tt70 _ _ t65
              have e76 := (o70 p 4 (tpp141).2.1).1.trans e64
              have e77 := (o70 q63 (i.toNat) (t65).2.1).1.trans e68
              refine yi_G_run 1 (173, [(3, .inl i), (0, .inr (.inr (some p))), (1, .inr (.inr (some u))), (2, .inr (.inr (some a)))], [.inr (.inr (some e70x)), .inr (.inr (some e70x)), .inl i, .inr (.inr (some q63))], (I70, L70, R70, Y70), ncp141 + 1, nsp141 + 2) (fun _ => rfl) ?_
              have r79 : I70 p 9 = Ip141 p 9 := by rw [(o70 p 9 (tpp141).2.1).2]
              have r80 : I70 p 2 = Ip141 p 2 := by rw [(o70 p 2 (tpp141).2.1).2]
              refine cl_G_callx rfl rfl rfl rfl (k_FS0 d (by omega) hP70.1 g70 k70 m70 z70 y70  ) ?_
              rintro _ ⟨I78, L78, R78, Y78, nc78, ns78, rfl, hQ78, ca78, cb78, t78, x78a⟩
              have hP78 := cl_P_t hP70 hQ78
              have t81 := cl_T_x (cl_T_d t71) hQ78.2.1
              have n82 := cl_T_n t71 hQ78.2.1
              have t83 := cl_T_x (cl_T_d t72) hQ78.2.1
              have t84 := cl_T_x (cl_T_d t73) hQ78.2.1
              have t85 := cl_T_x (cl_T_d t75) hQ78.2.1
              have n86 := (cl_T_n t75 hQ78.2.1).trans n74
              have e87 := (x78a p 4 t72.2.1 (fun z => t72.2.2.2.1 (by rw [z]; simp))).2.trans e76
              have e88 := (x78a q63 (i.toNat) t75.2.1 (fun z => t75.2.2.2.1 (by rw [z]; simp))).2.trans e77
              show yi_G zi_Ms d zi_m303 (176, [(3, .inl i), (0, .inr (.inr (some p))), (1, .inr (.inr (some u))), (2, .inr (.inr (some a)))], [.inr (.inr (some e70x)), .inl i, .inr (.inr (some q63))], (I78, L78, R78, Y78), ncp141 + 1 + nc78, nsp141 + 2 + ns78) _
              refine cl_G_aast rfl t85 (by omega) rfl (by omega) (by omega) (Or.inr ⟨_, rfl, t78⟩) ?_
              have hP89 := cl_P_uR (k := (i.toNat)) (v := (some e70x)) hP78 t85 (by omega) (by omega) (cl_hro rfl t78)
              generalize w90 : cl_u R78 q63 (i.toNat) (some e70x) = R91 at hP89 ⊢
              have e92 : R91 p 4 = some q63 := by rw [← w90, cl_u_ne _ _ (fun z => cl_ne t83 t85 (by decide) z.1)]; exact e87
              have e93 : R91 q63 (i.toNat) = some e70x := by rw [← w90, cl_u_eq]
              refine yi_G_run 3 (180, [(3, .inl i), (0, .inr (.inr (some p))), (1, .inr (.inr (some u))), (2, .inr (.inr (some a)))], [.inr (.inr (some u)), .inr (.inr (some a)), .inr (.inr (some p))], (I78, L78, R91, Y78), ncp141 + 1 + nc78, nsp141 + 2 + ns78) (fun _ => rfl) ?_
              obtain ⟨q94, e95, t96, n97⟩ := cl_rn hP89.1 t84 (k := 10) (m := 5) rfl
              refine cl_G_gr rfl (cl_T_K t84) rfl rfl rfl e95 ?_
              refine yi_G_run 1 (184, [(3, .inl i), (0, .inr (.inr (some p))), (1, .inr (.inr (some u))), (2, .inr (.inr (some a)))], [.inl i, .inr (.inr (some q94)), .inr (.inr (some a)), .inr (.inr (some p))], (I78, L78, R91, Y78), ncp141 + 1 + nc78, nsp141 + 2 + ns78) (fun _ => rfl) ?_
              refine cl_G_iald rfl t96 (by omega) (by omega) ?_
              refine yi_G_run 1 (186, [(3, .inl i), (0, .inr (.inr (some p))), (1, .inr (.inr (some u))), (2, .inr (.inr (some a)))], [.inr (.inr (some u)), .inl (I78 q94 (i.toNat)), .inr (.inr (some a)), .inr (.inr (some p))], (I78, L78, R91, Y78), ncp141 + 1 + nc78, nsp141 + 2 + ns78) (fun _ => rfl) ?_
              obtain ⟨q98, e99, t100, n101⟩ := cl_rn hP89.1 t84 (k := 11) (m := 5) rfl
              refine cl_G_gr rfl (cl_T_K t84) rfl rfl rfl e99 ?_
              refine yi_G_run 1 (190, [(3, .inl i), (0, .inr (.inr (some p))), (1, .inr (.inr (some u))), (2, .inr (.inr (some a)))], [.inl i, .inr (.inr (some q98)), .inl (I78 q94 (i.toNat)), .inr (.inr (some a)), .inr (.inr (some p))], (I78, L78, R91, Y78), ncp141 + 1 + nc78, nsp141 + 2 + ns78) (fun _ => rfl) ?_
              refine cl_G_iald rfl t100 (by omega) (by omega) ?_
              refine yi_G_run 1 (192, [(3, .inl i), (0, .inr (.inr (some p))), (1, .inr (.inr (some u))), (2, .inr (.inr (some a)))], [.inr (.inr (some p)), .inl (I78 q98 (i.toNat)), .inl (I78 q94 (i.toNat)), .inr (.inr (some a)), .inr (.inr (some p))], (I78, L78, R91, Y78), ncp141 + 1 + nc78, nsp141 + 2 + ns78) (fun _ => rfl) ?_
              refine cl_G_gr rfl (cl_T_K t83) rfl rfl rfl e92 ?_
              refine yi_G_run 1 (196, [(3, .inl i), (0, .inr (.inr (some p))), (1, .inr (.inr (some u))), (2, .inr (.inr (some a)))], [.inl i, .inr (.inr (some q63)), .inl (I78 q98 (i.toNat)), .inl (I78 q94 (i.toNat)), .inr (.inr (some a)), .inr (.inr (some p))], (I78, L78, R91, Y78), ncp141 + 1 + nc78, nsp141 + 2 + ns78) (fun _ => rfl) ?_
              refine cl_G_aald rfl t85 (by omega) (by omega) (by omega) e93 ?_
              have r106 : I78 p 9 = Ip141 p 9 := by rw [(x78a p 9 (cl_T_x (E := E) tp hP70.2.1).2.1 (by have a := tp.2.1; have b := hPp141.2.1.1; omega)).1, (o70 p 9 (tpp141).2.1).2]
              have r107 : I78 p 2 = Ip141 p 2 := by rw [(x78a p 2 (cl_T_x (E := E) tp hP70.2.1).2.1 (by have a := tp.2.1; have b := hPp141.2.1.1; omega)).1, (o70 p 2 (tpp141).2.1).2]
              refine yi_G_callv rfl rfl (cl_rcv t83 rfl) rfl (k_solve d (by omega) hP89.1 t83 t81 t78 ) ?_
              rintro _ ⟨I105, L105, R105, Y105, nc105, ns105, rfl, hQ105, ca105, cb105, x105a, x105b, x105c⟩
              have hP105 := cl_P_t hP89 hQ105
              have t108 := cl_T_x t81 hQ105.2.1
              have n109 := cl_T_n t81 hQ105.2.1
              have t110 := cl_T_x t83 hQ105.2.1
              have t111 := cl_T_x t84 hQ105.2.1
              have t112 := cl_T_x t85 hQ105.2.1
              have n113 := (cl_T_n t85 hQ105.2.1).trans n86
              have t114 := cl_T_x t78 hQ105.2.1
              have t115 := cl_T_x t96 hQ105.2.1
              have n116 := (cl_T_n t96 hQ105.2.1).trans n97
              have t117 := cl_T_x t100 hQ105.2.1
              have n118 := (cl_T_n t100 hQ105.2.1).trans n101
              show yi_G zi_Ms d zi_m303 (200, [(3, .inl i), (0, .inr (.inr (some p))), (1, .inr (.inr (some u))), (2, .inr (.inr (some a)))], [], (I105, L105, R105, Y105), ncp141 + 1 + nc78 + nc105, nsp141 + 2 + ns78 + ns105) _
              refine yi_G_iinc [(3, .inl (i + 1)), (0, .inr (.inr (some p))), (1, .inr (.inr (some u))), (2, .inr (.inr (some a)))] rfl rfl rfl (by rw [show yi_w (i + 1) = i + 1 from (yi_wn (by omega) (by omega)).trans (by omega)]; rfl) ?_
              refine yi_G_run 1 (141, [(3, .inl (i + 1)), (0, .inr (.inr (some p))), (1, .inr (.inr (some u))), (2, .inr (.inr (some a)))], [], (I105, L105, R105, Y105), ncp141 + 1 + nc78 + nc105, nsp141 + 2 + ns78 + ns105) (fun _ => rfl) ?_
              have r119 : I105 p 9 = Ip141 p 9 := by rw [(x105c p 9 (cl_T_x tp hP89.2.1).2.1 (cl_ne (cl_T_x tp hP89.2.1) t78 (by decide))).1, (x78a p 9 (cl_T_x (E := E) tp hP70.2.1).2.1 (by have a := tp.2.1; have b := hPp141.2.1.1; omega)).1, (o70 p 9 (tpp141).2.1).2]
              have r120 : I105 p 2 = Ip141 p 2 := by rw [(x105c p 2 (cl_T_x tp hP89.2.1).2.1 (cl_ne (cl_T_x tp hP89.2.1) t78 (by decide))).1, (x78a p 2 (cl_T_x (E := E) tp hP70.2.1).2.1 (by have a := tp.2.1; have b := hPp141.2.1.1; omega)).1, (o70 p 2 (tpp141).2.1).2]
              exact ih141 _ (by omega) (i + 1) I105 L105 R105 Y105 (ncp141 + 1 + nc78 + nc105) (nsp141 + 2 + ns78 + ns105) hP105 t108 t110 t111 (by omega) (by omega) rfl
            · refine cl_G_aald rfl t65 (by omega) (by omega) (by omega) e68 ?_
              refine cl_G_nnl false rfl rfl ?_
              refine yi_G_run 3 (180, [(3, .inl i), (0, .inr (.inr (some p))), (1, .inr (.inr (some u))), (2, .inr (.inr (some a)))], [.inr (.inr (some u)), .inr (.inr (some a)), .inr (.inr (some p))], (Ip141, Lp141, Rp141, Yp141), ncp141, nsp141) (fun _ => rfl) ?_
              obtain ⟨q121, e122, t123, n124⟩ := cl_rn hPp141.1 tup141 (k := 10) (m := 5) rfl
              refine cl_G_gr rfl (cl_T_K tup141) rfl rfl rfl e122 ?_
              refine yi_G_run 1 (184, [(3, .inl i), (0, .inr (.inr (some p))), (1, .inr (.inr (some u))), (2, .inr (.inr (some a)))], [.inl i, .inr (.inr (some q121)), .inr (.inr (some a)), .inr (.inr (some p))], (Ip141, Lp141, Rp141, Yp141), ncp141, nsp141) (fun _ => rfl) ?_
              refine cl_G_iald rfl t123 (by omega) (by omega) ?_
              refine yi_G_run 1 (186, [(3, .inl i), (0, .inr (.inr (some p))), (1, .inr (.inr (some u))), (2, .inr (.inr (some a)))], [.inr (.inr (some u)), .inl (Ip141 q121 (i.toNat)), .inr (.inr (some a)), .inr (.inr (some p))], (Ip141, Lp141, Rp141, Yp141), ncp141, nsp141) (fun _ => rfl) ?_
              obtain ⟨q125, e126, t127, n128⟩ := cl_rn hPp141.1 tup141 (k := 11) (m := 5) rfl
              refine cl_G_gr rfl (cl_T_K tup141) rfl rfl rfl e126 ?_
              refine yi_G_run 1 (190, [(3, .inl i), (0, .inr (.inr (some p))), (1, .inr (.inr (some u))), (2, .inr (.inr (some a)))], [.inl i, .inr (.inr (some q125)), .inl (Ip141 q121 (i.toNat)), .inr (.inr (some a)), .inr (.inr (some p))], (Ip141, Lp141, Rp141, Yp141), ncp141, nsp141) (fun _ => rfl) ?_
              refine cl_G_iald rfl t127 (by omega) (by omega) ?_
              refine yi_G_run 1 (192, [(3, .inl i), (0, .inr (.inr (some p))), (1, .inr (.inr (some u))), (2, .inr (.inr (some a)))], [.inr (.inr (some p)), .inl (Ip141 q125 (i.toNat)), .inl (Ip141 q121 (i.toNat)), .inr (.inr (some a)), .inr (.inr (some p))], (Ip141, Lp141, Rp141, Yp141), ncp141, nsp141) (fun _ => rfl) ?_
              refine cl_G_gr rfl (cl_T_K tpp141) rfl rfl rfl e64 ?_
              refine yi_G_run 1 (196, [(3, .inl i), (0, .inr (.inr (some p))), (1, .inr (.inr (some u))), (2, .inr (.inr (some a)))], [.inl i, .inr (.inr (some q63)), .inl (Ip141 q125 (i.toNat)), .inl (Ip141 q121 (i.toNat)), .inr (.inr (some a)), .inr (.inr (some p))], (Ip141, Lp141, Rp141, Yp141), ncp141, nsp141) (fun _ => rfl) ?_
              refine cl_G_aald rfl t65 (by omega) (by omega) (by omega) e68 ?_
              refine yi_G_callv rfl rfl (cl_rcv tpp141 rfl) rfl (k_solve d (by omega) hPp141.1 tpp141 tap141 t69 ) ?_
              rintro _ ⟨I132, L132, R132, Y132, nc132, ns132, rfl, hQ132, ca132, cb132, x132a, x132b, x132c⟩
              have hP132 := cl_P_t hPp141 hQ132
              have t133 := cl_T_x tap141 hQ132.2.1
              have n134 := cl_T_n tap141 hQ132.2.1
              have t135 := cl_T_x tpp141 hQ132.2.1
              have t136 := cl_T_x tup141 hQ132.2.1
              have t137 := cl_T_x t65 hQ132.2.1
              have n138 := (cl_T_n t65 hQ132.2.1).trans n66
              have t139 := cl_T_x t69 hQ132.2.1
              have t140 := cl_T_x t123 hQ132.2.1
              have n141 := (cl_T_n t123 hQ132.2.1).trans n124
              have t142 := cl_T_x t127 hQ132.2.1
              have n143 := (cl_T_n t127 hQ132.2.1).trans n128
              show yi_G zi_Ms d zi_m303 (200, [(3, .inl i), (0, .inr (.inr (some p))), (1, .inr (.inr (some u))), (2, .inr (.inr (some a)))], [], (I132, L132, R132, Y132), ncp141 + nc132, nsp141 + ns132) _
              refine yi_G_iinc [(3, .inl (i + 1)), (0, .inr (.inr (some p))), (1, .inr (.inr (some u))), (2, .inr (.inr (some a)))] rfl rfl rfl (by rw [show yi_w (i + 1) = i + 1 from (yi_wn (by omega) (by omega)).trans (by omega)]; rfl) ?_
              refine yi_G_run 1 (141, [(3, .inl (i + 1)), (0, .inr (.inr (some p))), (1, .inr (.inr (some u))), (2, .inr (.inr (some a)))], [], (I132, L132, R132, Y132), ncp141 + nc132, nsp141 + ns132) (fun _ => rfl) ?_
              have r144 : I132 p 9 = Ip141 p 9 := by rw [(x132c p 9 (cl_T_x tp hPp141.2.1).2.1 (cl_ne (cl_T_x tp hPp141.2.1) t69 (by decide))).1]
              have r145 : I132 p 2 = Ip141 p 2 := by rw [(x132c p 2 (cl_T_x tp hPp141.2.1).2.1 (cl_ne (cl_T_x tp hPp141.2.1) t69 (by decide))).1]
              exact ih141 _ (by omega) (i + 1) I132 L132 R132 Y132 (ncp141 + nc132) (nsp141 + ns132) hP132 t133 t135 t136 (by omega) (by omega) rfl
      exact pt141 _ 0 Ip88 Lp88 Rp88 Yp88 (ncp88) (nsp88) hPp88 tap88 tpp88 tup88 (by omega) (by omega) rfl
    · refine yi_G_if2 false rfl (yi_ge_f h59) ?_
      refine yi_G_run 2 (98, [(3, .inl j), (0, .inr (.inr (some p))), (1, .inr (.inr (some u))), (2, .inr (.inr (some a)))], [.inl 4, .inl j], (Ip88, Lp88, Rp88, Yp88), ncp88, nsp88) (fun _ => rfl) ?_
      by_cases h146 : 4 ≤ j
      · refine yi_G_if2 true rfl (yi_ge_t h146) ?_
        refine yi_G_run 2 (141, [(3, .inl 0), (0, .inr (.inr (some p))), (1, .inr (.inr (some u))), (2, .inr (.inr (some a)))], [], (Ip88, Lp88, Rp88, Yp88), ncp88, nsp88) (fun _ => rfl) ?_
        have pt141 : ∀ (m_ : Nat) (i : Int) (Ip141 : cl_I) (Lp141 : cl_I) (Rp141 : cl_Rr) (Yp141 : cl_Y) (ncp141 : Nat) (nsp141 : Nat), (cl_P E I L R Y Ip141 Lp141 Rp141 Yp141) → (cl_T E Yp141 a 20) → (cl_T E Yp141 p 4) → (cl_T E Yp141 u 3) → (0 ≤ i ∧ i ≤ 6) → ((nsp141 : Int) ≤ 18045 + 516 * i ∧ (ncp141 : Int) ≤ 293 + 3 * i) → (6 - i).toNat = m_ → yi_G zi_Ms d zi_m303 (141, [(3, .inl i), (0, .inr (.inr (some p))), (1, .inr (.inr (some u))), (2, .inr (.inr (some a)))], [], (Ip141, Lp141, Rp141, Yp141), ncp141, nsp141) (fun r => ∃ I', ∃ L', ∃ R', ∃ Y', ∃ nc ns, r = (none, (I', L', R', Y'), nc, ns) ∧ cl_P E I L R Y I' L' R' Y' ∧ nc ≤ 320 ∧ ns ≤ 21200) := by
          intro m141
          induction m141 using Nat.strongRecOn with
          | _ m141 ih141 =>
          intro i Ip141 Lp141 Rp141 Yp141 ncp141 nsp141 hPp141 tap141 tpp141 tup141 i0 n1 hm141
          refine yi_G_run 2 (143, [(3, .inl i), (0, .inr (.inr (some p))), (1, .inr (.inr (some u))), (2, .inr (.inr (some a)))], [.inr (.inr (some u)), .inl i], (Ip141, Lp141, Rp141, Yp141), ncp141, nsp141) (fun _ => rfl) ?_
          have b147 := cl_rd hPp141.1 tup141 (k := 19) (lo := 0) (hi := 6) rfl
          refine cl_G_gi rfl (cl_T_K tup141) rfl rfl rfl ?_
          by_cases h148 : (Ip141 u 19) ≤ i
          · refine yi_G_if2 true rfl (yi_ge_t h148) ?_
            exact yi_G_retv rfl rfl (⟨_, _, _, _, _, _, rfl, hPp141, by omega, by omega⟩)
          · refine yi_G_if2 false rfl (yi_ge_f h148) ?_
            refine yi_G_run 2 (152, [(3, .inl i), (0, .inr (.inr (some p))), (1, .inr (.inr (some u))), (2, .inr (.inr (some a)))], [.inl 6, .inl i], (Ip141, Lp141, Rp141, Yp141), ncp141, nsp141) (fun _ => rfl) ?_
            by_cases h149 : 6 ≤ i
            · refine yi_G_if2 true rfl (yi_ge_t h149) ?_
              exact yi_G_retv rfl rfl (⟨_, _, _, _, _, _, rfl, hPp141, by omega, by omega⟩)
            · refine yi_G_if2 false rfl (yi_ge_f h149) ?_
              refine yi_G_run 1 (156, [(3, .inl i), (0, .inr (.inr (some p))), (1, .inr (.inr (some u))), (2, .inr (.inr (some a)))], [.inr (.inr (some p))], (Ip141, Lp141, Rp141, Yp141), ncp141, nsp141) (fun _ => rfl) ?_
              obtain ⟨q150, e151, t152, n153⟩ := cl_rn hPp141.1 tpp141 (k := 4) (m := 5) rfl
              refine cl_G_gr rfl (cl_T_K tpp141) rfl rfl rfl e151 ?_
              refine yi_G_run 1 (160, [(3, .inl i), (0, .inr (.inr (some p))), (1, .inr (.inr (some u))), (2, .inr (.inr (some a)))], [.inl i, .inr (.inr (some q150))], (Ip141, Lp141, Rp141, Yp141), ncp141, nsp141) (fun _ => rfl) ?_
              rcases cl_ro hPp141.1 t152 (k := i.toNat) rfl with e155 | ⟨q154, e155, t156⟩
              · refine cl_G_aald rfl t152 (by omega) (by omega) (by omega) e155 ?_
                refine cl_G_nnl true rfl rfl ?_
                refine yi_G_run 1 (165, [(3, .inl i), (0, .inr (.inr (some p))), (1, .inr (.inr (some u))), (2, .inr (.inr (some a)))], [.inr (.inr (some p))], (Ip141, Lp141, Rp141, Yp141), ncp141, nsp141) (fun _ => rfl) ?_
                refine cl_G_gr rfl (cl_T_K tpp141) rfl rfl rfl e151 ?_
                refine yi_G_run 1 (169, [(3, .inl i), (0, .inr (.inr (some p))), (1, .inr (.inr (some u))), (2, .inr (.inr (some a)))], [.inl i, .inr (.inr (some q150))], (Ip141, Lp141, Rp141, Yp141), ncp141, nsp141) (fun _ => rfl) ?_
                refine cl_G_mko (m := 2) rfl hPp141 rfl rfl (fun e157x I157 L157 R157 Y157 ee157 hP157 x157 tt157 z157 y157 k157 g157 m157 o157 => ?_)
                have t158 := tt157 _ _ tap141
                have t159 := tt157 _ _ tpp141
                have t160 := tt157 _ _ tup141
                have n161 := (cl_T_n t152 x157).trans n153
                have t162 := tt157 _ _ t152
                have e163 := (o157 p 4 (tpp141).2.1).1.trans e151
                have e164 := (o157 q150 (i.toNat) (t152).2.1).1.trans e155
                refine yi_G_run 1 (173, [(3, .inl i), (0, .inr (.inr (some p))), (1, .inr (.inr (some u))), (2, .inr (.inr (some a)))], [.inr (.inr (some e157x)), .inr (.inr (some e157x)), .inl i, .inr (.inr (some q150))], (I157, L157, R157, Y157), ncp141 + 1, nsp141 + 2) (fun _ => rfl) ?_
                have r166 : I157 p 9 = Ip141 p 9 := by rw [(o157 p 9 (tpp141).2.1).2]
                have r167 : I157 p 2 = Ip141 p 2 := by rw [(o157 p 2 (tpp141).2.1).2]
                refine cl_G_callx rfl rfl rfl rfl (k_FS0 d (by omega) hP157.1 g157 k157 m157 z157 y157  ) ?_
                rintro _ ⟨I165, L165, R165, Y165, nc165, ns165, rfl, hQ165, ca165, cb165, t165, x165a⟩
                have hP165 := cl_P_t hP157 hQ165
                have t168 := cl_T_x (cl_T_d t158) hQ165.2.1
                have n169 := cl_T_n t158 hQ165.2.1
                have t170 := cl_T_x (cl_T_d t159) hQ165.2.1
                have t171 := cl_T_x (cl_T_d t160) hQ165.2.1
                have t172 := cl_T_x (cl_T_d t162) hQ165.2.1
                have n173 := (cl_T_n t162 hQ165.2.1).trans n161
                have e174 := (x165a p 4 t159.2.1 (fun z => t159.2.2.2.1 (by rw [z]; simp))).2.trans e163
                have e175 := (x165a q150 (i.toNat) t162.2.1 (fun z => t162.2.2.2.1 (by rw [z]; simp))).2.trans e164
                show yi_G zi_Ms d zi_m303 (176, [(3, .inl i), (0, .inr (.inr (some p))), (1, .inr (.inr (some u))), (2, .inr (.inr (some a)))], [.inr (.inr (some e157x)), .inl i, .inr (.inr (some q150))], (I165, L165, R165, Y165), ncp141 + 1 + nc165, nsp141 + 2 + ns165) _
                refine cl_G_aast rfl t172 (by omega) rfl (by omega) (by omega) (Or.inr ⟨_, rfl, t165⟩) ?_
                have hP176 := cl_P_uR (k := (i.toNat)) (v := (some e157x)) hP165 t172 (by omega) (by omega) (cl_hro rfl t165)
                generalize w177 : cl_u R165 q150 (i.toNat) (some e157x) = R178 at hP176 ⊢
                have e179 : R178 p 4 = some q150 := by rw [← w177, cl_u_ne _ _ (fun z => cl_ne t170 t172 (by decide) z.1)]; exact e174
                have e180 : R178 q150 (i.toNat) = some e157x := by rw [← w177, cl_u_eq]
                refine yi_G_run 3 (180, [(3, .inl i), (0, .inr (.inr (some p))), (1, .inr (.inr (some u))), (2, .inr (.inr (some a)))], [.inr (.inr (some u)), .inr (.inr (some a)), .inr (.inr (some p))], (I165, L165, R178, Y165), ncp141 + 1 + nc165, nsp141 + 2 + ns165) (fun _ => rfl) ?_
                obtain ⟨q181, e182, t183, n184⟩ := cl_rn hP176.1 t171 (k := 10) (m := 5) rfl
                refine cl_G_gr rfl (cl_T_K t171) rfl rfl rfl e182 ?_
                refine yi_G_run 1 (184, [(3, .inl i), (0, .inr (.inr (some p))), (1, .inr (.inr (some u))), (2, .inr (.inr (some a)))], [.inl i, .inr (.inr (some q181)), .inr (.inr (some a)), .inr (.inr (some p))], (I165, L165, R178, Y165), ncp141 + 1 + nc165, nsp141 + 2 + ns165) (fun _ => rfl) ?_
                refine cl_G_iald rfl t183 (by omega) (by omega) ?_
                refine yi_G_run 1 (186, [(3, .inl i), (0, .inr (.inr (some p))), (1, .inr (.inr (some u))), (2, .inr (.inr (some a)))], [.inr (.inr (some u)), .inl (I165 q181 (i.toNat)), .inr (.inr (some a)), .inr (.inr (some p))], (I165, L165, R178, Y165), ncp141 + 1 + nc165, nsp141 + 2 + ns165) (fun _ => rfl) ?_
                obtain ⟨q185, e186, t187, n188⟩ := cl_rn hP176.1 t171 (k := 11) (m := 5) rfl
                refine cl_G_gr rfl (cl_T_K t171) rfl rfl rfl e186 ?_
                refine yi_G_run 1 (190, [(3, .inl i), (0, .inr (.inr (some p))), (1, .inr (.inr (some u))), (2, .inr (.inr (some a)))], [.inl i, .inr (.inr (some q185)), .inl (I165 q181 (i.toNat)), .inr (.inr (some a)), .inr (.inr (some p))], (I165, L165, R178, Y165), ncp141 + 1 + nc165, nsp141 + 2 + ns165) (fun _ => rfl) ?_
                refine cl_G_iald rfl t187 (by omega) (by omega) ?_
                refine yi_G_run 1 (192, [(3, .inl i), (0, .inr (.inr (some p))), (1, .inr (.inr (some u))), (2, .inr (.inr (some a)))], [.inr (.inr (some p)), .inl (I165 q185 (i.toNat)), .inl (I165 q181 (i.toNat)), .inr (.inr (some a)), .inr (.inr (some p))], (I165, L165, R178, Y165), ncp141 + 1 + nc165, nsp141 + 2 + ns165) (fun _ => rfl) ?_
                refine cl_G_gr rfl (cl_T_K t170) rfl rfl rfl e179 ?_
                refine yi_G_run 1 (196, [(3, .inl i), (0, .inr (.inr (some p))), (1, .inr (.inr (some u))), (2, .inr (.inr (some a)))], [.inl i, .inr (.inr (some q150)), .inl (I165 q185 (i.toNat)), .inl (I165 q181 (i.toNat)), .inr (.inr (some a)), .inr (.inr (some p))], (I165, L165, R178, Y165), ncp141 + 1 + nc165, nsp141 + 2 + ns165) (fun _ => rfl) ?_
                refine cl_G_aald rfl t172 (by omega) (by omega) (by omega) e180 ?_
                have r193 : I165 p 9 = Ip141 p 9 := by rw [(x165a p 9 (cl_T_x (E := E) tp hP157.2.1).2.1 (by have a := tp.2.1; have b := hPp141.2.1.1; omega)).1, (o157 p 9 (tpp141).2.1).2]
                have r194 : I165 p 2 = Ip141 p 2 := by rw [(x165a p 2 (cl_T_x (E := E) tp hP157.2.1).2.1 (by have a := tp.2.1; have b := hPp141.2.1.1; omega)).1, (o157 p 2 (tpp141).2.1).2]
                refine yi_G_callv rfl rfl (cl_rcv t170 rfl) rfl (k_solve d (by omega) hP176.1 t170 t168 t165 ) ?_
                rintro _ ⟨I192, L192, R192, Y192, nc192, ns192, rfl, hQ192, ca192, cb192, x192a, x192b, x192c⟩
                have hP192 := cl_P_t hP176 hQ192
                have t195 := cl_T_x t168 hQ192.2.1
                have n196 := cl_T_n t168 hQ192.2.1
                have t197 := cl_T_x t170 hQ192.2.1
                have t198 := cl_T_x t171 hQ192.2.1
                have t199 := cl_T_x t172 hQ192.2.1
                have n200 := (cl_T_n t172 hQ192.2.1).trans n173
                have t201 := cl_T_x t165 hQ192.2.1
                have t202 := cl_T_x t183 hQ192.2.1
                have n203 := (cl_T_n t183 hQ192.2.1).trans n184
                have t204 := cl_T_x t187 hQ192.2.1
                have n205 := (cl_T_n t187 hQ192.2.1).trans n188
                show yi_G zi_Ms d zi_m303 (200, [(3, .inl i), (0, .inr (.inr (some p))), (1, .inr (.inr (some u))), (2, .inr (.inr (some a)))], [], (I192, L192, R192, Y192), ncp141 + 1 + nc165 + nc192, nsp141 + 2 + ns165 + ns192) _
                refine yi_G_iinc [(3, .inl (i + 1)), (0, .inr (.inr (some p))), (1, .inr (.inr (some u))), (2, .inr (.inr (some a)))] rfl rfl rfl (by rw [show yi_w (i + 1) = i + 1 from (yi_wn (by omega) (by omega)).trans (by omega)]; rfl) ?_
                refine yi_G_run 1 (141, [(3, .inl (i + 1)), (0, .inr (.inr (some p))), (1, .inr (.inr (some u))), (2, .inr (.inr (some a)))], [], (I192, L192, R192, Y192), ncp141 + 1 + nc165 + nc192, nsp141 + 2 + ns165 + ns192) (fun _ => rfl) ?_
                have r206 : I192 p 9 = Ip141 p 9 := by rw [(x192c p 9 (cl_T_x tp hP176.2.1).2.1 (cl_ne (cl_T_x tp hP176.2.1) t165 (by decide))).1, (x165a p 9 (cl_T_x (E := E) tp hP157.2.1).2.1 (by have a := tp.2.1; have b := hPp141.2.1.1; omega)).1, (o157 p 9 (tpp141).2.1).2]
                have r207 : I192 p 2 = Ip141 p 2 := by rw [(x192c p 2 (cl_T_x tp hP176.2.1).2.1 (cl_ne (cl_T_x tp hP176.2.1) t165 (by decide))).1, (x165a p 2 (cl_T_x (E := E) tp hP157.2.1).2.1 (by have a := tp.2.1; have b := hPp141.2.1.1; omega)).1, (o157 p 2 (tpp141).2.1).2]
                exact ih141 _ (by omega) (i + 1) I192 L192 R192 Y192 (ncp141 + 1 + nc165 + nc192) (nsp141 + 2 + ns165 + ns192) hP192 t195 t197 t198 (by omega) (by omega) rfl
              · refine cl_G_aald rfl t152 (by omega) (by omega) (by omega) e155 ?_
                refine cl_G_nnl false rfl rfl ?_
                refine yi_G_run 3 (180, [(3, .inl i), (0, .inr (.inr (some p))), (1, .inr (.inr (some u))), (2, .inr (.inr (some a)))], [.inr (.inr (some u)), .inr (.inr (some a)), .inr (.inr (some p))], (Ip141, Lp141, Rp141, Yp141), ncp141, nsp141) (fun _ => rfl) ?_
                obtain ⟨q208, e209, t210, n211⟩ := cl_rn hPp141.1 tup141 (k := 10) (m := 5) rfl
                refine cl_G_gr rfl (cl_T_K tup141) rfl rfl rfl e209 ?_
                refine yi_G_run 1 (184, [(3, .inl i), (0, .inr (.inr (some p))), (1, .inr (.inr (some u))), (2, .inr (.inr (some a)))], [.inl i, .inr (.inr (some q208)), .inr (.inr (some a)), .inr (.inr (some p))], (Ip141, Lp141, Rp141, Yp141), ncp141, nsp141) (fun _ => rfl) ?_
                refine cl_G_iald rfl t210 (by omega) (by omega) ?_
                refine yi_G_run 1 (186, [(3, .inl i), (0, .inr (.inr (some p))), (1, .inr (.inr (some u))), (2, .inr (.inr (some a)))], [.inr (.inr (some u)), .inl (Ip141 q208 (i.toNat)), .inr (.inr (some a)), .inr (.inr (some p))], (Ip141, Lp141, Rp141, Yp141), ncp141, nsp141) (fun _ => rfl) ?_
                obtain ⟨q212, e213, t214, n215⟩ := cl_rn hPp141.1 tup141 (k := 11) (m := 5) rfl
                refine cl_G_gr rfl (cl_T_K tup141) rfl rfl rfl e213 ?_
                refine yi_G_run 1 (190, [(3, .inl i), (0, .inr (.inr (some p))), (1, .inr (.inr (some u))), (2, .inr (.inr (some a)))], [.inl i, .inr (.inr (some q212)), .inl (Ip141 q208 (i.toNat)), .inr (.inr (some a)), .inr (.inr (some p))], (Ip141, Lp141, Rp141, Yp141), ncp141, nsp141) (fun _ => rfl) ?_
                refine cl_G_iald rfl t214 (by omega) (by omega) ?_
                refine yi_G_run 1 (192, [(3, .inl i), (0, .inr (.inr (some p))), (1, .inr (.inr (some u))), (2, .inr (.inr (some a)))], [.inr (.inr (some p)), .inl (Ip141 q212 (i.toNat)), .inl (Ip141 q208 (i.toNat)), .inr (.inr (some a)), .inr (.inr (some p))], (Ip141, Lp141, Rp141, Yp141), ncp141, nsp141) (fun _ => rfl) ?_
                refine cl_G_gr rfl (cl_T_K tpp141) rfl rfl rfl e151 ?_
                refine yi_G_run 1 (196, [(3, .inl i), (0, .inr (.inr (some p))), (1, .inr (.inr (some u))), (2, .inr (.inr (some a)))], [.inl i, .inr (.inr (some q150)), .inl (Ip141 q212 (i.toNat)), .inl (Ip141 q208 (i.toNat)), .inr (.inr (some a)), .inr (.inr (some p))], (Ip141, Lp141, Rp141, Yp141), ncp141, nsp141) (fun _ => rfl) ?_
                refine cl_G_aald rfl t152 (by omega) (by omega) (by omega) e155 ?_
                refine yi_G_callv rfl rfl (cl_rcv tpp141 rfl) rfl (k_solve d (by omega) hPp141.1 tpp141 tap141 t156 ) ?_
                rintro _ ⟨I219, L219, R219, Y219, nc219, ns219, rfl, hQ219, ca219, cb219, x219a, x219b, x219c⟩
                have hP219 := cl_P_t hPp141 hQ219
                have t220 := cl_T_x tap141 hQ219.2.1
                have n221 := cl_T_n tap141 hQ219.2.1
                have t222 := cl_T_x tpp141 hQ219.2.1
                have t223 := cl_T_x tup141 hQ219.2.1
                have t224 := cl_T_x t152 hQ219.2.1
                have n225 := (cl_T_n t152 hQ219.2.1).trans n153
                have t226 := cl_T_x t156 hQ219.2.1
                have t227 := cl_T_x t210 hQ219.2.1
                have n228 := (cl_T_n t210 hQ219.2.1).trans n211
                have t229 := cl_T_x t214 hQ219.2.1
                have n230 := (cl_T_n t214 hQ219.2.1).trans n215
                show yi_G zi_Ms d zi_m303 (200, [(3, .inl i), (0, .inr (.inr (some p))), (1, .inr (.inr (some u))), (2, .inr (.inr (some a)))], [], (I219, L219, R219, Y219), ncp141 + nc219, nsp141 + ns219) _
                refine yi_G_iinc [(3, .inl (i + 1)), (0, .inr (.inr (some p))), (1, .inr (.inr (some u))), (2, .inr (.inr (some a)))] rfl rfl rfl (by rw [show yi_w (i + 1) = i + 1 from (yi_wn (by omega) (by omega)).trans (by omega)]; rfl) ?_
                refine yi_G_run 1 (141, [(3, .inl (i + 1)), (0, .inr (.inr (some p))), (1, .inr (.inr (some u))), (2, .inr (.inr (some a)))], [], (I219, L219, R219, Y219), ncp141 + nc219, nsp141 + ns219) (fun _ => rfl) ?_
                have r231 : I219 p 9 = Ip141 p 9 := by rw [(x219c p 9 (cl_T_x tp hPp141.2.1).2.1 (cl_ne (cl_T_x tp hPp141.2.1) t156 (by decide))).1]
                have r232 : I219 p 2 = Ip141 p 2 := by rw [(x219c p 2 (cl_T_x tp hPp141.2.1).2.1 (cl_ne (cl_T_x tp hPp141.2.1) t156 (by decide))).1]
                exact ih141 _ (by omega) (i + 1) I219 L219 R219 Y219 (ncp141 + nc219) (nsp141 + ns219) hP219 t220 t222 t223 (by omega) (by omega) rfl
        exact pt141 _ 0 Ip88 Lp88 Rp88 Yp88 (ncp88) (nsp88) hPp88 tap88 tpp88 tup88 (by omega) (by omega) rfl
      · refine yi_G_if2 false rfl (yi_ge_f h146) ?_
        refine yi_G_run 3 (104, [(3, .inl j), (0, .inr (.inr (some p))), (1, .inr (.inr (some u))), (2, .inr (.inr (some a)))], [.inr (.inr (some u)), .inr (.inr (some a)), .inr (.inr (some p))], (Ip88, Lp88, Rp88, Yp88), ncp88, nsp88) (fun _ => rfl) ?_
        obtain ⟨q233, e234, t235, n236⟩ := cl_rn hPp88.1 tup88 (k := 8) (m := 3) rfl
        refine cl_G_gr rfl (cl_T_K tup88) rfl rfl rfl e234 ?_
        refine yi_G_run 1 (108, [(3, .inl j), (0, .inr (.inr (some p))), (1, .inr (.inr (some u))), (2, .inr (.inr (some a)))], [.inl j, .inr (.inr (some q233)), .inr (.inr (some a)), .inr (.inr (some p))], (Ip88, Lp88, Rp88, Yp88), ncp88, nsp88) (fun _ => rfl) ?_
        refine cl_G_iald rfl t235 (by omega) (by omega) ?_
        refine yi_G_run 1 (110, [(3, .inl j), (0, .inr (.inr (some p))), (1, .inr (.inr (some u))), (2, .inr (.inr (some a)))], [.inr (.inr (some u)), .inl (Ip88 q233 (j.toNat)), .inr (.inr (some a)), .inr (.inr (some p))], (Ip88, Lp88, Rp88, Yp88), ncp88, nsp88) (fun _ => rfl) ?_
        obtain ⟨q237, e238, t239, n240⟩ := cl_rn hPp88.1 tup88 (k := 9) (m := 3) rfl
        refine cl_G_gr rfl (cl_T_K tup88) rfl rfl rfl e238 ?_
        refine yi_G_run 1 (114, [(3, .inl j), (0, .inr (.inr (some p))), (1, .inr (.inr (some u))), (2, .inr (.inr (some a)))], [.inl j, .inr (.inr (some q237)), .inl (Ip88 q233 (j.toNat)), .inr (.inr (some a)), .inr (.inr (some p))], (Ip88, Lp88, Rp88, Yp88), ncp88, nsp88) (fun _ => rfl) ?_
        refine cl_G_iald rfl t239 (by omega) (by omega) ?_
        refine yi_G_run 1 (116, [(3, .inl j), (0, .inr (.inr (some p))), (1, .inr (.inr (some u))), (2, .inr (.inr (some a)))], [.inr (.inr (some p)), .inl (Ip88 q237 (j.toNat)), .inl (Ip88 q233 (j.toNat)), .inr (.inr (some a)), .inr (.inr (some p))], (Ip88, Lp88, Rp88, Yp88), ncp88, nsp88) (fun _ => rfl) ?_
        obtain ⟨q241, e242, t243⟩ := cl_rf hPp88.1 tpp88 (k := 5) rfl
        refine cl_G_gr rfl (cl_T_K tpp88) rfl rfl rfl e242 ?_
        refine yi_G_callv rfl rfl (cl_rcv tpp88 rfl) rfl (k_solve d (by omega) hPp88.1 tpp88 tap88 t243 ) ?_
        rintro _ ⟨I244, L244, R244, Y244, nc244, ns244, rfl, hQ244, ca244, cb244, x244a, x244b, x244c⟩
        have hP244 := cl_P_t hPp88 hQ244
        have t245 := cl_T_x tap88 hQ244.2.1
        have n246 := cl_T_n tap88 hQ244.2.1
        have t247 := cl_T_x tpp88 hQ244.2.1
        have t248 := cl_T_x tup88 hQ244.2.1
        have t249 := cl_T_x t235 hQ244.2.1
        have n250 := (cl_T_n t235 hQ244.2.1).trans n236
        have t251 := cl_T_x t239 hQ244.2.1
        have n252 := (cl_T_n t239 hQ244.2.1).trans n240
        have t253 := cl_T_x t243 hQ244.2.1
        show yi_G zi_Ms d zi_m303 (122, [(3, .inl j), (0, .inr (.inr (some p))), (1, .inr (.inr (some u))), (2, .inr (.inr (some a)))], [], (I244, L244, R244, Y244), ncp88 + nc244, nsp88 + ns244) _
        refine yi_G_run 1 (123, [(3, .inl j), (0, .inr (.inr (some p))), (1, .inr (.inr (some u))), (2, .inr (.inr (some a)))], [.inr (.inr (some p))], (I244, L244, R244, Y244), ncp88 + nc244, nsp88 + ns244) (fun _ => rfl) ?_
        obtain ⟨q254, e255, t256⟩ := cl_rf hP244.1 t247 (k := 0) rfl
        refine cl_G_gr rfl (cl_T_K t247) rfl rfl rfl e255 ?_
        refine yi_G_run 1 (127, [(3, .inl j), (0, .inr (.inr (some p))), (1, .inr (.inr (some u))), (2, .inr (.inr (some a)))], [.inr (.inr (some p)), .inr (.inr (some q254))], (I244, L244, R244, Y244), ncp88 + nc244, nsp88 + ns244) (fun _ => rfl) ?_
        obtain ⟨q257, e258, t259⟩ := cl_rf hP244.1 t247 (k := 5) rfl
        refine cl_G_gr rfl (cl_T_K t247) rfl rfl rfl e258 ?_
        have r261 : I244 p 9 = Ip88 p 9 := by rw [(x244c p 9 (cl_T_x tp hPp88.2.1).2.1 (cl_ne (cl_T_x tp hPp88.2.1) t243 (by decide))).1]
        have r262 : I244 p 2 = Ip88 p 2 := by rw [(x244c p 2 (cl_T_x tp hPp88.2.1).2.1 (cl_ne (cl_T_x tp hPp88.2.1) t243 (by decide))).1]
        refine yi_G_callv rfl rfl (cl_rcv t256 rfl) rfl (k_keep d (by omega) hP244.1 t256 t259 ) ?_
        rintro _ ⟨L260, rfl, hQ260⟩
        have hP260 := cl_P_t hP244 hQ260
        show yi_G zi_Ms d zi_m303 (133, [(3, .inl j), (0, .inr (.inr (some p))), (1, .inr (.inr (some u))), (2, .inr (.inr (some a)))], [], (I244, L260, R244, Y244), ncp88 + nc244, nsp88 + ns244) _
        refine yi_G_iinc [(3, .inl (j + 1)), (0, .inr (.inr (some p))), (1, .inr (.inr (some u))), (2, .inr (.inr (some a)))] rfl rfl rfl (by rw [show yi_w (j + 1) = j + 1 from (yi_wn (by omega) (by omega)).trans (by omega)]; rfl) ?_
        refine yi_G_run 1 (88, [(3, .inl (j + 1)), (0, .inr (.inr (some p))), (1, .inr (.inr (some u))), (2, .inr (.inr (some a)))], [], (I244, L260, R244, Y244), ncp88 + nc244, nsp88 + ns244) (fun _ => rfl) ?_
        have r263 : I244 p 9 = Ip88 p 9 := by rw [(x244c p 9 (cl_T_x tp hPp88.2.1).2.1 (cl_ne (cl_T_x tp hPp88.2.1) t243 (by decide))).1]
        have r264 : I244 p 2 = Ip88 p 2 := by rw [(x244c p 2 (cl_T_x tp hPp88.2.1).2.1 (cl_ne (cl_T_x tp hPp88.2.1) t243 (by decide))).1]
        exact ih88 _ (by omega) (j + 1) I244 L260 R244 Y244 (ncp88 + nc244) (nsp88 + ns244) hP260 t245 t247 t248 (by omega) (by omega) rfl
  have r265 : I39 p 9 = (((I19 p 2) + 64) - 1) / 64 := by rw [(x39c p 9 (cl_T_x tp hP27.2.1).2.1 (cl_ne (cl_T_x tp hP27.2.1) t36 (by decide))).1, x27a p 9 (cl_T_x tp hP22.2.1), ← w23, yi_u_eq]
  have r266 : I39 p 2 = z14 := by rw [(x39c p 2 (cl_T_x tp hP27.2.1).2.1 (cl_ne (cl_T_x tp hP27.2.1) t36 (by decide))).1, x27a p 2 (cl_T_x tp hP22.2.1), ← w23, yi_u_ne _ _ (fun z => absurd z.2 (by decide)), ← w18, yi_u_eq]
  exact pt88 _ 0 I39 L55 R39 Y39 (0 + nc27 + nc39) (0 + ns27 + ns39) hP55 t44 t42 t43 (by omega) (by omega) rfl
