/-! A land is made. -/
theorem k_Land0 (D : Nat) (hD : 1 ≤ D) {E : List Nat} {e : Nat} {I L : cl_I} {R : cl_Rr} {Y : cl_Y} (hC : cl_C (e :: E) I L R Y) (ge : 10 ≤ e ∧ e < Y.2.2 ∧ 108 < e) (ke : Y.1 e = 3) (em : e ∉ E) (ez : ∀ k, I e k = 0) (ey : ∀ k, R e k = none) : yi_E zi_Ms D 219 [.inr (.inr (some e))] (I, L, R, Y) (fun r => ∃ I', ∃ L', ∃ R', ∃ Y', ∃ nc ns, r = (none, (I', L', R', Y'), nc, ns) ∧ cl_P E I L R Y I' L' R' Y' ∧ nc ≤ 13 ∧ ns ≤ 60 ∧ cl_T E Y' e 3 ∧ (∀ q k, q < Y.2.2 → q ≠ e → I' q k = I q k ∧ R' q k = R q k)) := by
  obtain ⟨d, rfl⟩ : ∃ d, D = d + 1 := ⟨D - 1, by omega⟩
  refine yi_E_of (M := zi_m219) rfl rfl ?_
  have hP : cl_P (e :: E) I L R Y I L R Y := cl_P_r hC
  show yi_G zi_Ms d zi_m219 (0, [(0, .inr (.inr (some e)))], [], (I, L, R, Y), 0, 0) _
  refine yi_G_run 1 (1, [(0, .inr (.inr (some e)))], [.inr (.inr (some e))], (I, L, R, Y), 0, 0) (fun _ => rfl) ?_
  have pt105 : ∀ (Ip105 : cl_I) (Lp105 : cl_I) (Rp105 : cl_Rr) (Yp105 : cl_Y) (ncp105 : Nat) (nsp105 : Nat), (cl_P (e :: E) I L R Y Ip105 Lp105 Rp105 Yp105) → (10 ≤ e ∧ e < Yp105.2.2 ∧ 108 < e) → (Yp105.1 e = 3) → (∃ q, Rp105 e 0 = some q ∧ cl_T (e :: E) Yp105 q 21 ∧ Yp105.2.1 q = 4) → (∃ q, Rp105 e 1 = some q ∧ cl_T (e :: E) Yp105 q 21 ∧ Yp105.2.1 q = 4) → (∃ q, Rp105 e 2 = some q ∧ cl_T (e :: E) Yp105 q 21 ∧ Yp105.2.1 q = 5) → (∃ q, Rp105 e 3 = some q ∧ cl_T (e :: E) Yp105 q 20 ∧ Yp105.2.1 q = 4) → (∃ q, Rp105 e 4 = some q ∧ cl_T (e :: E) Yp105 q 20 ∧ Yp105.2.1 q = 5) → (∃ q, Rp105 e 5 = some q ∧ cl_T (e :: E) Yp105 q 20 ∧ Yp105.2.1 q = 5) → (∃ q, Rp105 e 6 = some q ∧ cl_T (e :: E) Yp105 q 20 ∧ Yp105.2.1 q = 6) → (∃ q, Rp105 e 7 = some q ∧ cl_T (e :: E) Yp105 q 20 ∧ Yp105.2.1 q = 6) → (∃ q, Rp105 e 8 = some q ∧ cl_T (e :: E) Yp105 q 20 ∧ Yp105.2.1 q = 4) → (∃ q, Rp105 e 9 = some q ∧ cl_T (e :: E) Yp105 q 20 ∧ Yp105.2.1 q = 4) → (∃ q, Rp105 e 10 = some q ∧ cl_T (e :: E) Yp105 q 20 ∧ Yp105.2.1 q = 6) → (∃ q, Rp105 e 11 = some q ∧ cl_T (e :: E) Yp105 q 20 ∧ Yp105.2.1 q = 6) → (∃ q, Rp105 e 12 = some q ∧ cl_T (e :: E) Yp105 q 20 ∧ Yp105.2.1 q = 1) → (∀ k, Ip105 e k = 0) → (∀ q k, q < Y.2.2 → q ≠ e → Ip105 q k = I q k ∧ Rp105 q k = R q k) → (ncp105 ≤ 13 ∧ nsp105 ≤ 60) → yi_G zi_Ms d zi_m219 (105, [(0, .inr (.inr (some e)))], [], (Ip105, Lp105, Rp105, Yp105), ncp105, nsp105) (fun r => ∃ I', ∃ L', ∃ R', ∃ Y', ∃ nc ns, r = (none, (I', L', R', Y'), nc, ns) ∧ cl_P E I L R Y I' L' R' Y' ∧ nc ≤ 13 ∧ ns ≤ 60 ∧ cl_T E Y' e 3 ∧ (∀ q k, q < Y.2.2 → q ≠ e → I' q k = I q k ∧ R' q k = R q k)) := by
    intro Ip105 Lp105 Rp105 Yp105 ncp105 nsp105 hPp105 gep105 kep105 rk0 rk1 rk2 rk3 rk4 rk5 rk6 rk7 rk8 rk9 rk10 rk11 rk12 zz105 fr105 cc
    obtain ⟨qa0, ea0_, ta0, na0⟩ := rk0
    obtain ⟨qa1, ea1_, ta1, na1⟩ := rk1
    obtain ⟨qa2, ea2_, ta2, na2⟩ := rk2
    obtain ⟨qa3, ea3_, ta3, na3⟩ := rk3
    obtain ⟨qa4, ea4_, ta4, na4⟩ := rk4
    obtain ⟨qa5, ea5_, ta5, na5⟩ := rk5
    obtain ⟨qa6, ea6_, ta6, na6⟩ := rk6
    obtain ⟨qa7, ea7_, ta7, na7⟩ := rk7
    obtain ⟨qa8, ea8_, ta8, na8⟩ := rk8
    obtain ⟨qa9, ea9_, ta9, na9⟩ := rk9
    obtain ⟨qa10, ea10_, ta10, na10⟩ := rk10
    obtain ⟨qa11, ea11_, ta11, na11⟩ := rk11
    obtain ⟨qa12, ea12_, ta12, na12⟩ := rk12
    refine yi_G_run 2 (107, [(0, .inr (.inr (some e)))], [.inl 1, .inr (.inr (some e))], (Ip105, Lp105, Rp105, Yp105), ncp105, nsp105) (fun _ => rfl) ?_
    refine cl_G_pi rfl ⟨gep105.1, kep105⟩ rfl rfl rfl ?_
    have hP1 := cl_P_mI (p := e) (k := 14) (v := 1) hPp105 (by simp)
    generalize w2 : yi_u Ip105 e 14 1 = I3 at hP1 ⊢
    have r4 : I3 e 14 = 1 := by rw [← w2, yi_u_eq]
    have z5 := zz105 14
    have ib14 : 1 ≤ I3 e 14 ∧ I3 e 14 ≤ 6 := by omega
    have r6 : I3 e 15 = Ip105 e 15 := by rw [← w2, yi_u_ne _ _ (fun z => absurd z.2 (by decide))]
    have z7 := zz105 15
    have ib15 : 0 ≤ I3 e 15 ∧ I3 e 15 ≤ 4 := by omega
    have r8 : I3 e 16 = Ip105 e 16 := by rw [← w2, yi_u_ne _ _ (fun z => absurd z.2 (by decide))]
    have z9 := zz105 16
    have ib16 : 0 ≤ I3 e 16 ∧ I3 e 16 ≤ 4 := by omega
    have r10 : I3 e 17 = Ip105 e 17 := by rw [← w2, yi_u_ne _ _ (fun z => absurd z.2 (by decide))]
    have z11 := zz105 17
    have ib17 : 0 ≤ I3 e 17 ∧ I3 e 17 ≤ 5 := by omega
    have r12 : I3 e 18 = Ip105 e 18 := by rw [← w2, yi_u_ne _ _ (fun z => absurd z.2 (by decide))]
    have z13 := zz105 18
    have ib18 : 0 ≤ I3 e 18 ∧ I3 e 18 ≤ 4 := by omega
    have r14 : I3 e 19 = Ip105 e 19 := by rw [← w2, yi_u_ne _ _ (fun z => absurd z.2 (by decide))]
    have z15 := zz105 19
    have ib19 : 0 ≤ I3 e 19 ∧ I3 e 19 ≤ 6 := by omega
    exact yi_G_retv rfl rfl (⟨_, _, _, _, _, _, rfl, ⟨cl_C_d hP1.1 em ⟨gep105.1, gep105.2.1, Or.inr gep105.2.2, kep105⟩ (by decide) (fun k b hb => match k, hb with | 0, hb => by cases hb | 1, hb => by cases hb | 2, hb => by cases hb | 3, hb => by cases hb | 4, hb => by cases hb | 5, hb => by cases hb | 6, hb => by cases hb | 7, hb => by cases hb | 8, hb => by cases hb | 9, hb => by cases hb | 10, hb => by cases hb | 11, hb => by cases hb | 12, hb => by cases hb | 13, hb => by cases hb | 14, hb => by cases hb; exact ib14 | 15, hb => by cases hb; exact ib15 | 16, hb => by cases hb; exact ib16 | 17, hb => by cases hb; exact ib17 | 18, hb => by cases hb; exact ib18 | 19, hb => by cases hb; exact ib19 | (_ + 20), hb => by cases hb) (fun k q hq => match k, hq with | 0, hq => by cases hq; exact Or.inr ⟨qa0, ea0_, cl_T_d ta0, Or.inr na0⟩ | 1, hq => by cases hq; exact Or.inr ⟨qa1, ea1_, cl_T_d ta1, Or.inr na1⟩ | 2, hq => by cases hq; exact Or.inr ⟨qa2, ea2_, cl_T_d ta2, Or.inr na2⟩ | 3, hq => by cases hq; exact Or.inr ⟨qa3, ea3_, cl_T_d ta3, Or.inr na3⟩ | 4, hq => by cases hq; exact Or.inr ⟨qa4, ea4_, cl_T_d ta4, Or.inr na4⟩ | 5, hq => by cases hq; exact Or.inr ⟨qa5, ea5_, cl_T_d ta5, Or.inr na5⟩ | 6, hq => by cases hq; exact Or.inr ⟨qa6, ea6_, cl_T_d ta6, Or.inr na6⟩ | 7, hq => by cases hq; exact Or.inr ⟨qa7, ea7_, cl_T_d ta7, Or.inr na7⟩ | 8, hq => by cases hq; exact Or.inr ⟨qa8, ea8_, cl_T_d ta8, Or.inr na8⟩ | 9, hq => by cases hq; exact Or.inr ⟨qa9, ea9_, cl_T_d ta9, Or.inr na9⟩ | 10, hq => by cases hq; exact Or.inr ⟨qa10, ea10_, cl_T_d ta10, Or.inr na10⟩ | 11, hq => by cases hq; exact Or.inr ⟨qa11, ea11_, cl_T_d ta11, Or.inr na11⟩ | 12, hq => by cases hq; exact Or.inr ⟨qa12, ea12_, cl_T_d ta12, Or.inl rfl⟩ | (_ + 13), hq => by cases hq), hP1.2⟩, by omega, by omega, ⟨gep105.1, gep105.2.1, Or.inr gep105.2.2, em, kep105⟩, (fun q k hq hn => by exact ⟨by rw [← w2, yi_u_ne _ _ (fun z => hn z.1), (fr105 q k hq hn).1], by rw [(fr105 q k hq hn).2]⟩)⟩)
  have pt92 : ∀ (Ip92 : cl_I) (Lp92 : cl_I) (Rp92 : cl_Rr) (Yp92 : cl_Y) (ncp92 : Nat) (nsp92 : Nat), (cl_P (e :: E) I L R Y Ip92 Lp92 Rp92 Yp92) → (10 ≤ e ∧ e < Yp92.2.2 ∧ 108 < e) → (Yp92.1 e = 3) → (∃ q, Rp92 e 0 = some q ∧ cl_T (e :: E) Yp92 q 21 ∧ Yp92.2.1 q = 4) → (∃ q, Rp92 e 1 = some q ∧ cl_T (e :: E) Yp92 q 21 ∧ Yp92.2.1 q = 4) → (∃ q, Rp92 e 2 = some q ∧ cl_T (e :: E) Yp92 q 21 ∧ Yp92.2.1 q = 5) → (∃ q, Rp92 e 3 = some q ∧ cl_T (e :: E) Yp92 q 20 ∧ Yp92.2.1 q = 4) → (∃ q, Rp92 e 4 = some q ∧ cl_T (e :: E) Yp92 q 20 ∧ Yp92.2.1 q = 5) → (∃ q, Rp92 e 5 = some q ∧ cl_T (e :: E) Yp92 q 20 ∧ Yp92.2.1 q = 5) → (∃ q, Rp92 e 6 = some q ∧ cl_T (e :: E) Yp92 q 20 ∧ Yp92.2.1 q = 6) → (∃ q, Rp92 e 7 = some q ∧ cl_T (e :: E) Yp92 q 20 ∧ Yp92.2.1 q = 6) → (∃ q, Rp92 e 8 = some q ∧ cl_T (e :: E) Yp92 q 20 ∧ Yp92.2.1 q = 4) → (∃ q, Rp92 e 9 = some q ∧ cl_T (e :: E) Yp92 q 20 ∧ Yp92.2.1 q = 4) → (∃ q, Rp92 e 10 = some q ∧ cl_T (e :: E) Yp92 q 20 ∧ Yp92.2.1 q = 6) → (∃ q, Rp92 e 11 = some q ∧ cl_T (e :: E) Yp92 q 20 ∧ Yp92.2.1 q = 6) → (∀ k, Ip92 e k = 0) → (∀ q k, q < Y.2.2 → q ≠ e → Ip92 q k = I q k ∧ Rp92 q k = R q k) → (ncp92 ≤ 12 ∧ nsp92 ≤ 59) → yi_G zi_Ms d zi_m219 (92, [(0, .inr (.inr (some e)))], [], (Ip92, Lp92, Rp92, Yp92), ncp92, nsp92) (fun r => ∃ I', ∃ L', ∃ R', ∃ Y', ∃ nc ns, r = (none, (I', L', R', Y'), nc, ns) ∧ cl_P E I L R Y I' L' R' Y' ∧ nc ≤ 13 ∧ ns ≤ 60 ∧ cl_T E Y' e 3 ∧ (∀ q k, q < Y.2.2 → q ≠ e → I' q k = I q k ∧ R' q k = R q k)) := by
    intro Ip92 Lp92 Rp92 Yp92 ncp92 nsp92 hPp92 gep92 kep92 rk0 rk1 rk2 rk3 rk4 rk5 rk6 rk7 rk8 rk9 rk10 rk11 zz92 fr92 cc
    obtain ⟨qa0, ea0_, ta0, na0⟩ := rk0
    obtain ⟨qa1, ea1_, ta1, na1⟩ := rk1
    obtain ⟨qa2, ea2_, ta2, na2⟩ := rk2
    obtain ⟨qa3, ea3_, ta3, na3⟩ := rk3
    obtain ⟨qa4, ea4_, ta4, na4⟩ := rk4
    obtain ⟨qa5, ea5_, ta5, na5⟩ := rk5
    obtain ⟨qa6, ea6_, ta6, na6⟩ := rk6
    obtain ⟨qa7, ea7_, ta7, na7⟩ := rk7
    obtain ⟨qa8, ea8_, ta8, na8⟩ := rk8
    obtain ⟨qa9, ea9_, ta9, na9⟩ := rk9
    obtain ⟨qa10, ea10_, ta10, na10⟩ := rk10
    obtain ⟨qa11, ea11_, ta11, na11⟩ := rk11
    refine yi_G_run 2 (94, [(0, .inr (.inr (some e)))], [.inl 1, .inr (.inr (some e))], (Ip92, Lp92, Rp92, Yp92), ncp92, nsp92) (fun _ => rfl) ?_
    refine cl_G_mka rfl hPp92 (by decide) (by decide) (by decide) (fun e16x I16 L16 R16 Y16 ee16 hP16 x16 t16 n16 o16 => ?_)
    have t17 := cl_T_x ta0 x16
    have n18 := (cl_T_n ta0 x16).trans na0
    have t19 := cl_T_x ta1 x16
    have n20 := (cl_T_n ta1 x16).trans na1
    have t21 := cl_T_x ta2 x16
    have n22 := (cl_T_n ta2 x16).trans na2
    have t23 := cl_T_x ta3 x16
    have n24 := (cl_T_n ta3 x16).trans na3
    have t25 := cl_T_x ta4 x16
    have n26 := (cl_T_n ta4 x16).trans na4
    have t27 := cl_T_x ta5 x16
    have n28 := (cl_T_n ta5 x16).trans na5
    have t29 := cl_T_x ta6 x16
    have n30 := (cl_T_n ta6 x16).trans na6
    have t31 := cl_T_x ta7 x16
    have n32 := (cl_T_n ta7 x16).trans na7
    have t33 := cl_T_x ta8 x16
    have n34 := (cl_T_n ta8 x16).trans na8
    have t35 := cl_T_x ta9 x16
    have n36 := (cl_T_n ta9 x16).trans na9
    have t37 := cl_T_x ta10 x16
    have n38 := (cl_T_n ta10 x16).trans na10
    have t39 := cl_T_x ta11 x16
    have n40 := (cl_T_n ta11 x16).trans na11
    have g41 : 10 ≤ e ∧ e < _ ∧ 108 < e := ⟨gep92.1, Nat.lt_of_lt_of_le gep92.2.1 (x16).1, gep92.2.2⟩
    have k42 := ((x16).2 e gep92.2.1).1.trans kep92
    have e43 := (o16 e 0 (gep92).2.1).1.trans ea0_
    have e44 := (o16 e 1 (gep92).2.1).1.trans ea1_
    have e45 := (o16 e 2 (gep92).2.1).1.trans ea2_
    have e46 := (o16 e 3 (gep92).2.1).1.trans ea3_
    have e47 := (o16 e 4 (gep92).2.1).1.trans ea4_
    have e48 := (o16 e 5 (gep92).2.1).1.trans ea5_
    have e49 := (o16 e 6 (gep92).2.1).1.trans ea6_
    have e50 := (o16 e 7 (gep92).2.1).1.trans ea7_
    have e51 := (o16 e 8 (gep92).2.1).1.trans ea8_
    have e52 := (o16 e 9 (gep92).2.1).1.trans ea9_
    have e53 := (o16 e 10 (gep92).2.1).1.trans ea10_
    have e54 := (o16 e 11 (gep92).2.1).1.trans ea11_
    refine yi_G_run 3 (101, [(0, .inr (.inr (some e)))], [.inl 258, .inl 0, .inr (.inr (some e16x)), .inr (.inr (some e16x)), .inr (.inr (some e))], (I16, L16, R16, Y16), ncp92 + 1, nsp92 + (1 : Int).toNat) (fun _ => rfl) ?_
    refine cl_G_iast rfl t16 (by omega) (by omega) ?_
    have hP55 := cl_P_uI (k := ((0 : Int).toNat)) (v := 258) hP16 t16 (by omega) (cl_hv0 rfl)
    generalize w56 : yi_u I16 e16x ((0 : Int).toNat) 258 = I57 at hP55 ⊢
    refine cl_G_pr rfl ⟨g41.1, k42⟩ rfl rfl rfl ?_
    have hP58 := cl_P_mR (p := e) (k := 12) (v := (some e16x)) hP55 (by simp)
    generalize w59 : cl_u R16 e 12 (some e16x) = R60 at hP58 ⊢
    have e61 : R60 e 0 = some qa0 := by rw [← w59, cl_u_ne _ _ (fun z => absurd z.2 (by decide))]; exact e43
    have e62 : R60 e 1 = some qa1 := by rw [← w59, cl_u_ne _ _ (fun z => absurd z.2 (by decide))]; exact e44
    have e63 : R60 e 2 = some qa2 := by rw [← w59, cl_u_ne _ _ (fun z => absurd z.2 (by decide))]; exact e45
    have e64 : R60 e 3 = some qa3 := by rw [← w59, cl_u_ne _ _ (fun z => absurd z.2 (by decide))]; exact e46
    have e65 : R60 e 4 = some qa4 := by rw [← w59, cl_u_ne _ _ (fun z => absurd z.2 (by decide))]; exact e47
    have e66 : R60 e 5 = some qa5 := by rw [← w59, cl_u_ne _ _ (fun z => absurd z.2 (by decide))]; exact e48
    have e67 : R60 e 6 = some qa6 := by rw [← w59, cl_u_ne _ _ (fun z => absurd z.2 (by decide))]; exact e49
    have e68 : R60 e 7 = some qa7 := by rw [← w59, cl_u_ne _ _ (fun z => absurd z.2 (by decide))]; exact e50
    have e69 : R60 e 8 = some qa8 := by rw [← w59, cl_u_ne _ _ (fun z => absurd z.2 (by decide))]; exact e51
    have e70 : R60 e 9 = some qa9 := by rw [← w59, cl_u_ne _ _ (fun z => absurd z.2 (by decide))]; exact e52
    have e71 : R60 e 10 = some qa10 := by rw [← w59, cl_u_ne _ _ (fun z => absurd z.2 (by decide))]; exact e53
    have e72 : R60 e 11 = some qa11 := by rw [← w59, cl_u_ne _ _ (fun z => absurd z.2 (by decide))]; exact e54
    have e73 : R60 e 12 = some e16x := by rw [← w59, cl_u_eq]
    exact pt105 I57 L16 R60 Y16 (ncp92 + 1) (nsp92 + (1 : Int).toNat) hP58 g41 k42 ⟨qa0, e61, t17, n18⟩ ⟨qa1, e62, t19, n20⟩ ⟨qa2, e63, t21, n22⟩ ⟨qa3, e64, t23, n24⟩ ⟨qa4, e65, t25, n26⟩ ⟨qa5, e66, t27, n28⟩ ⟨qa6, e67, t29, n30⟩ ⟨qa7, e68, t31, n32⟩ ⟨qa8, e69, t33, n34⟩ ⟨qa9, e70, t35, n36⟩ ⟨qa10, e71, t37, n38⟩ ⟨qa11, e72, t39, n40⟩ ⟨e16x, e73, t16, n16⟩ (fun k => by rw [← w56, yi_u_ne _ _ (fun z => t16.2.2.2.1 (by rw [← z.1]; simp)), (o16 e k (gep92).2.1).2]; exact zz92 k) (fun q k hq hn => by have b0 := hPp92.2.1.1; exact ⟨by rw [← w56, yi_u_ne _ _ (by intro z; omega), (o16 q k (Nat.lt_of_lt_of_le hq hPp92.2.1.1)).2, (fr92 q k hq hn).1], by rw [← w59, cl_u_ne _ _ (fun z => hn z.1), (o16 q k (Nat.lt_of_lt_of_le hq hPp92.2.1.1)).1, (fr92 q k hq hn).2]⟩) (by omega)
  have pt84 : ∀ (Ip84 : cl_I) (Lp84 : cl_I) (Rp84 : cl_Rr) (Yp84 : cl_Y) (ncp84 : Nat) (nsp84 : Nat), (cl_P (e :: E) I L R Y Ip84 Lp84 Rp84 Yp84) → (10 ≤ e ∧ e < Yp84.2.2 ∧ 108 < e) → (Yp84.1 e = 3) → (∃ q, Rp84 e 0 = some q ∧ cl_T (e :: E) Yp84 q 21 ∧ Yp84.2.1 q = 4) → (∃ q, Rp84 e 1 = some q ∧ cl_T (e :: E) Yp84 q 21 ∧ Yp84.2.1 q = 4) → (∃ q, Rp84 e 2 = some q ∧ cl_T (e :: E) Yp84 q 21 ∧ Yp84.2.1 q = 5) → (∃ q, Rp84 e 3 = some q ∧ cl_T (e :: E) Yp84 q 20 ∧ Yp84.2.1 q = 4) → (∃ q, Rp84 e 4 = some q ∧ cl_T (e :: E) Yp84 q 20 ∧ Yp84.2.1 q = 5) → (∃ q, Rp84 e 5 = some q ∧ cl_T (e :: E) Yp84 q 20 ∧ Yp84.2.1 q = 5) → (∃ q, Rp84 e 6 = some q ∧ cl_T (e :: E) Yp84 q 20 ∧ Yp84.2.1 q = 6) → (∃ q, Rp84 e 7 = some q ∧ cl_T (e :: E) Yp84 q 20 ∧ Yp84.2.1 q = 6) → (∃ q, Rp84 e 8 = some q ∧ cl_T (e :: E) Yp84 q 20 ∧ Yp84.2.1 q = 4) → (∃ q, Rp84 e 9 = some q ∧ cl_T (e :: E) Yp84 q 20 ∧ Yp84.2.1 q = 4) → (∃ q, Rp84 e 10 = some q ∧ cl_T (e :: E) Yp84 q 20 ∧ Yp84.2.1 q = 6) → (∀ k, Ip84 e k = 0) → (∀ q k, q < Y.2.2 → q ≠ e → Ip84 q k = I q k ∧ Rp84 q k = R q k) → (ncp84 ≤ 11 ∧ nsp84 ≤ 53) → yi_G zi_Ms d zi_m219 (84, [(0, .inr (.inr (some e)))], [], (Ip84, Lp84, Rp84, Yp84), ncp84, nsp84) (fun r => ∃ I', ∃ L', ∃ R', ∃ Y', ∃ nc ns, r = (none, (I', L', R', Y'), nc, ns) ∧ cl_P E I L R Y I' L' R' Y' ∧ nc ≤ 13 ∧ ns ≤ 60 ∧ cl_T E Y' e 3 ∧ (∀ q k, q < Y.2.2 → q ≠ e → I' q k = I q k ∧ R' q k = R q k)) := by
    intro Ip84 Lp84 Rp84 Yp84 ncp84 nsp84 hPp84 gep84 kep84 rk0 rk1 rk2 rk3 rk4 rk5 rk6 rk7 rk8 rk9 rk10 zz84 fr84 cc
    obtain ⟨qa0, ea0_, ta0, na0⟩ := rk0
    obtain ⟨qa1, ea1_, ta1, na1⟩ := rk1
    obtain ⟨qa2, ea2_, ta2, na2⟩ := rk2
    obtain ⟨qa3, ea3_, ta3, na3⟩ := rk3
    obtain ⟨qa4, ea4_, ta4, na4⟩ := rk4
    obtain ⟨qa5, ea5_, ta5, na5⟩ := rk5
    obtain ⟨qa6, ea6_, ta6, na6⟩ := rk6
    obtain ⟨qa7, ea7_, ta7, na7⟩ := rk7
    obtain ⟨qa8, ea8_, ta8, na8⟩ := rk8
    obtain ⟨qa9, ea9_, ta9, na9⟩ := rk9
    obtain ⟨qa10, ea10_, ta10, na10⟩ := rk10
    refine yi_G_run 2 (87, [(0, .inr (.inr (some e)))], [.inl 6, .inr (.inr (some e))], (Ip84, Lp84, Rp84, Yp84), ncp84, nsp84) (fun _ => rfl) ?_
    refine cl_G_mka rfl hPp84 (by decide) (by decide) (by decide) (fun e74x I74 L74 R74 Y74 ee74 hP74 x74 t74 n74 o74 => ?_)
    have t75 := cl_T_x ta0 x74
    have n76 := (cl_T_n ta0 x74).trans na0
    have t77 := cl_T_x ta1 x74
    have n78 := (cl_T_n ta1 x74).trans na1
    have t79 := cl_T_x ta2 x74
    have n80 := (cl_T_n ta2 x74).trans na2
    have t81 := cl_T_x ta3 x74
    have n82 := (cl_T_n ta3 x74).trans na3
    have t83 := cl_T_x ta4 x74
    have n84 := (cl_T_n ta4 x74).trans na4
    have t85 := cl_T_x ta5 x74
    have n86 := (cl_T_n ta5 x74).trans na5
    have t87 := cl_T_x ta6 x74
    have n88 := (cl_T_n ta6 x74).trans na6
    have t89 := cl_T_x ta7 x74
    have n90 := (cl_T_n ta7 x74).trans na7
    have t91 := cl_T_x ta8 x74
    have n92 := (cl_T_n ta8 x74).trans na8
    have t93 := cl_T_x ta9 x74
    have n94 := (cl_T_n ta9 x74).trans na9
    have t95 := cl_T_x ta10 x74
    have n96 := (cl_T_n ta10 x74).trans na10
    have g97 : 10 ≤ e ∧ e < _ ∧ 108 < e := ⟨gep84.1, Nat.lt_of_lt_of_le gep84.2.1 (x74).1, gep84.2.2⟩
    have k98 := ((x74).2 e gep84.2.1).1.trans kep84
    have e99 := (o74 e 0 (gep84).2.1).1.trans ea0_
    have e100 := (o74 e 1 (gep84).2.1).1.trans ea1_
    have e101 := (o74 e 2 (gep84).2.1).1.trans ea2_
    have e102 := (o74 e 3 (gep84).2.1).1.trans ea3_
    have e103 := (o74 e 4 (gep84).2.1).1.trans ea4_
    have e104 := (o74 e 5 (gep84).2.1).1.trans ea5_
    have e105 := (o74 e 6 (gep84).2.1).1.trans ea6_
    have e106 := (o74 e 7 (gep84).2.1).1.trans ea7_
    have e107 := (o74 e 8 (gep84).2.1).1.trans ea8_
    have e108 := (o74 e 9 (gep84).2.1).1.trans ea9_
    have e109 := (o74 e 10 (gep84).2.1).1.trans ea10_
    refine cl_G_pr rfl ⟨g97.1, k98⟩ rfl rfl rfl ?_
    have hP110 := cl_P_mR (p := e) (k := 11) (v := (some e74x)) hP74 (by simp)
    generalize w111 : cl_u R74 e 11 (some e74x) = R112 at hP110 ⊢
    have e113 : R112 e 0 = some qa0 := by rw [← w111, cl_u_ne _ _ (fun z => absurd z.2 (by decide))]; exact e99
    have e114 : R112 e 1 = some qa1 := by rw [← w111, cl_u_ne _ _ (fun z => absurd z.2 (by decide))]; exact e100
    have e115 : R112 e 2 = some qa2 := by rw [← w111, cl_u_ne _ _ (fun z => absurd z.2 (by decide))]; exact e101
    have e116 : R112 e 3 = some qa3 := by rw [← w111, cl_u_ne _ _ (fun z => absurd z.2 (by decide))]; exact e102
    have e117 : R112 e 4 = some qa4 := by rw [← w111, cl_u_ne _ _ (fun z => absurd z.2 (by decide))]; exact e103
    have e118 : R112 e 5 = some qa5 := by rw [← w111, cl_u_ne _ _ (fun z => absurd z.2 (by decide))]; exact e104
    have e119 : R112 e 6 = some qa6 := by rw [← w111, cl_u_ne _ _ (fun z => absurd z.2 (by decide))]; exact e105
    have e120 : R112 e 7 = some qa7 := by rw [← w111, cl_u_ne _ _ (fun z => absurd z.2 (by decide))]; exact e106
    have e121 : R112 e 8 = some qa8 := by rw [← w111, cl_u_ne _ _ (fun z => absurd z.2 (by decide))]; exact e107
    have e122 : R112 e 9 = some qa9 := by rw [← w111, cl_u_ne _ _ (fun z => absurd z.2 (by decide))]; exact e108
    have e123 : R112 e 10 = some qa10 := by rw [← w111, cl_u_ne _ _ (fun z => absurd z.2 (by decide))]; exact e109
    have e124 : R112 e 11 = some e74x := by rw [← w111, cl_u_eq]
    exact pt92 I74 L74 R112 Y74 (ncp84 + 1) (nsp84 + (6 : Int).toNat) hP110 g97 k98 ⟨qa0, e113, t75, n76⟩ ⟨qa1, e114, t77, n78⟩ ⟨qa2, e115, t79, n80⟩ ⟨qa3, e116, t81, n82⟩ ⟨qa4, e117, t83, n84⟩ ⟨qa5, e118, t85, n86⟩ ⟨qa6, e119, t87, n88⟩ ⟨qa7, e120, t89, n90⟩ ⟨qa8, e121, t91, n92⟩ ⟨qa9, e122, t93, n94⟩ ⟨qa10, e123, t95, n96⟩ ⟨e74x, e124, t74, n74⟩ (fun k => by rw [(o74 e k (gep84).2.1).2]; exact zz84 k) (fun q k hq hn => by have b0 := hPp84.2.1.1; exact ⟨by rw [(o74 q k (Nat.lt_of_lt_of_le hq hPp84.2.1.1)).2, (fr84 q k hq hn).1], by rw [← w111, cl_u_ne _ _ (fun z => hn z.1), (o74 q k (Nat.lt_of_lt_of_le hq hPp84.2.1.1)).1, (fr84 q k hq hn).2]⟩) (by omega)
  have pt76 : ∀ (Ip76 : cl_I) (Lp76 : cl_I) (Rp76 : cl_Rr) (Yp76 : cl_Y) (ncp76 : Nat) (nsp76 : Nat), (cl_P (e :: E) I L R Y Ip76 Lp76 Rp76 Yp76) → (10 ≤ e ∧ e < Yp76.2.2 ∧ 108 < e) → (Yp76.1 e = 3) → (∃ q, Rp76 e 0 = some q ∧ cl_T (e :: E) Yp76 q 21 ∧ Yp76.2.1 q = 4) → (∃ q, Rp76 e 1 = some q ∧ cl_T (e :: E) Yp76 q 21 ∧ Yp76.2.1 q = 4) → (∃ q, Rp76 e 2 = some q ∧ cl_T (e :: E) Yp76 q 21 ∧ Yp76.2.1 q = 5) → (∃ q, Rp76 e 3 = some q ∧ cl_T (e :: E) Yp76 q 20 ∧ Yp76.2.1 q = 4) → (∃ q, Rp76 e 4 = some q ∧ cl_T (e :: E) Yp76 q 20 ∧ Yp76.2.1 q = 5) → (∃ q, Rp76 e 5 = some q ∧ cl_T (e :: E) Yp76 q 20 ∧ Yp76.2.1 q = 5) → (∃ q, Rp76 e 6 = some q ∧ cl_T (e :: E) Yp76 q 20 ∧ Yp76.2.1 q = 6) → (∃ q, Rp76 e 7 = some q ∧ cl_T (e :: E) Yp76 q 20 ∧ Yp76.2.1 q = 6) → (∃ q, Rp76 e 8 = some q ∧ cl_T (e :: E) Yp76 q 20 ∧ Yp76.2.1 q = 4) → (∃ q, Rp76 e 9 = some q ∧ cl_T (e :: E) Yp76 q 20 ∧ Yp76.2.1 q = 4) → (∀ k, Ip76 e k = 0) → (∀ q k, q < Y.2.2 → q ≠ e → Ip76 q k = I q k ∧ Rp76 q k = R q k) → (ncp76 ≤ 10 ∧ nsp76 ≤ 47) → yi_G zi_Ms d zi_m219 (76, [(0, .inr (.inr (some e)))], [], (Ip76, Lp76, Rp76, Yp76), ncp76, nsp76) (fun r => ∃ I', ∃ L', ∃ R', ∃ Y', ∃ nc ns, r = (none, (I', L', R', Y'), nc, ns) ∧ cl_P E I L R Y I' L' R' Y' ∧ nc ≤ 13 ∧ ns ≤ 60 ∧ cl_T E Y' e 3 ∧ (∀ q k, q < Y.2.2 → q ≠ e → I' q k = I q k ∧ R' q k = R q k)) := by
    intro Ip76 Lp76 Rp76 Yp76 ncp76 nsp76 hPp76 gep76 kep76 rk0 rk1 rk2 rk3 rk4 rk5 rk6 rk7 rk8 rk9 zz76 fr76 cc
    obtain ⟨qa0, ea0_, ta0, na0⟩ := rk0
    obtain ⟨qa1, ea1_, ta1, na1⟩ := rk1
    obtain ⟨qa2, ea2_, ta2, na2⟩ := rk2
    obtain ⟨qa3, ea3_, ta3, na3⟩ := rk3
    obtain ⟨qa4, ea4_, ta4, na4⟩ := rk4
    obtain ⟨qa5, ea5_, ta5, na5⟩ := rk5
    obtain ⟨qa6, ea6_, ta6, na6⟩ := rk6
    obtain ⟨qa7, ea7_, ta7, na7⟩ := rk7
    obtain ⟨qa8, ea8_, ta8, na8⟩ := rk8
    obtain ⟨qa9, ea9_, ta9, na9⟩ := rk9
    refine yi_G_run 2 (79, [(0, .inr (.inr (some e)))], [.inl 6, .inr (.inr (some e))], (Ip76, Lp76, Rp76, Yp76), ncp76, nsp76) (fun _ => rfl) ?_
    refine cl_G_mka rfl hPp76 (by decide) (by decide) (by decide) (fun e125x I125 L125 R125 Y125 ee125 hP125 x125 t125 n125 o125 => ?_)
    have t126 := cl_T_x ta0 x125
    have n127 := (cl_T_n ta0 x125).trans na0
    have t128 := cl_T_x ta1 x125
    have n129 := (cl_T_n ta1 x125).trans na1
    have t130 := cl_T_x ta2 x125
    have n131 := (cl_T_n ta2 x125).trans na2
    have t132 := cl_T_x ta3 x125
    have n133 := (cl_T_n ta3 x125).trans na3
    have t134 := cl_T_x ta4 x125
    have n135 := (cl_T_n ta4 x125).trans na4
    have t136 := cl_T_x ta5 x125
    have n137 := (cl_T_n ta5 x125).trans na5
    have t138 := cl_T_x ta6 x125
    have n139 := (cl_T_n ta6 x125).trans na6
    have t140 := cl_T_x ta7 x125
    have n141 := (cl_T_n ta7 x125).trans na7
    have t142 := cl_T_x ta8 x125
    have n143 := (cl_T_n ta8 x125).trans na8
    have t144 := cl_T_x ta9 x125
    have n145 := (cl_T_n ta9 x125).trans na9
    have g146 : 10 ≤ e ∧ e < _ ∧ 108 < e := ⟨gep76.1, Nat.lt_of_lt_of_le gep76.2.1 (x125).1, gep76.2.2⟩
    have k147 := ((x125).2 e gep76.2.1).1.trans kep76
    have e148 := (o125 e 0 (gep76).2.1).1.trans ea0_
    have e149 := (o125 e 1 (gep76).2.1).1.trans ea1_
    have e150 := (o125 e 2 (gep76).2.1).1.trans ea2_
    have e151 := (o125 e 3 (gep76).2.1).1.trans ea3_
    have e152 := (o125 e 4 (gep76).2.1).1.trans ea4_
    have e153 := (o125 e 5 (gep76).2.1).1.trans ea5_
    have e154 := (o125 e 6 (gep76).2.1).1.trans ea6_
    have e155 := (o125 e 7 (gep76).2.1).1.trans ea7_
    have e156 := (o125 e 8 (gep76).2.1).1.trans ea8_
    have e157 := (o125 e 9 (gep76).2.1).1.trans ea9_
    refine cl_G_pr rfl ⟨g146.1, k147⟩ rfl rfl rfl ?_
    have hP158 := cl_P_mR (p := e) (k := 10) (v := (some e125x)) hP125 (by simp)
    generalize w159 : cl_u R125 e 10 (some e125x) = R160 at hP158 ⊢
    have e161 : R160 e 0 = some qa0 := by rw [← w159, cl_u_ne _ _ (fun z => absurd z.2 (by decide))]; exact e148
    have e162 : R160 e 1 = some qa1 := by rw [← w159, cl_u_ne _ _ (fun z => absurd z.2 (by decide))]; exact e149
    have e163 : R160 e 2 = some qa2 := by rw [← w159, cl_u_ne _ _ (fun z => absurd z.2 (by decide))]; exact e150
    have e164 : R160 e 3 = some qa3 := by rw [← w159, cl_u_ne _ _ (fun z => absurd z.2 (by decide))]; exact e151
    have e165 : R160 e 4 = some qa4 := by rw [← w159, cl_u_ne _ _ (fun z => absurd z.2 (by decide))]; exact e152
    have e166 : R160 e 5 = some qa5 := by rw [← w159, cl_u_ne _ _ (fun z => absurd z.2 (by decide))]; exact e153
    have e167 : R160 e 6 = some qa6 := by rw [← w159, cl_u_ne _ _ (fun z => absurd z.2 (by decide))]; exact e154
    have e168 : R160 e 7 = some qa7 := by rw [← w159, cl_u_ne _ _ (fun z => absurd z.2 (by decide))]; exact e155
    have e169 : R160 e 8 = some qa8 := by rw [← w159, cl_u_ne _ _ (fun z => absurd z.2 (by decide))]; exact e156
    have e170 : R160 e 9 = some qa9 := by rw [← w159, cl_u_ne _ _ (fun z => absurd z.2 (by decide))]; exact e157
    have e171 : R160 e 10 = some e125x := by rw [← w159, cl_u_eq]
    exact pt84 I125 L125 R160 Y125 (ncp76 + 1) (nsp76 + (6 : Int).toNat) hP158 g146 k147 ⟨qa0, e161, t126, n127⟩ ⟨qa1, e162, t128, n129⟩ ⟨qa2, e163, t130, n131⟩ ⟨qa3, e164, t132, n133⟩ ⟨qa4, e165, t134, n135⟩ ⟨qa5, e166, t136, n137⟩ ⟨qa6, e167, t138, n139⟩ ⟨qa7, e168, t140, n141⟩ ⟨qa8, e169, t142, n143⟩ ⟨qa9, e170, t144, n145⟩ ⟨e125x, e171, t125, n125⟩ (fun k => by rw [(o125 e k (gep76).2.1).2]; exact zz76 k) (fun q k hq hn => by have b0 := hPp76.2.1.1; exact ⟨by rw [(o125 q k (Nat.lt_of_lt_of_le hq hPp76.2.1.1)).2, (fr76 q k hq hn).1], by rw [← w159, cl_u_ne _ _ (fun z => hn z.1), (o125 q k (Nat.lt_of_lt_of_le hq hPp76.2.1.1)).1, (fr76 q k hq hn).2]⟩) (by omega)
  have pt69 : ∀ (Ip69 : cl_I) (Lp69 : cl_I) (Rp69 : cl_Rr) (Yp69 : cl_Y) (ncp69 : Nat) (nsp69 : Nat), (cl_P (e :: E) I L R Y Ip69 Lp69 Rp69 Yp69) → (10 ≤ e ∧ e < Yp69.2.2 ∧ 108 < e) → (Yp69.1 e = 3) → (∃ q, Rp69 e 0 = some q ∧ cl_T (e :: E) Yp69 q 21 ∧ Yp69.2.1 q = 4) → (∃ q, Rp69 e 1 = some q ∧ cl_T (e :: E) Yp69 q 21 ∧ Yp69.2.1 q = 4) → (∃ q, Rp69 e 2 = some q ∧ cl_T (e :: E) Yp69 q 21 ∧ Yp69.2.1 q = 5) → (∃ q, Rp69 e 3 = some q ∧ cl_T (e :: E) Yp69 q 20 ∧ Yp69.2.1 q = 4) → (∃ q, Rp69 e 4 = some q ∧ cl_T (e :: E) Yp69 q 20 ∧ Yp69.2.1 q = 5) → (∃ q, Rp69 e 5 = some q ∧ cl_T (e :: E) Yp69 q 20 ∧ Yp69.2.1 q = 5) → (∃ q, Rp69 e 6 = some q ∧ cl_T (e :: E) Yp69 q 20 ∧ Yp69.2.1 q = 6) → (∃ q, Rp69 e 7 = some q ∧ cl_T (e :: E) Yp69 q 20 ∧ Yp69.2.1 q = 6) → (∃ q, Rp69 e 8 = some q ∧ cl_T (e :: E) Yp69 q 20 ∧ Yp69.2.1 q = 4) → (∀ k, Ip69 e k = 0) → (∀ q k, q < Y.2.2 → q ≠ e → Ip69 q k = I q k ∧ Rp69 q k = R q k) → (ncp69 ≤ 9 ∧ nsp69 ≤ 43) → yi_G zi_Ms d zi_m219 (69, [(0, .inr (.inr (some e)))], [], (Ip69, Lp69, Rp69, Yp69), ncp69, nsp69) (fun r => ∃ I', ∃ L', ∃ R', ∃ Y', ∃ nc ns, r = (none, (I', L', R', Y'), nc, ns) ∧ cl_P E I L R Y I' L' R' Y' ∧ nc ≤ 13 ∧ ns ≤ 60 ∧ cl_T E Y' e 3 ∧ (∀ q k, q < Y.2.2 → q ≠ e → I' q k = I q k ∧ R' q k = R q k)) := by
    intro Ip69 Lp69 Rp69 Yp69 ncp69 nsp69 hPp69 gep69 kep69 rk0 rk1 rk2 rk3 rk4 rk5 rk6 rk7 rk8 zz69 fr69 cc
    obtain ⟨qa0, ea0_, ta0, na0⟩ := rk0
    obtain ⟨qa1, ea1_, ta1, na1⟩ := rk1
    obtain ⟨qa2, ea2_, ta2, na2⟩ := rk2
    obtain ⟨qa3, ea3_, ta3, na3⟩ := rk3
    obtain ⟨qa4, ea4_, ta4, na4⟩ := rk4
    obtain ⟨qa5, ea5_, ta5, na5⟩ := rk5
    obtain ⟨qa6, ea6_, ta6, na6⟩ := rk6
    obtain ⟨qa7, ea7_, ta7, na7⟩ := rk7
    obtain ⟨qa8, ea8_, ta8, na8⟩ := rk8
    refine yi_G_run 2 (71, [(0, .inr (.inr (some e)))], [.inl 4, .inr (.inr (some e))], (Ip69, Lp69, Rp69, Yp69), ncp69, nsp69) (fun _ => rfl) ?_
    refine cl_G_mka rfl hPp69 (by decide) (by decide) (by decide) (fun e172x I172 L172 R172 Y172 ee172 hP172 x172 t172 n172 o172 => ?_)
    have t173 := cl_T_x ta0 x172
    have n174 := (cl_T_n ta0 x172).trans na0
    have t175 := cl_T_x ta1 x172
    have n176 := (cl_T_n ta1 x172).trans na1
    have t177 := cl_T_x ta2 x172
    have n178 := (cl_T_n ta2 x172).trans na2
    have t179 := cl_T_x ta3 x172
    have n180 := (cl_T_n ta3 x172).trans na3
    have t181 := cl_T_x ta4 x172
    have n182 := (cl_T_n ta4 x172).trans na4
    have t183 := cl_T_x ta5 x172
    have n184 := (cl_T_n ta5 x172).trans na5
    have t185 := cl_T_x ta6 x172
    have n186 := (cl_T_n ta6 x172).trans na6
    have t187 := cl_T_x ta7 x172
    have n188 := (cl_T_n ta7 x172).trans na7
    have t189 := cl_T_x ta8 x172
    have n190 := (cl_T_n ta8 x172).trans na8
    have g191 : 10 ≤ e ∧ e < _ ∧ 108 < e := ⟨gep69.1, Nat.lt_of_lt_of_le gep69.2.1 (x172).1, gep69.2.2⟩
    have k192 := ((x172).2 e gep69.2.1).1.trans kep69
    have e193 := (o172 e 0 (gep69).2.1).1.trans ea0_
    have e194 := (o172 e 1 (gep69).2.1).1.trans ea1_
    have e195 := (o172 e 2 (gep69).2.1).1.trans ea2_
    have e196 := (o172 e 3 (gep69).2.1).1.trans ea3_
    have e197 := (o172 e 4 (gep69).2.1).1.trans ea4_
    have e198 := (o172 e 5 (gep69).2.1).1.trans ea5_
    have e199 := (o172 e 6 (gep69).2.1).1.trans ea6_
    have e200 := (o172 e 7 (gep69).2.1).1.trans ea7_
    have e201 := (o172 e 8 (gep69).2.1).1.trans ea8_
    refine cl_G_pr rfl ⟨g191.1, k192⟩ rfl rfl rfl ?_
    have hP202 := cl_P_mR (p := e) (k := 9) (v := (some e172x)) hP172 (by simp)
    generalize w203 : cl_u R172 e 9 (some e172x) = R204 at hP202 ⊢
    have e205 : R204 e 0 = some qa0 := by rw [← w203, cl_u_ne _ _ (fun z => absurd z.2 (by decide))]; exact e193
    have e206 : R204 e 1 = some qa1 := by rw [← w203, cl_u_ne _ _ (fun z => absurd z.2 (by decide))]; exact e194
    have e207 : R204 e 2 = some qa2 := by rw [← w203, cl_u_ne _ _ (fun z => absurd z.2 (by decide))]; exact e195
    have e208 : R204 e 3 = some qa3 := by rw [← w203, cl_u_ne _ _ (fun z => absurd z.2 (by decide))]; exact e196
    have e209 : R204 e 4 = some qa4 := by rw [← w203, cl_u_ne _ _ (fun z => absurd z.2 (by decide))]; exact e197
    have e210 : R204 e 5 = some qa5 := by rw [← w203, cl_u_ne _ _ (fun z => absurd z.2 (by decide))]; exact e198
    have e211 : R204 e 6 = some qa6 := by rw [← w203, cl_u_ne _ _ (fun z => absurd z.2 (by decide))]; exact e199
    have e212 : R204 e 7 = some qa7 := by rw [← w203, cl_u_ne _ _ (fun z => absurd z.2 (by decide))]; exact e200
    have e213 : R204 e 8 = some qa8 := by rw [← w203, cl_u_ne _ _ (fun z => absurd z.2 (by decide))]; exact e201
    have e214 : R204 e 9 = some e172x := by rw [← w203, cl_u_eq]
    exact pt76 I172 L172 R204 Y172 (ncp69 + 1) (nsp69 + (4 : Int).toNat) hP202 g191 k192 ⟨qa0, e205, t173, n174⟩ ⟨qa1, e206, t175, n176⟩ ⟨qa2, e207, t177, n178⟩ ⟨qa3, e208, t179, n180⟩ ⟨qa4, e209, t181, n182⟩ ⟨qa5, e210, t183, n184⟩ ⟨qa6, e211, t185, n186⟩ ⟨qa7, e212, t187, n188⟩ ⟨qa8, e213, t189, n190⟩ ⟨e172x, e214, t172, n172⟩ (fun k => by rw [(o172 e k (gep69).2.1).2]; exact zz69 k) (fun q k hq hn => by have b0 := hPp69.2.1.1; exact ⟨by rw [(o172 q k (Nat.lt_of_lt_of_le hq hPp69.2.1.1)).2, (fr69 q k hq hn).1], by rw [← w203, cl_u_ne _ _ (fun z => hn z.1), (o172 q k (Nat.lt_of_lt_of_le hq hPp69.2.1.1)).1, (fr69 q k hq hn).2]⟩) (by omega)
  have pt62 : ∀ (Ip62 : cl_I) (Lp62 : cl_I) (Rp62 : cl_Rr) (Yp62 : cl_Y) (ncp62 : Nat) (nsp62 : Nat), (cl_P (e :: E) I L R Y Ip62 Lp62 Rp62 Yp62) → (10 ≤ e ∧ e < Yp62.2.2 ∧ 108 < e) → (Yp62.1 e = 3) → (∃ q, Rp62 e 0 = some q ∧ cl_T (e :: E) Yp62 q 21 ∧ Yp62.2.1 q = 4) → (∃ q, Rp62 e 1 = some q ∧ cl_T (e :: E) Yp62 q 21 ∧ Yp62.2.1 q = 4) → (∃ q, Rp62 e 2 = some q ∧ cl_T (e :: E) Yp62 q 21 ∧ Yp62.2.1 q = 5) → (∃ q, Rp62 e 3 = some q ∧ cl_T (e :: E) Yp62 q 20 ∧ Yp62.2.1 q = 4) → (∃ q, Rp62 e 4 = some q ∧ cl_T (e :: E) Yp62 q 20 ∧ Yp62.2.1 q = 5) → (∃ q, Rp62 e 5 = some q ∧ cl_T (e :: E) Yp62 q 20 ∧ Yp62.2.1 q = 5) → (∃ q, Rp62 e 6 = some q ∧ cl_T (e :: E) Yp62 q 20 ∧ Yp62.2.1 q = 6) → (∃ q, Rp62 e 7 = some q ∧ cl_T (e :: E) Yp62 q 20 ∧ Yp62.2.1 q = 6) → (∀ k, Ip62 e k = 0) → (∀ q k, q < Y.2.2 → q ≠ e → Ip62 q k = I q k ∧ Rp62 q k = R q k) → (ncp62 ≤ 8 ∧ nsp62 ≤ 39) → yi_G zi_Ms d zi_m219 (62, [(0, .inr (.inr (some e)))], [], (Ip62, Lp62, Rp62, Yp62), ncp62, nsp62) (fun r => ∃ I', ∃ L', ∃ R', ∃ Y', ∃ nc ns, r = (none, (I', L', R', Y'), nc, ns) ∧ cl_P E I L R Y I' L' R' Y' ∧ nc ≤ 13 ∧ ns ≤ 60 ∧ cl_T E Y' e 3 ∧ (∀ q k, q < Y.2.2 → q ≠ e → I' q k = I q k ∧ R' q k = R q k)) := by
    intro Ip62 Lp62 Rp62 Yp62 ncp62 nsp62 hPp62 gep62 kep62 rk0 rk1 rk2 rk3 rk4 rk5 rk6 rk7 zz62 fr62 cc
    obtain ⟨qa0, ea0_, ta0, na0⟩ := rk0
    obtain ⟨qa1, ea1_, ta1, na1⟩ := rk1
    obtain ⟨qa2, ea2_, ta2, na2⟩ := rk2
    obtain ⟨qa3, ea3_, ta3, na3⟩ := rk3
    obtain ⟨qa4, ea4_, ta4, na4⟩ := rk4
    obtain ⟨qa5, ea5_, ta5, na5⟩ := rk5
    obtain ⟨qa6, ea6_, ta6, na6⟩ := rk6
    obtain ⟨qa7, ea7_, ta7, na7⟩ := rk7
    refine yi_G_run 2 (64, [(0, .inr (.inr (some e)))], [.inl 4, .inr (.inr (some e))], (Ip62, Lp62, Rp62, Yp62), ncp62, nsp62) (fun _ => rfl) ?_
    refine cl_G_mka rfl hPp62 (by decide) (by decide) (by decide) (fun e215x I215 L215 R215 Y215 ee215 hP215 x215 t215 n215 o215 => ?_)
    have t216 := cl_T_x ta0 x215
    have n217 := (cl_T_n ta0 x215).trans na0
    have t218 := cl_T_x ta1 x215
    have n219 := (cl_T_n ta1 x215).trans na1
    have t220 := cl_T_x ta2 x215
    have n221 := (cl_T_n ta2 x215).trans na2
    have t222 := cl_T_x ta3 x215
    have n223 := (cl_T_n ta3 x215).trans na3
    have t224 := cl_T_x ta4 x215
    have n225 := (cl_T_n ta4 x215).trans na4
    have t226 := cl_T_x ta5 x215
    have n227 := (cl_T_n ta5 x215).trans na5
    have t228 := cl_T_x ta6 x215
    have n229 := (cl_T_n ta6 x215).trans na6
    have t230 := cl_T_x ta7 x215
    have n231 := (cl_T_n ta7 x215).trans na7
    have g232 : 10 ≤ e ∧ e < _ ∧ 108 < e := ⟨gep62.1, Nat.lt_of_lt_of_le gep62.2.1 (x215).1, gep62.2.2⟩
    have k233 := ((x215).2 e gep62.2.1).1.trans kep62
    have e234 := (o215 e 0 (gep62).2.1).1.trans ea0_
    have e235 := (o215 e 1 (gep62).2.1).1.trans ea1_
    have e236 := (o215 e 2 (gep62).2.1).1.trans ea2_
    have e237 := (o215 e 3 (gep62).2.1).1.trans ea3_
    have e238 := (o215 e 4 (gep62).2.1).1.trans ea4_
    have e239 := (o215 e 5 (gep62).2.1).1.trans ea5_
    have e240 := (o215 e 6 (gep62).2.1).1.trans ea6_
    have e241 := (o215 e 7 (gep62).2.1).1.trans ea7_
    refine cl_G_pr rfl ⟨g232.1, k233⟩ rfl rfl rfl ?_
    have hP242 := cl_P_mR (p := e) (k := 8) (v := (some e215x)) hP215 (by simp)
    generalize w243 : cl_u R215 e 8 (some e215x) = R244 at hP242 ⊢
    have e245 : R244 e 0 = some qa0 := by rw [← w243, cl_u_ne _ _ (fun z => absurd z.2 (by decide))]; exact e234
    have e246 : R244 e 1 = some qa1 := by rw [← w243, cl_u_ne _ _ (fun z => absurd z.2 (by decide))]; exact e235
    have e247 : R244 e 2 = some qa2 := by rw [← w243, cl_u_ne _ _ (fun z => absurd z.2 (by decide))]; exact e236
    have e248 : R244 e 3 = some qa3 := by rw [← w243, cl_u_ne _ _ (fun z => absurd z.2 (by decide))]; exact e237
    have e249 : R244 e 4 = some qa4 := by rw [← w243, cl_u_ne _ _ (fun z => absurd z.2 (by decide))]; exact e238
    have e250 : R244 e 5 = some qa5 := by rw [← w243, cl_u_ne _ _ (fun z => absurd z.2 (by decide))]; exact e239
    have e251 : R244 e 6 = some qa6 := by rw [← w243, cl_u_ne _ _ (fun z => absurd z.2 (by decide))]; exact e240
    have e252 : R244 e 7 = some qa7 := by rw [← w243, cl_u_ne _ _ (fun z => absurd z.2 (by decide))]; exact e241
    have e253 : R244 e 8 = some e215x := by rw [← w243, cl_u_eq]
    exact pt69 I215 L215 R244 Y215 (ncp62 + 1) (nsp62 + (4 : Int).toNat) hP242 g232 k233 ⟨qa0, e245, t216, n217⟩ ⟨qa1, e246, t218, n219⟩ ⟨qa2, e247, t220, n221⟩ ⟨qa3, e248, t222, n223⟩ ⟨qa4, e249, t224, n225⟩ ⟨qa5, e250, t226, n227⟩ ⟨qa6, e251, t228, n229⟩ ⟨qa7, e252, t230, n231⟩ ⟨e215x, e253, t215, n215⟩ (fun k => by rw [(o215 e k (gep62).2.1).2]; exact zz62 k) (fun q k hq hn => by have b0 := hPp62.2.1.1; exact ⟨by rw [(o215 q k (Nat.lt_of_lt_of_le hq hPp62.2.1.1)).2, (fr62 q k hq hn).1], by rw [← w243, cl_u_ne _ _ (fun z => hn z.1), (o215 q k (Nat.lt_of_lt_of_le hq hPp62.2.1.1)).1, (fr62 q k hq hn).2]⟩) (by omega)
  have pt54 : ∀ (Ip54 : cl_I) (Lp54 : cl_I) (Rp54 : cl_Rr) (Yp54 : cl_Y) (ncp54 : Nat) (nsp54 : Nat), (cl_P (e :: E) I L R Y Ip54 Lp54 Rp54 Yp54) → (10 ≤ e ∧ e < Yp54.2.2 ∧ 108 < e) → (Yp54.1 e = 3) → (∃ q, Rp54 e 0 = some q ∧ cl_T (e :: E) Yp54 q 21 ∧ Yp54.2.1 q = 4) → (∃ q, Rp54 e 1 = some q ∧ cl_T (e :: E) Yp54 q 21 ∧ Yp54.2.1 q = 4) → (∃ q, Rp54 e 2 = some q ∧ cl_T (e :: E) Yp54 q 21 ∧ Yp54.2.1 q = 5) → (∃ q, Rp54 e 3 = some q ∧ cl_T (e :: E) Yp54 q 20 ∧ Yp54.2.1 q = 4) → (∃ q, Rp54 e 4 = some q ∧ cl_T (e :: E) Yp54 q 20 ∧ Yp54.2.1 q = 5) → (∃ q, Rp54 e 5 = some q ∧ cl_T (e :: E) Yp54 q 20 ∧ Yp54.2.1 q = 5) → (∃ q, Rp54 e 6 = some q ∧ cl_T (e :: E) Yp54 q 20 ∧ Yp54.2.1 q = 6) → (∀ k, Ip54 e k = 0) → (∀ q k, q < Y.2.2 → q ≠ e → Ip54 q k = I q k ∧ Rp54 q k = R q k) → (ncp54 ≤ 7 ∧ nsp54 ≤ 33) → yi_G zi_Ms d zi_m219 (54, [(0, .inr (.inr (some e)))], [], (Ip54, Lp54, Rp54, Yp54), ncp54, nsp54) (fun r => ∃ I', ∃ L', ∃ R', ∃ Y', ∃ nc ns, r = (none, (I', L', R', Y'), nc, ns) ∧ cl_P E I L R Y I' L' R' Y' ∧ nc ≤ 13 ∧ ns ≤ 60 ∧ cl_T E Y' e 3 ∧ (∀ q k, q < Y.2.2 → q ≠ e → I' q k = I q k ∧ R' q k = R q k)) := by
    intro Ip54 Lp54 Rp54 Yp54 ncp54 nsp54 hPp54 gep54 kep54 rk0 rk1 rk2 rk3 rk4 rk5 rk6 zz54 fr54 cc
    obtain ⟨qa0, ea0_, ta0, na0⟩ := rk0
    obtain ⟨qa1, ea1_, ta1, na1⟩ := rk1
    obtain ⟨qa2, ea2_, ta2, na2⟩ := rk2
    obtain ⟨qa3, ea3_, ta3, na3⟩ := rk3
    obtain ⟨qa4, ea4_, ta4, na4⟩ := rk4
    obtain ⟨qa5, ea5_, ta5, na5⟩ := rk5
    obtain ⟨qa6, ea6_, ta6, na6⟩ := rk6
    refine yi_G_run 2 (57, [(0, .inr (.inr (some e)))], [.inl 6, .inr (.inr (some e))], (Ip54, Lp54, Rp54, Yp54), ncp54, nsp54) (fun _ => rfl) ?_
    refine cl_G_mka rfl hPp54 (by decide) (by decide) (by decide) (fun e254x I254 L254 R254 Y254 ee254 hP254 x254 t254 n254 o254 => ?_)
    have t255 := cl_T_x ta0 x254
    have n256 := (cl_T_n ta0 x254).trans na0
    have t257 := cl_T_x ta1 x254
    have n258 := (cl_T_n ta1 x254).trans na1
    have t259 := cl_T_x ta2 x254
    have n260 := (cl_T_n ta2 x254).trans na2
    have t261 := cl_T_x ta3 x254
    have n262 := (cl_T_n ta3 x254).trans na3
    have t263 := cl_T_x ta4 x254
    have n264 := (cl_T_n ta4 x254).trans na4
    have t265 := cl_T_x ta5 x254
    have n266 := (cl_T_n ta5 x254).trans na5
    have t267 := cl_T_x ta6 x254
    have n268 := (cl_T_n ta6 x254).trans na6
    have g269 : 10 ≤ e ∧ e < _ ∧ 108 < e := ⟨gep54.1, Nat.lt_of_lt_of_le gep54.2.1 (x254).1, gep54.2.2⟩
    have k270 := ((x254).2 e gep54.2.1).1.trans kep54
    have e271 := (o254 e 0 (gep54).2.1).1.trans ea0_
    have e272 := (o254 e 1 (gep54).2.1).1.trans ea1_
    have e273 := (o254 e 2 (gep54).2.1).1.trans ea2_
    have e274 := (o254 e 3 (gep54).2.1).1.trans ea3_
    have e275 := (o254 e 4 (gep54).2.1).1.trans ea4_
    have e276 := (o254 e 5 (gep54).2.1).1.trans ea5_
    have e277 := (o254 e 6 (gep54).2.1).1.trans ea6_
    refine cl_G_pr rfl ⟨g269.1, k270⟩ rfl rfl rfl ?_
    have hP278 := cl_P_mR (p := e) (k := 7) (v := (some e254x)) hP254 (by simp)
    generalize w279 : cl_u R254 e 7 (some e254x) = R280 at hP278 ⊢
    have e281 : R280 e 0 = some qa0 := by rw [← w279, cl_u_ne _ _ (fun z => absurd z.2 (by decide))]; exact e271
    have e282 : R280 e 1 = some qa1 := by rw [← w279, cl_u_ne _ _ (fun z => absurd z.2 (by decide))]; exact e272
    have e283 : R280 e 2 = some qa2 := by rw [← w279, cl_u_ne _ _ (fun z => absurd z.2 (by decide))]; exact e273
    have e284 : R280 e 3 = some qa3 := by rw [← w279, cl_u_ne _ _ (fun z => absurd z.2 (by decide))]; exact e274
    have e285 : R280 e 4 = some qa4 := by rw [← w279, cl_u_ne _ _ (fun z => absurd z.2 (by decide))]; exact e275
    have e286 : R280 e 5 = some qa5 := by rw [← w279, cl_u_ne _ _ (fun z => absurd z.2 (by decide))]; exact e276
    have e287 : R280 e 6 = some qa6 := by rw [← w279, cl_u_ne _ _ (fun z => absurd z.2 (by decide))]; exact e277
    have e288 : R280 e 7 = some e254x := by rw [← w279, cl_u_eq]
    exact pt62 I254 L254 R280 Y254 (ncp54 + 1) (nsp54 + (6 : Int).toNat) hP278 g269 k270 ⟨qa0, e281, t255, n256⟩ ⟨qa1, e282, t257, n258⟩ ⟨qa2, e283, t259, n260⟩ ⟨qa3, e284, t261, n262⟩ ⟨qa4, e285, t263, n264⟩ ⟨qa5, e286, t265, n266⟩ ⟨qa6, e287, t267, n268⟩ ⟨e254x, e288, t254, n254⟩ (fun k => by rw [(o254 e k (gep54).2.1).2]; exact zz54 k) (fun q k hq hn => by have b0 := hPp54.2.1.1; exact ⟨by rw [(o254 q k (Nat.lt_of_lt_of_le hq hPp54.2.1.1)).2, (fr54 q k hq hn).1], by rw [← w279, cl_u_ne _ _ (fun z => hn z.1), (o254 q k (Nat.lt_of_lt_of_le hq hPp54.2.1.1)).1, (fr54 q k hq hn).2]⟩) (by omega)
  have pt46 : ∀ (Ip46 : cl_I) (Lp46 : cl_I) (Rp46 : cl_Rr) (Yp46 : cl_Y) (ncp46 : Nat) (nsp46 : Nat), (cl_P (e :: E) I L R Y Ip46 Lp46 Rp46 Yp46) → (10 ≤ e ∧ e < Yp46.2.2 ∧ 108 < e) → (Yp46.1 e = 3) → (∃ q, Rp46 e 0 = some q ∧ cl_T (e :: E) Yp46 q 21 ∧ Yp46.2.1 q = 4) → (∃ q, Rp46 e 1 = some q ∧ cl_T (e :: E) Yp46 q 21 ∧ Yp46.2.1 q = 4) → (∃ q, Rp46 e 2 = some q ∧ cl_T (e :: E) Yp46 q 21 ∧ Yp46.2.1 q = 5) → (∃ q, Rp46 e 3 = some q ∧ cl_T (e :: E) Yp46 q 20 ∧ Yp46.2.1 q = 4) → (∃ q, Rp46 e 4 = some q ∧ cl_T (e :: E) Yp46 q 20 ∧ Yp46.2.1 q = 5) → (∃ q, Rp46 e 5 = some q ∧ cl_T (e :: E) Yp46 q 20 ∧ Yp46.2.1 q = 5) → (∀ k, Ip46 e k = 0) → (∀ q k, q < Y.2.2 → q ≠ e → Ip46 q k = I q k ∧ Rp46 q k = R q k) → (ncp46 ≤ 6 ∧ nsp46 ≤ 27) → yi_G zi_Ms d zi_m219 (46, [(0, .inr (.inr (some e)))], [], (Ip46, Lp46, Rp46, Yp46), ncp46, nsp46) (fun r => ∃ I', ∃ L', ∃ R', ∃ Y', ∃ nc ns, r = (none, (I', L', R', Y'), nc, ns) ∧ cl_P E I L R Y I' L' R' Y' ∧ nc ≤ 13 ∧ ns ≤ 60 ∧ cl_T E Y' e 3 ∧ (∀ q k, q < Y.2.2 → q ≠ e → I' q k = I q k ∧ R' q k = R q k)) := by
    intro Ip46 Lp46 Rp46 Yp46 ncp46 nsp46 hPp46 gep46 kep46 rk0 rk1 rk2 rk3 rk4 rk5 zz46 fr46 cc
    obtain ⟨qa0, ea0_, ta0, na0⟩ := rk0
    obtain ⟨qa1, ea1_, ta1, na1⟩ := rk1
    obtain ⟨qa2, ea2_, ta2, na2⟩ := rk2
    obtain ⟨qa3, ea3_, ta3, na3⟩ := rk3
    obtain ⟨qa4, ea4_, ta4, na4⟩ := rk4
    obtain ⟨qa5, ea5_, ta5, na5⟩ := rk5
    refine yi_G_run 2 (49, [(0, .inr (.inr (some e)))], [.inl 6, .inr (.inr (some e))], (Ip46, Lp46, Rp46, Yp46), ncp46, nsp46) (fun _ => rfl) ?_
    refine cl_G_mka rfl hPp46 (by decide) (by decide) (by decide) (fun e289x I289 L289 R289 Y289 ee289 hP289 x289 t289 n289 o289 => ?_)
    have t290 := cl_T_x ta0 x289
    have n291 := (cl_T_n ta0 x289).trans na0
    have t292 := cl_T_x ta1 x289
    have n293 := (cl_T_n ta1 x289).trans na1
    have t294 := cl_T_x ta2 x289
    have n295 := (cl_T_n ta2 x289).trans na2
    have t296 := cl_T_x ta3 x289
    have n297 := (cl_T_n ta3 x289).trans na3
    have t298 := cl_T_x ta4 x289
    have n299 := (cl_T_n ta4 x289).trans na4
    have t300 := cl_T_x ta5 x289
    have n301 := (cl_T_n ta5 x289).trans na5
    have g302 : 10 ≤ e ∧ e < _ ∧ 108 < e := ⟨gep46.1, Nat.lt_of_lt_of_le gep46.2.1 (x289).1, gep46.2.2⟩
    have k303 := ((x289).2 e gep46.2.1).1.trans kep46
    have e304 := (o289 e 0 (gep46).2.1).1.trans ea0_
    have e305 := (o289 e 1 (gep46).2.1).1.trans ea1_
    have e306 := (o289 e 2 (gep46).2.1).1.trans ea2_
    have e307 := (o289 e 3 (gep46).2.1).1.trans ea3_
    have e308 := (o289 e 4 (gep46).2.1).1.trans ea4_
    have e309 := (o289 e 5 (gep46).2.1).1.trans ea5_
    refine cl_G_pr rfl ⟨g302.1, k303⟩ rfl rfl rfl ?_
    have hP310 := cl_P_mR (p := e) (k := 6) (v := (some e289x)) hP289 (by simp)
    generalize w311 : cl_u R289 e 6 (some e289x) = R312 at hP310 ⊢
    have e313 : R312 e 0 = some qa0 := by rw [← w311, cl_u_ne _ _ (fun z => absurd z.2 (by decide))]; exact e304
    have e314 : R312 e 1 = some qa1 := by rw [← w311, cl_u_ne _ _ (fun z => absurd z.2 (by decide))]; exact e305
    have e315 : R312 e 2 = some qa2 := by rw [← w311, cl_u_ne _ _ (fun z => absurd z.2 (by decide))]; exact e306
    have e316 : R312 e 3 = some qa3 := by rw [← w311, cl_u_ne _ _ (fun z => absurd z.2 (by decide))]; exact e307
    have e317 : R312 e 4 = some qa4 := by rw [← w311, cl_u_ne _ _ (fun z => absurd z.2 (by decide))]; exact e308
    have e318 : R312 e 5 = some qa5 := by rw [← w311, cl_u_ne _ _ (fun z => absurd z.2 (by decide))]; exact e309
    have e319 : R312 e 6 = some e289x := by rw [← w311, cl_u_eq]
    exact pt54 I289 L289 R312 Y289 (ncp46 + 1) (nsp46 + (6 : Int).toNat) hP310 g302 k303 ⟨qa0, e313, t290, n291⟩ ⟨qa1, e314, t292, n293⟩ ⟨qa2, e315, t294, n295⟩ ⟨qa3, e316, t296, n297⟩ ⟨qa4, e317, t298, n299⟩ ⟨qa5, e318, t300, n301⟩ ⟨e289x, e319, t289, n289⟩ (fun k => by rw [(o289 e k (gep46).2.1).2]; exact zz46 k) (fun q k hq hn => by have b0 := hPp46.2.1.1; exact ⟨by rw [(o289 q k (Nat.lt_of_lt_of_le hq hPp46.2.1.1)).2, (fr46 q k hq hn).1], by rw [← w311, cl_u_ne _ _ (fun z => hn z.1), (o289 q k (Nat.lt_of_lt_of_le hq hPp46.2.1.1)).1, (fr46 q k hq hn).2]⟩) (by omega)
  have pt39 : ∀ (Ip39 : cl_I) (Lp39 : cl_I) (Rp39 : cl_Rr) (Yp39 : cl_Y) (ncp39 : Nat) (nsp39 : Nat), (cl_P (e :: E) I L R Y Ip39 Lp39 Rp39 Yp39) → (10 ≤ e ∧ e < Yp39.2.2 ∧ 108 < e) → (Yp39.1 e = 3) → (∃ q, Rp39 e 0 = some q ∧ cl_T (e :: E) Yp39 q 21 ∧ Yp39.2.1 q = 4) → (∃ q, Rp39 e 1 = some q ∧ cl_T (e :: E) Yp39 q 21 ∧ Yp39.2.1 q = 4) → (∃ q, Rp39 e 2 = some q ∧ cl_T (e :: E) Yp39 q 21 ∧ Yp39.2.1 q = 5) → (∃ q, Rp39 e 3 = some q ∧ cl_T (e :: E) Yp39 q 20 ∧ Yp39.2.1 q = 4) → (∃ q, Rp39 e 4 = some q ∧ cl_T (e :: E) Yp39 q 20 ∧ Yp39.2.1 q = 5) → (∀ k, Ip39 e k = 0) → (∀ q k, q < Y.2.2 → q ≠ e → Ip39 q k = I q k ∧ Rp39 q k = R q k) → (ncp39 ≤ 5 ∧ nsp39 ≤ 22) → yi_G zi_Ms d zi_m219 (39, [(0, .inr (.inr (some e)))], [], (Ip39, Lp39, Rp39, Yp39), ncp39, nsp39) (fun r => ∃ I', ∃ L', ∃ R', ∃ Y', ∃ nc ns, r = (none, (I', L', R', Y'), nc, ns) ∧ cl_P E I L R Y I' L' R' Y' ∧ nc ≤ 13 ∧ ns ≤ 60 ∧ cl_T E Y' e 3 ∧ (∀ q k, q < Y.2.2 → q ≠ e → I' q k = I q k ∧ R' q k = R q k)) := by
    intro Ip39 Lp39 Rp39 Yp39 ncp39 nsp39 hPp39 gep39 kep39 rk0 rk1 rk2 rk3 rk4 zz39 fr39 cc
    obtain ⟨qa0, ea0_, ta0, na0⟩ := rk0
    obtain ⟨qa1, ea1_, ta1, na1⟩ := rk1
    obtain ⟨qa2, ea2_, ta2, na2⟩ := rk2
    obtain ⟨qa3, ea3_, ta3, na3⟩ := rk3
    obtain ⟨qa4, ea4_, ta4, na4⟩ := rk4
    refine yi_G_run 2 (41, [(0, .inr (.inr (some e)))], [.inl 5, .inr (.inr (some e))], (Ip39, Lp39, Rp39, Yp39), ncp39, nsp39) (fun _ => rfl) ?_
    refine cl_G_mka rfl hPp39 (by decide) (by decide) (by decide) (fun e320x I320 L320 R320 Y320 ee320 hP320 x320 t320 n320 o320 => ?_)
    have t321 := cl_T_x ta0 x320
    have n322 := (cl_T_n ta0 x320).trans na0
    have t323 := cl_T_x ta1 x320
    have n324 := (cl_T_n ta1 x320).trans na1
    have t325 := cl_T_x ta2 x320
    have n326 := (cl_T_n ta2 x320).trans na2
    have t327 := cl_T_x ta3 x320
    have n328 := (cl_T_n ta3 x320).trans na3
    have t329 := cl_T_x ta4 x320
    have n330 := (cl_T_n ta4 x320).trans na4
    have g331 : 10 ≤ e ∧ e < _ ∧ 108 < e := ⟨gep39.1, Nat.lt_of_lt_of_le gep39.2.1 (x320).1, gep39.2.2⟩
    have k332 := ((x320).2 e gep39.2.1).1.trans kep39
    have e333 := (o320 e 0 (gep39).2.1).1.trans ea0_
    have e334 := (o320 e 1 (gep39).2.1).1.trans ea1_
    have e335 := (o320 e 2 (gep39).2.1).1.trans ea2_
    have e336 := (o320 e 3 (gep39).2.1).1.trans ea3_
    have e337 := (o320 e 4 (gep39).2.1).1.trans ea4_
    refine cl_G_pr rfl ⟨g331.1, k332⟩ rfl rfl rfl ?_
    have hP338 := cl_P_mR (p := e) (k := 5) (v := (some e320x)) hP320 (by simp)
    generalize w339 : cl_u R320 e 5 (some e320x) = R340 at hP338 ⊢
    have e341 : R340 e 0 = some qa0 := by rw [← w339, cl_u_ne _ _ (fun z => absurd z.2 (by decide))]; exact e333
    have e342 : R340 e 1 = some qa1 := by rw [← w339, cl_u_ne _ _ (fun z => absurd z.2 (by decide))]; exact e334
    have e343 : R340 e 2 = some qa2 := by rw [← w339, cl_u_ne _ _ (fun z => absurd z.2 (by decide))]; exact e335
    have e344 : R340 e 3 = some qa3 := by rw [← w339, cl_u_ne _ _ (fun z => absurd z.2 (by decide))]; exact e336
    have e345 : R340 e 4 = some qa4 := by rw [← w339, cl_u_ne _ _ (fun z => absurd z.2 (by decide))]; exact e337
    have e346 : R340 e 5 = some e320x := by rw [← w339, cl_u_eq]
    exact pt46 I320 L320 R340 Y320 (ncp39 + 1) (nsp39 + (5 : Int).toNat) hP338 g331 k332 ⟨qa0, e341, t321, n322⟩ ⟨qa1, e342, t323, n324⟩ ⟨qa2, e343, t325, n326⟩ ⟨qa3, e344, t327, n328⟩ ⟨qa4, e345, t329, n330⟩ ⟨e320x, e346, t320, n320⟩ (fun k => by rw [(o320 e k (gep39).2.1).2]; exact zz39 k) (fun q k hq hn => by have b0 := hPp39.2.1.1; exact ⟨by rw [(o320 q k (Nat.lt_of_lt_of_le hq hPp39.2.1.1)).2, (fr39 q k hq hn).1], by rw [← w339, cl_u_ne _ _ (fun z => hn z.1), (o320 q k (Nat.lt_of_lt_of_le hq hPp39.2.1.1)).1, (fr39 q k hq hn).2]⟩) (by omega)
  have pt32 : ∀ (Ip32 : cl_I) (Lp32 : cl_I) (Rp32 : cl_Rr) (Yp32 : cl_Y) (ncp32 : Nat) (nsp32 : Nat), (cl_P (e :: E) I L R Y Ip32 Lp32 Rp32 Yp32) → (10 ≤ e ∧ e < Yp32.2.2 ∧ 108 < e) → (Yp32.1 e = 3) → (∃ q, Rp32 e 0 = some q ∧ cl_T (e :: E) Yp32 q 21 ∧ Yp32.2.1 q = 4) → (∃ q, Rp32 e 1 = some q ∧ cl_T (e :: E) Yp32 q 21 ∧ Yp32.2.1 q = 4) → (∃ q, Rp32 e 2 = some q ∧ cl_T (e :: E) Yp32 q 21 ∧ Yp32.2.1 q = 5) → (∃ q, Rp32 e 3 = some q ∧ cl_T (e :: E) Yp32 q 20 ∧ Yp32.2.1 q = 4) → (∀ k, Ip32 e k = 0) → (∀ q k, q < Y.2.2 → q ≠ e → Ip32 q k = I q k ∧ Rp32 q k = R q k) → (ncp32 ≤ 4 ∧ nsp32 ≤ 17) → yi_G zi_Ms d zi_m219 (32, [(0, .inr (.inr (some e)))], [], (Ip32, Lp32, Rp32, Yp32), ncp32, nsp32) (fun r => ∃ I', ∃ L', ∃ R', ∃ Y', ∃ nc ns, r = (none, (I', L', R', Y'), nc, ns) ∧ cl_P E I L R Y I' L' R' Y' ∧ nc ≤ 13 ∧ ns ≤ 60 ∧ cl_T E Y' e 3 ∧ (∀ q k, q < Y.2.2 → q ≠ e → I' q k = I q k ∧ R' q k = R q k)) := by
    intro Ip32 Lp32 Rp32 Yp32 ncp32 nsp32 hPp32 gep32 kep32 rk0 rk1 rk2 rk3 zz32 fr32 cc
    obtain ⟨qa0, ea0_, ta0, na0⟩ := rk0
    obtain ⟨qa1, ea1_, ta1, na1⟩ := rk1
    obtain ⟨qa2, ea2_, ta2, na2⟩ := rk2
    obtain ⟨qa3, ea3_, ta3, na3⟩ := rk3
    refine yi_G_run 2 (34, [(0, .inr (.inr (some e)))], [.inl 5, .inr (.inr (some e))], (Ip32, Lp32, Rp32, Yp32), ncp32, nsp32) (fun _ => rfl) ?_
    refine cl_G_mka rfl hPp32 (by decide) (by decide) (by decide) (fun e347x I347 L347 R347 Y347 ee347 hP347 x347 t347 n347 o347 => ?_)
    have t348 := cl_T_x ta0 x347
    have n349 := (cl_T_n ta0 x347).trans na0
    have t350 := cl_T_x ta1 x347
    have n351 := (cl_T_n ta1 x347).trans na1
    have t352 := cl_T_x ta2 x347
    have n353 := (cl_T_n ta2 x347).trans na2
    have t354 := cl_T_x ta3 x347
    have n355 := (cl_T_n ta3 x347).trans na3
    have g356 : 10 ≤ e ∧ e < _ ∧ 108 < e := ⟨gep32.1, Nat.lt_of_lt_of_le gep32.2.1 (x347).1, gep32.2.2⟩
    have k357 := ((x347).2 e gep32.2.1).1.trans kep32
    have e358 := (o347 e 0 (gep32).2.1).1.trans ea0_
    have e359 := (o347 e 1 (gep32).2.1).1.trans ea1_
    have e360 := (o347 e 2 (gep32).2.1).1.trans ea2_
    have e361 := (o347 e 3 (gep32).2.1).1.trans ea3_
    refine cl_G_pr rfl ⟨g356.1, k357⟩ rfl rfl rfl ?_
    have hP362 := cl_P_mR (p := e) (k := 4) (v := (some e347x)) hP347 (by simp)
    generalize w363 : cl_u R347 e 4 (some e347x) = R364 at hP362 ⊢
    have e365 : R364 e 0 = some qa0 := by rw [← w363, cl_u_ne _ _ (fun z => absurd z.2 (by decide))]; exact e358
    have e366 : R364 e 1 = some qa1 := by rw [← w363, cl_u_ne _ _ (fun z => absurd z.2 (by decide))]; exact e359
    have e367 : R364 e 2 = some qa2 := by rw [← w363, cl_u_ne _ _ (fun z => absurd z.2 (by decide))]; exact e360
    have e368 : R364 e 3 = some qa3 := by rw [← w363, cl_u_ne _ _ (fun z => absurd z.2 (by decide))]; exact e361
    have e369 : R364 e 4 = some e347x := by rw [← w363, cl_u_eq]
    exact pt39 I347 L347 R364 Y347 (ncp32 + 1) (nsp32 + (5 : Int).toNat) hP362 g356 k357 ⟨qa0, e365, t348, n349⟩ ⟨qa1, e366, t350, n351⟩ ⟨qa2, e367, t352, n353⟩ ⟨qa3, e368, t354, n355⟩ ⟨e347x, e369, t347, n347⟩ (fun k => by rw [(o347 e k (gep32).2.1).2]; exact zz32 k) (fun q k hq hn => by have b0 := hPp32.2.1.1; exact ⟨by rw [(o347 q k (Nat.lt_of_lt_of_le hq hPp32.2.1.1)).2, (fr32 q k hq hn).1], by rw [← w363, cl_u_ne _ _ (fun z => hn z.1), (o347 q k (Nat.lt_of_lt_of_le hq hPp32.2.1.1)).1, (fr32 q k hq hn).2]⟩) (by omega)
  have pt25 : ∀ (Ip25 : cl_I) (Lp25 : cl_I) (Rp25 : cl_Rr) (Yp25 : cl_Y) (ncp25 : Nat) (nsp25 : Nat), (cl_P (e :: E) I L R Y Ip25 Lp25 Rp25 Yp25) → (10 ≤ e ∧ e < Yp25.2.2 ∧ 108 < e) → (Yp25.1 e = 3) → (∃ q, Rp25 e 0 = some q ∧ cl_T (e :: E) Yp25 q 21 ∧ Yp25.2.1 q = 4) → (∃ q, Rp25 e 1 = some q ∧ cl_T (e :: E) Yp25 q 21 ∧ Yp25.2.1 q = 4) → (∃ q, Rp25 e 2 = some q ∧ cl_T (e :: E) Yp25 q 21 ∧ Yp25.2.1 q = 5) → (∀ k, Ip25 e k = 0) → (∀ q k, q < Y.2.2 → q ≠ e → Ip25 q k = I q k ∧ Rp25 q k = R q k) → (ncp25 ≤ 3 ∧ nsp25 ≤ 13) → yi_G zi_Ms d zi_m219 (25, [(0, .inr (.inr (some e)))], [], (Ip25, Lp25, Rp25, Yp25), ncp25, nsp25) (fun r => ∃ I', ∃ L', ∃ R', ∃ Y', ∃ nc ns, r = (none, (I', L', R', Y'), nc, ns) ∧ cl_P E I L R Y I' L' R' Y' ∧ nc ≤ 13 ∧ ns ≤ 60 ∧ cl_T E Y' e 3 ∧ (∀ q k, q < Y.2.2 → q ≠ e → I' q k = I q k ∧ R' q k = R q k)) := by
    intro Ip25 Lp25 Rp25 Yp25 ncp25 nsp25 hPp25 gep25 kep25 rk0 rk1 rk2 zz25 fr25 cc
    obtain ⟨qa0, ea0_, ta0, na0⟩ := rk0
    obtain ⟨qa1, ea1_, ta1, na1⟩ := rk1
    obtain ⟨qa2, ea2_, ta2, na2⟩ := rk2
    refine yi_G_run 2 (27, [(0, .inr (.inr (some e)))], [.inl 4, .inr (.inr (some e))], (Ip25, Lp25, Rp25, Yp25), ncp25, nsp25) (fun _ => rfl) ?_
    refine cl_G_mka rfl hPp25 (by decide) (by decide) (by decide) (fun e370x I370 L370 R370 Y370 ee370 hP370 x370 t370 n370 o370 => ?_)
    have t371 := cl_T_x ta0 x370
    have n372 := (cl_T_n ta0 x370).trans na0
    have t373 := cl_T_x ta1 x370
    have n374 := (cl_T_n ta1 x370).trans na1
    have t375 := cl_T_x ta2 x370
    have n376 := (cl_T_n ta2 x370).trans na2
    have g377 : 10 ≤ e ∧ e < _ ∧ 108 < e := ⟨gep25.1, Nat.lt_of_lt_of_le gep25.2.1 (x370).1, gep25.2.2⟩
    have k378 := ((x370).2 e gep25.2.1).1.trans kep25
    have e379 := (o370 e 0 (gep25).2.1).1.trans ea0_
    have e380 := (o370 e 1 (gep25).2.1).1.trans ea1_
    have e381 := (o370 e 2 (gep25).2.1).1.trans ea2_
    refine cl_G_pr rfl ⟨g377.1, k378⟩ rfl rfl rfl ?_
    have hP382 := cl_P_mR (p := e) (k := 3) (v := (some e370x)) hP370 (by simp)
    generalize w383 : cl_u R370 e 3 (some e370x) = R384 at hP382 ⊢
    have e385 : R384 e 0 = some qa0 := by rw [← w383, cl_u_ne _ _ (fun z => absurd z.2 (by decide))]; exact e379
    have e386 : R384 e 1 = some qa1 := by rw [← w383, cl_u_ne _ _ (fun z => absurd z.2 (by decide))]; exact e380
    have e387 : R384 e 2 = some qa2 := by rw [← w383, cl_u_ne _ _ (fun z => absurd z.2 (by decide))]; exact e381
    have e388 : R384 e 3 = some e370x := by rw [← w383, cl_u_eq]
    exact pt32 I370 L370 R384 Y370 (ncp25 + 1) (nsp25 + (4 : Int).toNat) hP382 g377 k378 ⟨qa0, e385, t371, n372⟩ ⟨qa1, e386, t373, n374⟩ ⟨qa2, e387, t375, n376⟩ ⟨e370x, e388, t370, n370⟩ (fun k => by rw [(o370 e k (gep25).2.1).2]; exact zz25 k) (fun q k hq hn => by have b0 := hPp25.2.1.1; exact ⟨by rw [(o370 q k (Nat.lt_of_lt_of_le hq hPp25.2.1.1)).2, (fr25 q k hq hn).1], by rw [← w383, cl_u_ne _ _ (fun z => hn z.1), (o370 q k (Nat.lt_of_lt_of_le hq hPp25.2.1.1)).1, (fr25 q k hq hn).2]⟩) (by omega)
  have pt18 : ∀ (Ip18 : cl_I) (Lp18 : cl_I) (Rp18 : cl_Rr) (Yp18 : cl_Y) (ncp18 : Nat) (nsp18 : Nat), (cl_P (e :: E) I L R Y Ip18 Lp18 Rp18 Yp18) → (10 ≤ e ∧ e < Yp18.2.2 ∧ 108 < e) → (Yp18.1 e = 3) → (∃ q, Rp18 e 0 = some q ∧ cl_T (e :: E) Yp18 q 21 ∧ Yp18.2.1 q = 4) → (∃ q, Rp18 e 1 = some q ∧ cl_T (e :: E) Yp18 q 21 ∧ Yp18.2.1 q = 4) → (∀ k, Ip18 e k = 0) → (∀ q k, q < Y.2.2 → q ≠ e → Ip18 q k = I q k ∧ Rp18 q k = R q k) → (ncp18 ≤ 2 ∧ nsp18 ≤ 8) → yi_G zi_Ms d zi_m219 (18, [(0, .inr (.inr (some e)))], [], (Ip18, Lp18, Rp18, Yp18), ncp18, nsp18) (fun r => ∃ I', ∃ L', ∃ R', ∃ Y', ∃ nc ns, r = (none, (I', L', R', Y'), nc, ns) ∧ cl_P E I L R Y I' L' R' Y' ∧ nc ≤ 13 ∧ ns ≤ 60 ∧ cl_T E Y' e 3 ∧ (∀ q k, q < Y.2.2 → q ≠ e → I' q k = I q k ∧ R' q k = R q k)) := by
    intro Ip18 Lp18 Rp18 Yp18 ncp18 nsp18 hPp18 gep18 kep18 rk0 rk1 zz18 fr18 cc
    obtain ⟨qa0, ea0_, ta0, na0⟩ := rk0
    obtain ⟨qa1, ea1_, ta1, na1⟩ := rk1
    refine yi_G_run 2 (20, [(0, .inr (.inr (some e)))], [.inl 5, .inr (.inr (some e))], (Ip18, Lp18, Rp18, Yp18), ncp18, nsp18) (fun _ => rfl) ?_
    refine cl_G_mka rfl hPp18 (by decide) (by decide) (by decide) (fun e389x I389 L389 R389 Y389 ee389 hP389 x389 t389 n389 o389 => ?_)
    have t390 := cl_T_x ta0 x389
    have n391 := (cl_T_n ta0 x389).trans na0
    have t392 := cl_T_x ta1 x389
    have n393 := (cl_T_n ta1 x389).trans na1
    have g394 : 10 ≤ e ∧ e < _ ∧ 108 < e := ⟨gep18.1, Nat.lt_of_lt_of_le gep18.2.1 (x389).1, gep18.2.2⟩
    have k395 := ((x389).2 e gep18.2.1).1.trans kep18
    have e396 := (o389 e 0 (gep18).2.1).1.trans ea0_
    have e397 := (o389 e 1 (gep18).2.1).1.trans ea1_
    refine cl_G_pr rfl ⟨g394.1, k395⟩ rfl rfl rfl ?_
    have hP398 := cl_P_mR (p := e) (k := 2) (v := (some e389x)) hP389 (by simp)
    generalize w399 : cl_u R389 e 2 (some e389x) = R400 at hP398 ⊢
    have e401 : R400 e 0 = some qa0 := by rw [← w399, cl_u_ne _ _ (fun z => absurd z.2 (by decide))]; exact e396
    have e402 : R400 e 1 = some qa1 := by rw [← w399, cl_u_ne _ _ (fun z => absurd z.2 (by decide))]; exact e397
    have e403 : R400 e 2 = some e389x := by rw [← w399, cl_u_eq]
    exact pt25 I389 L389 R400 Y389 (ncp18 + 1) (nsp18 + (5 : Int).toNat) hP398 g394 k395 ⟨qa0, e401, t390, n391⟩ ⟨qa1, e402, t392, n393⟩ ⟨e389x, e403, t389, n389⟩ (fun k => by rw [(o389 e k (gep18).2.1).2]; exact zz18 k) (fun q k hq hn => by have b0 := hPp18.2.1.1; exact ⟨by rw [(o389 q k (Nat.lt_of_lt_of_le hq hPp18.2.1.1)).2, (fr18 q k hq hn).1], by rw [← w399, cl_u_ne _ _ (fun z => hn z.1), (o389 q k (Nat.lt_of_lt_of_le hq hPp18.2.1.1)).1, (fr18 q k hq hn).2]⟩) (by omega)
  have pt11 : ∀ (Ip11 : cl_I) (Lp11 : cl_I) (Rp11 : cl_Rr) (Yp11 : cl_Y) (ncp11 : Nat) (nsp11 : Nat), (cl_P (e :: E) I L R Y Ip11 Lp11 Rp11 Yp11) → (10 ≤ e ∧ e < Yp11.2.2 ∧ 108 < e) → (Yp11.1 e = 3) → (∃ q, Rp11 e 0 = some q ∧ cl_T (e :: E) Yp11 q 21 ∧ Yp11.2.1 q = 4) → (∀ k, Ip11 e k = 0) → (∀ q k, q < Y.2.2 → q ≠ e → Ip11 q k = I q k ∧ Rp11 q k = R q k) → (ncp11 ≤ 1 ∧ nsp11 ≤ 4) → yi_G zi_Ms d zi_m219 (11, [(0, .inr (.inr (some e)))], [], (Ip11, Lp11, Rp11, Yp11), ncp11, nsp11) (fun r => ∃ I', ∃ L', ∃ R', ∃ Y', ∃ nc ns, r = (none, (I', L', R', Y'), nc, ns) ∧ cl_P E I L R Y I' L' R' Y' ∧ nc ≤ 13 ∧ ns ≤ 60 ∧ cl_T E Y' e 3 ∧ (∀ q k, q < Y.2.2 → q ≠ e → I' q k = I q k ∧ R' q k = R q k)) := by
    intro Ip11 Lp11 Rp11 Yp11 ncp11 nsp11 hPp11 gep11 kep11 rk0 zz11 fr11 cc
    obtain ⟨qa0, ea0_, ta0, na0⟩ := rk0
    refine yi_G_run 2 (13, [(0, .inr (.inr (some e)))], [.inl 4, .inr (.inr (some e))], (Ip11, Lp11, Rp11, Yp11), ncp11, nsp11) (fun _ => rfl) ?_
    refine cl_G_mka rfl hPp11 (by decide) (by decide) (by decide) (fun e404x I404 L404 R404 Y404 ee404 hP404 x404 t404 n404 o404 => ?_)
    have t405 := cl_T_x ta0 x404
    have n406 := (cl_T_n ta0 x404).trans na0
    have g407 : 10 ≤ e ∧ e < _ ∧ 108 < e := ⟨gep11.1, Nat.lt_of_lt_of_le gep11.2.1 (x404).1, gep11.2.2⟩
    have k408 := ((x404).2 e gep11.2.1).1.trans kep11
    have e409 := (o404 e 0 (gep11).2.1).1.trans ea0_
    refine cl_G_pr rfl ⟨g407.1, k408⟩ rfl rfl rfl ?_
    have hP410 := cl_P_mR (p := e) (k := 1) (v := (some e404x)) hP404 (by simp)
    generalize w411 : cl_u R404 e 1 (some e404x) = R412 at hP410 ⊢
    have e413 : R412 e 0 = some qa0 := by rw [← w411, cl_u_ne _ _ (fun z => absurd z.2 (by decide))]; exact e409
    have e414 : R412 e 1 = some e404x := by rw [← w411, cl_u_eq]
    exact pt18 I404 L404 R412 Y404 (ncp11 + 1) (nsp11 + (4 : Int).toNat) hP410 g407 k408 ⟨qa0, e413, t405, n406⟩ ⟨e404x, e414, t404, n404⟩ (fun k => by rw [(o404 e k (gep11).2.1).2]; exact zz11 k) (fun q k hq hn => by have b0 := hPp11.2.1.1; exact ⟨by rw [(o404 q k (Nat.lt_of_lt_of_le hq hPp11.2.1.1)).2, (fr11 q k hq hn).1], by rw [← w411, cl_u_ne _ _ (fun z => hn z.1), (o404 q k (Nat.lt_of_lt_of_le hq hPp11.2.1.1)).1, (fr11 q k hq hn).2]⟩) (by omega)
  refine cl_G_obj rfl rfl ?_
  refine yi_G_run 2 (6, [(0, .inr (.inr (some e)))], [.inl 4, .inr (.inr (some e))], (I, L, R, Y), 0, 0) (fun _ => rfl) ?_
  refine cl_G_mka rfl hP (by decide) (by decide) (by decide) (fun e415x I415 L415 R415 Y415 ee415 hP415 x415 t415 n415 o415 => ?_)
  have g416 : 10 ≤ e ∧ e < _ ∧ 108 < e := ⟨ge.1, Nat.lt_of_lt_of_le ge.2.1 (x415).1, ge.2.2⟩
  have k417 := ((x415).2 e ge.2.1).1.trans ke
  refine cl_G_pr rfl ⟨g416.1, k417⟩ rfl rfl rfl ?_
  have hP418 := cl_P_mR (p := e) (k := 0) (v := (some e415x)) hP415 (by simp)
  generalize w419 : cl_u R415 e 0 (some e415x) = R420 at hP418 ⊢
  have e421 : R420 e 0 = some e415x := by rw [← w419, cl_u_eq]
  exact pt11 I415 L415 R420 Y415 (0 + 1) (0 + (4 : Int).toNat) hP418 g416 k417 ⟨e415x, e421, t415, n415⟩ (fun k => by rw [(o415 e k (ge).2.1).2]; exact ez k) (fun q k hq hn => by have b0 := hP.2.1.1; exact ⟨by rw [(o415 q k (Nat.lt_of_lt_of_le hq hP.2.1.1)).2], by rw [← w419, cl_u_ne _ _ (fun z => hn z.1), (o415 q k (Nat.lt_of_lt_of_le hq hP.2.1.1)).1]⟩) (by omega)
