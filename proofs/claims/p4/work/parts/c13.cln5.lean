/-! The class reader: a whole text. -/
theorem cs_S_r {R R' : Nat → Nat → Option Nat} {Y : (Nat → Nat) × (Nat → Nat) × Nat} (h : cs_S R Y) (f : ∀ p k, ¬ (p = 11 ∧ k = 6) → R' p k = R p k) : cs_S R' Y := by
  unfold cs_S
  rw [f 11 0 (by omega), f 11 1 (by omega), f 11 2 (by omega), f 12 0 (by omega), f 12 1 (by omega), f 12 2 (by omega), f 12 3 (by omega), f 12 4 (by omega)]
  exact h
theorem cs_T_11 {I L I' L' : Nat → Nat → Int} {K P V : Nat → Int} {te : Nat} (h : cs_T I L K P V te) (f : ∀ p k, p ≠ 11 → I' p k = I p k) (f2 : ∀ p k, p ≠ 11 → L' p k = L p k) : cs_T I' L' K P V te := cs_T_t h ⟨fun p k a _ => f p k a, f2⟩
theorem p_advance_0 {d : Nat} {I L : Nat → Nat → Int} {R : Nat → Nat → Option Nat} {Y : (Nat → Nat) × (Nat → Nat) × Nat} {K P V : Nat → Int} {te : Nat} (hX : cs_S R Y ∧ cs_T I L K P V te) (hf : I 11 11 = 0) (h8 : I 11 8 = -1) : yi_P zi_Ms d 247 [.inr (.inr (some 11))] (I, L, R, Y) (fun r => ∃ I' L', r = (none, (I', L', R, Y), 0, 0) ∧ cs_G I L I' L' ∧ I' 11 11 = 0 ∧ cs_A I' L' K te 0) := by
  refine yi_P_of (M := zi_m247) rfl (fun d k => ?_)
  have h6 := hX.2.2.1
  have ht := hX.2.1
  show yi_D zi_Ms d zi_m247 k (0, [(0, .inr (.inr (some 11)))], [], (I, L, R, Y), 0, 0) _
  refine yi_D_run 1 (1, [(0, .inr (.inr (some 11)))], [.inr (.inr (some 11))], (I, L, R, Y), 0, 0) (fun _ => rfl) ?_
  refine yi_D_gi (v := (-1)) rfl rfl rfl h8 (fun _ => ?_)
  refine yi_D_run 1 (5, [(0, .inr (.inr (some 11)))], [.inl 1, .inl (-1)], (I, L, R, Y), 0, 0) (fun _ => rfl) ?_
  refine yi_D_iadd rfl (0) (by decide) ?_
  refine yi_D_run 2 (8, [(1, .inl 0), (0, .inr (.inr (some 11)))], [.inr (.inr (some 11))], (I, L, R, Y), 0, 0) (fun _ => rfl) ?_
  refine yi_D_gi (v := 0) rfl rfl rfl hf (fun _ => ?_)
  refine yi_D_if1 false rfl (by decide) ?_
  refine yi_D_run 2 (16, [(1, .inl 0), (0, .inr (.inr (some 11)))], [.inr (.inr (some 11)), .inl 0], (I, L, R, Y), 0, 0) (fun _ => rfl) ?_
  refine yi_D_gr (v := some 12) rfl rfl rfl hX.1.1.1 (fun _ => ?_)
  refine yi_D_gi (v := (te : Int) + 1) rfl rfl rfl h6 (fun _ => ?_)
  have h1 : ¬ (((te : Int) + 1) ≤ 0) := by omega
  refine yi_D_if2 false rfl (yi_ge_f h1) ?_
  refine yi_D_run 2 (27, [(1, .inl 0), (0, .inr (.inr (some 11)))], [.inr (.inr (some 11)), .inl 0], (I, L, R, Y), 0, 0) (fun _ => rfl) ?_
  refine yi_D_gr (v := some 12) rfl rfl rfl hX.1.1.1 (fun _ => ?_)
  refine yi_D_gr (v := some 14) rfl rfl rfl hX.1.2.1.2.1 (fun _ => ?_)
  refine yi_D_len (v := 1001) rfl rfl (by rw [hX.1.2.2.2.1]; rfl) ?_
  refine yi_D_if2 false rfl (by decide) ?_
  refine yi_D_run 2 (39, [(1, .inl 0), (0, .inr (.inr (some 11)))], [.inr (.inr (some 11)), .inl 0], (I, L, R, Y), 0, 0) (fun _ => rfl) ?_
  refine yi_D_gr (v := some 12) rfl rfl rfl hX.1.1.1 (fun _ => ?_)
  refine yi_D_gr (v := some 16) rfl rfl rfl hX.1.2.1.2.2.2.1 (fun _ => ?_)
  refine yi_D_len (v := 1001) rfl rfl (by rw [hX.1.2.2.2.2.2.1]; rfl) ?_
  refine yi_D_if2 false rfl (by decide) ?_
  refine yi_D_run 2 (51, [(1, .inl 0), (0, .inr (.inr (some 11)))], [.inl 0, .inr (.inr (some 11))], (I, L, R, Y), 0, 0) (fun _ => rfl) ?_
  refine yi_D_pi rfl (fun _ => ?_)
  generalize w3 : yi_u I 11 8 0 = I2
  refine yi_D_run 2 (56, [(1, .inl 0), (0, .inr (.inr (some 11)))], [.inr (.inr (some 11)), .inr (.inr (some 11))], (I2, L, R, Y), 0, 0) (fun _ => rfl) ?_
  refine yi_D_gr (v := some 12) rfl rfl rfl hX.1.1.1 (fun _ => ?_)
  refine yi_D_gr (v := some 14) rfl rfl rfl hX.1.2.1.2.1 (fun _ => ?_)
  refine yi_D_run 1 (63, [(1, .inl 0), (0, .inr (.inr (some 11)))], [.inl 0, .inr (.inr (some 14)), .inr (.inr (some 11))], (I2, L, R, Y), 0, 0) (fun _ => rfl) ?_
  have r4 : I2 14 0 = I 14 0 := by rw [← w3, yi_u_ne _ _ (by omega)]
  refine yi_D_il (v := I 14 0) rfl rfl r4 (fun _ _ => ?_)
  refine yi_D_pi rfl (fun _ => ?_)
  generalize w6 : yi_u I2 11 9 (I 14 0) = I5
  refine yi_D_run 2 (69, [(1, .inl 0), (0, .inr (.inr (some 11)))], [.inr (.inr (some 11)), .inr (.inr (some 11))], (I5, L, R, Y), 0, 0) (fun _ => rfl) ?_
  refine yi_D_gr (v := some 12) rfl rfl rfl hX.1.1.1 (fun _ => ?_)
  refine yi_D_gr (v := some 16) rfl rfl rfl hX.1.2.1.2.2.2.1 (fun _ => ?_)
  refine yi_D_run 1 (76, [(1, .inl 0), (0, .inr (.inr (some 11)))], [.inl 0, .inr (.inr (some 16)), .inr (.inr (some 11))], (I5, L, R, Y), 0, 0) (fun _ => rfl) ?_
  refine yi_D_ll (v := L 16 0) rfl rfl rfl (fun _ _ => ?_)
  refine yi_D_pl rfl (fun _ => ?_)
  generalize w8 : yi_u L 11 10 (L 16 0) = L7
  refine yi_D_retv rfl ?_
  refine ⟨_, _, rfl, ⟨(fun p k hp0 => by rw [← w6, yi_u_ne _ _ (by omega), ← w3, yi_u_ne _ _ (by omega)]), (fun p k hp0 => by rw [← w8, yi_u_ne _ _ (by omega)])⟩, ?_, ?_⟩
  · rw [← w6, yi_u_ne _ _ (by omega), ← w3, yi_u_ne _ _ (by omega)]; exact hf
  · refine ⟨?_, by omega, ?_, ?_⟩
    · rw [← w6, yi_u_ne _ _ (by omega), ← w3, yi_u_eq]; rfl
    · rw [← w6, yi_u_eq]; exact (hX.2.2.2.1 0 (by omega)).1
    · rw [← w8, yi_u_eq, yi_u_ne _ _ (by omega)]
theorem p_begin {d : Nat} {I L : Nat → Nat → Int} {R : Nat → Nat → Option Nat} {Y : (Nat → Nat) × (Nat → Nat) × Nat} {q : Nat} {K P V : Nat → Int} {te : Nat} (hX : cs_S R Y ∧ cs_T I L K P V te) : yi_P zi_Ms d 248 [.inr (.inr (some 11)), .inr (.inr (some q))] (I, L, R, Y) (fun r => ∃ I' L' R', r = (none, (I', L', R', Y), 0, 0) ∧ I' 11 11 = 0 ∧ cs_A I' L' K te 0 ∧ (∀ p k, p ≠ 11 → I' p k = I p k ∧ L' p k = L p k) ∧ R' 11 6 = some q ∧ (∀ p k, ¬ (p = 11 ∧ k = 6) → R' p k = R p k)) := by
  refine yi_P_of (M := zi_m248) rfl (fun d k => ?_)
  show yi_D zi_Ms d zi_m248 k (0, [(0, .inr (.inr (some 11))), (1, .inr (.inr (some q)))], [], (I, L, R, Y), 0, 0) _
  refine yi_D_run 2 (2, [(0, .inr (.inr (some 11))), (1, .inr (.inr (some q)))], [.inr (.inr (some q)), .inr (.inr (some 11))], (I, L, R, Y), 0, 0) (fun _ => rfl) ?_
  refine yi_D_pr rfl (fun R1 n2 n3 => ?_)
  refine yi_D_run 2 (7, [(0, .inr (.inr (some 11))), (1, .inr (.inr (some q)))], [.inl 0, .inr (.inr (some 11))], (I, L, R1, Y), 0, 0) (fun _ => rfl) ?_
  refine yi_D_pi rfl (fun _ => ?_)
  generalize w5 : yi_u I 11 11 0 = I4
  refine yi_D_run 2 (12, [(0, .inr (.inr (some 11))), (1, .inr (.inr (some q)))], [.inl 0, .inr (.inr (some 11))], (I4, L, R1, Y), 0, 0) (fun _ => rfl) ?_
  refine yi_D_pi rfl (fun _ => ?_)
  generalize w7 : yi_u I4 11 3 0 = I6
  refine yi_D_run 2 (17, [(0, .inr (.inr (some 11))), (1, .inr (.inr (some q)))], [.inl 0, .inr (.inr (some 11))], (I6, L, R1, Y), 0, 0) (fun _ => rfl) ?_
  refine yi_D_pi rfl (fun _ => ?_)
  generalize w9 : yi_u I6 11 5 0 = I8
  refine yi_D_run 2 (22, [(0, .inr (.inr (some 11))), (1, .inr (.inr (some q)))], [.inl 0, .inr (.inr (some 11))], (I8, L, R1, Y), 0, 0) (fun _ => rfl) ?_
  refine yi_D_pi rfl (fun _ => ?_)
  generalize w11 : yi_u I8 11 7 0 = I10
  refine yi_D_run 2 (27, [(0, .inr (.inr (some 11))), (1, .inr (.inr (some q)))], [.inl (-1), .inr (.inr (some 11))], (I10, L, R1, Y), 0, 0) (fun _ => rfl) ?_
  refine yi_D_pi rfl (fun _ => ?_)
  generalize w13 : yi_u I10 11 8 (-1) = I12
  refine yi_D_run 1 (31, [(0, .inr (.inr (some 11))), (1, .inr (.inr (some q)))], [.inr (.inr (some 11))], (I12, L, R1, Y), 0, 0) (fun _ => rfl) ?_
  refine yi_D_callv rfl (p_advance_0 ⟨cs_S_r hX.1 n3, cs_T_11 hX.2 (fun p k hp => by rw [← w13, yi_u_ne _ _ (by omega), ← w11, yi_u_ne _ _ (by omega), ← w9, yi_u_ne _ _ (by omega), ← w7, yi_u_ne _ _ (by omega), ← w5, yi_u_ne _ _ (by omega)]) (fun _ _ _ => rfl)⟩ (by rw [← w13, yi_u_ne _ _ (by omega), ← w11, yi_u_ne _ _ (by omega), ← w9, yi_u_ne _ _ (by omega), ← w7, yi_u_ne _ _ (by omega), ← w5, yi_u_eq]) (by rw [← w13, yi_u_eq])) ?_
  rintro _ ⟨I14, L15, rfl, hG16, hf17, hA18⟩
  show yi_D zi_Ms d zi_m248 k (34, [(0, .inr (.inr (some 11))), (1, .inr (.inr (some q)))], [], (I14, L15, R1, Y), 0, 0) _
  refine yi_D_retv rfl ?_
  exact ⟨_, _, _, rfl, hf17, hA18, fun p k hp => ⟨by rw [hG16.1 p k (by omega), ← w13, yi_u_ne _ _ (by omega), ← w11, yi_u_ne _ _ (by omega), ← w9, yi_u_ne _ _ (by omega), ← w7, yi_u_ne _ _ (by omega), ← w5, yi_u_ne _ _ (by omega)], hG16.2 p k (by omega)⟩, n2, n3⟩
/-- a land with nothing but a day -/
def sp_ld0 : Nat → Int := fun k => if k = 0 then 1 else if k = 6 then -1 else 0
def sp_nm0 : Int → Int := fun _ => -1
/-- a new land of the class -/
def cs_N0 (I L : Nat → Nat → Int) (R : Nat → Nat → Option Nat) (Y : (Nat → Nat) × (Nat → Nat) × Nat) (q : Nat) : Prop := (20 ≤ q ∧ (∀ j, j < 12 → R q j = some (q + 1 + j)) ∧ (Y.2.1 (q + 1) = 4 ∧ Y.2.1 (q + 2) = 4 ∧ Y.2.1 (q + 3) = 5 ∧ q + 14 ≤ Y.2.2)) ∧ I q 13 = 0 ∧ I q 14 = 1 ∧ I q 15 = 0 ∧ I q 16 = 0 ∧ I q 17 = 0 ∧ I q 18 = 0 ∧ I q 19 = 0
theorem cs_Ld_0 {I L I' L' : Nat → Nat → Int} {R R' : Nat → Nat → Option Nat} {Y : (Nat → Nat) × (Nat → Nat) × Nat} {q : Nat} (h : cs_N0 I L R Y q) (f : ∀ p k, p ≠ 11 → I' p k = I p k ∧ L' p k = L p k) (hr : R' 11 6 = some q) (fr : ∀ p k, ¬ (p = 11 ∧ k = 6) → R' p k = R p k) : cs_Ld I' L' R' Y q sp_ld0 sp_nm0 := by
  obtain ⟨⟨h1, h2, h3⟩, e13, e14, e15, e16, e17, e18, e19⟩ := h
  have n : ∀ (p : Nat) (lo hi : Int), 0 ≤ lo → lo ≤ hi + 1 → cs_N L' p (sp_ld0 1) sp_nm0 lo hi := fun p lo hi a b => ⟨⟨by decide, by show lo + 0 ≤ _; omega⟩, fun i hi' => absurd (show (i : Int) < 0 from hi') (by omega), fun v c d => absurd (show lo ≤ -1 from c) (by omega)⟩
  refine ⟨⟨h1, hr, fun j hj => by rw [fr _ _ (by omega)]; exact h2 j hj, h3⟩, ?_, by decide, ?_, fun _ => (show (-1 : Int) ≤ 12 by decide), ⟨n _ 0 3 (by omega) (by omega), n _ 4 7 (by omega) (by omega), n _ 8 12 (by omega) (by omega)⟩, fun i hi => absurd (show (i : Int) < 0 from hi) (by omega), fun i hi => absurd (show (i : Int) < 0 from hi) (by omega)⟩
  · rw [(f q 14 (by omega)).1, (f q 15 (by omega)).1, (f q 16 (by omega)).1, (f q 17 (by omega)).1, (f q 18 (by omega)).1, (f q 19 (by omega)).1]
    exact ⟨e14, e15, e16, e17, e18, e19⟩
  · rw [(f q 13 (by omega)).1, e13]
    decide
/-- what reading a land leaves: R 11 6 is the new land -/
def cs_HB (q : Nat) (I L : Nat → Nat → Int) (R : Nat → Nat → Option Nat) (Y : (Nat → Nat) × (Nat → Nat) × Nat) (I' L' : Nat → Nat → Int) (R' : Nat → Nat → Option Nat) (Y' : (Nat → Nat) × (Nat → Nat) × Nat) : Prop := (∀ p k, p < Y.2.2 → p ≠ 11 → p ≠ 19 → (p < q ∨ q + 14 ≤ p) → I' p k = I p k ∧ L' p k = L p k) ∧ (∀ p k, p < Y.2.2 ∧ ¬ (p = q ∧ k = 12) ∧ ¬ (p = 11 ∧ k = 6) → R' p k = R p k) ∧ (Y.2.2 ≤ Y'.2.2 ∧ ∀ p, p < Y.2.2 → Y'.2.1 p = Y.2.1 p ∧ Y'.1 p = Y.1 p)
theorem cs_HB_t {q : Nat} {I L I1 L1 I2 L2 : Nat → Nat → Int} {R R1 R2 : Nat → Nat → Option Nat} {Y Y1 Y2 : (Nat → Nat) × (Nat → Nat) × Nat} (h : cs_HB q I L R Y I1 L1 R1 Y1) (h2 : cs_H q I1 L1 R1 Y1 I2 L2 R2 Y2) : cs_HB q I L R Y I2 L2 R2 Y2 := by
  obtain ⟨a1, a2, a3, a4⟩ := h
  obtain ⟨b1, b2, b3, b4⟩ := h2
  refine ⟨fun p k c d e f => ?_, fun p k c => ?_, by omega, fun p c => ?_⟩
  · have x := a1 p k c d e f
    have y := b1 p k (by omega) d e f
    exact ⟨y.1.trans x.1, y.2.trans x.2⟩
  · exact (b2 p k (by omega)).trans (a2 p k c)
  · have x := a4 p c
    have y := b4 p (by omega)
    exact ⟨y.1.trans x.1, y.2.trans x.2⟩
theorem p_readLand {d : Nat} {I L : Nat → Nat → Int} {R : Nat → Nat → Option Nat} {Y : (Nat → Nat) × (Nat → Nat) × Nat} {q : Nat} {K P V : Nat → Int} {te : Nat} (hX : cs_S R Y ∧ cs_T I L K P V te) (hN : cs_N0 I L R Y q) : yi_P zi_Ms d 258 [.inr (.inr (some 11)), .inr (.inr (some q))] (I, L, R, Y) (fun r => ∃ I' L' R' Y' n m f, r = (some (.inl f), (I', L', R', Y'), n, m) ∧ cs_HB q I L R Y I' L' R' Y' ∧ sp_R K P V (0, 0, 0, [], sp_ld0, sp_nm0, []) (.inr f) ∧ (f = 0 → ∃ a ld nm cs, sp_R K P V (0, 0, 0, [], sp_ld0, sp_nm0, []) (.inl (2, a, 0, [], ld, nm, cs)) ∧ K a = 0 ∧ cs_W I' L' R' Y' K P V te q ld nm)) := by
  refine yi_P_of (M := zi_m258) rfl (fun d k => ?_)
  show yi_D zi_Ms d zi_m258 k (0, [(0, .inr (.inr (some 11))), (1, .inr (.inr (some q)))], [], (I, L, R, Y), 0, 0) _
  refine yi_D_run 2 (2, [(0, .inr (.inr (some 11))), (1, .inr (.inr (some q)))], [.inr (.inr (some q)), .inr (.inr (some 11))], (I, L, R, Y), 0, 0) (fun _ => rfl) ?_
  refine yi_D_callv rfl (p_begin hX) ?_
  rintro _ ⟨I1, L2, R3, rfl, g4, g5, g6, g7, g8⟩
  have hW9 : cs_W I1 L2 R3 Y K P V te q sp_ld0 sp_nm0 := ⟨cs_S_r hX.1 g8, cs_T_11 hX.2 (fun p k hp => (g6 p k hp).1) (fun p k hp => (g6 p k hp).2), cs_Ld_0 hN g6 g7 g8⟩
  have hH10 : cs_HB q I L R Y I1 L2 R3 Y := ⟨fun p k _ hp _ _ => g6 p k hp, fun p k hp => g8 p k (by omega), Nat.le_refl _, fun _ _ => ⟨rfl, rfl⟩⟩
  show yi_D zi_Ms d zi_m258 k (5, [(0, .inr (.inr (some 11))), (1, .inr (.inr (some q)))], [], (I1, L2, R3, Y), 0, 0) _
  refine yi_D_run 1 (6, [(0, .inr (.inr (some 11))), (1, .inr (.inr (some q)))], [.inr (.inr (some 11))], (I1, L2, R3, Y), 0, 0) (fun _ => rfl) ?_
  refine yi_D_callv rfl (p_readDays hW9 g4 g5 []) ?_
  rintro _ ⟨I11, L12, R13, Y14, n15, m16, rfl, hH17, (⟨a18, ld19, nm20, cs21, hR22, lt23, hf24, hA25, hW26⟩ | ⟨f27, hR28, hz29, he30⟩)⟩
  · have hH31 := cs_HB_t hH10 hH17
    have hR32 := hR22
    show yi_D zi_Ms d zi_m258 k (9, [(0, .inr (.inr (some 11))), (1, .inr (.inr (some q)))], [], (I11, L12, R13, Y14), (0 + n15), (0 + m16)) _
    refine yi_D_run 2 (11, [(2, .inl 0), (0, .inr (.inr (some 11))), (1, .inr (.inr (some q)))], [], (I11, L12, R13, Y14), (0 + n15), (0 + m16)) (fun _ => rfl) ?_
    have pt11 : ∀ j11, j11 ≤ k → ∀ (y2 : Int) (J1 : Nat → Nat → Int) (G1 : Nat → Nat → Int) (R1 : Nat → Nat → Option Nat) (Y1 : (Nat → Nat) × (Nat → Nat) × Nat) (a1 : Nat) (ld1 : Nat → Int) (nm1 : Int → Int) (cs1 : List (Int × Int)) (n1 : Nat) (m1 : Nat), (0 ≤ y2 ∧ y2 < (a1 : Int)) → (cs_HB q I L R Y J1 G1 R1 Y1) → (cs_W J1 G1 R1 Y1 K P V te q ld1 nm1) → (J1 11 11 = 0) → (cs_A J1 G1 K te a1) → (sp_R K P V (0, 0, 0, [], sp_ld0, sp_nm0, []) (.inl (2, a1, 0, [], ld1, nm1, cs1))) → yi_D zi_Ms d zi_m258 j11 (11, [(2, .inl y2), (0, .inr (.inr (some 11))), (1, .inr (.inr (some q)))], [], (J1, G1, R1, Y1), n1, m1) (fun r => ∃ I' L' R' Y' n m f, r = (some (.inl f), (I', L', R', Y'), n, m) ∧ cs_HB q I L R Y I' L' R' Y' ∧ sp_R K P V (0, 0, 0, [], sp_ld0, sp_nm0, []) (.inr f) ∧ (f = 0 → ∃ a ld nm cs, sp_R K P V (0, 0, 0, [], sp_ld0, sp_nm0, []) (.inl (2, a, 0, [], ld, nm, cs)) ∧ K a = 0 ∧ cs_W I' L' R' Y' K P V te q ld nm)) := by
      intro j11
      induction j11 with
      | zero => intros; exact yi_D_0
      | succ j11 ih11 =>
      intro hk11 y2 J1 G1 R1 Y1 a1 ld1 nm1 cs1 n1 m1 hn9 hH9 hW9 hf9 hA9 hR9
      have hle9 := hA9.2.1
      have hte9 := hX.2.1
      refine yi_D_run1 1 (15, [(2, .inl y2), (0, .inr (.inr (some 11))), (1, .inr (.inr (some q)))], [.inl 1000, .inl y2], (J1, G1, R1, Y1), n1, m1) (fun _ => rfl) ?_
      have h33 : ¬ (1000 ≤ y2) := by omega
      refine yi_D_if2 false rfl (yi_ge_f h33) ?_
      refine yi_D_run 1 (19, [(2, .inl y2), (0, .inr (.inr (some 11))), (1, .inr (.inr (some q)))], [.inr (.inr (some 11))], (J1, G1, R1, Y1), n1, m1) (fun _ => rfl) ?_
      refine yi_D_gi (v := 0) rfl rfl rfl hf9 (fun _ => ?_)
      refine yi_D_if1 false rfl (by decide) ?_
      refine yi_D_run 1 (26, [(2, .inl y2), (0, .inr (.inr (some 11))), (1, .inr (.inr (some q)))], [.inr (.inr (some 11))], (J1, G1, R1, Y1), n1, m1) (fun _ => rfl) ?_
      refine yi_D_gi (v := K a1) rfl rfl rfl hA9.2.2.1 (fun _ => ?_)
      by_cases h34 : (K a1) = 0
      · refine yi_D_if1 true rfl (yi_eq_t h34) ?_
        refine yi_D_run 1 (142, [(2, .inl y2), (0, .inr (.inr (some 11))), (1, .inr (.inr (some q)))], [.inr (.inr (some 11))], (J1, G1, R1, Y1), n1, m1) (fun _ => rfl) ?_
        refine yi_D_gi (v := 0) rfl rfl rfl hf9 (fun _ => ?_)
        refine yi_D_reti rfl ?_
        exact ⟨_, _, _, _, _, _, _, rfl, hH9, sp_R_s hR9 (by
          show sp_line K P V _ _ _ _ = _
          unfold sp_line
          rw [if_pos (by omega)]), fun _ => ⟨_, _, _, _, hR9, by omega, hW9⟩⟩
      · refine yi_D_if1 false rfl (yi_eq_f h34) ?_
        refine yi_D_run 1 (33, [(2, .inl y2), (0, .inr (.inr (some 11))), (1, .inr (.inr (some q)))], [.inr (.inr (some 11))], (J1, G1, R1, Y1), n1, m1) (fun _ => rfl) ?_
        refine yi_D_gi (v := K a1) rfl rfl rfl hA9.2.2.1 (fun _ => ?_)
        by_cases h35 : (K a1) = 5
        · refine yi_D_tsi 0 rfl (by omega) (by decide) rfl ?_
          refine yi_D_run 1 (89, [(2, .inl y2), (0, .inr (.inr (some 11))), (1, .inr (.inr (some q)))], [.inr (.inr (some 11))], (J1, G1, R1, Y1), n1, m1) (fun _ => rfl) ?_
          refine yi_D_callv rfl (p_readPerson hW9 hf9 hA9 cs1 (by omega)) ?_
          rintro _ ⟨I36, L37, R38, Y39, n40, m41, rfl, hH42, (⟨a43, ld44, nm45, cs46, hR47, lt48, hf49, hA50, hW51⟩ | ⟨f52, hR53, hz54, he55⟩)⟩
          · have hH56 := cs_HB_t hH9 hH42
            have hR57 := sp_R_t hR9 hR47
            show yi_D zi_Ms d zi_m258 j11 (92, [(2, .inl y2), (0, .inr (.inr (some 11))), (1, .inr (.inr (some q)))], [], (I36, L37, R38, Y39), (n1 + n40), (m1 + m41)) _
            refine yi_D_run 1 (135, [(2, .inl y2), (0, .inr (.inr (some 11))), (1, .inr (.inr (some q)))], [], (I36, L37, R38, Y39), (n1 + n40), (m1 + m41)) (fun _ => rfl) ?_
            refine yi_D_iinc [(2, .inl (y2 + 1)), (0, .inr (.inr (some 11))), (1, .inr (.inr (some q)))] rfl rfl rfl (by rw [show yi_w (y2 + 1) = y2 + 1 from (yi_wn (by omega) (by omega)).trans (by omega)]; rfl) ?_
            refine yi_D_run 1 (11, [(2, .inl (y2 + 1)), (0, .inr (.inr (some 11))), (1, .inr (.inr (some q)))], [], (I36, L37, R38, Y39), (n1 + n40), (m1 + m41)) (fun _ => rfl) ?_
            exact yi_D_mono (ih11 (by omega) (y2 + 1) I36 L37 R38 Y39 a43 ld44 nm45 cs46 (n1 + n40) (m1 + m41) (by omega) hH56 hW51 hf49 hA50 hR57) (by omega)
          · have hH56 := cs_HB_t hH9 hH42
            have hx58 := sp_R_t hR9 hR53
            have hn59 : ¬ I36 11 11 = 0 := by rw [he55]; exact hz54
            show yi_D zi_Ms d zi_m258 j11 (92, [(2, .inl y2), (0, .inr (.inr (some 11))), (1, .inr (.inr (some q)))], [], (I36, L37, R38, Y39), (n1 + n40), (m1 + m41)) _
            refine yi_D_run 1 (135, [(2, .inl y2), (0, .inr (.inr (some 11))), (1, .inr (.inr (some q)))], [], (I36, L37, R38, Y39), (n1 + n40), (m1 + m41)) (fun _ => rfl) ?_
            refine yi_D_iinc [(2, .inl (yi_w (y2 + 1))), (0, .inr (.inr (some 11))), (1, .inr (.inr (some q)))] rfl rfl rfl rfl ?_
            refine yi_D_run 1 (11, [(2, .inl (yi_w (y2 + 1))), (0, .inr (.inr (some 11))), (1, .inr (.inr (some q)))], [], (I36, L37, R38, Y39), (n1 + n40), (m1 + m41)) (fun _ => rfl) ?_
            refine yi_D_run 2 (15, [(2, .inl (yi_w (y2 + 1))), (0, .inr (.inr (some 11))), (1, .inr (.inr (some q)))], [.inl 1000, .inl (yi_w (y2 + 1))], (I36, L37, R38, Y39), (n1 + n40), (m1 + m41)) (fun _ => rfl) ?_
            by_cases h60 : 1000 ≤ (yi_w (y2 + 1))
            · refine yi_D_if2 true rfl (yi_ge_t h60) ?_
              refine yi_D_run 1 (142, [(2, .inl (yi_w (y2 + 1))), (0, .inr (.inr (some 11))), (1, .inr (.inr (some q)))], [.inr (.inr (some 11))], (I36, L37, R38, Y39), (n1 + n40), (m1 + m41)) (fun _ => rfl) ?_
              refine yi_D_gi (v := I36 11 11) rfl rfl rfl rfl (fun _ => ?_)
              refine yi_D_reti rfl ?_
              exact ⟨_, _, _, _, _, _, _, rfl, hH56, by rw [he55]; exact hx58, fun h0 => absurd h0 hn59⟩
            · refine yi_D_if2 false rfl (yi_ge_f h60) ?_
              refine yi_D_run 1 (19, [(2, .inl (yi_w (y2 + 1))), (0, .inr (.inr (some 11))), (1, .inr (.inr (some q)))], [.inr (.inr (some 11))], (I36, L37, R38, Y39), (n1 + n40), (m1 + m41)) (fun _ => rfl) ?_
              refine yi_D_gi (v := I36 11 11) rfl rfl rfl rfl (fun _ => ?_)
              have h61 : ¬ ((I36 11 11) = 0) := by omega
              refine yi_D_if1 true rfl (yi_ne_t h61) ?_
              refine yi_D_run 1 (142, [(2, .inl (yi_w (y2 + 1))), (0, .inr (.inr (some 11))), (1, .inr (.inr (some q)))], [.inr (.inr (some 11))], (I36, L37, R38, Y39), (n1 + n40), (m1 + m41)) (fun _ => rfl) ?_
              refine yi_D_gi (v := I36 11 11) rfl rfl rfl rfl (fun _ => ?_)
              refine yi_D_reti rfl ?_
              exact ⟨_, _, _, _, _, _, _, rfl, hH56, by rw [he55]; exact hx58, fun h0 => absurd h0 hn59⟩
        by_cases h62 : (K a1) = 7
        · refine yi_D_tsi 2 rfl (by omega) (by decide) rfl ?_
          refine yi_D_run 1 (96, [(2, .inl y2), (0, .inr (.inr (some 11))), (1, .inr (.inr (some q)))], [.inr (.inr (some 11))], (J1, G1, R1, Y1), n1, m1) (fun _ => rfl) ?_
          refine yi_D_callv rfl (p_readEvent hW9 hf9 hA9 cs1 (by omega)) ?_
          rintro _ ⟨I63, L64, R65, Y66, n67, m68, rfl, hH69, (⟨a70, ld71, nm72, cs73, hR74, lt75, hf76, hA77, hW78⟩ | ⟨f79, hR80, hz81, he82⟩)⟩
          · have hH83 := cs_HB_t hH9 hH69
            have hR84 := sp_R_t hR9 hR74
            show yi_D zi_Ms d zi_m258 j11 (99, [(2, .inl y2), (0, .inr (.inr (some 11))), (1, .inr (.inr (some q)))], [], (I63, L64, R65, Y66), (n1 + n67), (m1 + m68)) _
            refine yi_D_run 1 (135, [(2, .inl y2), (0, .inr (.inr (some 11))), (1, .inr (.inr (some q)))], [], (I63, L64, R65, Y66), (n1 + n67), (m1 + m68)) (fun _ => rfl) ?_
            refine yi_D_iinc [(2, .inl (y2 + 1)), (0, .inr (.inr (some 11))), (1, .inr (.inr (some q)))] rfl rfl rfl (by rw [show yi_w (y2 + 1) = y2 + 1 from (yi_wn (by omega) (by omega)).trans (by omega)]; rfl) ?_
            refine yi_D_run 1 (11, [(2, .inl (y2 + 1)), (0, .inr (.inr (some 11))), (1, .inr (.inr (some q)))], [], (I63, L64, R65, Y66), (n1 + n67), (m1 + m68)) (fun _ => rfl) ?_
            exact yi_D_mono (ih11 (by omega) (y2 + 1) I63 L64 R65 Y66 a70 ld71 nm72 cs73 (n1 + n67) (m1 + m68) (by omega) hH83 hW78 hf76 hA77 hR84) (by omega)
          · have hH83 := cs_HB_t hH9 hH69
            have hx85 := sp_R_t hR9 hR80
            have hn86 : ¬ I63 11 11 = 0 := by rw [he82]; exact hz81
            show yi_D zi_Ms d zi_m258 j11 (99, [(2, .inl y2), (0, .inr (.inr (some 11))), (1, .inr (.inr (some q)))], [], (I63, L64, R65, Y66), (n1 + n67), (m1 + m68)) _
            refine yi_D_run 1 (135, [(2, .inl y2), (0, .inr (.inr (some 11))), (1, .inr (.inr (some q)))], [], (I63, L64, R65, Y66), (n1 + n67), (m1 + m68)) (fun _ => rfl) ?_
            refine yi_D_iinc [(2, .inl (yi_w (y2 + 1))), (0, .inr (.inr (some 11))), (1, .inr (.inr (some q)))] rfl rfl rfl rfl ?_
            refine yi_D_run 1 (11, [(2, .inl (yi_w (y2 + 1))), (0, .inr (.inr (some 11))), (1, .inr (.inr (some q)))], [], (I63, L64, R65, Y66), (n1 + n67), (m1 + m68)) (fun _ => rfl) ?_
            refine yi_D_run 2 (15, [(2, .inl (yi_w (y2 + 1))), (0, .inr (.inr (some 11))), (1, .inr (.inr (some q)))], [.inl 1000, .inl (yi_w (y2 + 1))], (I63, L64, R65, Y66), (n1 + n67), (m1 + m68)) (fun _ => rfl) ?_
            by_cases h87 : 1000 ≤ (yi_w (y2 + 1))
            · refine yi_D_if2 true rfl (yi_ge_t h87) ?_
              refine yi_D_run 1 (142, [(2, .inl (yi_w (y2 + 1))), (0, .inr (.inr (some 11))), (1, .inr (.inr (some q)))], [.inr (.inr (some 11))], (I63, L64, R65, Y66), (n1 + n67), (m1 + m68)) (fun _ => rfl) ?_
              refine yi_D_gi (v := I63 11 11) rfl rfl rfl rfl (fun _ => ?_)
              refine yi_D_reti rfl ?_
              exact ⟨_, _, _, _, _, _, _, rfl, hH83, by rw [he82]; exact hx85, fun h0 => absurd h0 hn86⟩
            · refine yi_D_if2 false rfl (yi_ge_f h87) ?_
              refine yi_D_run 1 (19, [(2, .inl (yi_w (y2 + 1))), (0, .inr (.inr (some 11))), (1, .inr (.inr (some q)))], [.inr (.inr (some 11))], (I63, L64, R65, Y66), (n1 + n67), (m1 + m68)) (fun _ => rfl) ?_
              refine yi_D_gi (v := I63 11 11) rfl rfl rfl rfl (fun _ => ?_)
              have h88 : ¬ ((I63 11 11) = 0) := by omega
              refine yi_D_if1 true rfl (yi_ne_t h88) ?_
              refine yi_D_run 1 (142, [(2, .inl (yi_w (y2 + 1))), (0, .inr (.inr (some 11))), (1, .inr (.inr (some q)))], [.inr (.inr (some 11))], (I63, L64, R65, Y66), (n1 + n67), (m1 + m68)) (fun _ => rfl) ?_
              refine yi_D_gi (v := I63 11 11) rfl rfl rfl rfl (fun _ => ?_)
              refine yi_D_reti rfl ?_
              exact ⟨_, _, _, _, _, _, _, rfl, hH83, by rw [he82]; exact hx85, fun h0 => absurd h0 hn86⟩
        by_cases h89 : (K a1) = 8
        · refine yi_D_tsi 3 rfl (by omega) (by decide) rfl ?_
          refine yi_D_run 1 (103, [(2, .inl y2), (0, .inr (.inr (some 11))), (1, .inr (.inr (some q)))], [.inr (.inr (some 11))], (J1, G1, R1, Y1), n1, m1) (fun _ => rfl) ?_
          refine yi_D_callv rfl (p_readProphet hW9 hf9 hA9 cs1 (by omega)) ?_
          rintro _ ⟨I90, L91, R92, Y93, n94, m95, rfl, hH96, (⟨a97, ld98, nm99, cs100, hR101, lt102, hf103, hA104, hW105⟩ | ⟨f106, hR107, hz108, he109⟩)⟩
          · have hH110 := cs_HB_t hH9 hH96
            have hR111 := sp_R_t hR9 hR101
            show yi_D zi_Ms d zi_m258 j11 (106, [(2, .inl y2), (0, .inr (.inr (some 11))), (1, .inr (.inr (some q)))], [], (I90, L91, R92, Y93), (n1 + n94), (m1 + m95)) _
            refine yi_D_run 1 (135, [(2, .inl y2), (0, .inr (.inr (some 11))), (1, .inr (.inr (some q)))], [], (I90, L91, R92, Y93), (n1 + n94), (m1 + m95)) (fun _ => rfl) ?_
            refine yi_D_iinc [(2, .inl (y2 + 1)), (0, .inr (.inr (some 11))), (1, .inr (.inr (some q)))] rfl rfl rfl (by rw [show yi_w (y2 + 1) = y2 + 1 from (yi_wn (by omega) (by omega)).trans (by omega)]; rfl) ?_
            refine yi_D_run 1 (11, [(2, .inl (y2 + 1)), (0, .inr (.inr (some 11))), (1, .inr (.inr (some q)))], [], (I90, L91, R92, Y93), (n1 + n94), (m1 + m95)) (fun _ => rfl) ?_
            exact yi_D_mono (ih11 (by omega) (y2 + 1) I90 L91 R92 Y93 a97 ld98 nm99 cs100 (n1 + n94) (m1 + m95) (by omega) hH110 hW105 hf103 hA104 hR111) (by omega)
          · have hH110 := cs_HB_t hH9 hH96
            have hx112 := sp_R_t hR9 hR107
            have hn113 : ¬ I90 11 11 = 0 := by rw [he109]; exact hz108
            show yi_D zi_Ms d zi_m258 j11 (106, [(2, .inl y2), (0, .inr (.inr (some 11))), (1, .inr (.inr (some q)))], [], (I90, L91, R92, Y93), (n1 + n94), (m1 + m95)) _
            refine yi_D_run 1 (135, [(2, .inl y2), (0, .inr (.inr (some 11))), (1, .inr (.inr (some q)))], [], (I90, L91, R92, Y93), (n1 + n94), (m1 + m95)) (fun _ => rfl) ?_
            refine yi_D_iinc [(2, .inl (yi_w (y2 + 1))), (0, .inr (.inr (some 11))), (1, .inr (.inr (some q)))] rfl rfl rfl rfl ?_
            refine yi_D_run 1 (11, [(2, .inl (yi_w (y2 + 1))), (0, .inr (.inr (some 11))), (1, .inr (.inr (some q)))], [], (I90, L91, R92, Y93), (n1 + n94), (m1 + m95)) (fun _ => rfl) ?_
            refine yi_D_run 2 (15, [(2, .inl (yi_w (y2 + 1))), (0, .inr (.inr (some 11))), (1, .inr (.inr (some q)))], [.inl 1000, .inl (yi_w (y2 + 1))], (I90, L91, R92, Y93), (n1 + n94), (m1 + m95)) (fun _ => rfl) ?_
            by_cases h114 : 1000 ≤ (yi_w (y2 + 1))
            · refine yi_D_if2 true rfl (yi_ge_t h114) ?_
              refine yi_D_run 1 (142, [(2, .inl (yi_w (y2 + 1))), (0, .inr (.inr (some 11))), (1, .inr (.inr (some q)))], [.inr (.inr (some 11))], (I90, L91, R92, Y93), (n1 + n94), (m1 + m95)) (fun _ => rfl) ?_
              refine yi_D_gi (v := I90 11 11) rfl rfl rfl rfl (fun _ => ?_)
              refine yi_D_reti rfl ?_
              exact ⟨_, _, _, _, _, _, _, rfl, hH110, by rw [he109]; exact hx112, fun h0 => absurd h0 hn113⟩
            · refine yi_D_if2 false rfl (yi_ge_f h114) ?_
              refine yi_D_run 1 (19, [(2, .inl (yi_w (y2 + 1))), (0, .inr (.inr (some 11))), (1, .inr (.inr (some q)))], [.inr (.inr (some 11))], (I90, L91, R92, Y93), (n1 + n94), (m1 + m95)) (fun _ => rfl) ?_
              refine yi_D_gi (v := I90 11 11) rfl rfl rfl rfl (fun _ => ?_)
              have h115 : ¬ ((I90 11 11) = 0) := by omega
              refine yi_D_if1 true rfl (yi_ne_t h115) ?_
              refine yi_D_run 1 (142, [(2, .inl (yi_w (y2 + 1))), (0, .inr (.inr (some 11))), (1, .inr (.inr (some q)))], [.inr (.inr (some 11))], (I90, L91, R92, Y93), (n1 + n94), (m1 + m95)) (fun _ => rfl) ?_
              refine yi_D_gi (v := I90 11 11) rfl rfl rfl rfl (fun _ => ?_)
              refine yi_D_reti rfl ?_
              exact ⟨_, _, _, _, _, _, _, rfl, hH110, by rw [he109]; exact hx112, fun h0 => absurd h0 hn113⟩
        by_cases h116 : (K a1) = 10
        · refine yi_D_tsi 5 rfl (by omega) (by decide) rfl ?_
          refine yi_D_run 1 (110, [(2, .inl y2), (0, .inr (.inr (some 11))), (1, .inr (.inr (some q)))], [.inr (.inr (some 11))], (J1, G1, R1, Y1), n1, m1) (fun _ => rfl) ?_
          refine yi_D_callv rfl (p_readLaw hW9 hf9 hA9 cs1 (by omega)) ?_
          rintro _ ⟨I117, L118, R119, Y120, n121, m122, rfl, hH123, (⟨a124, ld125, nm126, cs127, hR128, lt129, hf130, hA131, hW132⟩ | ⟨f133, hR134, hz135, he136⟩)⟩
          · have hH137 := cs_HB_t hH9 hH123
            have hR138 := sp_R_t hR9 hR128
            show yi_D zi_Ms d zi_m258 j11 (113, [(2, .inl y2), (0, .inr (.inr (some 11))), (1, .inr (.inr (some q)))], [], (I117, L118, R119, Y120), (n1 + n121), (m1 + m122)) _
            refine yi_D_run 1 (135, [(2, .inl y2), (0, .inr (.inr (some 11))), (1, .inr (.inr (some q)))], [], (I117, L118, R119, Y120), (n1 + n121), (m1 + m122)) (fun _ => rfl) ?_
            refine yi_D_iinc [(2, .inl (y2 + 1)), (0, .inr (.inr (some 11))), (1, .inr (.inr (some q)))] rfl rfl rfl (by rw [show yi_w (y2 + 1) = y2 + 1 from (yi_wn (by omega) (by omega)).trans (by omega)]; rfl) ?_
            refine yi_D_run 1 (11, [(2, .inl (y2 + 1)), (0, .inr (.inr (some 11))), (1, .inr (.inr (some q)))], [], (I117, L118, R119, Y120), (n1 + n121), (m1 + m122)) (fun _ => rfl) ?_
            exact yi_D_mono (ih11 (by omega) (y2 + 1) I117 L118 R119 Y120 a124 ld125 nm126 cs127 (n1 + n121) (m1 + m122) (by omega) hH137 hW132 hf130 hA131 hR138) (by omega)
          · have hH137 := cs_HB_t hH9 hH123
            have hx139 := sp_R_t hR9 hR134
            have hn140 : ¬ I117 11 11 = 0 := by rw [he136]; exact hz135
            show yi_D zi_Ms d zi_m258 j11 (113, [(2, .inl y2), (0, .inr (.inr (some 11))), (1, .inr (.inr (some q)))], [], (I117, L118, R119, Y120), (n1 + n121), (m1 + m122)) _
            refine yi_D_run 1 (135, [(2, .inl y2), (0, .inr (.inr (some 11))), (1, .inr (.inr (some q)))], [], (I117, L118, R119, Y120), (n1 + n121), (m1 + m122)) (fun _ => rfl) ?_
            refine yi_D_iinc [(2, .inl (yi_w (y2 + 1))), (0, .inr (.inr (some 11))), (1, .inr (.inr (some q)))] rfl rfl rfl rfl ?_
            refine yi_D_run 1 (11, [(2, .inl (yi_w (y2 + 1))), (0, .inr (.inr (some 11))), (1, .inr (.inr (some q)))], [], (I117, L118, R119, Y120), (n1 + n121), (m1 + m122)) (fun _ => rfl) ?_
            refine yi_D_run 2 (15, [(2, .inl (yi_w (y2 + 1))), (0, .inr (.inr (some 11))), (1, .inr (.inr (some q)))], [.inl 1000, .inl (yi_w (y2 + 1))], (I117, L118, R119, Y120), (n1 + n121), (m1 + m122)) (fun _ => rfl) ?_
            by_cases h141 : 1000 ≤ (yi_w (y2 + 1))
            · refine yi_D_if2 true rfl (yi_ge_t h141) ?_
              refine yi_D_run 1 (142, [(2, .inl (yi_w (y2 + 1))), (0, .inr (.inr (some 11))), (1, .inr (.inr (some q)))], [.inr (.inr (some 11))], (I117, L118, R119, Y120), (n1 + n121), (m1 + m122)) (fun _ => rfl) ?_
              refine yi_D_gi (v := I117 11 11) rfl rfl rfl rfl (fun _ => ?_)
              refine yi_D_reti rfl ?_
              exact ⟨_, _, _, _, _, _, _, rfl, hH137, by rw [he136]; exact hx139, fun h0 => absurd h0 hn140⟩
            · refine yi_D_if2 false rfl (yi_ge_f h141) ?_
              refine yi_D_run 1 (19, [(2, .inl (yi_w (y2 + 1))), (0, .inr (.inr (some 11))), (1, .inr (.inr (some q)))], [.inr (.inr (some 11))], (I117, L118, R119, Y120), (n1 + n121), (m1 + m122)) (fun _ => rfl) ?_
              refine yi_D_gi (v := I117 11 11) rfl rfl rfl rfl (fun _ => ?_)
              have h142 : ¬ ((I117 11 11) = 0) := by omega
              refine yi_D_if1 true rfl (yi_ne_t h142) ?_
              refine yi_D_run 1 (142, [(2, .inl (yi_w (y2 + 1))), (0, .inr (.inr (some 11))), (1, .inr (.inr (some q)))], [.inr (.inr (some 11))], (I117, L118, R119, Y120), (n1 + n121), (m1 + m122)) (fun _ => rfl) ?_
              refine yi_D_gi (v := I117 11 11) rfl rfl rfl rfl (fun _ => ?_)
              refine yi_D_reti rfl ?_
              exact ⟨_, _, _, _, _, _, _, rfl, hH137, by rw [he136]; exact hx139, fun h0 => absurd h0 hn140⟩
        by_cases h143 : (K a1) = 11
        · refine yi_D_tsi 6 rfl (by omega) (by decide) rfl ?_
          refine yi_D_run 1 (117, [(2, .inl y2), (0, .inr (.inr (some 11))), (1, .inr (.inr (some q)))], [.inr (.inr (some 11))], (J1, G1, R1, Y1), n1, m1) (fun _ => rfl) ?_
          refine yi_D_callv rfl (p_readWish hW9 hf9 hA9 cs1 (by omega)) ?_
          rintro _ ⟨I144, L145, R146, Y147, n148, m149, rfl, hH150, (⟨a151, ld152, nm153, cs154, hR155, lt156, hf157, hA158, hW159⟩ | ⟨f160, hR161, hz162, he163⟩)⟩
          · have hH164 := cs_HB_t hH9 hH150
            have hR165 := sp_R_t hR9 hR155
            show yi_D zi_Ms d zi_m258 j11 (120, [(2, .inl y2), (0, .inr (.inr (some 11))), (1, .inr (.inr (some q)))], [], (I144, L145, R146, Y147), (n1 + n148), (m1 + m149)) _
            refine yi_D_run 1 (135, [(2, .inl y2), (0, .inr (.inr (some 11))), (1, .inr (.inr (some q)))], [], (I144, L145, R146, Y147), (n1 + n148), (m1 + m149)) (fun _ => rfl) ?_
            refine yi_D_iinc [(2, .inl (y2 + 1)), (0, .inr (.inr (some 11))), (1, .inr (.inr (some q)))] rfl rfl rfl (by rw [show yi_w (y2 + 1) = y2 + 1 from (yi_wn (by omega) (by omega)).trans (by omega)]; rfl) ?_
            refine yi_D_run 1 (11, [(2, .inl (y2 + 1)), (0, .inr (.inr (some 11))), (1, .inr (.inr (some q)))], [], (I144, L145, R146, Y147), (n1 + n148), (m1 + m149)) (fun _ => rfl) ?_
            exact yi_D_mono (ih11 (by omega) (y2 + 1) I144 L145 R146 Y147 a151 ld152 nm153 cs154 (n1 + n148) (m1 + m149) (by omega) hH164 hW159 hf157 hA158 hR165) (by omega)
          · have hH164 := cs_HB_t hH9 hH150
            have hx166 := sp_R_t hR9 hR161
            have hn167 : ¬ I144 11 11 = 0 := by rw [he163]; exact hz162
            show yi_D zi_Ms d zi_m258 j11 (120, [(2, .inl y2), (0, .inr (.inr (some 11))), (1, .inr (.inr (some q)))], [], (I144, L145, R146, Y147), (n1 + n148), (m1 + m149)) _
            refine yi_D_run 1 (135, [(2, .inl y2), (0, .inr (.inr (some 11))), (1, .inr (.inr (some q)))], [], (I144, L145, R146, Y147), (n1 + n148), (m1 + m149)) (fun _ => rfl) ?_
            refine yi_D_iinc [(2, .inl (yi_w (y2 + 1))), (0, .inr (.inr (some 11))), (1, .inr (.inr (some q)))] rfl rfl rfl rfl ?_
            refine yi_D_run 1 (11, [(2, .inl (yi_w (y2 + 1))), (0, .inr (.inr (some 11))), (1, .inr (.inr (some q)))], [], (I144, L145, R146, Y147), (n1 + n148), (m1 + m149)) (fun _ => rfl) ?_
            refine yi_D_run 2 (15, [(2, .inl (yi_w (y2 + 1))), (0, .inr (.inr (some 11))), (1, .inr (.inr (some q)))], [.inl 1000, .inl (yi_w (y2 + 1))], (I144, L145, R146, Y147), (n1 + n148), (m1 + m149)) (fun _ => rfl) ?_
            by_cases h168 : 1000 ≤ (yi_w (y2 + 1))
            · refine yi_D_if2 true rfl (yi_ge_t h168) ?_
              refine yi_D_run 1 (142, [(2, .inl (yi_w (y2 + 1))), (0, .inr (.inr (some 11))), (1, .inr (.inr (some q)))], [.inr (.inr (some 11))], (I144, L145, R146, Y147), (n1 + n148), (m1 + m149)) (fun _ => rfl) ?_
              refine yi_D_gi (v := I144 11 11) rfl rfl rfl rfl (fun _ => ?_)
              refine yi_D_reti rfl ?_
              exact ⟨_, _, _, _, _, _, _, rfl, hH164, by rw [he163]; exact hx166, fun h0 => absurd h0 hn167⟩
            · refine yi_D_if2 false rfl (yi_ge_f h168) ?_
              refine yi_D_run 1 (19, [(2, .inl (yi_w (y2 + 1))), (0, .inr (.inr (some 11))), (1, .inr (.inr (some q)))], [.inr (.inr (some 11))], (I144, L145, R146, Y147), (n1 + n148), (m1 + m149)) (fun _ => rfl) ?_
              refine yi_D_gi (v := I144 11 11) rfl rfl rfl rfl (fun _ => ?_)
              have h169 : ¬ ((I144 11 11) = 0) := by omega
              refine yi_D_if1 true rfl (yi_ne_t h169) ?_
              refine yi_D_run 1 (142, [(2, .inl (yi_w (y2 + 1))), (0, .inr (.inr (some 11))), (1, .inr (.inr (some q)))], [.inr (.inr (some 11))], (I144, L145, R146, Y147), (n1 + n148), (m1 + m149)) (fun _ => rfl) ?_
              refine yi_D_gi (v := I144 11 11) rfl rfl rfl rfl (fun _ => ?_)
              refine yi_D_reti rfl ?_
              exact ⟨_, _, _, _, _, _, _, rfl, hH164, by rw [he163]; exact hx166, fun h0 => absurd h0 hn167⟩
        by_cases h170 : (K a1) = 13
        · refine yi_D_tsi 8 rfl (by omega) (by decide) rfl ?_
          refine yi_D_run 1 (124, [(2, .inl y2), (0, .inr (.inr (some 11))), (1, .inr (.inr (some q)))], [.inr (.inr (some 11))], (J1, G1, R1, Y1), n1, m1) (fun _ => rfl) ?_
          refine yi_D_callv rfl (p_readPrice hW9 hf9 hA9 cs1 (by omega)) ?_
          rintro _ ⟨I171, L172, R173, Y174, n175, m176, rfl, hH177, (⟨a178, ld179, nm180, cs181, hR182, lt183, hf184, hA185, hW186⟩ | ⟨f187, hR188, hz189, he190⟩)⟩
          · have hH191 := cs_HB_t hH9 hH177
            have hR192 := sp_R_t hR9 hR182
            show yi_D zi_Ms d zi_m258 j11 (127, [(2, .inl y2), (0, .inr (.inr (some 11))), (1, .inr (.inr (some q)))], [], (I171, L172, R173, Y174), (n1 + n175), (m1 + m176)) _
            refine yi_D_run 1 (135, [(2, .inl y2), (0, .inr (.inr (some 11))), (1, .inr (.inr (some q)))], [], (I171, L172, R173, Y174), (n1 + n175), (m1 + m176)) (fun _ => rfl) ?_
            refine yi_D_iinc [(2, .inl (y2 + 1)), (0, .inr (.inr (some 11))), (1, .inr (.inr (some q)))] rfl rfl rfl (by rw [show yi_w (y2 + 1) = y2 + 1 from (yi_wn (by omega) (by omega)).trans (by omega)]; rfl) ?_
            refine yi_D_run 1 (11, [(2, .inl (y2 + 1)), (0, .inr (.inr (some 11))), (1, .inr (.inr (some q)))], [], (I171, L172, R173, Y174), (n1 + n175), (m1 + m176)) (fun _ => rfl) ?_
            exact yi_D_mono (ih11 (by omega) (y2 + 1) I171 L172 R173 Y174 a178 ld179 nm180 cs181 (n1 + n175) (m1 + m176) (by omega) hH191 hW186 hf184 hA185 hR192) (by omega)
          · have hH191 := cs_HB_t hH9 hH177
            have hx193 := sp_R_t hR9 hR188
            have hn194 : ¬ I171 11 11 = 0 := by rw [he190]; exact hz189
            show yi_D zi_Ms d zi_m258 j11 (127, [(2, .inl y2), (0, .inr (.inr (some 11))), (1, .inr (.inr (some q)))], [], (I171, L172, R173, Y174), (n1 + n175), (m1 + m176)) _
            refine yi_D_run 1 (135, [(2, .inl y2), (0, .inr (.inr (some 11))), (1, .inr (.inr (some q)))], [], (I171, L172, R173, Y174), (n1 + n175), (m1 + m176)) (fun _ => rfl) ?_
            refine yi_D_iinc [(2, .inl (yi_w (y2 + 1))), (0, .inr (.inr (some 11))), (1, .inr (.inr (some q)))] rfl rfl rfl rfl ?_
            refine yi_D_run 1 (11, [(2, .inl (yi_w (y2 + 1))), (0, .inr (.inr (some 11))), (1, .inr (.inr (some q)))], [], (I171, L172, R173, Y174), (n1 + n175), (m1 + m176)) (fun _ => rfl) ?_
            refine yi_D_run 2 (15, [(2, .inl (yi_w (y2 + 1))), (0, .inr (.inr (some 11))), (1, .inr (.inr (some q)))], [.inl 1000, .inl (yi_w (y2 + 1))], (I171, L172, R173, Y174), (n1 + n175), (m1 + m176)) (fun _ => rfl) ?_
            by_cases h195 : 1000 ≤ (yi_w (y2 + 1))
            · refine yi_D_if2 true rfl (yi_ge_t h195) ?_
              refine yi_D_run 1 (142, [(2, .inl (yi_w (y2 + 1))), (0, .inr (.inr (some 11))), (1, .inr (.inr (some q)))], [.inr (.inr (some 11))], (I171, L172, R173, Y174), (n1 + n175), (m1 + m176)) (fun _ => rfl) ?_
              refine yi_D_gi (v := I171 11 11) rfl rfl rfl rfl (fun _ => ?_)
              refine yi_D_reti rfl ?_
              exact ⟨_, _, _, _, _, _, _, rfl, hH191, by rw [he190]; exact hx193, fun h0 => absurd h0 hn194⟩
            · refine yi_D_if2 false rfl (yi_ge_f h195) ?_
              refine yi_D_run 1 (19, [(2, .inl (yi_w (y2 + 1))), (0, .inr (.inr (some 11))), (1, .inr (.inr (some q)))], [.inr (.inr (some 11))], (I171, L172, R173, Y174), (n1 + n175), (m1 + m176)) (fun _ => rfl) ?_
              refine yi_D_gi (v := I171 11 11) rfl rfl rfl rfl (fun _ => ?_)
              have h196 : ¬ ((I171 11 11) = 0) := by omega
              refine yi_D_if1 true rfl (yi_ne_t h196) ?_
              refine yi_D_run 1 (142, [(2, .inl (yi_w (y2 + 1))), (0, .inr (.inr (some 11))), (1, .inr (.inr (some q)))], [.inr (.inr (some 11))], (I171, L172, R173, Y174), (n1 + n175), (m1 + m176)) (fun _ => rfl) ?_
              refine yi_D_gi (v := I171 11 11) rfl rfl rfl rfl (fun _ => ?_)
              refine yi_D_reti rfl ?_
              exact ⟨_, _, _, _, _, _, _, rfl, hH191, by rw [he190]; exact hx193, fun h0 => absurd h0 hn194⟩
        by_cases h197 : (K a1) = 6
        · refine yi_D_tsi 1 rfl (by omega) (by decide) rfl ?_
          refine yi_D_run 2 (132, [(2, .inl y2), (0, .inr (.inr (some 11))), (1, .inr (.inr (some q)))], [.inl 1, .inr (.inr (some 11))], (J1, G1, R1, Y1), n1, m1) (fun _ => rfl) ?_
          refine yi_D_callv rfl (p_wrong_z ⟨by omega, by omega⟩ hW9 hf9 hA9) ?_
          rintro _ ⟨I198, rfl, hg199, he200⟩
          have hH201 := cs_HB_t hH9 (cs_H_F (q := q) (R := R1) (Y := Y1) (cs_G_F (⟨fun p k hp => hg199 p k (by omega), fun _ _ _ => rfl⟩ : cs_G J1 G1 I198 G1)))
          have hx202 : sp_R K P V (0, 0, 0, [], sp_ld0, sp_nm0, []) (.inr (sp_f P a1 1)) := sp_R_s hR9 (by
            show sp_line K P V _ _ _ _ = _
            unfold sp_line
            repeat (first | rw [if_pos (by omega)] | rw [if_neg (by omega)]))
          have hz203 : ¬ sp_f P a1 1 = 0 := sp_f_ne hW9 hA9.2.1 (by omega)
          have hn204 : ¬ I198 11 11 = 0 := by rw [he200]; exact hz203
          show yi_D zi_Ms d zi_m258 j11 (135, [(2, .inl y2), (0, .inr (.inr (some 11))), (1, .inr (.inr (some q)))], [], (I198, G1, R1, Y1), n1, m1) _
          refine yi_D_iinc [(2, .inl (yi_w (y2 + 1))), (0, .inr (.inr (some 11))), (1, .inr (.inr (some q)))] rfl rfl rfl rfl ?_
          refine yi_D_run 1 (11, [(2, .inl (yi_w (y2 + 1))), (0, .inr (.inr (some 11))), (1, .inr (.inr (some q)))], [], (I198, G1, R1, Y1), n1, m1) (fun _ => rfl) ?_
          refine yi_D_run 2 (15, [(2, .inl (yi_w (y2 + 1))), (0, .inr (.inr (some 11))), (1, .inr (.inr (some q)))], [.inl 1000, .inl (yi_w (y2 + 1))], (I198, G1, R1, Y1), n1, m1) (fun _ => rfl) ?_
          by_cases h205 : 1000 ≤ (yi_w (y2 + 1))
          · refine yi_D_if2 true rfl (yi_ge_t h205) ?_
            refine yi_D_run 1 (142, [(2, .inl (yi_w (y2 + 1))), (0, .inr (.inr (some 11))), (1, .inr (.inr (some q)))], [.inr (.inr (some 11))], (I198, G1, R1, Y1), n1, m1) (fun _ => rfl) ?_
            refine yi_D_gi (v := I198 11 11) rfl rfl rfl rfl (fun _ => ?_)
            refine yi_D_reti rfl ?_
            exact ⟨_, _, _, _, _, _, _, rfl, hH201, by rw [he200]; exact hx202, fun h0 => absurd h0 hn204⟩
          · refine yi_D_if2 false rfl (yi_ge_f h205) ?_
            refine yi_D_run 1 (19, [(2, .inl (yi_w (y2 + 1))), (0, .inr (.inr (some 11))), (1, .inr (.inr (some q)))], [.inr (.inr (some 11))], (I198, G1, R1, Y1), n1, m1) (fun _ => rfl) ?_
            refine yi_D_gi (v := I198 11 11) rfl rfl rfl rfl (fun _ => ?_)
            have h206 : ¬ ((I198 11 11) = 0) := by omega
            refine yi_D_if1 true rfl (yi_ne_t h206) ?_
            refine yi_D_run 1 (142, [(2, .inl (yi_w (y2 + 1))), (0, .inr (.inr (some 11))), (1, .inr (.inr (some q)))], [.inr (.inr (some 11))], (I198, G1, R1, Y1), n1, m1) (fun _ => rfl) ?_
            refine yi_D_gi (v := I198 11 11) rfl rfl rfl rfl (fun _ => ?_)
            refine yi_D_reti rfl ?_
            exact ⟨_, _, _, _, _, _, _, rfl, hH201, by rw [he200]; exact hx202, fun h0 => absurd h0 hn204⟩
        by_cases h207 : (K a1) = 9
        · refine yi_D_tsi 4 rfl (by omega) (by decide) rfl ?_
          refine yi_D_run 2 (132, [(2, .inl y2), (0, .inr (.inr (some 11))), (1, .inr (.inr (some q)))], [.inl 1, .inr (.inr (some 11))], (J1, G1, R1, Y1), n1, m1) (fun _ => rfl) ?_
          refine yi_D_callv rfl (p_wrong_z ⟨by omega, by omega⟩ hW9 hf9 hA9) ?_
          rintro _ ⟨I208, rfl, hg209, he210⟩
          have hH211 := cs_HB_t hH9 (cs_H_F (q := q) (R := R1) (Y := Y1) (cs_G_F (⟨fun p k hp => hg209 p k (by omega), fun _ _ _ => rfl⟩ : cs_G J1 G1 I208 G1)))
          have hx212 : sp_R K P V (0, 0, 0, [], sp_ld0, sp_nm0, []) (.inr (sp_f P a1 1)) := sp_R_s hR9 (by
            show sp_line K P V _ _ _ _ = _
            unfold sp_line
            repeat (first | rw [if_pos (by omega)] | rw [if_neg (by omega)]))
          have hz213 : ¬ sp_f P a1 1 = 0 := sp_f_ne hW9 hA9.2.1 (by omega)
          have hn214 : ¬ I208 11 11 = 0 := by rw [he210]; exact hz213
          show yi_D zi_Ms d zi_m258 j11 (135, [(2, .inl y2), (0, .inr (.inr (some 11))), (1, .inr (.inr (some q)))], [], (I208, G1, R1, Y1), n1, m1) _
          refine yi_D_iinc [(2, .inl (yi_w (y2 + 1))), (0, .inr (.inr (some 11))), (1, .inr (.inr (some q)))] rfl rfl rfl rfl ?_
          refine yi_D_run 1 (11, [(2, .inl (yi_w (y2 + 1))), (0, .inr (.inr (some 11))), (1, .inr (.inr (some q)))], [], (I208, G1, R1, Y1), n1, m1) (fun _ => rfl) ?_
          refine yi_D_run 2 (15, [(2, .inl (yi_w (y2 + 1))), (0, .inr (.inr (some 11))), (1, .inr (.inr (some q)))], [.inl 1000, .inl (yi_w (y2 + 1))], (I208, G1, R1, Y1), n1, m1) (fun _ => rfl) ?_
          by_cases h215 : 1000 ≤ (yi_w (y2 + 1))
          · refine yi_D_if2 true rfl (yi_ge_t h215) ?_
            refine yi_D_run 1 (142, [(2, .inl (yi_w (y2 + 1))), (0, .inr (.inr (some 11))), (1, .inr (.inr (some q)))], [.inr (.inr (some 11))], (I208, G1, R1, Y1), n1, m1) (fun _ => rfl) ?_
            refine yi_D_gi (v := I208 11 11) rfl rfl rfl rfl (fun _ => ?_)
            refine yi_D_reti rfl ?_
            exact ⟨_, _, _, _, _, _, _, rfl, hH211, by rw [he210]; exact hx212, fun h0 => absurd h0 hn214⟩
          · refine yi_D_if2 false rfl (yi_ge_f h215) ?_
            refine yi_D_run 1 (19, [(2, .inl (yi_w (y2 + 1))), (0, .inr (.inr (some 11))), (1, .inr (.inr (some q)))], [.inr (.inr (some 11))], (I208, G1, R1, Y1), n1, m1) (fun _ => rfl) ?_
            refine yi_D_gi (v := I208 11 11) rfl rfl rfl rfl (fun _ => ?_)
            have h216 : ¬ ((I208 11 11) = 0) := by omega
            refine yi_D_if1 true rfl (yi_ne_t h216) ?_
            refine yi_D_run 1 (142, [(2, .inl (yi_w (y2 + 1))), (0, .inr (.inr (some 11))), (1, .inr (.inr (some q)))], [.inr (.inr (some 11))], (I208, G1, R1, Y1), n1, m1) (fun _ => rfl) ?_
            refine yi_D_gi (v := I208 11 11) rfl rfl rfl rfl (fun _ => ?_)
            refine yi_D_reti rfl ?_
            exact ⟨_, _, _, _, _, _, _, rfl, hH211, by rw [he210]; exact hx212, fun h0 => absurd h0 hn214⟩
        by_cases h217 : (K a1) = 12
        · refine yi_D_tsi 7 rfl (by omega) (by decide) rfl ?_
          refine yi_D_run 2 (132, [(2, .inl y2), (0, .inr (.inr (some 11))), (1, .inr (.inr (some q)))], [.inl 1, .inr (.inr (some 11))], (J1, G1, R1, Y1), n1, m1) (fun _ => rfl) ?_
          refine yi_D_callv rfl (p_wrong_z ⟨by omega, by omega⟩ hW9 hf9 hA9) ?_
          rintro _ ⟨I218, rfl, hg219, he220⟩
          have hH221 := cs_HB_t hH9 (cs_H_F (q := q) (R := R1) (Y := Y1) (cs_G_F (⟨fun p k hp => hg219 p k (by omega), fun _ _ _ => rfl⟩ : cs_G J1 G1 I218 G1)))
          have hx222 : sp_R K P V (0, 0, 0, [], sp_ld0, sp_nm0, []) (.inr (sp_f P a1 1)) := sp_R_s hR9 (by
            show sp_line K P V _ _ _ _ = _
            unfold sp_line
            repeat (first | rw [if_pos (by omega)] | rw [if_neg (by omega)]))
          have hz223 : ¬ sp_f P a1 1 = 0 := sp_f_ne hW9 hA9.2.1 (by omega)
          have hn224 : ¬ I218 11 11 = 0 := by rw [he220]; exact hz223
          show yi_D zi_Ms d zi_m258 j11 (135, [(2, .inl y2), (0, .inr (.inr (some 11))), (1, .inr (.inr (some q)))], [], (I218, G1, R1, Y1), n1, m1) _
          refine yi_D_iinc [(2, .inl (yi_w (y2 + 1))), (0, .inr (.inr (some 11))), (1, .inr (.inr (some q)))] rfl rfl rfl rfl ?_
          refine yi_D_run 1 (11, [(2, .inl (yi_w (y2 + 1))), (0, .inr (.inr (some 11))), (1, .inr (.inr (some q)))], [], (I218, G1, R1, Y1), n1, m1) (fun _ => rfl) ?_
          refine yi_D_run 2 (15, [(2, .inl (yi_w (y2 + 1))), (0, .inr (.inr (some 11))), (1, .inr (.inr (some q)))], [.inl 1000, .inl (yi_w (y2 + 1))], (I218, G1, R1, Y1), n1, m1) (fun _ => rfl) ?_
          by_cases h225 : 1000 ≤ (yi_w (y2 + 1))
          · refine yi_D_if2 true rfl (yi_ge_t h225) ?_
            refine yi_D_run 1 (142, [(2, .inl (yi_w (y2 + 1))), (0, .inr (.inr (some 11))), (1, .inr (.inr (some q)))], [.inr (.inr (some 11))], (I218, G1, R1, Y1), n1, m1) (fun _ => rfl) ?_
            refine yi_D_gi (v := I218 11 11) rfl rfl rfl rfl (fun _ => ?_)
            refine yi_D_reti rfl ?_
            exact ⟨_, _, _, _, _, _, _, rfl, hH221, by rw [he220]; exact hx222, fun h0 => absurd h0 hn224⟩
          · refine yi_D_if2 false rfl (yi_ge_f h225) ?_
            refine yi_D_run 1 (19, [(2, .inl (yi_w (y2 + 1))), (0, .inr (.inr (some 11))), (1, .inr (.inr (some q)))], [.inr (.inr (some 11))], (I218, G1, R1, Y1), n1, m1) (fun _ => rfl) ?_
            refine yi_D_gi (v := I218 11 11) rfl rfl rfl rfl (fun _ => ?_)
            have h226 : ¬ ((I218 11 11) = 0) := by omega
            refine yi_D_if1 true rfl (yi_ne_t h226) ?_
            refine yi_D_run 1 (142, [(2, .inl (yi_w (y2 + 1))), (0, .inr (.inr (some 11))), (1, .inr (.inr (some q)))], [.inr (.inr (some 11))], (I218, G1, R1, Y1), n1, m1) (fun _ => rfl) ?_
            refine yi_D_gi (v := I218 11 11) rfl rfl rfl rfl (fun _ => ?_)
            refine yi_D_reti rfl ?_
            exact ⟨_, _, _, _, _, _, _, rfl, hH221, by rw [he220]; exact hx222, fun h0 => absurd h0 hn224⟩
        refine yi_D_tso rfl (by omega) ?_
        refine yi_D_run 2 (132, [(2, .inl y2), (0, .inr (.inr (some 11))), (1, .inr (.inr (some q)))], [.inl 1, .inr (.inr (some 11))], (J1, G1, R1, Y1), n1, m1) (fun _ => rfl) ?_
        refine yi_D_callv rfl (p_wrong_z ⟨by omega, by omega⟩ hW9 hf9 hA9) ?_
        rintro _ ⟨I227, rfl, hg228, he229⟩
        have hH230 := cs_HB_t hH9 (cs_H_F (q := q) (R := R1) (Y := Y1) (cs_G_F (⟨fun p k hp => hg228 p k (by omega), fun _ _ _ => rfl⟩ : cs_G J1 G1 I227 G1)))
        have hx231 : sp_R K P V (0, 0, 0, [], sp_ld0, sp_nm0, []) (.inr (sp_f P a1 1)) := sp_R_s hR9 (by
          show sp_line K P V _ _ _ _ = _
          unfold sp_line
          repeat (first | rw [if_pos (by omega)] | rw [if_neg (by omega)]))
        have hz232 : ¬ sp_f P a1 1 = 0 := sp_f_ne hW9 hA9.2.1 (by omega)
        have hn233 : ¬ I227 11 11 = 0 := by rw [he229]; exact hz232
        show yi_D zi_Ms d zi_m258 j11 (135, [(2, .inl y2), (0, .inr (.inr (some 11))), (1, .inr (.inr (some q)))], [], (I227, G1, R1, Y1), n1, m1) _
        refine yi_D_iinc [(2, .inl (yi_w (y2 + 1))), (0, .inr (.inr (some 11))), (1, .inr (.inr (some q)))] rfl rfl rfl rfl ?_
        refine yi_D_run 1 (11, [(2, .inl (yi_w (y2 + 1))), (0, .inr (.inr (some 11))), (1, .inr (.inr (some q)))], [], (I227, G1, R1, Y1), n1, m1) (fun _ => rfl) ?_
        refine yi_D_run 2 (15, [(2, .inl (yi_w (y2 + 1))), (0, .inr (.inr (some 11))), (1, .inr (.inr (some q)))], [.inl 1000, .inl (yi_w (y2 + 1))], (I227, G1, R1, Y1), n1, m1) (fun _ => rfl) ?_
        by_cases h234 : 1000 ≤ (yi_w (y2 + 1))
        · refine yi_D_if2 true rfl (yi_ge_t h234) ?_
          refine yi_D_run 1 (142, [(2, .inl (yi_w (y2 + 1))), (0, .inr (.inr (some 11))), (1, .inr (.inr (some q)))], [.inr (.inr (some 11))], (I227, G1, R1, Y1), n1, m1) (fun _ => rfl) ?_
          refine yi_D_gi (v := I227 11 11) rfl rfl rfl rfl (fun _ => ?_)
          refine yi_D_reti rfl ?_
          exact ⟨_, _, _, _, _, _, _, rfl, hH230, by rw [he229]; exact hx231, fun h0 => absurd h0 hn233⟩
        · refine yi_D_if2 false rfl (yi_ge_f h234) ?_
          refine yi_D_run 1 (19, [(2, .inl (yi_w (y2 + 1))), (0, .inr (.inr (some 11))), (1, .inr (.inr (some q)))], [.inr (.inr (some 11))], (I227, G1, R1, Y1), n1, m1) (fun _ => rfl) ?_
          refine yi_D_gi (v := I227 11 11) rfl rfl rfl rfl (fun _ => ?_)
          have h235 : ¬ ((I227 11 11) = 0) := by omega
          refine yi_D_if1 true rfl (yi_ne_t h235) ?_
          refine yi_D_run 1 (142, [(2, .inl (yi_w (y2 + 1))), (0, .inr (.inr (some 11))), (1, .inr (.inr (some q)))], [.inr (.inr (some 11))], (I227, G1, R1, Y1), n1, m1) (fun _ => rfl) ?_
          refine yi_D_gi (v := I227 11 11) rfl rfl rfl rfl (fun _ => ?_)
          refine yi_D_reti rfl ?_
          exact ⟨_, _, _, _, _, _, _, rfl, hH230, by rw [he229]; exact hx231, fun h0 => absurd h0 hn233⟩
    exact pt11 k (Nat.le_refl _) 0 I11 L12 R13 Y14 a18 ld19 nm20 cs21 (0 + n15) (0 + m16) (by omega) hH31 hW26 hf24 hA25 hR32
  · have hH31 := cs_HB_t hH10 hH17
    have hx236 := hR28
    have hn237 : ¬ I11 11 11 = 0 := by rw [he30]; exact hz29
    show yi_D zi_Ms d zi_m258 k (9, [(0, .inr (.inr (some 11))), (1, .inr (.inr (some q)))], [], (I11, L12, R13, Y14), (0 + n15), (0 + m16)) _
    refine yi_D_run 2 (11, [(2, .inl 0), (0, .inr (.inr (some 11))), (1, .inr (.inr (some q)))], [], (I11, L12, R13, Y14), (0 + n15), (0 + m16)) (fun _ => rfl) ?_
    refine yi_D_run 2 (15, [(2, .inl 0), (0, .inr (.inr (some 11))), (1, .inr (.inr (some q)))], [.inl 1000, .inl 0], (I11, L12, R13, Y14), (0 + n15), (0 + m16)) (fun _ => rfl) ?_
    refine yi_D_if2 false rfl (by decide) ?_
    refine yi_D_run 1 (19, [(2, .inl 0), (0, .inr (.inr (some 11))), (1, .inr (.inr (some q)))], [.inr (.inr (some 11))], (I11, L12, R13, Y14), (0 + n15), (0 + m16)) (fun _ => rfl) ?_
    refine yi_D_gi (v := I11 11 11) rfl rfl rfl rfl (fun _ => ?_)
    have h238 : ¬ ((I11 11 11) = 0) := by omega
    refine yi_D_if1 true rfl (yi_ne_t h238) ?_
    refine yi_D_run 1 (142, [(2, .inl 0), (0, .inr (.inr (some 11))), (1, .inr (.inr (some q)))], [.inr (.inr (some 11))], (I11, L12, R13, Y14), (0 + n15), (0 + m16)) (fun _ => rfl) ?_
    refine yi_D_gi (v := I11 11 11) rfl rfl rfl rfl (fun _ => ?_)
    refine yi_D_reti rfl ?_
    exact ⟨_, _, _, _, _, _, _, rfl, hH31, by rw [he30]; exact hx236, fun h0 => absurd h0 hn237⟩
