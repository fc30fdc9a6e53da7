/-! The class: undone, marked. -/
section CCP
variable {I L I' L' : Nat → Nat → Int} {R R' R1 : Nat → Nat → Option Nat} {Y Y' : (Nat → Nat) × (Nat → Nat) × Nat} {pf pf' : Nat → Bool} {n da pe ev pr q c p s u u' x d : Nat} {S S' : ss_T} {A l : ss_R} {W : Nat → ss_R} {U U' : Nat → ss_T} {M : Nat → Option (ss_T × Option ss_R)} {aq aq' : Option ss_R}
/-- the story becomes another one, asked aside -/
theorem sc_cp {pb : Nat} (hW : ca_W I L R Y pf n da pe ev q A W) (hL : ca_L I L R Y pf n c l) (hP : ck_P I L R Y pf n da pe pr u U M) (b : da ≤ 6 ∧ pe ≤ 4 ∧ pr ≤ 5 ∧ S'.1.1 ≤ 12 ∧ S'.1.2.2 ≤ 20) (hp : sc_S I L R Y pf n da pe pr pb S') (hC : sy_C I R I' R1 50 pb) (hR2 : ∀ q k, ¬ (q = 50 ∧ k = 5) → R' q k = R1 q k) (h5 : sa_A I L R Y pf n s aq' ∧ R' 50 5 = R s 5) : ca_W I' L R' Y pf n da pe ev q A W ∧ ca_L I' L R' Y pf n c l ∧ sc_S I' L R' Y pf n da pe pr 50 S' ∧ ck_P I' L R' Y pf n da pe pr u U M ∧ sa_A I' L R' Y pf n 50 aq' := by
  obtain ⟨c1, c2, c3, c4, c5, c6, c7⟩ := hC
  have zz := ca_50 (I' := I') (R' := R') hW hL hP (fun x k h => ⟨(c6 x k (by omega)).1, (hR2 x k (by omega)).trans (c6 x k (by omega)).2⟩) (fun k hk => (hR2 50 k (by omega)).trans (c7 k hk))
  exact ⟨zz.2.1, zz.2.2.1, sc_S_e hp zz.1 (sy_T_at zz.2.1.1.1) ⟨c1.1, c1.2.1, c1.2.2.1⟩ (fun k hk => (hR2 51 k (by omega)).trans (c2 k hk)) c3 c4 c5 b, zz.2.2.2, sa_A_d h5.1 zz.1 h5.2⟩
/-- a mark is laid -/
theorem mk_fin {pb : Nat} (hx : x < 4) (hW : ca_W I L R Y pf n da pe ev q A W) (hL : ca_L I L R Y pf n c l) (h50 : sc_S I L R Y pf n da pe pr 50 S) (hP : ck_P I L R Y pf n da pe pr u U M) (ha : sa_A I L R Y pf n 50 aq) (hb : da ≤ 6 ∧ pe ≤ 4 ∧ pr ≤ 5 ∧ S.1.1 ≤ 12 ∧ S.1.2.2 ≤ 20) (r1 : R' 57 x = some pb) (r2 : sy_T R' Y' pb) (r3 : sy_D I R I' R' pb 50) (r4 : (R 57 x = some pb ∧ Y' = Y) ∨ (R 57 x = none ∧ pb = Y.2.2 ∧ Y'.2.2 = Y.2.2 + 6)) (r7 : ∀ z k, z < Y.2.2 → ¬ (pb ≤ z ∧ z ≤ pb + 5) → I' z k = I z k ∧ (¬ (z = 57 ∧ k = x) → R' z k = R z k)) (r8 : ∀ z k, z < Y.2.2 → L' z k = L z k) (rY : Y.2.2 ≤ Y'.2.2 ∧ ∀ q, q < Y.2.2 → Y'.1 q = Y.1 q ∧ Y'.2.1 q = Y.2.1 q) : ca_W I' L' R' Y' pf n da pe ev q A W ∧ ca_L I' L' R' Y' pf n c l ∧ sc_S I' L' R' Y' pf n da pe pr 50 S ∧ ck_P I' L' R' Y' pf n da pe pr u U (ms_p M x S aq) ∧ sa_A I' L' R' Y' pf n 50 aq := by
  obtain ⟨rN, rY⟩ := rY
  have hA := hW.1.1
  have hpf := hW.1.2
  have hn := hA.2.2.2
  have hpf' : pf_T pf Y' := pf_T_t hpf rN rY
  have hq110 : 110 ≤ pb := by
    rcases r4 with ⟨a, -⟩ | ⟨-, a, -⟩
    · rcases hP.2.2 x hx with ⟨-, z⟩ | ⟨p', Sm, am, -, z, z3, -⟩
      · rw [z] at a; cases a
      · rw [z] at a; cases a; exact z3
    · omega
  have out : ∀ x, x < Y.2.2 → ¬ Y.1 x = 9 ∧ ¬ Y.1 x = 26 ∧ ¬ Y.1 x = 20 → ¬ (pb ≤ x ∧ x ≤ pb + 5) := fun x hx hk => sy_no r2 (by rw [(rY x hx).1]; exact hk)
  have hK : pf_K I L R Y pf I' L' R' Y' pf := by
    refine ⟨fun x k hx => ?_, fun _ h => h, rN, rY⟩
    have z := hpf x hx
    have z2 := pf_at hpf hA hx
    have z3 := pf_sy hpf' r2 hx
    exact ⟨(r7 x k z.2.1 z3).1, r8 x k z.2.1, (r7 x k z.2.1 z3).2 (by omega)⟩
  obtain ⟨w1, ⟨b1, b2, b3, b4, b5, b6, b7⟩, w3⟩ := id hW
  have oq := out q b3 (by omega)
  have cc := hL.1.1
  have oc := out c (by omega) (by omega)
  have k39 : Y.1 39 = 24 := at_nk hA (j := 7) rfl
  refine ⟨ca_W_t hW hK (fun x hx => ?_) ((r7 10 16 (by omega) (by omega)).2 (by omega)) (fun k => (r7 q k b3 oq).1) (fun k => (r7 39 k (by omega) (by omega)).2 (by omega)), ca_L_t hL (r7 58 1 (by omega) (by omega)).1 ((r7 58 0 (by omega) (by omega)).2 (by omega)) (fun k => r8 c k (by omega)) rN rY, sc_S_t h50 hK (fun x k h1 h2 => ⟨(r7 x k (by omega) (by omega)).1, (r7 x k (by omega) (by omega)).2 (by omega)⟩), ck_P_mk hx hb hA hP h50 ha hK r1 r2 r3 r4 r7, sa_A_t ha hK ((r7 50 5 (by omega) (by omega)).2 (by omega))⟩
  have hx2 : x.1 < 110 ∧ ¬ x.1 = 57 := by
    have b : ∀ x ∈ at_L, x.1 < 110 ∧ ¬ x.1 = 57 := by decide
    exact b x hx
  exact (r7 x.1 x.2.1 (by omega) (by omega)).2 (by omega)
end CCP
theorem p_undo {d : Nat} {I L : Nat → Nat → Int} {R : Nat → Nat → Option Nat} {Y : (Nat → Nat) × (Nat → Nat) × Nat} {pf : Nat → Bool} {n da pe ev pr q c u : Nat} {S : ss_T} {A l : ss_R} {W : Nat → ss_R} {U : Nat → ss_T} {M : Nat → Option (ss_T × Option ss_R)} {aq : Option ss_R} (hW : ca_W I L R Y pf n da pe ev q A W) (hL : ca_L I L R Y pf n c l) (h50 : sc_S I L R Y pf n da pe pr 50 S) (hP : ck_P I L R Y pf n da pe pr u U M) (ha : sa_A I L R Y pf n 50 aq) (hb : da ≤ 6 ∧ pe ≤ 4 ∧ pr ≤ 5 ∧ S.1.1 ≤ 12 ∧ S.1.2.2 ≤ 20) (hok : ∀ j, j < u → ss_ok da (da * pe) ev pr (U j)) : yi_P zi_Ms d 181 [.inr (.inr (some 10))] (I, L, R, Y) (fun r => (u = 0 ∧ r = (some (.inl 0), (I, L, R, Y), 0, 0)) ∨ (¬ u = 0 ∧ ∃ I' L' R' Y' nc ns, r = (some (.inl 1), (I', L', R', Y'), nc, ns) ∧ ca_W I' L' R' Y' pf n da pe ev q A W ∧ ca_L I' L' R' Y' pf n c (lf (gd A W ev (U (u - 1)).2.2.2.2.1 (da * pe)) (U (u - 1)).2.2.1 (U (u - 1)).1.1) ∧ sc_S I' L' R' Y' pf n da pe pr 50 (U (u - 1)) ∧ ck_P I' L' R' Y' pf n da pe pr (u - 1) U M ∧ sa_A I' L' R' Y' pf n 50 aq)) := by
  refine yi_P_of (M := zi_m181) rfl (fun d k => ?_)
  have hA := hW.1.1
  have hNA := hA.2.2.2
  obtain ⟨h16, hq, hqN, hq3, hda, hpe, hev⟩ := hW.2.1
  have bld := hW.2.2.1.1
  obtain ⟨⟨ps, f1, f2, f3, f4, f5⟩, g1, g2⟩ := id hP
  show yi_D zi_Ms d zi_m181 k (0, [(0, .inr (.inr (some 10)))], [], (I, L, R, Y), 0, 0) _
  refine yi_D_run 1 (1, [(0, .inr (.inr (some 10)))], [.inr (.inr (some 10))], (I, L, R, Y), 0, 0) (fun _ => rfl) ?_
  refine yi_D_gi (v := (u : Int)) rfl rfl rfl f3 (fun _ => ?_)
  by_cases h1 : 0 < (u : Int)
  · refine yi_D_if1 true rfl (yi_gt_t h1) ?_
    refine yi_D_run 2 (11, [(0, .inr (.inr (some 10)))], [.inr (.inr (some 10)), .inr (.inr (some 10))], (I, L, R, Y), 0, 0) (fun _ => rfl) ?_
    refine yi_D_gi (v := (u : Int)) rfl rfl rfl f3 (fun _ => ?_)
    refine yi_D_run 1 (15, [(0, .inr (.inr (some 10)))], [.inl 1, .inl (u : Int), .inr (.inr (some 10))], (I, L, R, Y), 0, 0) (fun _ => rfl) ?_
    refine yi_D_isub rfl ((u : Int) - 1) (yi_wn (by omega) (by omega)) ?_
    refine yi_D_pi rfl (fun _ => ?_)
    generalize w3 : yi_u I 10 18 ((u : Int) - 1) = I2
    refine yi_D_run 1 (20, [(0, .inr (.inr (some 10)))], [.inr (.inr (some 10))], (I2, L, R, Y), 0, 0) (fun _ => rfl) ?_
    refine yi_D_gr (v := some 56) rfl rfl rfl (at_r hA (j := 7) rfl) (fun _ => ?_)
    refine yi_D_run 1 (24, [(0, .inr (.inr (some 10)))], [.inr (.inr (some 10)), .inr (.inr (some 56))], (I2, L, R, Y), 0, 0) (fun _ => rfl) ?_
    have r4 : I2 10 17 = (ps : Int) := by rw [← w3, yi_u_ne _ _ (by omega), f1]
    refine yi_D_gi (v := (ps : Int)) rfl rfl rfl r4 (fun _ => ?_)
    refine yi_D_run 1 (28, [(0, .inr (.inr (some 10)))], [.inr (.inr (some 10)), .inl (ps : Int), .inr (.inr (some 56))], (I2, L, R, Y), 0, 0) (fun _ => rfl) ?_
    have r5 : I2 10 18 = (u : Int) - 1 := by rw [← w3, yi_u_eq]
    refine yi_D_gi (v := (u : Int) - 1) rfl rfl rfl r5 (fun _ => ?_)
    refine yi_D_iadd rfl ((ps : Int) + ((u : Int) - 1)) (yi_wn (by omega) (by omega)) ?_
    refine yi_D_run 1 (34, [(0, .inr (.inr (some 10)))], [.inl 16, .inl ((ps : Int) + ((u : Int) - 1)), .inr (.inr (some 56))], (I2, L, R, Y), 0, 0) (fun _ => rfl) ?_
    obtain ⟨pb, p1, p2⟩ := f5 (u - 1) (by omega)
    have hu1 := hok (u - 1) (by omega)
    have p110 := (g1 _ (Nat.mod_lt _ (by omega)) pb p1).2.1
    have zf : ∀ x k, ¬ (x = 10 ∧ (k = 17 ∨ k = 18)) → I2 x k = I x k := fun x k h => by rw [← w3, yi_u_ne _ _ (by omega)]
    have zt := ca_10 (I' := I2) hW hL h50 ha zf
    have zp := ck_P_u (u' := u - 1) (ps' := ps) hP zt.1 zf (by rw [← w3, yi_u_ne _ _ (by omega)]; exact f1) f2 (by rw [← w3, yi_u_eq]; omega) (by omega) (Or.inr ⟨by omega, by rw [← w3, yi_u_ne _ _ (by omega)]⟩)
    have zs := sc_S_t p2 zt.1 (fun x k h1 h2 => ⟨zf x k (by omega), rfl⟩)
    have hT50 := sy_T_at hA
    have hpN := zs.1.1.2.1
    refine yi_D_calls rfl (p_floorMod ⟨by omega, by omega⟩) ?_
    rintro _ rfl
    rw [show ((ps : Int) + ((u : Int) - 1)) % 16 = (((ps + (u - 1)) % 16 : Nat) : Int) by omega]
    show yi_D zi_Ms d zi_m181 k (37, [(0, .inr (.inr (some 10)))], [.inl (((ps + (u - 1)) % 16 : Nat) : Int), .inr (.inr (some 56))], (I2, L, R, Y), 0, 0) _
    refine yi_D_rl (v := some pb) rfl rfl p1 (fun _ _ => ?_)
    refine yi_D_run 2 (40, [(1, .inr (.inr (some pb))), (0, .inr (.inr (some 10)))], [.inr (.inr (some pb))], (I2, L, R, Y), 0, 0) (fun _ => rfl) ?_
    refine yi_D_nsx rfl ?_
    refine yi_D_run 1 (46, [(1, .inr (.inr (some pb))), (0, .inr (.inr (some 10)))], [.inr (.inr (some 10))], (I2, L, R, Y), 0, 0) (fun _ => rfl) ?_
    refine yi_D_gr (v := some 50) rfl rfl rfl (at_r hA (j := 6) rfl) (fun _ => ?_)
    refine yi_D_gr (v := R 50 5) rfl rfl rfl rfl (fun _ => ?_)
    cases hq6 : R 50 5 with
    | none =>
      refine yi_D_run 2 (54, [(2, .inr (.inr none)), (1, .inr (.inr (some pb))), (0, .inr (.inr (some 10)))], [.inr (.inr (some 10))], (I2, L, R, Y), 0, 0) (fun _ => rfl) ?_
      refine yi_D_gr (v := some 50) rfl rfl rfl (at_r hA (j := 6) rfl) (fun _ => ?_)
      refine yi_D_run 1 (58, [(2, .inr (.inr none)), (1, .inr (.inr (some pb))), (0, .inr (.inr (some 10)))], [.inr (.inr (some pb)), .inr (.inr (some 50))], (I2, L, R, Y), 0, 0) (fun _ => rfl) ?_
      refine yi_D_callv rfl (p_storyCopy hT50 zs.1 (by omega)) ?_
      rintro _ ⟨I8, R9, rfl, hC10⟩
      show yi_D zi_Ms d zi_m181 k (61, [(2, .inr (.inr none)), (1, .inr (.inr (some pb))), (0, .inr (.inr (some 10)))], [], (I8, L, R9, Y), 0, 0) _
      refine yi_D_run 1 (62, [(2, .inr (.inr none)), (1, .inr (.inr (some pb))), (0, .inr (.inr (some 10)))], [.inr (.inr (some 10))], (I8, L, R9, Y), 0, 0) (fun _ => rfl) ?_
      refine yi_D_gr (v := some 50) rfl rfl rfl ((hC10.2.2.2.2.2.1 10 6 (by omega)).2.trans (at_r hA (j := 6) rfl)) (fun _ => ?_)
      refine yi_D_run 1 (66, [(2, .inr (.inr none)), (1, .inr (.inr (some pb))), (0, .inr (.inr (some 10)))], [.inr (.inr none), .inr (.inr (some 50))], (I8, L, R9, Y), 0, 0) (fun _ => rfl) ?_
      refine yi_D_prw rfl (fun _ => ?_)
      generalize w12 : cl_u R9 50 5 none = R11
      refine yi_D_run 1 (70, [(2, .inr (.inr none)), (1, .inr (.inr (some pb))), (0, .inr (.inr (some 10)))], [.inr (.inr (some 10))], (I8, L, R11, Y), 0, 0) (fun _ => rfl) ?_
      have fin0 := sc_cp (R' := R11) (s := 50) zt.2.1 zt.2.2.1 zp ⟨hb.1, hb.2.1, hb.2.2.1, hu1.1, hu1.2.2.1⟩ zs hC10 (fun q k h => by rw [← w12, cl_u_ne _ _ h]) ⟨zt.2.2.2.2, by rw [← w12, cl_u_eq]; exact hq6.symm⟩
      refine yi_D_callv rfl (p_leftC fin0.1 fin0.2.1 fin0.2.2.1 fin0.2.2.2.1 fin0.2.2.2.2 hu1.1 hu1.2.2.2.1) ?_
      rintro _ ⟨I13, L14, R15, Y16, n17, m18, rfl, w19, l20, s21, p22, a23⟩
      show yi_D zi_Ms d zi_m181 k (73, [(2, .inr (.inr none)), (1, .inr (.inr (some pb))), (0, .inr (.inr (some 10)))], [], (I13, L14, R15, Y16), (0 + n17), (0 + m18)) _
      refine yi_D_run 1 (74, [(2, .inr (.inr none)), (1, .inr (.inr (some pb))), (0, .inr (.inr (some 10)))], [.inl 1], (I13, L14, R15, Y16), (0 + n17), (0 + m18)) (fun _ => rfl) ?_
      refine yi_D_reti rfl ?_
      exact Or.inr ⟨by omega, _, _, _, _, _, _, rfl, w19, l20, s21, p22, a23⟩
    | some q7 =>
      refine yi_D_run 2 (54, [(2, .inr (.inr (some q7))), (1, .inr (.inr (some pb))), (0, .inr (.inr (some 10)))], [.inr (.inr (some 10))], (I2, L, R, Y), 0, 0) (fun _ => rfl) ?_
      refine yi_D_gr (v := some 50) rfl rfl rfl (at_r hA (j := 6) rfl) (fun _ => ?_)
      refine yi_D_run 1 (58, [(2, .inr (.inr (some q7))), (1, .inr (.inr (some pb))), (0, .inr (.inr (some 10)))], [.inr (.inr (some pb)), .inr (.inr (some 50))], (I2, L, R, Y), 0, 0) (fun _ => rfl) ?_
      refine yi_D_callv rfl (p_storyCopy hT50 zs.1 (by omega)) ?_
      rintro _ ⟨I24, R25, rfl, hC26⟩
      show yi_D zi_Ms d zi_m181 k (61, [(2, .inr (.inr (some q7))), (1, .inr (.inr (some pb))), (0, .inr (.inr (some 10)))], [], (I24, L, R25, Y), 0, 0) _
      refine yi_D_run 1 (62, [(2, .inr (.inr (some q7))), (1, .inr (.inr (some pb))), (0, .inr (.inr (some 10)))], [.inr (.inr (some 10))], (I24, L, R25, Y), 0, 0) (fun _ => rfl) ?_
      refine yi_D_gr (v := some 50) rfl rfl rfl ((hC26.2.2.2.2.2.1 10 6 (by omega)).2.trans (at_r hA (j := 6) rfl)) (fun _ => ?_)
      refine yi_D_run 1 (66, [(2, .inr (.inr (some q7))), (1, .inr (.inr (some pb))), (0, .inr (.inr (some 10)))], [.inr (.inr (some q7)), .inr (.inr (some 50))], (I24, L, R25, Y), 0, 0) (fun _ => rfl) ?_
      refine yi_D_prw rfl (fun _ => ?_)
      generalize w28 : cl_u R25 50 5 (some q7) = R27
      refine yi_D_run 1 (70, [(2, .inr (.inr (some q7))), (1, .inr (.inr (some pb))), (0, .inr (.inr (some 10)))], [.inr (.inr (some 10))], (I24, L, R27, Y), 0, 0) (fun _ => rfl) ?_
      have fin0 := sc_cp (R' := R27) (s := 50) zt.2.1 zt.2.2.1 zp ⟨hb.1, hb.2.1, hb.2.2.1, hu1.1, hu1.2.2.1⟩ zs hC26 (fun q k h => by rw [← w28, cl_u_ne _ _ h]) ⟨zt.2.2.2.2, by rw [← w28, cl_u_eq]; exact hq6.symm⟩
      refine yi_D_callv rfl (p_leftC fin0.1 fin0.2.1 fin0.2.2.1 fin0.2.2.2.1 fin0.2.2.2.2 hu1.1 hu1.2.2.2.1) ?_
      rintro _ ⟨I29, L30, R31, Y32, n33, m34, rfl, w35, l36, s37, p38, a39⟩
      show yi_D zi_Ms d zi_m181 k (73, [(2, .inr (.inr (some q7))), (1, .inr (.inr (some pb))), (0, .inr (.inr (some 10)))], [], (I29, L30, R31, Y32), (0 + n33), (0 + m34)) _
      refine yi_D_run 1 (74, [(2, .inr (.inr (some q7))), (1, .inr (.inr (some pb))), (0, .inr (.inr (some 10)))], [.inl 1], (I29, L30, R31, Y32), (0 + n33), (0 + m34)) (fun _ => rfl) ?_
      refine yi_D_reti rfl ?_
      exact Or.inr ⟨by omega, _, _, _, _, _, _, rfl, w35, l36, s37, p38, a39⟩
  · refine yi_D_if1 false rfl (yi_gt_f h1) ?_
    refine yi_D_run 1 (8, [(0, .inr (.inr (some 10)))], [.inl 0], (I, L, R, Y), 0, 0) (fun _ => rfl) ?_
    refine yi_D_reti rfl ?_
    exact Or.inl ⟨by omega, rfl⟩
theorem p_mark0 {d : Nat} {I L : Nat → Nat → Int} {R : Nat → Nat → Option Nat} {Y : (Nat → Nat) × (Nat → Nat) × Nat} {pf : Nat → Bool} {n da pe ev pr q c u : Nat} {S : ss_T} {A l : ss_R} {W : Nat → ss_R} {U : Nat → ss_T} {M : Nat → Option (ss_T × Option ss_R)} {aq : Option ss_R} (hW : ca_W I L R Y pf n da pe ev q A W) (hL : ca_L I L R Y pf n c l) (h50 : sc_S I L R Y pf n da pe pr 50 S) (hP : ck_P I L R Y pf n da pe pr u U M) (ha : sa_A I L R Y pf n 50 aq) (hb : da ≤ 6 ∧ pe ≤ 4 ∧ pr ≤ 5 ∧ S.1.1 ≤ 12 ∧ S.1.2.2 ≤ 20) {x : Int} : yi_P zi_Ms d 165 [.inr (.inr (some 10)), .inl x, .inl 0] (I, L, R, Y) (fun r => (¬ (0 ≤ x ∧ x ≤ 3) ∧ r = (some (.inl 0), (I, L, R, Y), 0, 0)) ∨ ((0 ≤ x ∧ x ≤ 3) ∧ ∃ I' L' R' Y' nc ns, r = (some (.inl 1), (I', L', R', Y'), nc, ns) ∧ ca_W I' L' R' Y' pf n da pe ev q A W ∧ ca_L I' L' R' Y' pf n c l ∧ sc_S I' L' R' Y' pf n da pe pr 50 S ∧ ck_P I' L' R' Y' pf n da pe pr u U (ms_p M x.toNat S aq) ∧ sa_A I' L' R' Y' pf n 50 aq)) := by
  refine yi_P_of (M := zi_m165) rfl (fun d k => ?_)
  have hA := hW.1.1
  have hNA := hA.2.2.2
  obtain ⟨h16, hq, hqN, hq3, hda, hpe, hev⟩ := hW.2.1
  have bld := hW.2.2.1.1
  obtain ⟨⟨ps, f1, f2, f3, f4, f5⟩, g1, g2⟩ := id hP
  show yi_D zi_Ms d zi_m165 k (0, [(0, .inr (.inr (some 10))), (1, .inl x), (2, .inl 0)], [], (I, L, R, Y), 0, 0) _
  refine yi_D_run 1 (1, [(0, .inr (.inr (some 10))), (1, .inl x), (2, .inl 0)], [.inl x], (I, L, R, Y), 0, 0) (fun _ => rfl) ?_
  by_cases h1 : x < 0
  · refine yi_D_if1 true rfl (yi_lt_t h1) ?_
    refine yi_D_run 1 (14, [(0, .inr (.inr (some 10))), (1, .inl x), (2, .inl 0)], [.inl 0], (I, L, R, Y), 0, 0) (fun _ => rfl) ?_
    refine yi_D_reti rfl ?_
    exact Or.inl ⟨by omega, rfl⟩
  · refine yi_D_if1 false rfl (yi_lt_f h1) ?_
    refine yi_D_run 2 (6, [(0, .inr (.inr (some 10))), (1, .inl x), (2, .inl 0)], [.inr (.inr (some 10)), .inl x], (I, L, R, Y), 0, 0) (fun _ => rfl) ?_
    refine yi_D_gr (v := some 57) rfl rfl rfl (at_r hA (j := 8) rfl) (fun _ => ?_)
    refine yi_D_len (v := 4) rfl rfl (at_ni hA (j := 18) rfl) ?_
    by_cases h2 : x < 4
    · refine yi_D_if2 true rfl (yi_lt_t h2) ?_
      refine yi_D_run 1 (16, [(0, .inr (.inr (some 10))), (1, .inl x), (2, .inl 0)], [.inr (.inr (some 10))], (I, L, R, Y), 0, 0) (fun _ => rfl) ?_
      refine yi_D_gr (v := some 57) rfl rfl rfl (at_r hA (j := 8) rfl) (fun _ => ?_)
      refine yi_D_run 1 (20, [(0, .inr (.inr (some 10))), (1, .inl x), (2, .inl 0)], [.inl x, .inr (.inr (some 57))], (I, L, R, Y), 0, 0) (fun _ => rfl) ?_
      refine yi_D_rl (v := R 57 (x.toNat)) rfl rfl rfl (fun _ _ => ?_)
      cases hq3 : R 57 (x.toNat) with
      | none =>
        refine yi_D_run 2 (23, [(3, .inr (.inr none)), (0, .inr (.inr (some 10))), (1, .inl x), (2, .inl 0)], [.inl 0], (I, L, R, Y), 0, 0) (fun _ => rfl) ?_
        refine yi_D_if1 true rfl (by decide) ?_
        refine yi_D_run 1 (51, [(3, .inr (.inr none)), (0, .inr (.inr (some 10))), (1, .inl x), (2, .inl 0)], [.inr (.inr none)], (I, L, R, Y), 0, 0) (fun _ => rfl) ?_
        refine yi_D_nnx rfl ?_
        refine yi_D_new3 rfl (fun q5 I6 L7 R8 Y9 m10 mk11 mn12 ml13 my14 => ?_)
        obtain ⟨k15, k16, k17, k18, k19, k20⟩ := mk11
        have q5q : q5 = Y.2.2 := k15
        have q5n := k20
        refine yi_D_run 1 (58, [(3, .inr (.inr none)), (0, .inr (.inr (some 10))), (1, .inl x), (2, .inl 0)], [.inr (.inr (some q5)), .inr (.inr (some q5))], (I6, L7, R8, Y9), (0 + 1), m10) (fun _ => rfl) ?_
        refine yi_D_callp rfl rfl (p_initStory (by omega) q5n my14) ?_
        rintro _ ⟨I21, L22, R23, Y24, n25, m26, rfl, hT27, f128, f229, f330, f431⟩
        have fI32 : ∀ p k, p < q5 → I21 p k = I6 p k := fun p k h => (f128 p k h).1
        have fL33 : ∀ p k, p < q5 → L22 p k = L7 p k := fun p k h => (f128 p k h).2.1
        have fR34 : ∀ p k, p < q5 → R23 p k = R8 p k := fun p k h => (f128 p k h).2.2
        have hN135 := hT27.1.2.1
        show yi_D zi_Ms d zi_m165 k (61, [(3, .inr (.inr none)), (0, .inr (.inr (some 10))), (1, .inl x), (2, .inl 0)], [.inr (.inr (some q5))], (I21, L22, R23, Y24), ((0 + 1) + n25), (m10 + m26)) _
        refine yi_D_run 2 (63, [(3, .inr (.inr (some q5))), (0, .inr (.inr (some 10))), (1, .inl x), (2, .inl 0)], [.inr (.inr (some 10))], (I21, L22, R23, Y24), ((0 + 1) + n25), (m10 + m26)) (fun _ => rfl) ?_
        have r36 : R23 10 8 = some 57 := by rw [fR34 10 8 (by omega), (fun p k hp => (k16 p k hp).2.2) 10 8 (by omega), (at_r hA (j := 8) rfl)]
        refine yi_D_gr (v := some 57) rfl rfl rfl r36 (fun _ => ?_)
        refine yi_D_run 2 (68, [(3, .inr (.inr (some q5))), (0, .inr (.inr (some 10))), (1, .inl x), (2, .inl 0)], [.inr (.inr (some q5)), .inl x, .inr (.inr (some 57))], (I21, L22, R23, Y24), ((0 + 1) + n25), (m10 + m26)) (fun _ => rfl) ?_
        refine yi_D_asw rfl (fun _ _ => ?_)
        generalize w38 : cl_u R23 57 (x.toNat) (some q5) = R37
        refine yi_D_run 2 (71, [(3, .inr (.inr (some q5))), (0, .inr (.inr (some 10))), (1, .inl x), (2, .inl 0)], [.inr (.inr (some 10)), .inr (.inr (some q5))], (I21, L22, R37, Y24), ((0 + 1) + n25), (m10 + m26)) (fun _ => rfl) ?_
        have r39 : R37 10 6 = some 50 := by rw [← w38, cl_u_ne _ _ (by omega), fR34 10 6 (by omega), (fun p k hp => (k16 p k hp).2.2) 10 6 (by omega), (at_r hA (j := 6) rfl)]
        refine yi_D_gr (v := some 50) rfl rfl rfl r39 (fun _ => ?_)
        have hTb : sy_T R37 Y24 q5 := sy_T_t hT27 (fun k hk => by rw [← w38, cl_u_ne _ _ (by omega)]) (Nat.le_refl _) (fun _ _ => ⟨rfl, rfl⟩)
        have hTb1 := hTb.1.1
        have hTb2 := hTb.1.2.1
        have hT5 : sy_T R37 Y24 50 := sy_T_t (sy_T_at hA) (fun k hk => by rw [← w38, cl_u_ne _ _ (by omega), fR34 50 k (by omega), (fun p k hp => (k16 p k hp).2.2) 50 k (by omega)]) (by omega) (fun q hq => by rw [(f330 q (by omega)).1, ((fun p hp => k18 p hp) q (by omega)).1, (f330 q (by omega)).2, ((fun p hp => k18 p hp) q (by omega)).2]; exact ⟨rfl, rfl⟩)
        refine yi_D_callv rfl (p_storyCopy hTb hT5 (by omega)) ?_
        rintro _ ⟨I40, R41, rfl, hC42⟩
        show yi_D zi_Ms d zi_m165 k (77, [(3, .inr (.inr (some q5))), (0, .inr (.inr (some 10))), (1, .inl x), (2, .inl 0)], [], (I40, L22, R41, Y24), ((0 + 1) + n25), (m10 + m26)) _
        refine yi_D_run 1 (78, [(3, .inr (.inr (some q5))), (0, .inr (.inr (some 10))), (1, .inl x), (2, .inl 0)], [.inl 1], (I40, L22, R41, Y24), ((0 + 1) + n25), (m10 + m26)) (fun _ => rfl) ?_
        refine yi_D_reti rfl ?_
        exact Or.inr ⟨by omega, _, _, _, _, _, _, rfl, mk_fin (pb := q5) (by omega) hW hL h50 hP ha hb (by rw [(hC42.2.2.2.2.2.1 57 x.toNat (by omega)).2, ← w38]; exact cl_u_eq ..) (sy_T_t hTb (hC42.2.2.2.2.2.2) (Nat.le_refl _) (fun _ _ => ⟨rfl, rfl⟩)) ⟨⟨by rw [hC42.1.1, fI32 50 6 (by omega), (fun p k hp => (k16 p k hp).1) 50 6 (by omega)], by rw [hC42.1.2.1, fI32 50 7 (by omega), (fun p k hp => (k16 p k hp).1) 50 7 (by omega)], by rw [hC42.1.2.2.1, fI32 50 8 (by omega), (fun p k hp => (k16 p k hp).1) 50 8 (by omega)], by rw [hC42.1.2.2.2, ← w38, cl_u_ne _ _ (by omega), fR34 50 5 (by omega), (fun p k hp => (k16 p k hp).2.2) 50 5 (by omega)]⟩, fun k hk => by rw [hC42.2.1 k hk, ← w38, cl_u_ne _ _ (by omega), fR34 (50 + 1) k (by omega), (fun p k hp => (k16 p k hp).2.2) (50 + 1) k (by omega)], fun k hk => by rw [hC42.2.2.1 k hk, fI32 (50 + 2) k (by omega), (fun p k hp => (k16 p k hp).1) (50 + 2) k (by omega)], fun k hk => by rw [hC42.2.2.2.1 k hk, fI32 (50 + 3) k (by omega), (fun p k hp => (k16 p k hp).1) (50 + 3) k (by omega)], fun k hk => ⟨by rw [(hC42.2.2.2.2.1 k hk).1, fI32 (50 + 4) k (by omega), (fun p k hp => (k16 p k hp).1) (50 + 4) k (by omega)], by rw [(hC42.2.2.2.2.1 k hk).2, fI32 (50 + 5) k (by omega), (fun p k hp => (k16 p k hp).1) (50 + 5) k (by omega)]⟩⟩ (Or.inr ⟨hq3, by omega, by omega⟩) (fun q k hq h => ⟨by rw [(hC42.2.2.2.2.2.1 q k h).1, fI32 q k (by omega), (fun p k hp => (k16 p k hp).1) q k (by omega)], fun h2 => by rw [(hC42.2.2.2.2.2.1 q k h).2, ← w38, cl_u_ne _ _ (by omega), fR34 q k (by omega), (fun p k hp => (k16 p k hp).2.2) q k (by omega)]⟩) (fun q k hq => by rw [fL33 q k (by omega), (fun p k hp => (k16 p k hp).2.1) q k (by omega)]) ⟨by omega, fun q hq => by rw [(f330 q (by omega)).1, ((fun p hp => k18 p hp) q (by omega)).1, (f330 q (by omega)).2, ((fun p hp => k18 p hp) q (by omega)).2]; exact ⟨rfl, rfl⟩⟩⟩
      | some q4 =>
        have hTq : sy_T R Y q4 ∧ 110 ≤ q4 := by
                  rcases g2 x.toNat (by omega) with ⟨-, z⟩ | ⟨p', Sm, am, -, z, z3, z4, -, -⟩
                  · rw [z] at hq3; cases hq3
                  · rw [z] at hq3; cases hq3; exact ⟨z4.1, z3⟩
        obtain ⟨hTb, hdb⟩ := hTq
        have hTb1 := hTb.1.1
        have hTb2 := hTb.1.2.1
        refine yi_D_run 2 (23, [(3, .inr (.inr (some q4))), (0, .inr (.inr (some 10))), (1, .inl x), (2, .inl 0)], [.inl 0], (I, L, R, Y), 0, 0) (fun _ => rfl) ?_
        refine yi_D_if1 true rfl (by decide) ?_
        refine yi_D_run 1 (51, [(3, .inr (.inr (some q4))), (0, .inr (.inr (some 10))), (1, .inl x), (2, .inl 0)], [.inr (.inr (some q4))], (I, L, R, Y), 0, 0) (fun _ => rfl) ?_
        refine yi_D_nsx rfl ?_
        refine yi_D_run 2 (71, [(3, .inr (.inr (some q4))), (0, .inr (.inr (some 10))), (1, .inl x), (2, .inl 0)], [.inr (.inr (some 10)), .inr (.inr (some q4))], (I, L, R, Y), 0, 0) (fun _ => rfl) ?_
        refine yi_D_gr (v := some 50) rfl rfl rfl (at_r hA (j := 6) rfl) (fun _ => ?_)
        have hT5 : sy_T R Y 50 := sy_T_at hA
        refine yi_D_callv rfl (p_storyCopy hTb hT5 (by omega)) ?_
        rintro _ ⟨I43, R44, rfl, hC45⟩
        show yi_D zi_Ms d zi_m165 k (77, [(3, .inr (.inr (some q4))), (0, .inr (.inr (some 10))), (1, .inl x), (2, .inl 0)], [], (I43, L, R44, Y), 0, 0) _
        refine yi_D_run 1 (78, [(3, .inr (.inr (some q4))), (0, .inr (.inr (some 10))), (1, .inl x), (2, .inl 0)], [.inl 1], (I43, L, R44, Y), 0, 0) (fun _ => rfl) ?_
        refine yi_D_reti rfl ?_
        exact Or.inr ⟨by omega, _, _, _, _, _, _, rfl, mk_fin (pb := q4) (by omega) hW hL h50 hP ha hb (by rw [(hC45.2.2.2.2.2.1 57 x.toNat (by omega)).2]; exact hq3) (sy_T_t hTb (hC45.2.2.2.2.2.2) (Nat.le_refl _) (fun _ _ => ⟨rfl, rfl⟩)) ⟨⟨by rw [hC45.1.1], by rw [hC45.1.2.1], by rw [hC45.1.2.2.1], by rw [hC45.1.2.2.2]⟩, fun k hk => by rw [hC45.2.1 k hk], fun k hk => by rw [hC45.2.2.1 k hk], fun k hk => by rw [hC45.2.2.2.1 k hk], fun k hk => ⟨by rw [(hC45.2.2.2.2.1 k hk).1], by rw [(hC45.2.2.2.2.1 k hk).2]⟩⟩ (Or.inl ⟨hq3, rfl⟩) (fun q k hq h => ⟨by rw [(hC45.2.2.2.2.2.1 q k h).1], fun h2 => by rw [(hC45.2.2.2.2.2.1 q k h).2]⟩) (fun q k hq => rfl) ⟨Nat.le_refl _, fun _ _ => ⟨rfl, rfl⟩⟩⟩
    · refine yi_D_if2 false rfl (yi_lt_f h2) ?_
      refine yi_D_run 1 (14, [(0, .inr (.inr (some 10))), (1, .inl x), (2, .inl 0)], [.inl 0], (I, L, R, Y), 0, 0) (fun _ => rfl) ?_
      refine yi_D_reti rfl ?_
      exact Or.inl ⟨by omega, rfl⟩
theorem p_mark1 {d : Nat} {I L : Nat → Nat → Int} {R : Nat → Nat → Option Nat} {Y : (Nat → Nat) × (Nat → Nat) × Nat} {pf : Nat → Bool} {n da pe ev pr q c u : Nat} {S : ss_T} {A l : ss_R} {W : Nat → ss_R} {U : Nat → ss_T} {M : Nat → Option (ss_T × Option ss_R)} {aq : Option ss_R} (hW : ca_W I L R Y pf n da pe ev q A W) (hL : ca_L I L R Y pf n c l) (h50 : sc_S I L R Y pf n da pe pr 50 S) (hP : ck_P I L R Y pf n da pe pr u U M) (ha : sa_A I L R Y pf n 50 aq) (hb : da ≤ 6 ∧ pe ≤ 4 ∧ pr ≤ 5 ∧ S.1.1 ≤ 12 ∧ S.1.2.2 ≤ 20) {x : Int} (hokM : ∀ m Sm am, m < 4 → M m = some (Sm, am) → ss_ok da (da * pe) ev pr Sm) : yi_P zi_Ms d 165 [.inr (.inr (some 10)), .inl x, .inl 1] (I, L, R, Y) (fun r => (¬ ((0 ≤ x ∧ x ≤ 3) ∧ ∃ Sm am, M x.toNat = some (Sm, am)) ∧ r = (some (.inl 0), (I, L, R, Y), 0, 0)) ∨ ((0 ≤ x ∧ x ≤ 3) ∧ ∃ Sm am, M x.toNat = some (Sm, am) ∧ ∃ I' L' R' Y' nc ns, r = (some (.inl 1), (I', L', R', Y'), nc, ns) ∧ ca_W I' L' R' Y' pf n da pe ev q A W ∧ ca_L I' L' R' Y' pf n c (lf (gd A W ev Sm.2.2.2.2.1 (da * pe)) Sm.2.2.1 Sm.1.1) ∧ sc_S I' L' R' Y' pf n da pe pr 50 Sm ∧ ck_P I' L' R' Y' pf n da pe pr 0 U M ∧ sa_A I' L' R' Y' pf n 50 am)) := by
  refine yi_P_of (M := zi_m165) rfl (fun d k => ?_)
  have hA := hW.1.1
  have hNA := hA.2.2.2
  obtain ⟨h16, hq, hqN, hq3, hda, hpe, hev⟩ := hW.2.1
  have bld := hW.2.2.1.1
  obtain ⟨⟨ps, f1, f2, f3, f4, f5⟩, g1, g2⟩ := id hP
  show yi_D zi_Ms d zi_m165 k (0, [(0, .inr (.inr (some 10))), (1, .inl x), (2, .inl 1)], [], (I, L, R, Y), 0, 0) _
  refine yi_D_run 1 (1, [(0, .inr (.inr (some 10))), (1, .inl x), (2, .inl 1)], [.inl x], (I, L, R, Y), 0, 0) (fun _ => rfl) ?_
  by_cases h1 : x < 0
  · refine yi_D_if1 true rfl (yi_lt_t h1) ?_
    refine yi_D_run 1 (14, [(0, .inr (.inr (some 10))), (1, .inl x), (2, .inl 1)], [.inl 0], (I, L, R, Y), 0, 0) (fun _ => rfl) ?_
    refine yi_D_reti rfl ?_
    refine Or.inl ⟨?_, rfl⟩
    rintro ⟨h1, Sm', am', h2⟩
    first
    | (omega)
    | (rw [m0] at h2; cases h2)
  · refine yi_D_if1 false rfl (yi_lt_f h1) ?_
    refine yi_D_run 2 (6, [(0, .inr (.inr (some 10))), (1, .inl x), (2, .inl 1)], [.inr (.inr (some 10)), .inl x], (I, L, R, Y), 0, 0) (fun _ => rfl) ?_
    refine yi_D_gr (v := some 57) rfl rfl rfl (at_r hA (j := 8) rfl) (fun _ => ?_)
    refine yi_D_len (v := 4) rfl rfl (at_ni hA (j := 18) rfl) ?_
    by_cases h2 : x < 4
    · refine yi_D_if2 true rfl (yi_lt_t h2) ?_
      refine yi_D_run 1 (16, [(0, .inr (.inr (some 10))), (1, .inl x), (2, .inl 1)], [.inr (.inr (some 10))], (I, L, R, Y), 0, 0) (fun _ => rfl) ?_
      refine yi_D_gr (v := some 57) rfl rfl rfl (at_r hA (j := 8) rfl) (fun _ => ?_)
      refine yi_D_run 1 (20, [(0, .inr (.inr (some 10))), (1, .inl x), (2, .inl 1)], [.inl x, .inr (.inr (some 57))], (I, L, R, Y), 0, 0) (fun _ => rfl) ?_
      refine yi_D_rl (v := R 57 (x.toNat)) rfl rfl rfl (fun _ _ => ?_)
      cases hq3 : R 57 (x.toNat) with
      | none =>
        have m0 : M x.toNat = none := by
                  rcases g2 x.toNat (by omega) with ⟨z0, -⟩ | ⟨p', Sm, am, z0, z, z3, z4, z5, -⟩
                  · exact z0
                  · rw [z] at hq3; cases hq3
        refine yi_D_run 2 (23, [(3, .inr (.inr none)), (0, .inr (.inr (some 10))), (1, .inl x), (2, .inl 1)], [.inl 1], (I, L, R, Y), 0, 0) (fun _ => rfl) ?_
        refine yi_D_if1 false rfl (by decide) ?_
        refine yi_D_run 1 (27, [(3, .inr (.inr none)), (0, .inr (.inr (some 10))), (1, .inl x), (2, .inl 1)], [.inr (.inr none)], (I, L, R, Y), 0, 0) (fun _ => rfl) ?_
        refine yi_D_nnx rfl ?_
        refine yi_D_run 1 (31, [(3, .inr (.inr none)), (0, .inr (.inr (some 10))), (1, .inl x), (2, .inl 1)], [.inl 0], (I, L, R, Y), 0, 0) (fun _ => rfl) ?_
        refine yi_D_reti rfl ?_
        refine Or.inl ⟨?_, rfl⟩
        rintro ⟨h1, Sm', am', h2⟩
        first
        | (omega)
        | (rw [m0] at h2; cases h2)
      | some q4 =>
        have hTq : ∃ Sm am, M x.toNat = some (Sm, am) ∧ 110 ≤ q4 ∧ sc_S I L R Y pf n da pe pr q4 Sm ∧ sa_A I L R Y pf n q4 am := by
                  rcases g2 x.toNat (by omega) with ⟨-, z⟩ | ⟨p', Sm, am, z0, z, z3, z4, z5, -⟩
                  · rw [z] at hq3; cases hq3
                  · rw [z] at hq3; cases hq3; exact ⟨Sm, am, z0, z3, z4, z5⟩
        obtain ⟨Sm, am, m0, m3, m4, m5⟩ := hTq
        have hm1 := hokM x.toNat Sm am (by omega) m0
        have hT50 := sy_T_at hA
        have hpN := m4.1.1.2.1
        refine yi_D_run 2 (23, [(3, .inr (.inr (some q4))), (0, .inr (.inr (some 10))), (1, .inl x), (2, .inl 1)], [.inl 1], (I, L, R, Y), 0, 0) (fun _ => rfl) ?_
        refine yi_D_if1 false rfl (by decide) ?_
        refine yi_D_run 1 (27, [(3, .inr (.inr (some q4))), (0, .inr (.inr (some 10))), (1, .inl x), (2, .inl 1)], [.inr (.inr (some q4))], (I, L, R, Y), 0, 0) (fun _ => rfl) ?_
        refine yi_D_nsx rfl ?_
        refine yi_D_run 1 (33, [(3, .inr (.inr (some q4))), (0, .inr (.inr (some 10))), (1, .inl x), (2, .inl 1)], [.inr (.inr (some 10))], (I, L, R, Y), 0, 0) (fun _ => rfl) ?_
        refine yi_D_gr (v := some 50) rfl rfl rfl (at_r hA (j := 6) rfl) (fun _ => ?_)
        refine yi_D_run 1 (37, [(3, .inr (.inr (some q4))), (0, .inr (.inr (some 10))), (1, .inl x), (2, .inl 1)], [.inr (.inr (some q4)), .inr (.inr (some 50))], (I, L, R, Y), 0, 0) (fun _ => rfl) ?_
        refine yi_D_callv rfl (p_storyCopy hT50 m4.1 (by omega)) ?_
        rintro _ ⟨I5, R6, rfl, hC7⟩
        have fin0 := sc_cp (R' := R6) (s := q4) hW hL hP ⟨hb.1, hb.2.1, hb.2.2.1, hm1.1, hm1.2.2.1⟩ m4 hC7 (fun _ _ _ => rfl) ⟨m5, hC7.1.2.2.2⟩
        show yi_D zi_Ms d zi_m165 k (40, [(3, .inr (.inr (some q4))), (0, .inr (.inr (some 10))), (1, .inl x), (2, .inl 1)], [], (I5, L, R6, Y), 0, 0) _
        refine yi_D_run 1 (41, [(3, .inr (.inr (some q4))), (0, .inr (.inr (some 10))), (1, .inl x), (2, .inl 1)], [.inr (.inr (some 10))], (I5, L, R6, Y), 0, 0) (fun _ => rfl) ?_
        refine yi_D_callv rfl (p_forgetPast fin0.1.1.1) ?_
        rintro _ ⟨I8, rfl, z19, z210, zf11⟩
        have zt := ca_10 (I' := I8) fin0.1 fin0.2.1 fin0.2.2.1 fin0.2.2.2.2 zf11
        have zp := ck_P_u (u' := 0) (ps' := 0) fin0.2.2.2.1 zt.1 zf11 z19 (by omega) z210 (by omega) (Or.inl rfl)
        show yi_D zi_Ms d zi_m165 k (44, [(3, .inr (.inr (some q4))), (0, .inr (.inr (some 10))), (1, .inl x), (2, .inl 1)], [], (I8, L, R6, Y), 0, 0) _
        refine yi_D_run 1 (45, [(3, .inr (.inr (some q4))), (0, .inr (.inr (some 10))), (1, .inl x), (2, .inl 1)], [.inr (.inr (some 10))], (I8, L, R6, Y), 0, 0) (fun _ => rfl) ?_
        refine yi_D_callv rfl (p_leftC zt.2.1 zt.2.2.1 zt.2.2.2.1 zp zt.2.2.2.2 hm1.1 hm1.2.2.2.1) ?_
        rintro _ ⟨I12, L13, R14, Y15, n16, m17, rfl, w18, l19, s20, p21, a22⟩
        show yi_D zi_Ms d zi_m165 k (48, [(3, .inr (.inr (some q4))), (0, .inr (.inr (some 10))), (1, .inl x), (2, .inl 1)], [], (I12, L13, R14, Y15), (0 + n16), (0 + m17)) _
        refine yi_D_run 1 (49, [(3, .inr (.inr (some q4))), (0, .inr (.inr (some 10))), (1, .inl x), (2, .inl 1)], [.inl 1], (I12, L13, R14, Y15), (0 + n16), (0 + m17)) (fun _ => rfl) ?_
        refine yi_D_reti rfl ?_
        exact Or.inr ⟨by omega, Sm, am, m0, _, _, _, _, _, _, rfl, w18, l19, s20, p21, a22⟩
    · refine yi_D_if2 false rfl (yi_lt_f h2) ?_
      refine yi_D_run 1 (14, [(0, .inr (.inr (some 10))), (1, .inl x), (2, .inl 1)], [.inl 0], (I, L, R, Y), 0, 0) (fun _ => rfl) ?_
      refine yi_D_reti rfl ?_
      refine Or.inl ⟨?_, rfl⟩
      rintro ⟨h1, Sm', am', h2⟩
      first
      | (omega)
      | (rw [m0] at h2; cases h2)
