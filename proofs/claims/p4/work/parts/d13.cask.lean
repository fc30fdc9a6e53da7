/-! What ask answers. -/
section YU
variable {Ms : List zi_M} {d : Nat} {M : zi_M} {k : Nat} {Q : yi_R → Prop} {pc n : Nat} {al : List (Nat × yi_V)} {st : List yi_V} {I L : Nat → Nat → Int} {R : Nat → Nat → Option Nat} {Y : (Nat → Nat) × (Nat → Nat) × Nat} {nc ns : Nat}
/-- a field of what is not known is set -/
theorem yi_D_pru {j ci f : Nat} {o : List Nat} {z w : Option Nat} (h1 : zi_lk2 pc M.2.2.2.2.1 = some (.putfield j, n, ci :: f :: o)) (hg : ∀ R2, yi_D Ms d M k (pc + n, al, st, (I, L, R2, Y), nc, ns) Q) : yi_D Ms d M k (pc, al, .inr (.inr w) :: .inr (.inr z) :: st, (I, L, R, Y), nc, ns) Q := by
  cases z with
  | none => exact yi_D_l1 (g := (pc, al, st, (I, L, R, Y), nc, ns)) (c := false) h1 rfl (fun _ => rfl) (fun h => by cases h)
  | some p => exact yi_D_pr h1 (fun R2 _ _ => hg R2)
/-- a byte of what is not known is set -/
theorem yi_D_bsu {o : List Nat} {z : Option Nat} {x v : Int} (h1 : zi_lk2 pc M.2.2.2.2.1 = some (.bastore, n, o)) (hg : ∀ I2, yi_D Ms d M k (pc + n, al, st, (I2, L, R, Y), nc, ns) Q) : yi_D Ms d M k (pc, al, .inl v :: .inl x :: .inr (.inr z) :: st, (I, L, R, Y), nc, ns) Q := by
  cases z with
  | none => exact yi_D_l1 (g := (pc, al, st, (I, L, R, Y), nc, ns)) (c := false) h1 rfl (fun _ => rfl) (fun h => by cases h)
  | some p => exact yi_D_bs h1 (fun _ _ => hg _)
end YU
theorem sp_s7 {K P V : Nat → Int} {a : Nat} {ld : Nat → Int} {nm : Int → Int} {cs : List (Int × Int)} : sp_step K P V (7, a, 0, [22], ld, nm, cs) = (if ¬ K a = 59 then .inr (sp_f P a 1) else if ¬ K (a + 1) = 0 then .inr (sp_f P (a + 1) 1) else .inr 0) := rfl
theorem p_rf0 {d : Nat} {I L : Nat → Nat → Int} {R : Nat → Nat → Option Nat} {Y : (Nat → Nat) × (Nat → Nat) × Nat} {K P V : Nat → Int} {te q : Nat} {ld : Nat → Int} {nm : Int → Int} (hW : cs_W I L R Y K P V te q ld nm) (hf : I 11 11 = 0) (hA : cs_A I L K te 0) : yi_P zi_Ms d 256 [.inr (.inr (some 11)), .inl 0] (I, L, R, Y) (fun r => (∃ I' L' a' cs', r = (none, (I', L', R, Y), 0, 0) ∧ cs_F I L I' L' ∧ sp_R K P V (3, 0, 0, [10, 22], ld, nm, []) (.inl (7, a', 0, [22], ld, nm, cs')) ∧ I' 11 11 = 0 ∧ cs_A I' L' K te a') ∨ (∃ I' L' f, r = (none, (I', L', R, Y), 0, 0) ∧ cs_F I L I' L' ∧ sp_R K P V (3, 0, 0, [10, 22], ld, nm, []) (.inr f) ∧ ¬ f = 0 ∧ I' 11 11 = f)) := (p_readFormula_z 0 [22] [] hW hf hA (by omega)).imp (fun r h => by
  obtain ⟨I', L', e, hF, ⟨a', cs', h1, -, h2, h3⟩ | ⟨f, h1, h2, h3⟩⟩ := h
  · exact Or.inl ⟨I', L', a', cs', e, hF, h1, h2, h3⟩
  · exact Or.inr ⟨I', L', f, e, hF, h1, h2, h3⟩)
theorem p_takeKind_e {d : Nat} {I L : Nat → Nat → Int} {R : Nat → Nat → Option Nat} {Y : (Nat → Nat) × (Nat → Nat) × Nat} {K P V : Nat → Int} {te q a : Nat} {ld : Nat → Int} {nm : Int → Int} (hW : cs_W I L R Y K P V te q ld nm) (hf : I 11 11 = 0) (hA : cs_A I L K te a) : yi_P zi_Ms d 268 [.inr (.inr (some 11)), .inl 0] (I, L, R, Y) (fun r => (K a = 0 ∧ ∃ I' L', r = (none, (I', L', R, Y), 0, 0) ∧ I' 11 11 = 0) ∨ (¬ K a = 0 ∧ ∃ I' L', r = (none, (I', L', R, Y), 0, 0) ∧ I' 11 11 = sp_f P a 1)) := by
  refine yi_P_of (M := zi_m268) rfl (fun d k => ?_)
  show yi_D zi_Ms d zi_m268 k (0, [(0, .inr (.inr (some 11))), (1, .inl 0)], [], (I, L, R, Y), 0, 0) _
  refine yi_D_run 1 (1, [(0, .inr (.inr (some 11))), (1, .inl 0)], [.inr (.inr (some 11))], (I, L, R, Y), 0, 0) (fun _ => rfl) ?_
  refine yi_D_gi (v := K a) rfl rfl rfl hA.2.2.1 (fun _ => ?_)
  refine yi_D_run 1 (5, [(0, .inr (.inr (some 11))), (1, .inl 0)], [.inl 0, .inl (K a)], (I, L, R, Y), 0, 0) (fun _ => rfl) ?_
  by_cases h1 : (K a) = 0
  · refine yi_D_if2 true rfl (yi_eq_t h1) ?_
    refine yi_D_run 1 (14, [(0, .inr (.inr (some 11))), (1, .inl 0)], [.inr (.inr (some 11))], (I, L, R, Y), 0, 0) (fun _ => rfl) ?_
    refine yi_D_callv rfl (p_advance_z hW hf hA) ?_
    rintro _ ⟨I2, L3, rfl, G4, f5, A6⟩
    show yi_D zi_Ms d zi_m268 k (17, [(0, .inr (.inr (some 11))), (1, .inl 0)], [], (I2, L3, R, Y), 0, 0) _
    refine yi_D_retv rfl ?_
    exact Or.inl ⟨by assumption, _, _, rfl, f5⟩
  · refine yi_D_if2 false rfl (yi_eq_f h1) ?_
    refine yi_D_run 2 (10, [(0, .inr (.inr (some 11))), (1, .inl 0)], [.inl 1, .inr (.inr (some 11))], (I, L, R, Y), 0, 0) (fun _ => rfl) ?_
    refine yi_D_callv rfl (p_wrong_z (by omega) hW hf hA) ?_
    rintro _ ⟨I7, rfl, fI8, e9⟩
    have W10 := cs_W_t hW (cs_G_F (show cs_G I L I7 L from ⟨fun p k h => fI8 p k (by omega), fun _ _ _ => rfl⟩))
    have n11 : ¬ I7 11 11 = 0 := by rw [e9]; exact sp_f_ne hW hA.2.1 (by omega)
    show yi_D zi_Ms d zi_m268 k (13, [(0, .inr (.inr (some 11))), (1, .inl 0)], [], (I7, L, R, Y), 0, 0) _
    refine yi_D_run 1 (14, [(0, .inr (.inr (some 11))), (1, .inl 0)], [.inr (.inr (some 11))], (I7, L, R, Y), 0, 0) (fun _ => rfl) ?_
    refine yi_D_callv rfl (p_advance_f W10 n11) ?_
    rintro _ rfl
    show yi_D zi_Ms d zi_m268 k (17, [(0, .inr (.inr (some 11))), (1, .inl 0)], [], (I7, L, R, Y), 0, 0) _
    refine yi_D_retv rfl ?_
    exact Or.inr ⟨by assumption, _, _, rfl, e9⟩
theorem p_readAsked {d : Nat} {I L : Nat → Nat → Int} {R : Nat → Nat → Option Nat} {Y : (Nat → Nat) × (Nat → Nat) × Nat} {K P V : Nat → Int} {te q : Nat} {ld : Nat → Int} {nm : Int → Int} (hS : cs_S R Y) (hT : cs_T I L K P V te) (hq : lq_C q ld nm I L R Y) (h20 : 20 ≤ q) : yi_P zi_Ms d 252 [.inr (.inr (some 11)), .inr (.inr (some q))] (I, L, R, Y) (fun r => ∃ f I' L' R', r = (some (.inl f), (I', L', R', Y), 0, 0) ∧ sp_R K P V (3, 0, 0, [10, 22], ld, nm, []) (.inr f) ∧ ∀ p k, ¬ (p = 11 ∧ k = 6) → R' p k = R p k) := by
  refine yi_P_of (M := zi_m252) rfl (fun d k => ?_)
  show yi_D zi_Ms d zi_m252 k (0, [(0, .inr (.inr (some 11))), (1, .inr (.inr (some q)))], [], (I, L, R, Y), 0, 0) _
  refine yi_D_run 2 (2, [(0, .inr (.inr (some 11))), (1, .inr (.inr (some q)))], [.inr (.inr (some q)), .inr (.inr (some 11))], (I, L, R, Y), 0, 0) (fun _ => rfl) ?_
  refine yi_D_callv rfl (p_begin ⟨hS, hT⟩) ?_
  rintro _ ⟨I1, L2, R3, rfl, f4, A5, fr6, r67, fR8⟩
  have hq1 := lq_C_t (I' := I1) (L' := L2) (R' := R3) (Y' := Y) hq (fun p k h1 h2 => ⟨(fr6 p k (by omega)).1, (fr6 p k (by omega)).2, fR8 p k (by omega)⟩) (fun _ _ => rfl) (Nat.le_refl _)
  obtain ⟨R2, e2, hc2⟩ := hq1
  have hR2 : R2 = R3 := by
      funext p k
      by_cases c : p = 11 ∧ k = 6
      · rw [c.1, c.2, hc2.1.2.1, r67]
      · exact e2 p k c
  rw [hR2] at hc2
  have hW : cs_W I1 L2 R3 Y K P V te q ld nm := ⟨cs_S_r hS fR8, cs_T_11 hT (fun p k h => (fr6 p k h).1) (fun p k h => (fr6 p k h).2), hc2⟩
  show yi_D zi_Ms d zi_m252 k (5, [(0, .inr (.inr (some 11))), (1, .inr (.inr (some q)))], [], (I1, L2, R3, Y), 0, 0) _
  refine yi_D_run 2 (7, [(0, .inr (.inr (some 11))), (1, .inr (.inr (some q)))], [.inl 0, .inr (.inr (some 11))], (I1, L2, R3, Y), 0, 0) (fun _ => rfl) ?_
  refine yi_D_callv rfl (p_rf0 hW f4 A5) ?_
  rintro _ (⟨I9, L10, a11, cs12, rfl, F13, sp14, f15, A16⟩ | ⟨I17, L18, g19, rfl, F20, sp21, n22, f23⟩)
  · have hW2 := cs_W_t hW F13
    show yi_D zi_Ms d zi_m252 k (10, [(0, .inr (.inr (some 11))), (1, .inr (.inr (some q)))], [], (I9, L10, R3, Y), 0, 0) _
    refine yi_D_run 2 (13, [(0, .inr (.inr (some 11))), (1, .inr (.inr (some q)))], [.inl 59, .inr (.inr (some 11))], (I9, L10, R3, Y), 0, 0) (fun _ => rfl) ?_
    refine yi_D_callv rfl (p_takeKind_z (by omega) hW2 f15 A16) ?_
    rintro _ (⟨k25, I26, L27, rfl, G28, f29, A30⟩ | ⟨k31, I32, L33, rfl, G34, f35⟩)
    · have hW3 := cs_W_t hW2 (cs_G_F G28)
      show yi_D zi_Ms d zi_m252 k (16, [(0, .inr (.inr (some 11))), (1, .inr (.inr (some q)))], [], (I26, L27, R3, Y), 0, 0) _
      refine yi_D_run 2 (18, [(0, .inr (.inr (some 11))), (1, .inr (.inr (some q)))], [.inl 0, .inr (.inr (some 11))], (I26, L27, R3, Y), 0, 0) (fun _ => rfl) ?_
      refine yi_D_callv rfl (p_takeKind_e hW3 f29 A30) ?_
      rintro _ (⟨k37, I38, L39, rfl, f40⟩ | ⟨k41, I42, L43, rfl, f44⟩)
      · show yi_D zi_Ms d zi_m252 k (21, [(0, .inr (.inr (some 11))), (1, .inr (.inr (some q)))], [], (I38, L39, R3, Y), 0, 0) _
        refine yi_D_run 1 (22, [(0, .inr (.inr (some 11))), (1, .inr (.inr (some q)))], [.inr (.inr (some 11))], (I38, L39, R3, Y), 0, 0) (fun _ => rfl) ?_
        refine yi_D_gi (v := I38 11 11) rfl rfl rfl rfl (fun _ => ?_)
        refine yi_D_reti rfl ?_
        refine ⟨_, _, _, _, rfl, ?_, fR8⟩
        rw [f40]
        exact sp_R_s sp14 (by rw [sp_s7, if_neg (by omega), if_neg (by omega)])
      · show yi_D zi_Ms d zi_m252 k (21, [(0, .inr (.inr (some 11))), (1, .inr (.inr (some q)))], [], (I42, L43, R3, Y), 0, 0) _
        refine yi_D_run 1 (22, [(0, .inr (.inr (some 11))), (1, .inr (.inr (some q)))], [.inr (.inr (some 11))], (I42, L43, R3, Y), 0, 0) (fun _ => rfl) ?_
        refine yi_D_gi (v := I42 11 11) rfl rfl rfl rfl (fun _ => ?_)
        refine yi_D_reti rfl ?_
        refine ⟨_, _, _, _, rfl, ?_, fR8⟩
        rw [f44]
        exact sp_R_s sp14 (by rw [sp_s7, if_neg (by omega), if_pos (by assumption)])
    · have hW3 := cs_W_t hW2 (cs_G_F G34)
      have nz36 : ¬ I32 11 11 = 0 := by rw [f35]; exact sp_f_ne hW2 A16.2.1 (by omega)
      show yi_D zi_Ms d zi_m252 k (16, [(0, .inr (.inr (some 11))), (1, .inr (.inr (some q)))], [], (I32, L33, R3, Y), 0, 0) _
      refine yi_D_run 2 (18, [(0, .inr (.inr (some 11))), (1, .inr (.inr (some q)))], [.inl 0, .inr (.inr (some 11))], (I32, L33, R3, Y), 0, 0) (fun _ => rfl) ?_
      refine yi_D_callv rfl (p_takeKind_f hW3 nz36) ?_
      rintro _ rfl
      show yi_D zi_Ms d zi_m252 k (21, [(0, .inr (.inr (some 11))), (1, .inr (.inr (some q)))], [], (I32, L33, R3, Y), 0, 0) _
      refine yi_D_run 1 (22, [(0, .inr (.inr (some 11))), (1, .inr (.inr (some q)))], [.inr (.inr (some 11))], (I32, L33, R3, Y), 0, 0) (fun _ => rfl) ?_
      refine yi_D_gi (v := I32 11 11) rfl rfl rfl rfl (fun _ => ?_)
      refine yi_D_reti rfl ?_
      refine ⟨_, _, _, _, rfl, ?_, fR8⟩
      rw [f35]
      exact sp_R_s sp14 (by rw [sp_s7, if_pos (by assumption)])
  · have hW2 := cs_W_t hW F20
    have nz24 : ¬ I17 11 11 = 0 := by rw [f23]; exact n22
    show yi_D zi_Ms d zi_m252 k (10, [(0, .inr (.inr (some 11))), (1, .inr (.inr (some q)))], [], (I17, L18, R3, Y), 0, 0) _
    refine yi_D_run 2 (13, [(0, .inr (.inr (some 11))), (1, .inr (.inr (some q)))], [.inl 59, .inr (.inr (some 11))], (I17, L18, R3, Y), 0, 0) (fun _ => rfl) ?_
    refine yi_D_callv rfl (p_takeKind_f hW2 nz24) ?_
    rintro _ rfl
    show yi_D zi_Ms d zi_m252 k (16, [(0, .inr (.inr (some 11))), (1, .inr (.inr (some q)))], [], (I17, L18, R3, Y), 0, 0) _
    refine yi_D_run 2 (18, [(0, .inr (.inr (some 11))), (1, .inr (.inr (some q)))], [.inl 0, .inr (.inr (some 11))], (I17, L18, R3, Y), 0, 0) (fun _ => rfl) ?_
    refine yi_D_callv rfl (p_takeKind_f hW2 nz24) ?_
    rintro _ rfl
    show yi_D zi_Ms d zi_m252 k (21, [(0, .inr (.inr (some 11))), (1, .inr (.inr (some q)))], [], (I17, L18, R3, Y), 0, 0) _
    refine yi_D_run 1 (22, [(0, .inr (.inr (some 11))), (1, .inr (.inr (some q)))], [.inr (.inr (some 11))], (I17, L18, R3, Y), 0, 0) (fun _ => rfl) ?_
    refine yi_D_gi (v := I17 11 11) rfl rfl rfl rfl (fun _ => ?_)
    refine yi_D_reti rfl ?_
    refine ⟨_, _, _, _, rfl, ?_, fR8⟩
    rw [f23]
    exact sp21
theorem p_copyOutS {d : Nat} {I L : Nat → Nat → Int} {R : Nat → Nat → Option Nat} {Y : (Nat → Nat) × (Nat → Nat) × Nat} {p : Nat} : yi_P zi_Ms d 201 [.inr (.inr (some p))] (I, L, R, Y) (fun r => ∃ w H n m, r = (some (.inr (.inr w)), H, n, m)) := by
  refine yi_P_of (M := zi_m201) rfl (fun d k => ?_)
  show yi_D zi_Ms d zi_m201 k (0, [(0, .inr (.inr (some p)))], [], (I, L, R, Y), 0, 0) _
  refine yi_D_new3 rfl (fun q1 I2 L3 R4 Y5 m6 mk7 mn8 ml9 my10 => ?_)
  obtain ⟨k11, k12, k13, k14, k15, k16⟩ := mk7
  have q1q : q1 = Y.2.2 := k11
  have q1n := k16
  refine yi_D_run 1 (4, [(0, .inr (.inr (some p)))], [.inr (.inr (some q1)), .inr (.inr (some q1))], (I2, L3, R4, Y5), (0 + 1), m6) (fun _ => rfl) ?_
  refine yi_D_callp rfl rfl (yi_P_void (M := zi_m195) rfl rfl) ?_
  rintro _ ⟨I17, L18, R19, Y20, n21, m22, rfl⟩
  show yi_D zi_Ms d zi_m201 k (7, [(0, .inr (.inr (some p)))], [.inr (.inr (some q1))], (I17, L18, R19, Y20), ((0 + 1) + n21), (m6 + m22)) _
  refine yi_D_run 3 (10, [(1, .inr (.inr (some q1))), (0, .inr (.inr (some p)))], [.inr (.inr (some p)), .inr (.inr (some q1))], (I17, L18, R19, Y20), ((0 + 1) + n21), (m6 + m22)) (fun _ => rfl) ?_
  refine yi_D_callv rfl (yi_P_void (M := zi_m200) rfl rfl) ?_
  rintro _ ⟨I23, L24, R25, Y26, n27, m28, rfl⟩
  show yi_D zi_Ms d zi_m201 k (13, [(1, .inr (.inr (some q1))), (0, .inr (.inr (some p)))], [], (I23, L24, R25, Y26), (((0 + 1) + n21) + n27), ((m6 + m22) + m28)) _
  refine yi_D_run 1 (14, [(1, .inr (.inr (some q1))), (0, .inr (.inr (some p)))], [.inr (.inr (some q1))], (I23, L24, R25, Y26), (((0 + 1) + n21) + n27), ((m6 + m22) + m28)) (fun _ => rfl) ?_
  refine yi_D_reta rfl ?_
  exact ⟨_, _, _, _, rfl⟩
theorem p_copyOutN {d : Nat} {I L : Nat → Nat → Int} {R : Nat → Nat → Option Nat} {Y : (Nat → Nat) × (Nat → Nat) × Nat} : yi_P zi_Ms d 201 [.inr (.inr none)] (I, L, R, Y) (fun r => ∃ w H n m, r = (some (.inr (.inr w)), H, n, m)) := by
  refine yi_P_of (M := zi_m201) rfl (fun d k => ?_)
  show yi_D zi_Ms d zi_m201 k (0, [(0, .inr (.inr none))], [], (I, L, R, Y), 0, 0) _
  refine yi_D_new3 rfl (fun q1 I2 L3 R4 Y5 m6 mk7 mn8 ml9 my10 => ?_)
  obtain ⟨k11, k12, k13, k14, k15, k16⟩ := mk7
  have q1q : q1 = Y.2.2 := k11
  have q1n := k16
  refine yi_D_run 1 (4, [(0, .inr (.inr none))], [.inr (.inr (some q1)), .inr (.inr (some q1))], (I2, L3, R4, Y5), (0 + 1), m6) (fun _ => rfl) ?_
  refine yi_D_callp rfl rfl (yi_P_void (M := zi_m195) rfl rfl) ?_
  rintro _ ⟨I17, L18, R19, Y20, n21, m22, rfl⟩
  show yi_D zi_Ms d zi_m201 k (7, [(0, .inr (.inr none))], [.inr (.inr (some q1))], (I17, L18, R19, Y20), ((0 + 1) + n21), (m6 + m22)) _
  refine yi_D_run 3 (10, [(1, .inr (.inr (some q1))), (0, .inr (.inr none))], [.inr (.inr none), .inr (.inr (some q1))], (I17, L18, R19, Y20), ((0 + 1) + n21), (m6 + m22)) (fun _ => rfl) ?_
  refine yi_D_callv rfl (yi_P_void (M := zi_m200) rfl rfl) ?_
  rintro _ ⟨I23, L24, R25, Y26, n27, m28, rfl⟩
  show yi_D zi_Ms d zi_m201 k (13, [(1, .inr (.inr (some q1))), (0, .inr (.inr none))], [], (I23, L24, R25, Y26), (((0 + 1) + n21) + n27), ((m6 + m22) + m28)) _
  refine yi_D_run 1 (14, [(1, .inr (.inr (some q1))), (0, .inr (.inr none))], [.inr (.inr (some q1))], (I23, L24, R25, Y26), (((0 + 1) + n21) + n27), ((m6 + m22) + m28)) (fun _ => rfl) ?_
  refine yi_D_reta rfl ?_
  exact ⟨_, _, _, _, rfl⟩
theorem p_copyOutW {d : Nat} {I L : Nat → Nat → Int} {R : Nat → Nat → Option Nat} {Y : (Nat → Nat) × (Nat → Nat) × Nat} {z : Option Nat} : yi_P zi_Ms d 201 [.inr (.inr z)] (I, L, R, Y) (fun r => ∃ w H n m, r = (some (.inr (.inr w)), H, n, m)) := by
  cases z with
  | none => exact p_copyOutN
  | some p => exact p_copyOutS
theorem p_ask {d : Nat} {I L : Nat → Nat → Int} {R : Nat → Nat → Option Nat} {Y : (Nat → Nat) × (Nat → Nat) × Nat} {s : Nat → Int} {n q : Nat} {ld : Nat → Int} {nm : Int → Int} (hX : cs_S R Y ∧ True) (hR : R 10 0 = some 11 ∧ R 10 1 = some 12) (hR16 : R 10 16 = some q) (hq : lq_C q ld nm I L R Y) (h20 : 20 ≤ q) (hn : n ≤ 1000) (h5 : I 12 5 = (n : Int)) (hs : ∀ i, i < n → I 13 i = s i) (hb : ∀ i, i < n → 0 ≤ s i ∧ s i ≤ 127) (hk : ∀ j : Nat, j < 29 → sp_WR (L 17 j) (sp_W37.getD j 0)) (hw18 : L 18 0 = 72564293 ∧ L 18 1 = 1265842 ∧ L 18 2 = 671108) : yi_P zi_Ms d 139 [.inr (.inr (some 10))] (I, L, R, Y) (fun r => ∃ f H n' m', r = (some (.inl f), H, n', m') ∧ sp_R (tk_Ks s n) (tk_Ps s n) (tk_Vs s n) (3, 0, 0, [10, 22], ld, nm, []) (.inr f)) := by
  refine yi_P_of (M := zi_m139) rfl (fun d k => ?_)
  show yi_D zi_Ms d zi_m139 k (0, [(0, .inr (.inr (some 10)))], [], (I, L, R, Y), 0, 0) _
  refine yi_D_run 1 (1, [(0, .inr (.inr (some 10)))], [.inr (.inr (some 10))], (I, L, R, Y), 0, 0) (fun _ => rfl) ?_
  refine yi_D_gr (v := some 12) rfl rfl rfl hR.2 (fun _ => ?_)
  refine yi_D_callv rfl (p_cut hX hn h5 hs hb hk hw18) ?_
  rintro _ ⟨I1, L2, rfl, hT3, h54, fI5, fL6⟩
  have hq1 := lq_C_t (I' := I1) (L' := L2) (R' := R) (Y' := Y) hq (fun p k h1 h2 => ⟨fI5 p k (by omega), fL6 p k (by omega), rfl⟩) (fun _ _ => rfl) (Nat.le_refl _)
  show yi_D zi_Ms d zi_m139 k (7, [(0, .inr (.inr (some 10)))], [], (I1, L2, R, Y), 0, 0) _
  refine yi_D_run 1 (8, [(0, .inr (.inr (some 10)))], [.inr (.inr (some 10))], (I1, L2, R, Y), 0, 0) (fun _ => rfl) ?_
  refine yi_D_gr (v := some 11) rfl rfl rfl hR.1 (fun _ => ?_)
  refine yi_D_run 1 (12, [(0, .inr (.inr (some 10)))], [.inr (.inr (some 10)), .inr (.inr (some 11))], (I1, L2, R, Y), 0, 0) (fun _ => rfl) ?_
  refine yi_D_gr (v := some q) rfl rfl rfl hR16 (fun _ => ?_)
  refine yi_D_callv rfl (p_readAsked hX.1 hT3 hq1 h20) ?_
  rintro _ ⟨f7, I8, L9, R10, rfl, sp11, fR12⟩
  show yi_D zi_Ms d zi_m139 k (18, [(0, .inr (.inr (some 10)))], [.inl f7], (I8, L9, R10, Y), 0, 0) _
  refine yi_D_run 2 (20, [(1, .inl f7), (0, .inr (.inr (some 10)))], [.inl f7], (I8, L9, R10, Y), 0, 0) (fun _ => rfl) ?_
  by_cases h13 : f7 = 0
  · refine yi_D_if1 true rfl (yi_eq_t h13) ?_
    refine yi_D_run 1 (26, [(1, .inl f7), (0, .inr (.inr (some 10)))], [.inr (.inr (some 10))], (I8, L9, R10, Y), 0, 0) (fun _ => rfl) ?_
    have r14 : R10 10 2 = R 10 2 := by rw [fR12 10 2 (by omega)]
    refine yi_D_gr (v := R 10 2) rfl rfl rfl r14 (fun _ => ?_)
    refine yi_D_run 1 (30, [(1, .inl f7), (0, .inr (.inr (some 10)))], [.inr (.inr (some 10)), .inr (.inr (R 10 2))], (I8, L9, R10, Y), 0, 0) (fun _ => rfl) ?_
    have r15 : R10 10 0 = some 11 := by rw [fR12 10 0 (by omega), hR.1]
    refine yi_D_gr (v := some 11) rfl rfl rfl r15 (fun _ => ?_)
    refine yi_D_gr (v := R10 11 2) rfl rfl rfl rfl (fun _ => ?_)
    refine yi_D_run 2 (38, [(1, .inl f7), (0, .inr (.inr (some 10)))], [.inr (.inr (some 10)), .inl 0, .inr (.inr (R10 11 2)), .inr (.inr (R 10 2))], (I8, L9, R10, Y), 0, 0) (fun _ => rfl) ?_
    have r16 : R10 10 0 = some 11 := by rw [fR12 10 0 (by omega), hR.1]
    refine yi_D_gr (v := some 11) rfl rfl rfl r16 (fun _ => ?_)
    refine yi_D_gi (v := I8 11 3) rfl rfl rfl rfl (fun _ => ?_)
    refine yi_D_run 1 (45, [(1, .inl f7), (0, .inr (.inr (some 10)))], [.inr (.inr (some 10)), .inl (I8 11 3), .inl 0, .inr (.inr (R10 11 2)), .inr (.inr (R 10 2))], (I8, L9, R10, Y), 0, 0) (fun _ => rfl) ?_
    have r17 : R10 10 10 = R 10 10 := by rw [fR12 10 10 (by omega)]
    refine yi_D_gr (v := R 10 10) rfl rfl rfl r17 (fun _ => ?_)
    refine yi_D_callv rfl (yi_P_void (M := zi_m309) rfl rfl) ?_
    rintro _ ⟨I18, L19, R20, Y21, n22, m23, rfl⟩
    show yi_D zi_Ms d zi_m139 k (51, [(1, .inl f7), (0, .inr (.inr (some 10)))], [], (I18, L19, R20, Y21), (0 + n22), (0 + m23)) _
    refine yi_D_run 1 (52, [(1, .inl f7), (0, .inr (.inr (some 10)))], [.inr (.inr (some 10))], (I18, L19, R20, Y21), (0 + n22), (0 + m23)) (fun _ => rfl) ?_
    refine yi_D_gr (v := R20 10 6) rfl rfl rfl rfl (fun _ => ?_)
    refine yi_D_run 1 (56, [(1, .inl f7), (0, .inr (.inr (some 10)))], [.inr (.inr (some 10)), .inr (.inr (R20 10 6))], (I18, L19, R20, Y21), (0 + n22), (0 + m23)) (fun _ => rfl) ?_
    refine yi_D_gr (v := R20 10 10) rfl rfl rfl rfl (fun _ => ?_)
    refine yi_D_callv rfl (p_copyOutW) ?_
    rintro _ ⟨w24, ⟨I25, L26, R27, Y28⟩, n29, m30, rfl⟩
    show yi_D zi_Ms d zi_m139 k (62, [(1, .inl f7), (0, .inr (.inr (some 10)))], [.inr (.inr w24), .inr (.inr (R20 10 6))], (I25, L26, R27, Y28), ((0 + n22) + n29), ((0 + m23) + m30)) _
    refine yi_D_pru rfl (fun R31 => ?_)
    refine yi_D_run 1 (66, [(1, .inl f7), (0, .inr (.inr (some 10)))], [.inl 0], (I25, L26, R31, Y28), ((0 + n22) + n29), ((0 + m23) + m30)) (fun _ => rfl) ?_
    refine yi_D_reti rfl ?_
    exact ⟨_, _, _, _, rfl, (show f7 = 0 by omega) ▸ sp11⟩
  · refine yi_D_if1 false rfl (yi_eq_f h13) ?_
    refine yi_D_run 1 (24, [(1, .inl f7), (0, .inr (.inr (some 10)))], [.inl f7], (I8, L9, R10, Y), 0, 0) (fun _ => rfl) ?_
    refine yi_D_reti rfl ?_
    exact ⟨_, _, _, _, rfl, sp11⟩
