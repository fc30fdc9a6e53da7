/-! The class reader: clauses. -/
/-- what codes, and marks of the reader, leave -/
def cs_E (I I' : Nat → Nat → Int) : Prop := ∀ p k, p ≠ 19 → ¬ (p = 11 ∧ (k = 3 ∨ k = 4 ∨ k = 5 ∨ k = 7)) → I' p k = I p k
theorem cs_E_F {I L I' : Nat → Nat → Int} (h : cs_E I I') : cs_F I L I' L := ⟨fun p k a b => h p k b (by omega), fun _ _ _ => rfl⟩
theorem cs_E_r (I : Nat → Nat → Int) : cs_E I I := fun _ _ _ _ => rfl
theorem cs_A_e {I L I' : Nat → Nat → Int} {K : Nat → Int} {te a : Nat} (h : cs_A I L K te a) (e : cs_E I I') : cs_A I' L K te a := by
  obtain ⟨h1, h2, h3, h4⟩ := h
  exact ⟨(e 11 8 (by omega) (by omega)).trans h1, h2, (e 11 9 (by omega) (by omega)).trans h3, h4⟩
theorem cs_N_v {L : Nat → Nat → Int} {p : Nat} {nm : Int → Int} {n lo hi v v' : Int} (h : cs_N L p n nm lo hi) (h1 : lo ≤ nm v ∧ nm v ≤ hi) (e : nm v' = nm v) : v' = v := by
  have a := (h.2.2 v h1.1 h1.2).2
  have b := (h.2.2 v' (by omega) (by omega)).2
  rw [e] at b
  exact sp_WR_v b a
theorem p_emit {d : Nat} {I L : Nat → Nat → Int} {R : Nat → Nat → Option Nat} {Y : (Nat → Nat) × (Nat → Nat) × Nat} {w : Int} {K P V : Nat → Int} {te q : Nat} {ld : Nat → Int} {nm : Int → Int} (hW : cs_W I L R Y K P V te q ld nm) : yi_P zi_Ms d 249 [.inr (.inr (some 11)), .inl w] (I, L, R, Y) (fun r => ∃ I', r = (none, (I', L, R, Y), 0, 0) ∧ cs_E I I') := by
  refine yi_P_of (M := zi_m249) rfl (fun d k => ?_)
  show yi_D zi_Ms d zi_m249 k (0, [(0, .inr (.inr (some 11))), (1, .inl w)], [], (I, L, R, Y), 0, 0) _
  refine yi_D_run 1 (1, [(0, .inr (.inr (some 11))), (1, .inl w)], [.inr (.inr (some 11))], (I, L, R, Y), 0, 0) (fun _ => rfl) ?_
  refine yi_D_gi (v := I 11 11) rfl rfl rfl rfl (fun _ => ?_)
  by_cases h1 : (I 11 11) = 0
  · refine yi_D_if1 false rfl (yi_ne_f h1) ?_
    refine yi_D_run 1 (8, [(0, .inr (.inr (some 11))), (1, .inl w)], [.inr (.inr (some 11))], (I, L, R, Y), 0, 0) (fun _ => rfl) ?_
    refine yi_D_gi (v := I 11 3) rfl rfl rfl rfl (fun _ => ?_)
    refine yi_D_run 1 (12, [(0, .inr (.inr (some 11))), (1, .inl w)], [.inr (.inr (some 11)), .inl (I 11 3)], (I, L, R, Y), 0, 0) (fun _ => rfl) ?_
    refine yi_D_gr (v := some 19) rfl rfl rfl hW.1.1.2.2 (fun _ => ?_)
    refine yi_D_len (v := 1002) rfl rfl (by rw [hW.1.2.2.2.2.2.2.2.2]; rfl) ?_
    by_cases h2 : 1002 ≤ (I 11 3)
    · refine yi_D_if2 true rfl (yi_ge_t h2) ?_
      refine yi_D_retv rfl ?_
      exact ⟨_, rfl, cs_E_r _⟩
    · refine yi_D_if2 false rfl (yi_ge_f h2) ?_
      refine yi_D_run 1 (20, [(0, .inr (.inr (some 11))), (1, .inl w)], [.inr (.inr (some 11))], (I, L, R, Y), 0, 0) (fun _ => rfl) ?_
      refine yi_D_gr (v := some 19) rfl rfl rfl hW.1.1.2.2 (fun _ => ?_)
      refine yi_D_run 1 (24, [(0, .inr (.inr (some 11))), (1, .inl w)], [.inr (.inr (some 11)), .inr (.inr (some 19))], (I, L, R, Y), 0, 0) (fun _ => rfl) ?_
      refine yi_D_gi (v := I 11 3) rfl rfl rfl rfl (fun _ => ?_)
      refine yi_D_run 1 (28, [(0, .inr (.inr (some 11))), (1, .inl w)], [.inl w, .inl (I 11 3), .inr (.inr (some 19))], (I, L, R, Y), 0, 0) (fun _ => rfl) ?_
      refine yi_D_is rfl (fun _ _ => ?_)
      generalize w4 : yi_u I 19 ((I 11 3).toNat) w = I3
      refine yi_D_run 2 (31, [(0, .inr (.inr (some 11))), (1, .inl w)], [.inr (.inr (some 11)), .inr (.inr (some 11))], (I3, L, R, Y), 0, 0) (fun _ => rfl) ?_
      have r5 : I3 11 3 = I 11 3 := by rw [← w4, yi_u_ne _ _ (by omega)]
      refine yi_D_gi (v := I 11 3) rfl rfl rfl r5 (fun _ => ?_)
      refine yi_D_run 2 (36, [(0, .inr (.inr (some 11))), (1, .inl w)], [.inl (yi_w ((I 11 3) + 1)), .inr (.inr (some 11))], (I3, L, R, Y), 0, 0) (fun _ => rfl) ?_
      refine yi_D_pi rfl (fun _ => ?_)
      generalize w7 : yi_u I3 11 3 (yi_w ((I 11 3) + 1)) = I6
      refine yi_D_retv rfl ?_
      exact ⟨_, rfl, fun p k hp0 hp1 => by rw [← w7, yi_u_ne _ _ (by omega), ← w4, yi_u_ne _ _ (by omega)]⟩
  · refine yi_D_if1 true rfl (yi_ne_t h1) ?_
    refine yi_D_retv rfl ?_
    exact ⟨_, rfl, cs_E_r _⟩
theorem p_clauseCode {d : Nat} {I L : Nat → Nat → Int} {R : Nat → Nat → Option Nat} {Y : (Nat → Nat) × (Nat → Nat) × Nat} {x0 x1 x2 x3 x4 : Int} : yi_P zi_Ms d 143 [.inl x0, .inl x1, .inl x2, .inl x3, .inl x4] (I, L, R, Y) (fun r => ∃ z, r = (some (.inl z), (I, L, R, Y), 0, 0)) := by
  refine yi_P_of (M := zi_m143) rfl (fun d k => ?_)
  show yi_D zi_Ms d zi_m143 k (0, [(0, .inl x0), (1, .inl x1), (2, .inl x2), (3, .inl x3), (4, .inl x4)], [], (I, L, R, Y), 0, 0) _
  refine yi_D_run 14 (17, [(0, .inl x0), (1, .inl x1), (2, .inl x2), (3, .inl x3), (4, .inl x4)], [.inl x4, .inl (yi_ior (yi_ior (yi_ior x0 (yi_shl x1 4)) (yi_shl x2 8)) (yi_shl x3 12))], (I, L, R, Y), 0, 0) (fun _ => rfl) ?_
  refine yi_D_run 3 (21, [(0, .inl x0), (1, .inl x1), (2, .inl x2), (3, .inl x3), (4, .inl x4)], [.inl (yi_ior (yi_ior (yi_ior (yi_ior x0 (yi_shl x1 4)) (yi_shl x2 8)) (yi_shl x3 12)) (yi_shl x4 16))], (I, L, R, Y), 0, 0) (fun _ => rfl) ?_
  refine yi_D_reti rfl ?_
  exact ⟨_, rfl⟩
theorem p_emitWhen {d : Nat} {I L : Nat → Nat → Int} {R : Nat → Nat → Option Nat} {Y : (Nat → Nat) × (Nat → Nat) × Nat} {w x y z : Int} {K P V : Nat → Int} {te q : Nat} {ld : Nat → Int} {nm : Int → Int} (hW : cs_W I L R Y K P V te q ld nm) : yi_P zi_Ms d 250 [.inr (.inr (some 11)), .inl w, .inl x, .inl y, .inl z] (I, L, R, Y) (fun r => ∃ I', r = (none, (I', L, R, Y), 0, 0) ∧ cs_E I I') := by
  refine yi_P_of (M := zi_m250) rfl (fun d k => ?_)
  have hq0 := hW.2.2.1.1
  show yi_D zi_Ms d zi_m250 k (0, [(0, .inr (.inr (some 11))), (1, .inl w), (2, .inl x), (3, .inl y), (4, .inl z)], [], (I, L, R, Y), 0, 0) _
  refine yi_D_run 2 (3, [(0, .inr (.inr (some 11))), (1, .inl w), (2, .inl x), (3, .inl y), (4, .inl z)], [.inl 23, .inl w], (I, L, R, Y), 0, 0) (fun _ => rfl) ?_
  by_cases h1 : w = 23
  · refine yi_D_if2 true rfl (yi_eq_t h1) ?_
    refine yi_D_run 6 (25, [(0, .inr (.inr (some 11))), (1, .inl w), (2, .inl x), (3, .inl y), (4, .inl z)], [.inl 23, .inl w, .inl y, .inl x, .inl 5, .inr (.inr (some 11))], (I, L, R, Y), 0, 0) (fun _ => rfl) ?_
    have h2 : w = 23 := by omega
    refine yi_D_if2 false rfl (yi_ne_f h2) ?_
    refine yi_D_run 3 (36, [(0, .inr (.inr (some 11))), (1, .inl w), (2, .inl x), (3, .inl y), (4, .inl z)], [.inl z, .inl z, .inl y, .inl x, .inl 5, .inr (.inr (some 11))], (I, L, R, Y), 0, 0) (fun _ => rfl) ?_
    refine yi_D_calls rfl (p_clauseCode) ?_
    rintro _ ⟨z3, rfl⟩
    show yi_D zi_Ms d zi_m250 k (39, [(0, .inr (.inr (some 11))), (1, .inl w), (2, .inl x), (3, .inl y), (4, .inl z)], [.inl z3, .inr (.inr (some 11))], (I, L, R, Y), 0, 0) _
    refine yi_D_callv rfl (p_emit hW) ?_
    rintro _ ⟨I4, rfl, hE5⟩
    show yi_D zi_Ms d zi_m250 k (42, [(0, .inr (.inr (some 11))), (1, .inl w), (2, .inl x), (3, .inl y), (4, .inl z)], [], (I4, L, R, Y), 0, 0) _
    refine yi_D_retv rfl ?_
    exact ⟨_, rfl, hE5⟩
  · refine yi_D_if2 false rfl (yi_eq_f h1) ?_
    refine yi_D_run 2 (9, [(0, .inr (.inr (some 11))), (1, .inl w), (2, .inl x), (3, .inl y), (4, .inl z)], [.inl 24, .inl w], (I, L, R, Y), 0, 0) (fun _ => rfl) ?_
    by_cases h6 : w = 24
    · refine yi_D_if2 true rfl (yi_eq_t h6) ?_
      refine yi_D_run 6 (25, [(0, .inr (.inr (some 11))), (1, .inl w), (2, .inl x), (3, .inl y), (4, .inl z)], [.inl 23, .inl w, .inl y, .inl x, .inl 5, .inr (.inr (some 11))], (I, L, R, Y), 0, 0) (fun _ => rfl) ?_
      have h7 : ¬ (w = 23) := by omega
      refine yi_D_if2 true rfl (yi_ne_t h7) ?_
      refine yi_D_run 2 (36, [(0, .inr (.inr (some 11))), (1, .inl w), (2, .inl x), (3, .inl y), (4, .inl z)], [.inl z, .inl 0, .inl y, .inl x, .inl 5, .inr (.inr (some 11))], (I, L, R, Y), 0, 0) (fun _ => rfl) ?_
      refine yi_D_calls rfl (p_clauseCode) ?_
      rintro _ ⟨z8, rfl⟩
      show yi_D zi_Ms d zi_m250 k (39, [(0, .inr (.inr (some 11))), (1, .inl w), (2, .inl x), (3, .inl y), (4, .inl z)], [.inl z8, .inr (.inr (some 11))], (I, L, R, Y), 0, 0) _
      refine yi_D_callv rfl (p_emit hW) ?_
      rintro _ ⟨I9, rfl, hE10⟩
      show yi_D zi_Ms d zi_m250 k (42, [(0, .inr (.inr (some 11))), (1, .inl w), (2, .inl x), (3, .inl y), (4, .inl z)], [], (I9, L, R, Y), 0, 0) _
      refine yi_D_retv rfl ?_
      exact ⟨_, rfl, hE10⟩
    · refine yi_D_if2 false rfl (yi_eq_f h6) ?_
      refine yi_D_run 2 (15, [(0, .inr (.inr (some 11))), (1, .inl w), (2, .inl x), (3, .inl y), (4, .inl z)], [.inl 22, .inl w], (I, L, R, Y), 0, 0) (fun _ => rfl) ?_
      by_cases h11 : w = 22
      · refine yi_D_if2 false rfl (yi_ne_f h11) ?_
        refine yi_D_run 6 (25, [(0, .inr (.inr (some 11))), (1, .inl w), (2, .inl x), (3, .inl y), (4, .inl z)], [.inl 23, .inl w, .inl y, .inl x, .inl 5, .inr (.inr (some 11))], (I, L, R, Y), 0, 0) (fun _ => rfl) ?_
        have h12 : ¬ (w = 23) := by omega
        refine yi_D_if2 true rfl (yi_ne_t h12) ?_
        refine yi_D_run 2 (36, [(0, .inr (.inr (some 11))), (1, .inl w), (2, .inl x), (3, .inl y), (4, .inl z)], [.inl z, .inl 0, .inl y, .inl x, .inl 5, .inr (.inr (some 11))], (I, L, R, Y), 0, 0) (fun _ => rfl) ?_
        refine yi_D_calls rfl (p_clauseCode) ?_
        rintro _ ⟨z13, rfl⟩
        show yi_D zi_Ms d zi_m250 k (39, [(0, .inr (.inr (some 11))), (1, .inl w), (2, .inl x), (3, .inl y), (4, .inl z)], [.inl z13, .inr (.inr (some 11))], (I, L, R, Y), 0, 0) _
        refine yi_D_callv rfl (p_emit hW) ?_
        rintro _ ⟨I14, rfl, hE15⟩
        show yi_D zi_Ms d zi_m250 k (42, [(0, .inr (.inr (some 11))), (1, .inl w), (2, .inl x), (3, .inl y), (4, .inl z)], [], (I14, L, R, Y), 0, 0) _
        refine yi_D_retv rfl ?_
        exact ⟨_, rfl, hE15⟩
      · refine yi_D_if2 true rfl (yi_ne_t h11) ?_
        refine yi_D_run 2 (46, [(0, .inr (.inr (some 11))), (1, .inl w), (2, .inl x), (3, .inl y), (4, .inl z)], [.inl 19, .inl w], (I, L, R, Y), 0, 0) (fun _ => rfl) ?_
        by_cases h16 : w = 19
        · refine yi_D_if2 true rfl (yi_eq_t h16) ?_
          refine yi_D_run 5 (78, [(5, .inl 1), (0, .inr (.inr (some 11))), (1, .inl w), (2, .inl x), (3, .inl y), (4, .inl z)], [.inl 20, .inl w], (I, L, R, Y), 0, 0) (fun _ => rfl) ?_
          have h17 : ¬ (w = 20) := by omega
          refine yi_D_if2 false rfl (yi_eq_f h17) ?_
          refine yi_D_run 2 (84, [(5, .inl 1), (0, .inr (.inr (some 11))), (1, .inl w), (2, .inl x), (3, .inl y), (4, .inl z)], [.inl 21, .inl w], (I, L, R, Y), 0, 0) (fun _ => rfl) ?_
          have h18 : ¬ (w = 21) := by omega
          refine yi_D_if2 true rfl (yi_ne_t h18) ?_
          refine yi_D_run 7 (100, [(6, .inl 0), (5, .inl 1), (0, .inr (.inr (some 11))), (1, .inl w), (2, .inl x), (3, .inl y), (4, .inl z)], [.inl 1, .inl y, .inl x, .inl 4, .inr (.inr (some 11))], (I, L, R, Y), 0, 0) (fun _ => rfl) ?_
          refine yi_D_if1 false rfl (by decide) ?_
          refine yi_D_run 3 (111, [(6, .inl 0), (5, .inl 1), (0, .inr (.inr (some 11))), (1, .inl w), (2, .inl x), (3, .inl y), (4, .inl z)], [.inl 0, .inl 1, .inl y, .inl x, .inl 4, .inr (.inr (some 11))], (I, L, R, Y), 0, 0) (fun _ => rfl) ?_
          refine yi_D_if1 true rfl (by decide) ?_
          refine yi_D_run 1 (126, [(6, .inl 0), (5, .inl 1), (0, .inr (.inr (some 11))), (1, .inl w), (2, .inl x), (3, .inl y), (4, .inl z)], [.inl z, .inl 1, .inl y, .inl x, .inl 4, .inr (.inr (some 11))], (I, L, R, Y), 0, 0) (fun _ => rfl) ?_
          refine yi_D_calls rfl (p_clauseCode) ?_
          rintro _ ⟨z19, rfl⟩
          show yi_D zi_Ms d zi_m250 k (129, [(6, .inl 0), (5, .inl 1), (0, .inr (.inr (some 11))), (1, .inl w), (2, .inl x), (3, .inl y), (4, .inl z)], [.inl z19, .inr (.inr (some 11))], (I, L, R, Y), 0, 0) _
          refine yi_D_callv rfl (p_emit hW) ?_
          rintro _ ⟨I20, rfl, hE21⟩
          show yi_D zi_Ms d zi_m250 k (132, [(6, .inl 0), (5, .inl 1), (0, .inr (.inr (some 11))), (1, .inl w), (2, .inl x), (3, .inl y), (4, .inl z)], [], (I20, L, R, Y), 0, 0) _
          refine yi_D_retv rfl ?_
          exact ⟨_, rfl, hE21⟩
        · refine yi_D_if2 false rfl (yi_eq_f h16) ?_
          refine yi_D_run 2 (52, [(0, .inr (.inr (some 11))), (1, .inl w), (2, .inl x), (3, .inl y), (4, .inl z)], [.inl 21, .inl w], (I, L, R, Y), 0, 0) (fun _ => rfl) ?_
          by_cases h22 : w = 21
          · refine yi_D_if2 true rfl (yi_eq_t h22) ?_
            refine yi_D_run 5 (78, [(5, .inl 1), (0, .inr (.inr (some 11))), (1, .inl w), (2, .inl x), (3, .inl y), (4, .inl z)], [.inl 20, .inl w], (I, L, R, Y), 0, 0) (fun _ => rfl) ?_
            have h23 : ¬ (w = 20) := by omega
            refine yi_D_if2 false rfl (yi_eq_f h23) ?_
            refine yi_D_run 2 (84, [(5, .inl 1), (0, .inr (.inr (some 11))), (1, .inl w), (2, .inl x), (3, .inl y), (4, .inl z)], [.inl 21, .inl w], (I, L, R, Y), 0, 0) (fun _ => rfl) ?_
            have h24 : w = 21 := by omega
            refine yi_D_if2 false rfl (yi_ne_f h24) ?_
            refine yi_D_run 8 (100, [(6, .inl 1), (5, .inl 1), (0, .inr (.inr (some 11))), (1, .inl w), (2, .inl x), (3, .inl y), (4, .inl z)], [.inl 1, .inl y, .inl x, .inl 4, .inr (.inr (some 11))], (I, L, R, Y), 0, 0) (fun _ => rfl) ?_
            refine yi_D_if1 false rfl (by decide) ?_
            refine yi_D_run 3 (111, [(6, .inl 1), (5, .inl 1), (0, .inr (.inr (some 11))), (1, .inl w), (2, .inl x), (3, .inl y), (4, .inl z)], [.inl 1, .inl 1, .inl y, .inl x, .inl 4, .inr (.inr (some 11))], (I, L, R, Y), 0, 0) (fun _ => rfl) ?_
            refine yi_D_if1 false rfl (by decide) ?_
            refine yi_D_run 1 (115, [(6, .inl 1), (5, .inl 1), (0, .inr (.inr (some 11))), (1, .inl w), (2, .inl x), (3, .inl y), (4, .inl z)], [.inr (.inr (some 11)), .inl 1, .inl y, .inl x, .inl 4, .inr (.inr (some 11))], (I, L, R, Y), 0, 0) (fun _ => rfl) ?_
            refine yi_D_gr (v := some q) rfl rfl rfl hW.2.2.1.2.1 (fun _ => ?_)
            refine yi_D_gi (v := I q 14) rfl rfl (Nat.ble_eq_true_of_le (by omega)) rfl (fun _ => ?_)
            refine yi_D_run 1 (126, [(6, .inl 1), (5, .inl 1), (0, .inr (.inr (some 11))), (1, .inl w), (2, .inl x), (3, .inl y), (4, .inl z)], [.inl (I q 14), .inl 1, .inl y, .inl x, .inl 4, .inr (.inr (some 11))], (I, L, R, Y), 0, 0) (fun _ => rfl) ?_
            refine yi_D_calls rfl (p_clauseCode) ?_
            rintro _ ⟨z25, rfl⟩
            show yi_D zi_Ms d zi_m250 k (129, [(6, .inl 1), (5, .inl 1), (0, .inr (.inr (some 11))), (1, .inl w), (2, .inl x), (3, .inl y), (4, .inl z)], [.inl z25, .inr (.inr (some 11))], (I, L, R, Y), 0, 0) _
            refine yi_D_callv rfl (p_emit hW) ?_
            rintro _ ⟨I26, rfl, hE27⟩
            show yi_D zi_Ms d zi_m250 k (132, [(6, .inl 1), (5, .inl 1), (0, .inr (.inr (some 11))), (1, .inl w), (2, .inl x), (3, .inl y), (4, .inl z)], [], (I26, L, R, Y), 0, 0) _
            refine yi_D_retv rfl ?_
            exact ⟨_, rfl, hE27⟩
          · refine yi_D_if2 false rfl (yi_eq_f h22) ?_
            refine yi_D_run 2 (58, [(0, .inr (.inr (some 11))), (1, .inl w), (2, .inl x), (3, .inl y), (4, .inl z)], [.inl 18, .inl w], (I, L, R, Y), 0, 0) (fun _ => rfl) ?_
            by_cases h28 : w = 18
            · refine yi_D_if2 false rfl (yi_ne_f h28) ?_
              refine yi_D_run 1 (62, [(0, .inr (.inr (some 11))), (1, .inl w), (2, .inl x), (3, .inl y), (4, .inl z)], [.inr (.inr (some 11))], (I, L, R, Y), 0, 0) (fun _ => rfl) ?_
              refine yi_D_gi (v := I 11 7) rfl rfl rfl rfl (fun _ => ?_)
              by_cases h29 : (I 11 7) = 0
              · refine yi_D_if1 true rfl (yi_eq_t h29) ?_
                refine yi_D_run 4 (78, [(5, .inl 0), (0, .inr (.inr (some 11))), (1, .inl w), (2, .inl x), (3, .inl y), (4, .inl z)], [.inl 20, .inl w], (I, L, R, Y), 0, 0) (fun _ => rfl) ?_
                have h30 : ¬ (w = 20) := by omega
                refine yi_D_if2 false rfl (yi_eq_f h30) ?_
                refine yi_D_run 2 (84, [(5, .inl 0), (0, .inr (.inr (some 11))), (1, .inl w), (2, .inl x), (3, .inl y), (4, .inl z)], [.inl 21, .inl w], (I, L, R, Y), 0, 0) (fun _ => rfl) ?_
                have h31 : ¬ (w = 21) := by omega
                refine yi_D_if2 true rfl (yi_ne_t h31) ?_
                refine yi_D_run 7 (100, [(6, .inl 0), (5, .inl 0), (0, .inr (.inr (some 11))), (1, .inl w), (2, .inl x), (3, .inl y), (4, .inl z)], [.inl 0, .inl y, .inl x, .inl 4, .inr (.inr (some 11))], (I, L, R, Y), 0, 0) (fun _ => rfl) ?_
                refine yi_D_if1 true rfl (by decide) ?_
                refine yi_D_run 2 (111, [(6, .inl 0), (5, .inl 0), (0, .inr (.inr (some 11))), (1, .inl w), (2, .inl x), (3, .inl y), (4, .inl z)], [.inl 0, .inl z, .inl y, .inl x, .inl 4, .inr (.inr (some 11))], (I, L, R, Y), 0, 0) (fun _ => rfl) ?_
                refine yi_D_if1 true rfl (by decide) ?_
                refine yi_D_run 1 (126, [(6, .inl 0), (5, .inl 0), (0, .inr (.inr (some 11))), (1, .inl w), (2, .inl x), (3, .inl y), (4, .inl z)], [.inl z, .inl z, .inl y, .inl x, .inl 4, .inr (.inr (some 11))], (I, L, R, Y), 0, 0) (fun _ => rfl) ?_
                refine yi_D_calls rfl (p_clauseCode) ?_
                rintro _ ⟨z32, rfl⟩
                show yi_D zi_Ms d zi_m250 k (129, [(6, .inl 0), (5, .inl 0), (0, .inr (.inr (some 11))), (1, .inl w), (2, .inl x), (3, .inl y), (4, .inl z)], [.inl z32, .inr (.inr (some 11))], (I, L, R, Y), 0, 0) _
                refine yi_D_callv rfl (p_emit hW) ?_
                rintro _ ⟨I33, rfl, hE34⟩
                show yi_D zi_Ms d zi_m250 k (132, [(6, .inl 0), (5, .inl 0), (0, .inr (.inr (some 11))), (1, .inl w), (2, .inl x), (3, .inl y), (4, .inl z)], [], (I33, L, R, Y), 0, 0) _
                refine yi_D_retv rfl ?_
                exact ⟨_, rfl, hE34⟩
              · refine yi_D_if1 false rfl (yi_eq_f h29) ?_
                refine yi_D_run 5 (78, [(5, .inl 1), (0, .inr (.inr (some 11))), (1, .inl w), (2, .inl x), (3, .inl y), (4, .inl z)], [.inl 20, .inl w], (I, L, R, Y), 0, 0) (fun _ => rfl) ?_
                have h35 : ¬ (w = 20) := by omega
                refine yi_D_if2 false rfl (yi_eq_f h35) ?_
                refine yi_D_run 2 (84, [(5, .inl 1), (0, .inr (.inr (some 11))), (1, .inl w), (2, .inl x), (3, .inl y), (4, .inl z)], [.inl 21, .inl w], (I, L, R, Y), 0, 0) (fun _ => rfl) ?_
                have h36 : ¬ (w = 21) := by omega
                refine yi_D_if2 true rfl (yi_ne_t h36) ?_
                refine yi_D_run 7 (100, [(6, .inl 0), (5, .inl 1), (0, .inr (.inr (some 11))), (1, .inl w), (2, .inl x), (3, .inl y), (4, .inl z)], [.inl 1, .inl y, .inl x, .inl 4, .inr (.inr (some 11))], (I, L, R, Y), 0, 0) (fun _ => rfl) ?_
                refine yi_D_if1 false rfl (by decide) ?_
                refine yi_D_run 3 (111, [(6, .inl 0), (5, .inl 1), (0, .inr (.inr (some 11))), (1, .inl w), (2, .inl x), (3, .inl y), (4, .inl z)], [.inl 0, .inl 1, .inl y, .inl x, .inl 4, .inr (.inr (some 11))], (I, L, R, Y), 0, 0) (fun _ => rfl) ?_
                refine yi_D_if1 true rfl (by decide) ?_
                refine yi_D_run 1 (126, [(6, .inl 0), (5, .inl 1), (0, .inr (.inr (some 11))), (1, .inl w), (2, .inl x), (3, .inl y), (4, .inl z)], [.inl z, .inl 1, .inl y, .inl x, .inl 4, .inr (.inr (some 11))], (I, L, R, Y), 0, 0) (fun _ => rfl) ?_
                refine yi_D_calls rfl (p_clauseCode) ?_
                rintro _ ⟨z37, rfl⟩
                show yi_D zi_Ms d zi_m250 k (129, [(6, .inl 0), (5, .inl 1), (0, .inr (.inr (some 11))), (1, .inl w), (2, .inl x), (3, .inl y), (4, .inl z)], [.inl z37, .inr (.inr (some 11))], (I, L, R, Y), 0, 0) _
                refine yi_D_callv rfl (p_emit hW) ?_
                rintro _ ⟨I38, rfl, hE39⟩
                show yi_D zi_Ms d zi_m250 k (132, [(6, .inl 0), (5, .inl 1), (0, .inr (.inr (some 11))), (1, .inl w), (2, .inl x), (3, .inl y), (4, .inl z)], [], (I38, L, R, Y), 0, 0) _
                refine yi_D_retv rfl ?_
                exact ⟨_, rfl, hE39⟩
            · refine yi_D_if2 true rfl (yi_ne_t h28) ?_
              refine yi_D_run 4 (78, [(5, .inl 0), (0, .inr (.inr (some 11))), (1, .inl w), (2, .inl x), (3, .inl y), (4, .inl z)], [.inl 20, .inl w], (I, L, R, Y), 0, 0) (fun _ => rfl) ?_
              by_cases h40 : w = 20
              · refine yi_D_if2 true rfl (yi_eq_t h40) ?_
                refine yi_D_run 8 (100, [(6, .inl 1), (5, .inl 0), (0, .inr (.inr (some 11))), (1, .inl w), (2, .inl x), (3, .inl y), (4, .inl z)], [.inl 0, .inl y, .inl x, .inl 4, .inr (.inr (some 11))], (I, L, R, Y), 0, 0) (fun _ => rfl) ?_
                refine yi_D_if1 true rfl (by decide) ?_
                refine yi_D_run 2 (111, [(6, .inl 1), (5, .inl 0), (0, .inr (.inr (some 11))), (1, .inl w), (2, .inl x), (3, .inl y), (4, .inl z)], [.inl 1, .inl z, .inl y, .inl x, .inl 4, .inr (.inr (some 11))], (I, L, R, Y), 0, 0) (fun _ => rfl) ?_
                refine yi_D_if1 false rfl (by decide) ?_
                refine yi_D_run 1 (115, [(6, .inl 1), (5, .inl 0), (0, .inr (.inr (some 11))), (1, .inl w), (2, .inl x), (3, .inl y), (4, .inl z)], [.inr (.inr (some 11)), .inl z, .inl y, .inl x, .inl 4, .inr (.inr (some 11))], (I, L, R, Y), 0, 0) (fun _ => rfl) ?_
                refine yi_D_gr (v := some q) rfl rfl rfl hW.2.2.1.2.1 (fun _ => ?_)
                refine yi_D_gi (v := I q 14) rfl rfl (Nat.ble_eq_true_of_le (by omega)) rfl (fun _ => ?_)
                refine yi_D_run 1 (126, [(6, .inl 1), (5, .inl 0), (0, .inr (.inr (some 11))), (1, .inl w), (2, .inl x), (3, .inl y), (4, .inl z)], [.inl (I q 14), .inl z, .inl y, .inl x, .inl 4, .inr (.inr (some 11))], (I, L, R, Y), 0, 0) (fun _ => rfl) ?_
                refine yi_D_calls rfl (p_clauseCode) ?_
                rintro _ ⟨z41, rfl⟩
                show yi_D zi_Ms d zi_m250 k (129, [(6, .inl 1), (5, .inl 0), (0, .inr (.inr (some 11))), (1, .inl w), (2, .inl x), (3, .inl y), (4, .inl z)], [.inl z41, .inr (.inr (some 11))], (I, L, R, Y), 0, 0) _
                refine yi_D_callv rfl (p_emit hW) ?_
                rintro _ ⟨I42, rfl, hE43⟩
                show yi_D zi_Ms d zi_m250 k (132, [(6, .inl 1), (5, .inl 0), (0, .inr (.inr (some 11))), (1, .inl w), (2, .inl x), (3, .inl y), (4, .inl z)], [], (I42, L, R, Y), 0, 0) _
                refine yi_D_retv rfl ?_
                exact ⟨_, rfl, hE43⟩
              · refine yi_D_if2 false rfl (yi_eq_f h40) ?_
                refine yi_D_run 2 (84, [(5, .inl 0), (0, .inr (.inr (some 11))), (1, .inl w), (2, .inl x), (3, .inl y), (4, .inl z)], [.inl 21, .inl w], (I, L, R, Y), 0, 0) (fun _ => rfl) ?_
                have h44 : ¬ (w = 21) := by omega
                refine yi_D_if2 true rfl (yi_ne_t h44) ?_
                refine yi_D_run 7 (100, [(6, .inl 0), (5, .inl 0), (0, .inr (.inr (some 11))), (1, .inl w), (2, .inl x), (3, .inl y), (4, .inl z)], [.inl 0, .inl y, .inl x, .inl 4, .inr (.inr (some 11))], (I, L, R, Y), 0, 0) (fun _ => rfl) ?_
                refine yi_D_if1 true rfl (by decide) ?_
                refine yi_D_run 2 (111, [(6, .inl 0), (5, .inl 0), (0, .inr (.inr (some 11))), (1, .inl w), (2, .inl x), (3, .inl y), (4, .inl z)], [.inl 0, .inl z, .inl y, .inl x, .inl 4, .inr (.inr (some 11))], (I, L, R, Y), 0, 0) (fun _ => rfl) ?_
                refine yi_D_if1 true rfl (by decide) ?_
                refine yi_D_run 1 (126, [(6, .inl 0), (5, .inl 0), (0, .inr (.inr (some 11))), (1, .inl w), (2, .inl x), (3, .inl y), (4, .inl z)], [.inl z, .inl z, .inl y, .inl x, .inl 4, .inr (.inr (some 11))], (I, L, R, Y), 0, 0) (fun _ => rfl) ?_
                refine yi_D_calls rfl (p_clauseCode) ?_
                rintro _ ⟨z45, rfl⟩
                show yi_D zi_Ms d zi_m250 k (129, [(6, .inl 0), (5, .inl 0), (0, .inr (.inr (some 11))), (1, .inl w), (2, .inl x), (3, .inl y), (4, .inl z)], [.inl z45, .inr (.inr (some 11))], (I, L, R, Y), 0, 0) _
                refine yi_D_callv rfl (p_emit hW) ?_
                rintro _ ⟨I46, rfl, hE47⟩
                show yi_D zi_Ms d zi_m250 k (132, [(6, .inl 0), (5, .inl 0), (0, .inr (.inr (some 11))), (1, .inl w), (2, .inl x), (3, .inl y), (4, .inl z)], [], (I46, L, R, Y), 0, 0) _
                refine yi_D_retv rfl ?_
                exact ⟨_, rfl, hE47⟩
theorem p_isNamed {d : Nat} {I L : Nat → Nat → Int} {R : Nat → Nat → Option Nat} {Y : (Nat → Nat) × (Nat → Nat) × Nat} {x v : Int} {K P V : Nat → Int} {te q : Nat} {ld : Nat → Int} {nm : Int → Int} (hW : cs_W I L R Y K P V te q ld nm) (hw : sp_WR x v) : yi_P zi_Ms d 229 [.inr (.inr (some q)), .inr (.inl x)] (I, L, R, Y) (fun r => (0 ≤ nm v ∧ r = (some (.inl 1), (I, L, R, Y), 0, 0)) ∨ (¬ 0 ≤ nm v ∧ r = (some (.inl 0), (I, L, R, Y), 0, 0))) := by
  refine yi_P_of (M := zi_m229) rfl (fun d k => ?_)
  obtain ⟨ly1, ly2, ly3, ly4⟩ := hW.2.2.1.2.2.2
  have lb := hW.2.2.2.2.1
  have hq0 := hW.2.2.1.1
  have h12 := hW.2.2.2.2.2.2.1 v
  show yi_D zi_Ms d zi_m229 k (0, [(0, .inr (.inr (some q))), (1, .inr (.inl x))], [], (I, L, R, Y), 0, 0) _
  refine yi_D_run 1 (1, [(0, .inr (.inr (some q))), (1, .inr (.inl x))], [.inr (.inr (some q))], (I, L, R, Y), 0, 0) (fun _ => rfl) ?_
  refine yi_D_gr (v := some (q + 1)) rfl rfl (Nat.ble_eq_true_of_le (by omega)) (hW.2.2.1.2.2.1 0 (by omega)) (fun _ => ?_)
  refine yi_D_run 1 (5, [(0, .inr (.inr (some q))), (1, .inr (.inl x))], [.inr (.inr (some q)), .inr (.inr (some (q + 1)))], (I, L, R, Y), 0, 0) (fun _ => rfl) ?_
  refine yi_D_gi (v := ld 1) rfl rfl (Nat.ble_eq_true_of_le (by omega)) hW.2.2.2.1.2.1 (fun _ => ?_)
  refine yi_D_run 1 (9, [(0, .inr (.inr (some q))), (1, .inr (.inl x))], [.inr (.inl x), .inl (ld 1), .inr (.inr (some (q + 1)))], (I, L, R, Y), 0, 0) (fun _ => rfl) ?_
  refine yi_D_calls rfl (p_find (by omega) ⟨by omega, by omega, by omega⟩) ?_
  rintro _ ⟨z1, rfl, hz2⟩
  show yi_D zi_Ms d zi_m229 k (12, [(0, .inr (.inr (some q))), (1, .inr (.inl x))], [.inl z1], (I, L, R, Y), 0, 0) _
  refine yi_D_run 1 (13, [(0, .inr (.inr (some q))), (1, .inr (.inl x))], [.inl (-1), .inl z1], (I, L, R, Y), 0, 0) (fun _ => rfl) ?_
  have hq3 := cs_N_fd hW.2.2.2.2.2.2.2.1.1 hw hz2
  have hq3b : (z1 = nm v - 0 ∧ 0 ≤ nm v ∧ nm v ≤ 3) ∨ (z1 = -1 ∧ ¬ (0 ≤ nm v ∧ nm v ≤ 3)) := by
    by_cases hc : 0 ≤ nm v ∧ nm v ≤ 3
    · rw [if_pos hc] at hq3; exact Or.inl ⟨hq3, hc⟩
    · rw [if_neg hc] at hq3; exact Or.inr ⟨hq3, hc⟩
  by_cases h4 : z1 = (-1)
  · refine yi_D_if2 false rfl (yi_ne_f h4) ?_
    refine yi_D_run 1 (17, [(0, .inr (.inr (some q))), (1, .inr (.inl x))], [.inr (.inr (some q))], (I, L, R, Y), 0, 0) (fun _ => rfl) ?_
    refine yi_D_gr (v := some (q + 2)) rfl rfl (Nat.ble_eq_true_of_le (by omega)) (hW.2.2.1.2.2.1 1 (by omega)) (fun _ => ?_)
    refine yi_D_run 1 (21, [(0, .inr (.inr (some q))), (1, .inr (.inl x))], [.inr (.inr (some q)), .inr (.inr (some (q + 2)))], (I, L, R, Y), 0, 0) (fun _ => rfl) ?_
    refine yi_D_gi (v := ld 2) rfl rfl (Nat.ble_eq_true_of_le (by omega)) hW.2.2.2.1.2.2.1 (fun _ => ?_)
    refine yi_D_run 1 (25, [(0, .inr (.inr (some q))), (1, .inr (.inl x))], [.inr (.inl x), .inl (ld 2), .inr (.inr (some (q + 2)))], (I, L, R, Y), 0, 0) (fun _ => rfl) ?_
    refine yi_D_calls rfl (p_find (by omega) ⟨by omega, by omega, by omega⟩) ?_
    rintro _ ⟨z5, rfl, hz6⟩
    show yi_D zi_Ms d zi_m229 k (28, [(0, .inr (.inr (some q))), (1, .inr (.inl x))], [.inl z5], (I, L, R, Y), 0, 0) _
    refine yi_D_run 1 (29, [(0, .inr (.inr (some q))), (1, .inr (.inl x))], [.inl (-1), .inl z5], (I, L, R, Y), 0, 0) (fun _ => rfl) ?_
    have hq7 := cs_N_fd hW.2.2.2.2.2.2.2.1.2.1 hw hz6
    have hq7b : (z5 = nm v - 4 ∧ 4 ≤ nm v ∧ nm v ≤ 7) ∨ (z5 = -1 ∧ ¬ (4 ≤ nm v ∧ nm v ≤ 7)) := by
      by_cases hc : 4 ≤ nm v ∧ nm v ≤ 7
      · rw [if_pos hc] at hq7; exact Or.inl ⟨hq7, hc⟩
      · rw [if_neg hc] at hq7; exact Or.inr ⟨hq7, hc⟩
    by_cases h8 : z5 = (-1)
    · refine yi_D_if2 false rfl (yi_ne_f h8) ?_
      refine yi_D_run 1 (33, [(0, .inr (.inr (some q))), (1, .inr (.inl x))], [.inr (.inr (some q))], (I, L, R, Y), 0, 0) (fun _ => rfl) ?_
      refine yi_D_gr (v := some (q + 3)) rfl rfl (Nat.ble_eq_true_of_le (by omega)) (hW.2.2.1.2.2.1 2 (by omega)) (fun _ => ?_)
      refine yi_D_run 1 (37, [(0, .inr (.inr (some q))), (1, .inr (.inl x))], [.inr (.inr (some q)), .inr (.inr (some (q + 3)))], (I, L, R, Y), 0, 0) (fun _ => rfl) ?_
      refine yi_D_gi (v := ld 3) rfl rfl (Nat.ble_eq_true_of_le (by omega)) hW.2.2.2.1.2.2.2.1 (fun _ => ?_)
      refine yi_D_run 1 (41, [(0, .inr (.inr (some q))), (1, .inr (.inl x))], [.inr (.inl x), .inl (ld 3), .inr (.inr (some (q + 3)))], (I, L, R, Y), 0, 0) (fun _ => rfl) ?_
      refine yi_D_calls rfl (p_find (by omega) ⟨by omega, by omega, by omega⟩) ?_
      rintro _ ⟨z9, rfl, hz10⟩
      show yi_D zi_Ms d zi_m229 k (44, [(0, .inr (.inr (some q))), (1, .inr (.inl x))], [.inl z9], (I, L, R, Y), 0, 0) _
      refine yi_D_run 1 (45, [(0, .inr (.inr (some q))), (1, .inr (.inl x))], [.inl (-1), .inl z9], (I, L, R, Y), 0, 0) (fun _ => rfl) ?_
      have hq11 := cs_N_fd hW.2.2.2.2.2.2.2.1.2.2 hw hz10
      have hq11b : (z9 = nm v - 8 ∧ 8 ≤ nm v ∧ nm v ≤ 12) ∨ (z9 = -1 ∧ ¬ (8 ≤ nm v ∧ nm v ≤ 12)) := by
        by_cases hc : 8 ≤ nm v ∧ nm v ≤ 12
        · rw [if_pos hc] at hq11; exact Or.inl ⟨hq11, hc⟩
        · rw [if_neg hc] at hq11; exact Or.inr ⟨hq11, hc⟩
      by_cases h12 : z9 = (-1)
      · refine yi_D_if2 true rfl (yi_eq_t h12) ?_
        refine yi_D_run 1 (53, [(0, .inr (.inr (some q))), (1, .inr (.inl x))], [.inl 0], (I, L, R, Y), 0, 0) (fun _ => rfl) ?_
        refine yi_D_reti rfl ?_
        exact Or.inr ⟨by omega, rfl⟩
      · refine yi_D_if2 false rfl (yi_eq_f h12) ?_
        refine yi_D_run 2 (53, [(0, .inr (.inr (some q))), (1, .inr (.inl x))], [.inl 1], (I, L, R, Y), 0, 0) (fun _ => rfl) ?_
        refine yi_D_reti rfl ?_
        exact Or.inl ⟨by omega, rfl⟩
    · refine yi_D_if2 true rfl (yi_ne_t h8) ?_
      refine yi_D_run 2 (53, [(0, .inr (.inr (some q))), (1, .inr (.inl x))], [.inl 1], (I, L, R, Y), 0, 0) (fun _ => rfl) ?_
      refine yi_D_reti rfl ?_
      exact Or.inl ⟨by omega, rfl⟩
  · refine yi_D_if2 true rfl (yi_ne_t h4) ?_
    refine yi_D_run 2 (53, [(0, .inr (.inr (some q))), (1, .inr (.inl x))], [.inl 1], (I, L, R, Y), 0, 0) (fun _ => rfl) ?_
    refine yi_D_reti rfl ?_
    exact Or.inl ⟨by omega, rfl⟩
theorem p_isNamed_f {d : Nat} {I L : Nat → Nat → Int} {R : Nat → Nat → Option Nat} {Y : (Nat → Nat) × (Nat → Nat) × Nat} {x : Int} {K P V : Nat → Int} {te q : Nat} {ld : Nat → Int} {nm : Int → Int} (hW : cs_W I L R Y K P V te q ld nm) : yi_P zi_Ms d 229 [.inr (.inr (some q)), .inr (.inl x)] (I, L, R, Y) (fun r => ∃ z, r = (some (.inl z), (I, L, R, Y), 0, 0)) := by
  refine yi_P_of (M := zi_m229) rfl (fun d k => ?_)
  obtain ⟨ly1, ly2, ly3, ly4⟩ := hW.2.2.1.2.2.2
  have lb := hW.2.2.2.2.1
  have hq0 := hW.2.2.1.1
  show yi_D zi_Ms d zi_m229 k (0, [(0, .inr (.inr (some q))), (1, .inr (.inl x))], [], (I, L, R, Y), 0, 0) _
  refine yi_D_run 1 (1, [(0, .inr (.inr (some q))), (1, .inr (.inl x))], [.inr (.inr (some q))], (I, L, R, Y), 0, 0) (fun _ => rfl) ?_
  refine yi_D_gr (v := some (q + 1)) rfl rfl (Nat.ble_eq_true_of_le (by omega)) (hW.2.2.1.2.2.1 0 (by omega)) (fun _ => ?_)
  refine yi_D_run 1 (5, [(0, .inr (.inr (some q))), (1, .inr (.inl x))], [.inr (.inr (some q)), .inr (.inr (some (q + 1)))], (I, L, R, Y), 0, 0) (fun _ => rfl) ?_
  refine yi_D_gi (v := ld 1) rfl rfl (Nat.ble_eq_true_of_le (by omega)) hW.2.2.2.1.2.1 (fun _ => ?_)
  refine yi_D_run 1 (9, [(0, .inr (.inr (some q))), (1, .inr (.inl x))], [.inr (.inl x), .inl (ld 1), .inr (.inr (some (q + 1)))], (I, L, R, Y), 0, 0) (fun _ => rfl) ?_
  refine yi_D_calls rfl (p_find (by omega) ⟨by omega, by omega, by omega⟩) ?_
  rintro _ ⟨z1, rfl, hz2⟩
  show yi_D zi_Ms d zi_m229 k (12, [(0, .inr (.inr (some q))), (1, .inr (.inl x))], [.inl z1], (I, L, R, Y), 0, 0) _
  refine yi_D_run 1 (13, [(0, .inr (.inr (some q))), (1, .inr (.inl x))], [.inl (-1), .inl z1], (I, L, R, Y), 0, 0) (fun _ => rfl) ?_
  by_cases h3 : z1 = (-1)
  · refine yi_D_if2 false rfl (yi_ne_f h3) ?_
    refine yi_D_run 1 (17, [(0, .inr (.inr (some q))), (1, .inr (.inl x))], [.inr (.inr (some q))], (I, L, R, Y), 0, 0) (fun _ => rfl) ?_
    refine yi_D_gr (v := some (q + 2)) rfl rfl (Nat.ble_eq_true_of_le (by omega)) (hW.2.2.1.2.2.1 1 (by omega)) (fun _ => ?_)
    refine yi_D_run 1 (21, [(0, .inr (.inr (some q))), (1, .inr (.inl x))], [.inr (.inr (some q)), .inr (.inr (some (q + 2)))], (I, L, R, Y), 0, 0) (fun _ => rfl) ?_
    refine yi_D_gi (v := ld 2) rfl rfl (Nat.ble_eq_true_of_le (by omega)) hW.2.2.2.1.2.2.1 (fun _ => ?_)
    refine yi_D_run 1 (25, [(0, .inr (.inr (some q))), (1, .inr (.inl x))], [.inr (.inl x), .inl (ld 2), .inr (.inr (some (q + 2)))], (I, L, R, Y), 0, 0) (fun _ => rfl) ?_
    refine yi_D_calls rfl (p_find (by omega) ⟨by omega, by omega, by omega⟩) ?_
    rintro _ ⟨z4, rfl, hz5⟩
    show yi_D zi_Ms d zi_m229 k (28, [(0, .inr (.inr (some q))), (1, .inr (.inl x))], [.inl z4], (I, L, R, Y), 0, 0) _
    refine yi_D_run 1 (29, [(0, .inr (.inr (some q))), (1, .inr (.inl x))], [.inl (-1), .inl z4], (I, L, R, Y), 0, 0) (fun _ => rfl) ?_
    by_cases h6 : z4 = (-1)
    · refine yi_D_if2 false rfl (yi_ne_f h6) ?_
      refine yi_D_run 1 (33, [(0, .inr (.inr (some q))), (1, .inr (.inl x))], [.inr (.inr (some q))], (I, L, R, Y), 0, 0) (fun _ => rfl) ?_
      refine yi_D_gr (v := some (q + 3)) rfl rfl (Nat.ble_eq_true_of_le (by omega)) (hW.2.2.1.2.2.1 2 (by omega)) (fun _ => ?_)
      refine yi_D_run 1 (37, [(0, .inr (.inr (some q))), (1, .inr (.inl x))], [.inr (.inr (some q)), .inr (.inr (some (q + 3)))], (I, L, R, Y), 0, 0) (fun _ => rfl) ?_
      refine yi_D_gi (v := ld 3) rfl rfl (Nat.ble_eq_true_of_le (by omega)) hW.2.2.2.1.2.2.2.1 (fun _ => ?_)
      refine yi_D_run 1 (41, [(0, .inr (.inr (some q))), (1, .inr (.inl x))], [.inr (.inl x), .inl (ld 3), .inr (.inr (some (q + 3)))], (I, L, R, Y), 0, 0) (fun _ => rfl) ?_
      refine yi_D_calls rfl (p_find (by omega) ⟨by omega, by omega, by omega⟩) ?_
      rintro _ ⟨z7, rfl, hz8⟩
      show yi_D zi_Ms d zi_m229 k (44, [(0, .inr (.inr (some q))), (1, .inr (.inl x))], [.inl z7], (I, L, R, Y), 0, 0) _
      refine yi_D_run 1 (45, [(0, .inr (.inr (some q))), (1, .inr (.inl x))], [.inl (-1), .inl z7], (I, L, R, Y), 0, 0) (fun _ => rfl) ?_
      by_cases h9 : z7 = (-1)
      · refine yi_D_if2 true rfl (yi_eq_t h9) ?_
        refine yi_D_run 1 (53, [(0, .inr (.inr (some q))), (1, .inr (.inl x))], [.inl 0], (I, L, R, Y), 0, 0) (fun _ => rfl) ?_
        refine yi_D_reti rfl ?_
        exact ⟨_, rfl⟩
      · refine yi_D_if2 false rfl (yi_eq_f h9) ?_
        refine yi_D_run 2 (53, [(0, .inr (.inr (some q))), (1, .inr (.inl x))], [.inl 1], (I, L, R, Y), 0, 0) (fun _ => rfl) ?_
        refine yi_D_reti rfl ?_
        exact ⟨_, rfl⟩
    · refine yi_D_if2 true rfl (yi_ne_t h6) ?_
      refine yi_D_run 2 (53, [(0, .inr (.inr (some q))), (1, .inr (.inl x))], [.inl 1], (I, L, R, Y), 0, 0) (fun _ => rfl) ?_
      refine yi_D_reti rfl ?_
      exact ⟨_, rfl⟩
  · refine yi_D_if2 true rfl (yi_ne_t h3) ?_
    refine yi_D_run 2 (53, [(0, .inr (.inr (some q))), (1, .inr (.inl x))], [.inl 1], (I, L, R, Y), 0, 0) (fun _ => rfl) ?_
    refine yi_D_reti rfl ?_
    exact ⟨_, rfl⟩
theorem p_takeNewName_z {d : Nat} {I L : Nat → Nat → Int} {R : Nat → Nat → Option Nat} {Y : (Nat → Nat) × (Nat → Nat) × Nat} {K P V : Nat → Int} {te q a : Nat} {ld : Nat → Int} {nm : Int → Int} (hW : cs_W I L R Y K P V te q ld nm) (hf : I 11 11 = 0) (hA : cs_A I L K te a) : yi_P zi_Ms d 270 [.inr (.inr (some 11))] (I, L, R, Y) (fun r => (K a = 3 ∧ (¬ 0 ≤ nm (V a)) ∧ ∃ I' L', r = (some (.inr (.inl (L 16 a))), (I', L', R, Y), 0, 0) ∧ cs_G I L I' L' ∧ I' 11 11 = 0 ∧ cs_A I' L' K te (a + 1)) ∨ ((¬ K a = 3) ∧ ∃ z I' L', r = (some (.inr (.inl z)), (I', L', R, Y), 0, 0) ∧ cs_G I L I' L' ∧ I' 11 11 = sp_f P a 1) ∨ ((K a = 3 ∧ 0 ≤ nm (V a)) ∧ ∃ z I' L', r = (some (.inr (.inl z)), (I', L', R, Y), 0, 0) ∧ cs_G I L I' L' ∧ I' 11 11 = sp_f P a 3)) := by
  refine yi_P_of (M := zi_m270) rfl (fun d k => ?_)
  have hp := hW.2.1.2.2.1 a hA.2.1
  obtain ⟨ly1, ly2, ly3, ly4⟩ := hW.2.2.1.2.2.2
  have lb := hW.2.2.2.2.1
  have hq0 := hW.2.2.1.1
  show yi_D zi_Ms d zi_m270 k (0, [(0, .inr (.inr (some 11)))], [], (I, L, R, Y), 0, 0) _
  refine yi_D_run 1 (1, [(0, .inr (.inr (some 11)))], [.inr (.inr (some 11))], (I, L, R, Y), 0, 0) (fun _ => rfl) ?_
  refine yi_D_gl (v := L 16 a) rfl rfl rfl hA.2.2.2 (fun _ => ?_)
  refine yi_D_run 2 (6, [(1, .inr (.inl (L 16 a))), (0, .inr (.inr (some 11)))], [.inr (.inr (some 11))], (I, L, R, Y), 0, 0) (fun _ => rfl) ?_
  refine yi_D_gi (v := K a) rfl rfl rfl hA.2.2.1 (fun _ => ?_)
  refine yi_D_run 1 (10, [(1, .inr (.inl (L 16 a))), (0, .inr (.inr (some 11)))], [.inl 3, .inl (K a)], (I, L, R, Y), 0, 0) (fun _ => rfl) ?_
  by_cases h1 : (K a) = 3
  · refine yi_D_if2 true rfl (yi_eq_t h1) ?_
    refine yi_D_run 1 (22, [(1, .inr (.inl (L 16 a))), (0, .inr (.inr (some 11)))], [.inr (.inr (some 11))], (I, L, R, Y), 0, 0) (fun _ => rfl) ?_
    refine yi_D_gr (v := some q) rfl rfl rfl hW.2.2.1.2.1 (fun _ => ?_)
    refine yi_D_run 1 (26, [(1, .inr (.inl (L 16 a))), (0, .inr (.inr (some 11)))], [.inr (.inl (L 16 a)), .inr (.inr (some q))], (I, L, R, Y), 0, 0) (fun _ => rfl) ?_
    refine yi_D_callv rfl (p_isNamed hW (hp.2.2.2.2.1 (by omega))) ?_
    rintro _ (⟨c2, rfl⟩ | ⟨c2, rfl⟩)
    · show yi_D zi_Ms d zi_m270 k (29, [(1, .inr (.inl (L 16 a))), (0, .inr (.inr (some 11)))], [.inl 1], (I, L, R, Y), 0, 0) _
      refine yi_D_if1 false rfl (by decide) ?_
      refine yi_D_run 2 (34, [(1, .inr (.inl (L 16 a))), (0, .inr (.inr (some 11)))], [.inl 3, .inr (.inr (some 11))], (I, L, R, Y), 0, 0) (fun _ => rfl) ?_
      refine yi_D_callv rfl (p_wrong_z ⟨by omega, by omega⟩ hW hf hA) ?_
      rintro _ ⟨I3, rfl, hg4, he5⟩
      have hGw6 : cs_G I L I3 L := ⟨fun p k hp => hg4 p k (by omega), fun _ _ _ => rfl⟩
      have hW7 := cs_W_t hW (cs_G_F hGw6)
      have hF8 := (cs_G_F hGw6)
      have hG9 := hGw6
      have hz10 : ¬ sp_f P a 3 = 0 := sp_f_ne hW hA.2.1 (by omega)
      have hn11 : ¬ I3 11 11 = 0 := by rw [he5]; exact hz10
      show yi_D zi_Ms d zi_m270 k (37, [(1, .inr (.inl (L 16 a))), (0, .inr (.inr (some 11)))], [], (I3, L, R, Y), 0, 0) _
      refine yi_D_run 1 (38, [(1, .inr (.inl (L 16 a))), (0, .inr (.inr (some 11)))], [.inr (.inr (some 11))], (I3, L, R, Y), 0, 0) (fun _ => rfl) ?_
      refine yi_D_callv rfl (p_advance_f hW7 hn11) ?_
      rintro _ rfl
      show yi_D zi_Ms d zi_m270 k (41, [(1, .inr (.inl (L 16 a))), (0, .inr (.inr (some 11)))], [], (I3, L, R, Y), 0, 0) _
      refine yi_D_run 1 (42, [(1, .inr (.inl (L 16 a))), (0, .inr (.inr (some 11)))], [.inr (.inl (L 16 a))], (I3, L, R, Y), 0, 0) (fun _ => rfl) ?_
      refine yi_D_retl rfl ?_
      first | exact Or.inr (Or.inl ⟨by omega, _, _, _, rfl, hG9, he5⟩) | exact Or.inr (Or.inr ⟨⟨by omega, by omega⟩, _, _, _, rfl, hG9, he5⟩)
    · show yi_D zi_Ms d zi_m270 k (29, [(1, .inr (.inl (L 16 a))), (0, .inr (.inr (some 11)))], [.inl 0], (I, L, R, Y), 0, 0) _
      refine yi_D_if1 true rfl (by decide) ?_
      refine yi_D_run 1 (38, [(1, .inr (.inl (L 16 a))), (0, .inr (.inr (some 11)))], [.inr (.inr (some 11))], (I, L, R, Y), 0, 0) (fun _ => rfl) ?_
      refine yi_D_callv rfl (p_advance_z hW hf hA) ?_
      rintro _ ⟨I12, L13, rfl, hGa14, hf15, hA16⟩
      rw [sp_nx_lt (cs_lt hW.2.1 hA.2.1 (by omega))] at hA16
      have hA16 : cs_A I12 L13 K te (a + 1) := hA16
      have hW17 := cs_W_t hW (cs_G_F hGa14)
      have hF18 := (cs_G_F hGa14)
      have hG19 := hGa14
      show yi_D zi_Ms d zi_m270 k (41, [(1, .inr (.inl (L 16 a))), (0, .inr (.inr (some 11)))], [], (I12, L13, R, Y), 0, 0) _
      refine yi_D_run 1 (42, [(1, .inr (.inl (L 16 a))), (0, .inr (.inr (some 11)))], [.inr (.inl (L 16 a))], (I12, L13, R, Y), 0, 0) (fun _ => rfl) ?_
      refine yi_D_retl rfl ?_
      exact Or.inl ⟨by omega, by omega, _, _, rfl, hG19, hf15, hA16⟩
  · refine yi_D_if2 false rfl (yi_eq_f h1) ?_
    refine yi_D_run 2 (15, [(1, .inr (.inl (L 16 a))), (0, .inr (.inr (some 11)))], [.inl 1, .inr (.inr (some 11))], (I, L, R, Y), 0, 0) (fun _ => rfl) ?_
    refine yi_D_callv rfl (p_wrong_z ⟨by omega, by omega⟩ hW hf hA) ?_
    rintro _ ⟨I20, rfl, hg21, he22⟩
    have hGw23 : cs_G I L I20 L := ⟨fun p k hp => hg21 p k (by omega), fun _ _ _ => rfl⟩
    have hW24 := cs_W_t hW (cs_G_F hGw23)
    have hF25 := (cs_G_F hGw23)
    have hG26 := hGw23
    have hz27 : ¬ sp_f P a 1 = 0 := sp_f_ne hW hA.2.1 (by omega)
    have hn28 : ¬ I20 11 11 = 0 := by rw [he22]; exact hz27
    show yi_D zi_Ms d zi_m270 k (18, [(1, .inr (.inl (L 16 a))), (0, .inr (.inr (some 11)))], [], (I20, L, R, Y), 0, 0) _
    refine yi_D_run 2 (38, [(1, .inr (.inl (L 16 a))), (0, .inr (.inr (some 11)))], [.inr (.inr (some 11))], (I20, L, R, Y), 0, 0) (fun _ => rfl) ?_
    refine yi_D_callv rfl (p_advance_f hW24 hn28) ?_
    rintro _ rfl
    show yi_D zi_Ms d zi_m270 k (41, [(1, .inr (.inl (L 16 a))), (0, .inr (.inr (some 11)))], [], (I20, L, R, Y), 0, 0) _
    refine yi_D_run 1 (42, [(1, .inr (.inl (L 16 a))), (0, .inr (.inr (some 11)))], [.inr (.inl (L 16 a))], (I20, L, R, Y), 0, 0) (fun _ => rfl) ?_
    refine yi_D_retl rfl ?_
    first | exact Or.inr (Or.inl ⟨by omega, _, _, _, rfl, hG26, he22⟩) | exact Or.inr (Or.inr ⟨⟨by omega, by omega⟩, _, _, _, rfl, hG26, he22⟩)
theorem p_takeNewName_f {d : Nat} {I L : Nat → Nat → Int} {R : Nat → Nat → Option Nat} {Y : (Nat → Nat) × (Nat → Nat) × Nat} {K P V : Nat → Int} {te q : Nat} {ld : Nat → Int} {nm : Int → Int} (hW : cs_W I L R Y K P V te q ld nm) (hf : ¬ I 11 11 = 0) : yi_P zi_Ms d 270 [.inr (.inr (some 11))] (I, L, R, Y) (fun r => ∃ z, r = (some (.inr (.inl z)), (I, L, R, Y), 0, 0)) := by
  refine yi_P_of (M := zi_m270) rfl (fun d k => ?_)
  obtain ⟨ly1, ly2, ly3, ly4⟩ := hW.2.2.1.2.2.2
  have lb := hW.2.2.2.2.1
  have hq0 := hW.2.2.1.1
  show yi_D zi_Ms d zi_m270 k (0, [(0, .inr (.inr (some 11)))], [], (I, L, R, Y), 0, 0) _
  refine yi_D_run 1 (1, [(0, .inr (.inr (some 11)))], [.inr (.inr (some 11))], (I, L, R, Y), 0, 0) (fun _ => rfl) ?_
  refine yi_D_gl (v := L 11 10) rfl rfl rfl rfl (fun _ => ?_)
  refine yi_D_run 2 (6, [(1, .inr (.inl (L 11 10))), (0, .inr (.inr (some 11)))], [.inr (.inr (some 11))], (I, L, R, Y), 0, 0) (fun _ => rfl) ?_
  refine yi_D_gi (v := I 11 9) rfl rfl rfl rfl (fun _ => ?_)
  refine yi_D_run 1 (10, [(1, .inr (.inl (L 11 10))), (0, .inr (.inr (some 11)))], [.inl 3, .inl (I 11 9)], (I, L, R, Y), 0, 0) (fun _ => rfl) ?_
  by_cases h1 : (I 11 9) = 3
  · refine yi_D_if2 true rfl (yi_eq_t h1) ?_
    refine yi_D_run 1 (22, [(1, .inr (.inl (L 11 10))), (0, .inr (.inr (some 11)))], [.inr (.inr (some 11))], (I, L, R, Y), 0, 0) (fun _ => rfl) ?_
    refine yi_D_gr (v := some q) rfl rfl rfl hW.2.2.1.2.1 (fun _ => ?_)
    refine yi_D_run 1 (26, [(1, .inr (.inl (L 11 10))), (0, .inr (.inr (some 11)))], [.inr (.inl (L 11 10)), .inr (.inr (some q))], (I, L, R, Y), 0, 0) (fun _ => rfl) ?_
    refine yi_D_callv rfl (p_isNamed_f hW) ?_
    rintro _ ⟨z2, rfl⟩
    show yi_D zi_Ms d zi_m270 k (29, [(1, .inr (.inl (L 11 10))), (0, .inr (.inr (some 11)))], [.inl z2], (I, L, R, Y), 0, 0) _
    by_cases h3 : z2 = 0
    · refine yi_D_if1 true rfl (yi_eq_t h3) ?_
      refine yi_D_run 1 (38, [(1, .inr (.inl (L 11 10))), (0, .inr (.inr (some 11)))], [.inr (.inr (some 11))], (I, L, R, Y), 0, 0) (fun _ => rfl) ?_
      refine yi_D_callv rfl (p_advance_f hW hf) ?_
      rintro _ rfl
      show yi_D zi_Ms d zi_m270 k (41, [(1, .inr (.inl (L 11 10))), (0, .inr (.inr (some 11)))], [], (I, L, R, Y), 0, 0) _
      refine yi_D_run 1 (42, [(1, .inr (.inl (L 11 10))), (0, .inr (.inr (some 11)))], [.inr (.inl (L 11 10))], (I, L, R, Y), 0, 0) (fun _ => rfl) ?_
      refine yi_D_retl rfl ?_
      exact ⟨_, rfl⟩
    · refine yi_D_if1 false rfl (yi_eq_f h3) ?_
      refine yi_D_run 2 (34, [(1, .inr (.inl (L 11 10))), (0, .inr (.inr (some 11)))], [.inl 3, .inr (.inr (some 11))], (I, L, R, Y), 0, 0) (fun _ => rfl) ?_
      refine yi_D_callv rfl (p_wrong_f hW hf) ?_
      rintro _ rfl
      show yi_D zi_Ms d zi_m270 k (37, [(1, .inr (.inl (L 11 10))), (0, .inr (.inr (some 11)))], [], (I, L, R, Y), 0, 0) _
      refine yi_D_run 1 (38, [(1, .inr (.inl (L 11 10))), (0, .inr (.inr (some 11)))], [.inr (.inr (some 11))], (I, L, R, Y), 0, 0) (fun _ => rfl) ?_
      refine yi_D_callv rfl (p_advance_f hW hf) ?_
      rintro _ rfl
      show yi_D zi_Ms d zi_m270 k (41, [(1, .inr (.inl (L 11 10))), (0, .inr (.inr (some 11)))], [], (I, L, R, Y), 0, 0) _
      refine yi_D_run 1 (42, [(1, .inr (.inl (L 11 10))), (0, .inr (.inr (some 11)))], [.inr (.inl (L 11 10))], (I, L, R, Y), 0, 0) (fun _ => rfl) ?_
      refine yi_D_retl rfl ?_
      exact ⟨_, rfl⟩
  · refine yi_D_if2 false rfl (yi_eq_f h1) ?_
    refine yi_D_run 2 (15, [(1, .inr (.inl (L 11 10))), (0, .inr (.inr (some 11)))], [.inl 1, .inr (.inr (some 11))], (I, L, R, Y), 0, 0) (fun _ => rfl) ?_
    refine yi_D_callv rfl (p_wrong_f hW hf) ?_
    rintro _ rfl
    show yi_D zi_Ms d zi_m270 k (18, [(1, .inr (.inl (L 11 10))), (0, .inr (.inr (some 11)))], [], (I, L, R, Y), 0, 0) _
    refine yi_D_run 2 (38, [(1, .inr (.inl (L 11 10))), (0, .inr (.inr (some 11)))], [.inr (.inr (some 11))], (I, L, R, Y), 0, 0) (fun _ => rfl) ?_
    refine yi_D_callv rfl (p_advance_f hW hf) ?_
    rintro _ rfl
    show yi_D zi_Ms d zi_m270 k (41, [(1, .inr (.inl (L 11 10))), (0, .inr (.inr (some 11)))], [], (I, L, R, Y), 0, 0) _
    refine yi_D_run 1 (42, [(1, .inr (.inl (L 11 10))), (0, .inr (.inr (some 11)))], [.inr (.inl (L 11 10))], (I, L, R, Y), 0, 0) (fun _ => rfl) ?_
    refine yi_D_retl rfl ?_
    exact ⟨_, rfl⟩
theorem p_readSingle {d : Nat} {I L : Nat → Nat → Int} {R : Nat → Nat → Option Nat} {Y : (Nat → Nat) × (Nat → Nat) × Nat} {K P V : Nat → Int} {te q a : Nat} {ld : Nat → Int} {nm : Int → Int} (hW : cs_W I L R Y K P V te q ld nm) (hf : I 11 11 = 0) (hA : cs_A I L K te a) (hk : K a = 3 ∨ K a = 14 ∨ K a = 15) (hn : K a = 3 → 0 ≤ nm (V a) ∧ nm (V a) ≤ 3) : yi_P zi_Ms d 266 [.inr (.inr (some 11))] (I, L, R, Y) (fun r => ∃ I' L', r = (none, (I', L', R, Y), 0, 0) ∧ cs_F I L I' L' ∧ ((∃ a' x, sp_single K P V ld nm a = .inl (a', x) ∧ I' 11 11 = 0 ∧ cs_A I' L' K te a') ∨ (∃ f, sp_single K P V ld nm a = .inr f ∧ ¬ f = 0 ∧ I' 11 11 = f))) := by
  refine yi_P_of (M := zi_m266) rfl (fun d k => ?_)
  obtain ⟨ly1, ly2, ly3, ly4⟩ := hW.2.2.1.2.2.2
  have lb := hW.2.2.2.2.1
  have hq0 := hW.2.2.1.1
  have hp := hW.2.1.2.2.1 a hA.2.1
  have jn144f : ∀ (y4 : Int) (y3 : Int) (y2 : Int) (y1 : Int) (J G : Nat → Nat → Int) (f : Int), cs_F I L J G → J 11 11 = f → ¬ f = 0 → sp_single K P V ld nm a = .inr f → yi_D zi_Ms d zi_m266 k (144, [(4, .inl y4), (3, .inl y3), (2, .inl y2), (1, .inl y1), (0, .inr (.inr (some 11)))], [], (J, G, R, Y), 0, 0) (fun r => ∃ I' L', r = (none, (I', L', R, Y), 0, 0) ∧ cs_F I L I' L' ∧ ((∃ a' x, sp_single K P V ld nm a = .inl (a', x) ∧ I' 11 11 = 0 ∧ cs_A I' L' K te a') ∨ (∃ f, sp_single K P V ld nm a = .inr f ∧ ¬ f = 0 ∧ I' 11 11 = f))) := by
    intro y4 y3 y2 y1 J G f jF je jn jsp 
    have jW := cs_W_t hW jF
    have jf : ¬ J 11 11 = 0 := by rw [je]; exact jn
    have jF1 : ∀ p k, (p ≠ 11 ∧ p ≠ 19) → J p k = I p k := fun p k h => jF.1 p k h.1 h.2
    have jF2 := jF.2
    refine yi_D_run 5 (150, [(4, .inl y4), (3, .inl y3), (2, .inl y2), (1, .inl y1), (0, .inr (.inr (some 11)))], [.inl y4, .inl y2, .inl y1, .inl y3, .inr (.inr (some 11))], (J, G, R, Y), 0, 0) (fun _ => rfl) ?_
    refine yi_D_callv rfl (p_emitWhen jW) ?_
    rintro _ ⟨I1, rfl, hE2⟩
    have hW3 := cs_W_t jW (cs_E_F (L := G) hE2)
    have hF4 := cs_F_t jF (cs_E_F hE2)
    have hf5 : ¬ I1 11 11 = 0 := by rw [hE2 11 11 (by omega) (by omega)]; exact jf
    have he6 := (hE2 11 11 (by omega) (by omega)).trans je
    show yi_D zi_Ms d zi_m266 k (153, [(4, .inl y4), (3, .inl y3), (2, .inl y2), (1, .inl y1), (0, .inr (.inr (some 11)))], [], (I1, G, R, Y), 0, 0) _
    refine yi_D_retv rfl ?_
    exact ⟨_, _, rfl, hF4, Or.inr ⟨_, jsp, jn, he6⟩⟩
  have jn95f : ∀ (y3 : Int) (y2 : Int) (y1 : Int) (J G : Nat → Nat → Int) (f : Int), cs_F I L J G → J 11 11 = f → ¬ f = 0 → sp_single K P V ld nm a = .inr f → yi_D zi_Ms d zi_m266 k (95, [(3, .inl y3), (2, .inl y2), (1, .inl y1), (0, .inr (.inr (some 11)))], [], (J, G, R, Y), 0, 0) (fun r => ∃ I' L', r = (none, (I', L', R, Y), 0, 0) ∧ cs_F I L I' L' ∧ ((∃ a' x, sp_single K P V ld nm a = .inl (a', x) ∧ I' 11 11 = 0 ∧ cs_A I' L' K te a') ∨ (∃ f, sp_single K P V ld nm a = .inr f ∧ ¬ f = 0 ∧ I' 11 11 = f))) := by
    intro y3 y2 y1 J G f jF je jn jsp 
    have jW := cs_W_t hW jF
    have jf : ¬ J 11 11 = 0 := by rw [je]; exact jn
    have jF1 : ∀ p k, (p ≠ 11 ∧ p ≠ 19) → J p k = I p k := fun p k h => jF.1 p k h.1 h.2
    have jF2 := jF.2
    refine yi_D_run 1 (96, [(3, .inl y3), (2, .inl y2), (1, .inl y1), (0, .inr (.inr (some 11)))], [.inr (.inr (some 11))], (J, G, R, Y), 0, 0) (fun _ => rfl) ?_
    refine yi_D_callv rfl (p_advance_f jW jf) ?_
    rintro _ rfl
    show yi_D zi_Ms d zi_m266 k (99, [(3, .inl y3), (2, .inl y2), (1, .inl y1), (0, .inr (.inr (some 11)))], [], (J, G, R, Y), 0, 0) _
    refine yi_D_run 4 (105, [(4, .inl 0), (3, .inl y3), (2, .inl y2), (1, .inl y1), (0, .inr (.inr (some 11)))], [.inl 21, .inl y3], (J, G, R, Y), 0, 0) (fun _ => rfl) ?_
    by_cases h7 : y3 = 21
    · refine yi_D_if2 true rfl (yi_eq_t h7) ?_
      exact yi_D_mono (jn144f 0 y3 y2 y1 _ _ _ jF je jn jsp ) (by omega)
    · refine yi_D_if2 false rfl (yi_eq_f h7) ?_
      refine yi_D_run 2 (111, [(4, .inl 0), (3, .inl y3), (2, .inl y2), (1, .inl y1), (0, .inr (.inr (some 11)))], [.inl 22, .inl y3], (J, G, R, Y), 0, 0) (fun _ => rfl) ?_
      by_cases h8 : y3 = 22
      · refine yi_D_if2 true rfl (yi_eq_t h8) ?_
        exact yi_D_mono (jn144f 0 y3 y2 y1 _ _ _ jF je jn jsp ) (by omega)
      · refine yi_D_if2 false rfl (yi_eq_f h8) ?_
        refine yi_D_run 3 (118, [(4, .inl 0), (3, .inl y3), (2, .inl y2), (1, .inl y1), (0, .inr (.inr (some 11)))], [.inl 23, .inl y3, .inr (.inr (some 11))], (J, G, R, Y), 0, 0) (fun _ => rfl) ?_
        by_cases h9 : y3 = 23
        · refine yi_D_if2 true rfl (yi_eq_t h9) ?_
          refine yi_D_run 3 (133, [(4, .inl 0), (3, .inl y3), (2, .inl y2), (1, .inl y1), (0, .inr (.inr (some 11)))], [.inr (.inr (some 11)), .inl 0, .inr (.inr (some 11))], (J, G, R, Y), 0, 0) (fun _ => rfl) ?_
          refine yi_D_gr (v := some q) rfl rfl rfl hW.2.2.1.2.1 (fun _ => ?_)
          have r10 : J q 14 = ld 0 := by rw [jF1 q 14 (by omega), hW.2.2.2.1.1]
          refine yi_D_gi (v := ld 0) rfl rfl (Nat.ble_eq_true_of_le (by omega)) r10 (fun _ => ?_)
          
          refine yi_D_callv rfl (p_takeNumber_f jW jf) ?_
          rintro _ ⟨z11, rfl⟩
          show yi_D zi_Ms d zi_m266 k (142, [(4, .inl 0), (3, .inl y3), (2, .inl y2), (1, .inl y1), (0, .inr (.inr (some 11)))], [.inl z11], (J, G, R, Y), 0, 0) _
          refine yi_D_run 1 (144, [(4, .inl z11), (3, .inl y3), (2, .inl y2), (1, .inl y1), (0, .inr (.inr (some 11)))], [], (J, G, R, Y), 0, 0) (fun _ => rfl) ?_
          exact yi_D_mono (jn144f z11 y3 y2 y1 _ _ _ jF je jn jsp ) (by omega)
        · refine yi_D_if2 false rfl (yi_eq_f h9) ?_
          refine yi_D_run 2 (124, [(4, .inl 0), (3, .inl y3), (2, .inl y2), (1, .inl y1), (0, .inr (.inr (some 11)))], [.inl 24, .inl y3, .inr (.inr (some 11))], (J, G, R, Y), 0, 0) (fun _ => rfl) ?_
          by_cases h12 : y3 = 24
          · refine yi_D_if2 false rfl (yi_ne_f h12) ?_
            refine yi_D_run 3 (133, [(4, .inl 0), (3, .inl y3), (2, .inl y2), (1, .inl y1), (0, .inr (.inr (some 11)))], [.inr (.inr (some 11)), .inl 0, .inr (.inr (some 11))], (J, G, R, Y), 0, 0) (fun _ => rfl) ?_
            refine yi_D_gr (v := some q) rfl rfl rfl hW.2.2.1.2.1 (fun _ => ?_)
            have r13 : J q 14 = ld 0 := by rw [jF1 q 14 (by omega), hW.2.2.2.1.1]
            refine yi_D_gi (v := ld 0) rfl rfl (Nat.ble_eq_true_of_le (by omega)) r13 (fun _ => ?_)
            
            refine yi_D_callv rfl (p_takeNumber_f jW jf) ?_
            rintro _ ⟨z14, rfl⟩
            show yi_D zi_Ms d zi_m266 k (142, [(4, .inl 0), (3, .inl y3), (2, .inl y2), (1, .inl y1), (0, .inr (.inr (some 11)))], [.inl z14], (J, G, R, Y), 0, 0) _
            refine yi_D_run 1 (144, [(4, .inl z14), (3, .inl y3), (2, .inl y2), (1, .inl y1), (0, .inr (.inr (some 11)))], [], (J, G, R, Y), 0, 0) (fun _ => rfl) ?_
            exact yi_D_mono (jn144f z14 y3 y2 y1 _ _ _ jF je jn jsp ) (by omega)
          · refine yi_D_if2 true rfl (yi_ne_t h12) ?_
            refine yi_D_run 2 (133, [(4, .inl 0), (3, .inl y3), (2, .inl y2), (1, .inl y1), (0, .inr (.inr (some 11)))], [.inr (.inr (some 11)), .inl 1, .inr (.inr (some 11))], (J, G, R, Y), 0, 0) (fun _ => rfl) ?_
            refine yi_D_gr (v := some q) rfl rfl rfl hW.2.2.1.2.1 (fun _ => ?_)
            have r15 : J q 14 = ld 0 := by rw [jF1 q 14 (by omega), hW.2.2.2.1.1]
            refine yi_D_gi (v := ld 0) rfl rfl (Nat.ble_eq_true_of_le (by omega)) r15 (fun _ => ?_)
            
            refine yi_D_callv rfl (p_takeNumber_f jW jf) ?_
            rintro _ ⟨z16, rfl⟩
            show yi_D zi_Ms d zi_m266 k (142, [(4, .inl 0), (3, .inl y3), (2, .inl y2), (1, .inl y1), (0, .inr (.inr (some 11)))], [.inl z16], (J, G, R, Y), 0, 0) _
            refine yi_D_run 1 (144, [(4, .inl z16), (3, .inl y3), (2, .inl y2), (1, .inl y1), (0, .inr (.inr (some 11)))], [], (J, G, R, Y), 0, 0) (fun _ => rfl) ?_
            exact yi_D_mono (jn144f z16 y3 y2 y1 _ _ _ jF je jn jsp ) (by omega)
  have jn73f : ∀ (y2 : Int) (y1 : Int) (J G : Nat → Nat → Int) (f : Int), cs_F I L J G → J 11 11 = f → ¬ f = 0 → sp_single K P V ld nm a = .inr f → yi_D zi_Ms d zi_m266 k (73, [(2, .inl y2), (1, .inl y1), (0, .inr (.inr (some 11)))], [], (J, G, R, Y), 0, 0) (fun r => ∃ I' L', r = (none, (I', L', R, Y), 0, 0) ∧ cs_F I L I' L' ∧ ((∃ a' x, sp_single K P V ld nm a = .inl (a', x) ∧ I' 11 11 = 0 ∧ cs_A I' L' K te a') ∨ (∃ f, sp_single K P V ld nm a = .inr f ∧ ¬ f = 0 ∧ I' 11 11 = f))) := by
    intro y2 y1 J G f jF je jn jsp 
    have jW := cs_W_t hW jF
    have jf : ¬ J 11 11 = 0 := by rw [je]; exact jn
    have jF1 : ∀ p k, (p ≠ 11 ∧ p ≠ 19) → J p k = I p k := fun p k h => jF.1 p k h.1 h.2
    have jF2 := jF.2
    refine yi_D_run 1 (74, [(2, .inl y2), (1, .inl y1), (0, .inr (.inr (some 11)))], [.inr (.inr (some 11))], (J, G, R, Y), 0, 0) (fun _ => rfl) ?_
    refine yi_D_gi (v := J 11 9) rfl rfl rfl rfl (fun _ => ?_)
    refine yi_D_run 3 (81, [(3, .inl (J 11 9)), (2, .inl y2), (1, .inl y1), (0, .inr (.inr (some 11)))], [.inl 18, .inl (J 11 9)], (J, G, R, Y), 0, 0) (fun _ => rfl) ?_
    by_cases h17 : (J 11 9) < 18
    · refine yi_D_if2 true rfl (yi_lt_t h17) ?_
      refine yi_D_run 2 (92, [(3, .inl (J 11 9)), (2, .inl y2), (1, .inl y1), (0, .inr (.inr (some 11)))], [.inl 1, .inr (.inr (some 11))], (J, G, R, Y), 0, 0) (fun _ => rfl) ?_
      refine yi_D_callv rfl (p_wrong_f jW jf) ?_
      rintro _ rfl
      show yi_D zi_Ms d zi_m266 k (95, [(3, .inl (J 11 9)), (2, .inl y2), (1, .inl y1), (0, .inr (.inr (some 11)))], [], (J, G, R, Y), 0, 0) _
      exact yi_D_mono (jn95f (J 11 9) y2 y1 _ _ _ jF je jn jsp ) (by omega)
    · refine yi_D_if2 false rfl (yi_lt_f h17) ?_
      refine yi_D_run 2 (87, [(3, .inl (J 11 9)), (2, .inl y2), (1, .inl y1), (0, .inr (.inr (some 11)))], [.inl 24, .inl (J 11 9)], (J, G, R, Y), 0, 0) (fun _ => rfl) ?_
      by_cases h18 : (J 11 9) ≤ 24
      · refine yi_D_if2 true rfl (yi_le_t h18) ?_
        exact yi_D_mono (jn95f (J 11 9) y2 y1 _ _ _ jF je jn jsp ) (by omega)
      · refine yi_D_if2 false rfl (yi_le_f h18) ?_
        refine yi_D_run 2 (92, [(3, .inl (J 11 9)), (2, .inl y2), (1, .inl y1), (0, .inr (.inr (some 11)))], [.inl 1, .inr (.inr (some 11))], (J, G, R, Y), 0, 0) (fun _ => rfl) ?_
        refine yi_D_callv rfl (p_wrong_f jW jf) ?_
        rintro _ rfl
        show yi_D zi_Ms d zi_m266 k (95, [(3, .inl (J 11 9)), (2, .inl y2), (1, .inl y1), (0, .inr (.inr (some 11)))], [], (J, G, R, Y), 0, 0) _
        exact yi_D_mono (jn95f (J 11 9) y2 y1 _ _ _ jF je jn jsp ) (by omega)
  have jn54f : ∀ (y1 : Int) (J G : Nat → Nat → Int) (f : Int), cs_F I L J G → J 11 11 = f → ¬ f = 0 → sp_single K P V ld nm a = .inr f → yi_D zi_Ms d zi_m266 k (54, [(1, .inl y1), (0, .inr (.inr (some 11)))], [], (J, G, R, Y), 0, 0) (fun r => ∃ I' L', r = (none, (I', L', R, Y), 0, 0) ∧ cs_F I L I' L' ∧ ((∃ a' x, sp_single K P V ld nm a = .inl (a', x) ∧ I' 11 11 = 0 ∧ cs_A I' L' K te a') ∨ (∃ f, sp_single K P V ld nm a = .inr f ∧ ¬ f = 0 ∧ I' 11 11 = f))) := by
    intro y1 J G f jF je jn jsp 
    have jW := cs_W_t hW jF
    have jf : ¬ J 11 11 = 0 := by rw [je]; exact jn
    have jF1 : ∀ p k, (p ≠ 11 ∧ p ≠ 19) → J p k = I p k := fun p k h => jF.1 p k h.1 h.2
    have jF2 := jF.2
    refine yi_D_run 2 (56, [(1, .inl y1), (0, .inr (.inr (some 11)))], [.inr (.inr (some 11)), .inr (.inr (some 11))], (J, G, R, Y), 0, 0) (fun _ => rfl) ?_
    refine yi_D_gr (v := some q) rfl rfl rfl hW.2.2.1.2.1 (fun _ => ?_)
    refine yi_D_gr (v := some (q + 2)) rfl rfl (Nat.ble_eq_true_of_le (by omega)) (hW.2.2.1.2.2.1 1 (by omega)) (fun _ => ?_)
    refine yi_D_run 1 (63, [(1, .inl y1), (0, .inr (.inr (some 11)))], [.inr (.inr (some 11)), .inr (.inr (some (q + 2))), .inr (.inr (some 11))], (J, G, R, Y), 0, 0) (fun _ => rfl) ?_
    refine yi_D_gr (v := some q) rfl rfl rfl hW.2.2.1.2.1 (fun _ => ?_)
    have r19 : J q 16 = ld 2 := by rw [jF1 q 16 (by omega), hW.2.2.2.1.2.2.1]
    refine yi_D_gi (v := ld 2) rfl rfl (Nat.ble_eq_true_of_le (by omega)) r19 (fun _ => ?_)
    refine yi_D_callv rfl (p_takeName_f (by omega) ⟨by omega, by omega, by omega⟩ jW jf) ?_
    rintro _ ⟨z20, rfl⟩
    show yi_D zi_Ms d zi_m266 k (72, [(1, .inl y1), (0, .inr (.inr (some 11)))], [.inl z20], (J, G, R, Y), 0, 0) _
    refine yi_D_run 1 (73, [(2, .inl z20), (1, .inl y1), (0, .inr (.inr (some 11)))], [], (J, G, R, Y), 0, 0) (fun _ => rfl) ?_
    exact yi_D_mono (jn73f z20 y1 _ _ _ jF je jn jsp ) (by omega)
  have jn54z : ∀ (y1 : Int) (J G : Nat → Nat → Int), cs_F I L J G → J 11 11 = 0 → cs_A J G K te (a + 1) → yi_D zi_Ms d zi_m266 k (54, [(1, .inl y1), (0, .inr (.inr (some 11)))], [], (J, G, R, Y), 0, 0) (fun r => ∃ I' L', r = (none, (I', L', R, Y), 0, 0) ∧ cs_F I L I' L' ∧ ((∃ a' x, sp_single K P V ld nm a = .inl (a', x) ∧ I' 11 11 = 0 ∧ cs_A I' L' K te a') ∨ (∃ f, sp_single K P V ld nm a = .inr f ∧ ¬ f = 0 ∧ I' 11 11 = f))) := by
    intro y1 J G jF jf jA 
    have jW := cs_W_t hW jF
    have jF1 : ∀ p k, (p ≠ 11 ∧ p ≠ 19) → J p k = I p k := fun p k h => jF.1 p k h.1 h.2
    have jF2 := jF.2
    refine yi_D_run 2 (56, [(1, .inl y1), (0, .inr (.inr (some 11)))], [.inr (.inr (some 11)), .inr (.inr (some 11))], (J, G, R, Y), 0, 0) (fun _ => rfl) ?_
    refine yi_D_gr (v := some q) rfl rfl rfl hW.2.2.1.2.1 (fun _ => ?_)
    refine yi_D_gr (v := some (q + 2)) rfl rfl (Nat.ble_eq_true_of_le (by omega)) (hW.2.2.1.2.2.1 1 (by omega)) (fun _ => ?_)
    refine yi_D_run 1 (63, [(1, .inl y1), (0, .inr (.inr (some 11)))], [.inr (.inr (some 11)), .inr (.inr (some (q + 2))), .inr (.inr (some 11))], (J, G, R, Y), 0, 0) (fun _ => rfl) ?_
    refine yi_D_gr (v := some q) rfl rfl rfl hW.2.2.1.2.1 (fun _ => ?_)
    have r21 : J q 16 = ld 2 := by rw [jF1 q 16 (by omega), hW.2.2.2.1.2.2.1]
    refine yi_D_gi (v := ld 2) rfl rfl (Nat.ble_eq_true_of_le (by omega)) r21 (fun _ => ?_)
    refine yi_D_callv rfl (p_takeName_z (by omega) ⟨by omega, by omega, by omega⟩ jW jf jA (by omega) jW.2.2.2.2.2.2.2.1.2.1) ?_
    rintro _ (⟨c22, c23, I24, L25, rfl, hGa26, hf27, hA28⟩ | ⟨c29, z34, I30, L31, rfl, hGa32, he33⟩ | ⟨c35, z40, I36, L37, rfl, hGa38, he39⟩)
    · have hA28 : cs_A I24 L25 K te (a + 2) := hA28
      have hW41 := cs_W_t jW (cs_G_F hGa26)
      have hF42 := cs_F_t jF (cs_G_F hGa26)
      show yi_D zi_Ms d zi_m266 k (72, [(1, .inl y1), (0, .inr (.inr (some 11)))], [.inl (nm (V (a + 1)) - 4)], (I24, L25, R, Y), 0, 0) _
      refine yi_D_run 2 (74, [(2, .inl (nm (V (a + 1)) - 4)), (1, .inl y1), (0, .inr (.inr (some 11)))], [.inr (.inr (some 11))], (I24, L25, R, Y), 0, 0) (fun _ => rfl) ?_
      refine yi_D_gi (v := K (a + 2)) rfl rfl rfl hA28.2.2.1 (fun _ => ?_)
      refine yi_D_run 3 (81, [(3, .inl (K (a + 2))), (2, .inl (nm (V (a + 1)) - 4)), (1, .inl y1), (0, .inr (.inr (some 11)))], [.inl 18, .inl (K (a + 2))], (I24, L25, R, Y), 0, 0) (fun _ => rfl) ?_
      by_cases h43 : (K (a + 2)) < 18
      · refine yi_D_if2 true rfl (yi_lt_t h43) ?_
        refine yi_D_run 2 (92, [(3, .inl (K (a + 2))), (2, .inl (nm (V (a + 1)) - 4)), (1, .inl y1), (0, .inr (.inr (some 11)))], [.inl 1, .inr (.inr (some 11))], (I24, L25, R, Y), 0, 0) (fun _ => rfl) ?_
        refine yi_D_callv rfl (p_wrong_z ⟨by omega, by omega⟩ hW41 hf27 hA28) ?_
        rintro _ ⟨I44, rfl, hg45, he46⟩
        have hGw47 : cs_G I24 L25 I44 L25 := ⟨fun p k hp => hg45 p k (by omega), fun _ _ _ => rfl⟩
        have hW48 := cs_W_t hW41 (cs_G_F hGw47)
        have hF49 := cs_F_t hF42 (cs_G_F hGw47)
        have hz50 : ¬ sp_f P (a + 2) 1 = 0 := sp_f_ne hW41 hA28.2.1 (by omega)
        have hn51 : ¬ I44 11 11 = 0 := by rw [he46]; exact hz50
        have hx52 : sp_single K P V ld nm a = .inr (sp_f P (a + 2) 1) := by
          first
          | (exfalso; omega)
          | (unfold sp_single; repeat (first | rw [if_pos (by omega)] | rw [if_neg (by omega)]))
        show yi_D zi_Ms d zi_m266 k (95, [(3, .inl (K (a + 2))), (2, .inl (nm (V (a + 1)) - 4)), (1, .inl y1), (0, .inr (.inr (some 11)))], [], (I44, L25, R, Y), 0, 0) _
        exact yi_D_mono (jn95f (K (a + 2)) (nm (V (a + 1)) - 4) y1 _ _ _ hF49 he46 hz50 hx52 ) (by omega)
      · refine yi_D_if2 false rfl (yi_lt_f h43) ?_
        refine yi_D_run 2 (87, [(3, .inl (K (a + 2))), (2, .inl (nm (V (a + 1)) - 4)), (1, .inl y1), (0, .inr (.inr (some 11)))], [.inl 24, .inl (K (a + 2))], (I24, L25, R, Y), 0, 0) (fun _ => rfl) ?_
        by_cases h53 : (K (a + 2)) ≤ 24
        · refine yi_D_if2 true rfl (yi_le_t h53) ?_
          refine yi_D_run 1 (96, [(3, .inl (K (a + 2))), (2, .inl (nm (V (a + 1)) - 4)), (1, .inl y1), (0, .inr (.inr (some 11)))], [.inr (.inr (some 11))], (I24, L25, R, Y), 0, 0) (fun _ => rfl) ?_
          refine yi_D_callv rfl (p_advance_z hW41 hf27 hA28) ?_
          rintro _ ⟨I54, L55, rfl, hGa56, hf57, hA58⟩
          rw [sp_nx_lt (cs_lt hW41.2.1 hA28.2.1 (by omega))] at hA58
          have hA58 : cs_A I54 L55 K te (a + 3) := hA58
          have hW59 := cs_W_t hW41 (cs_G_F hGa56)
          have hF60 := cs_F_t hF42 (cs_G_F hGa56)
          show yi_D zi_Ms d zi_m266 k (99, [(3, .inl (K (a + 2))), (2, .inl (nm (V (a + 1)) - 4)), (1, .inl y1), (0, .inr (.inr (some 11)))], [], (I54, L55, R, Y), 0, 0) _
          refine yi_D_run 4 (105, [(4, .inl 0), (3, .inl (K (a + 2))), (2, .inl (nm (V (a + 1)) - 4)), (1, .inl y1), (0, .inr (.inr (some 11)))], [.inl 21, .inl (K (a + 2))], (I54, L55, R, Y), 0, 0) (fun _ => rfl) ?_
          by_cases h61 : (K (a + 2)) = 21
          · refine yi_D_if2 true rfl (yi_eq_t h61) ?_
            refine yi_D_run 5 (150, [(4, .inl 0), (3, .inl (K (a + 2))), (2, .inl (nm (V (a + 1)) - 4)), (1, .inl y1), (0, .inr (.inr (some 11)))], [.inl 0, .inl (nm (V (a + 1)) - 4), .inl y1, .inl (K (a + 2)), .inr (.inr (some 11))], (I54, L55, R, Y), 0, 0) (fun _ => rfl) ?_
            refine yi_D_callv rfl (p_emitWhen hW59) ?_
            rintro _ ⟨I62, rfl, hE63⟩
            have hW64 := cs_W_t hW59 (cs_E_F (L := L55) hE63)
            have hF65 := cs_F_t hF60 (cs_E_F hE63)
            have hf66 : I62 11 11 = 0 := (hE63 11 11 (by omega) (by omega)).trans hf57
            have hA67 := cs_A_e hA58 hE63
            show yi_D zi_Ms d zi_m266 k (153, [(4, .inl 0), (3, .inl (K (a + 2))), (2, .inl (nm (V (a + 1)) - 4)), (1, .inl y1), (0, .inr (.inr (some 11)))], [], (I62, L55, R, Y), 0, 0) _
            refine yi_D_retv rfl ?_
            first
            | (exfalso; omega)
            | (refine ⟨_, _, rfl, hF65, Or.inl ⟨_, sp_cc (if K a = 14 then 4 else if K a = 15 then 5 else nm (V a)) (nm (V (a + 1)) - 4) (K (a + 2) - 18) 0, ?_, hf66, hA67⟩⟩; unfold sp_single; repeat (first | rw [if_pos (by omega)] | rw [if_neg (by omega)]))
          · refine yi_D_if2 false rfl (yi_eq_f h61) ?_
            refine yi_D_run 2 (111, [(4, .inl 0), (3, .inl (K (a + 2))), (2, .inl (nm (V (a + 1)) - 4)), (1, .inl y1), (0, .inr (.inr (some 11)))], [.inl 22, .inl (K (a + 2))], (I54, L55, R, Y), 0, 0) (fun _ => rfl) ?_
            by_cases h68 : (K (a + 2)) = 22
            · refine yi_D_if2 true rfl (yi_eq_t h68) ?_
              refine yi_D_run 5 (150, [(4, .inl 0), (3, .inl (K (a + 2))), (2, .inl (nm (V (a + 1)) - 4)), (1, .inl y1), (0, .inr (.inr (some 11)))], [.inl 0, .inl (nm (V (a + 1)) - 4), .inl y1, .inl (K (a + 2)), .inr (.inr (some 11))], (I54, L55, R, Y), 0, 0) (fun _ => rfl) ?_
              refine yi_D_callv rfl (p_emitWhen hW59) ?_
              rintro _ ⟨I69, rfl, hE70⟩
              have hW71 := cs_W_t hW59 (cs_E_F (L := L55) hE70)
              have hF72 := cs_F_t hF60 (cs_E_F hE70)
              have hf73 : I69 11 11 = 0 := (hE70 11 11 (by omega) (by omega)).trans hf57
              have hA74 := cs_A_e hA58 hE70
              show yi_D zi_Ms d zi_m266 k (153, [(4, .inl 0), (3, .inl (K (a + 2))), (2, .inl (nm (V (a + 1)) - 4)), (1, .inl y1), (0, .inr (.inr (some 11)))], [], (I69, L55, R, Y), 0, 0) _
              refine yi_D_retv rfl ?_
              first
              | (exfalso; omega)
              | (refine ⟨_, _, rfl, hF72, Or.inl ⟨_, sp_cc (if K a = 14 then 4 else if K a = 15 then 5 else nm (V a)) (nm (V (a + 1)) - 4) (K (a + 2) - 18) 0, ?_, hf73, hA74⟩⟩; unfold sp_single; repeat (first | rw [if_pos (by omega)] | rw [if_neg (by omega)]))
            · refine yi_D_if2 false rfl (yi_eq_f h68) ?_
              refine yi_D_run 3 (118, [(4, .inl 0), (3, .inl (K (a + 2))), (2, .inl (nm (V (a + 1)) - 4)), (1, .inl y1), (0, .inr (.inr (some 11)))], [.inl 23, .inl (K (a + 2)), .inr (.inr (some 11))], (I54, L55, R, Y), 0, 0) (fun _ => rfl) ?_
              by_cases h75 : (K (a + 2)) = 23
              · refine yi_D_if2 true rfl (yi_eq_t h75) ?_
                refine yi_D_run 3 (133, [(4, .inl 0), (3, .inl (K (a + 2))), (2, .inl (nm (V (a + 1)) - 4)), (1, .inl y1), (0, .inr (.inr (some 11)))], [.inr (.inr (some 11)), .inl 0, .inr (.inr (some 11))], (I54, L55, R, Y), 0, 0) (fun _ => rfl) ?_
                refine yi_D_gr (v := some q) rfl rfl rfl hW.2.2.1.2.1 (fun _ => ?_)
                have r76 : I54 q 14 = ld 0 := by rw [hGa56.1 q 14 (by omega), hGa26.1 q 14 (by omega), jF1 q 14 (by omega), hW.2.2.2.1.1]
                refine yi_D_gi (v := ld 0) rfl rfl (Nat.ble_eq_true_of_le (by omega)) r76 (fun _ => ?_)
                have hlo : sp_lo (K (a + 2)) = 0 := if_neg (by omega)
                refine yi_D_callv rfl (p_takeNumber_z (lo := 0) (hi := ld 0) hW59 hf57 hA58) ?_
                rintro _ (⟨c77, c78, I79, L80, rfl, hGa81, hf82, hA83⟩ | ⟨c84, z89, I85, L86, rfl, hGa87, he88⟩ | ⟨c90, z95, I91, L92, rfl, hGa93, he94⟩)
                · have hA83 : cs_A I79 L80 K te (a + 4) := hA83
                  have hW96 := cs_W_t hW59 (cs_G_F hGa81)
                  have hF97 := cs_F_t hF60 (cs_G_F hGa81)
                  show yi_D zi_Ms d zi_m266 k (142, [(4, .inl 0), (3, .inl (K (a + 2))), (2, .inl (nm (V (a + 1)) - 4)), (1, .inl y1), (0, .inr (.inr (some 11)))], [.inl (V (a + 3))], (I79, L80, R, Y), 0, 0) _
                  refine yi_D_run 6 (150, [(4, .inl (V (a + 3))), (3, .inl (K (a + 2))), (2, .inl (nm (V (a + 1)) - 4)), (1, .inl y1), (0, .inr (.inr (some 11)))], [.inl (V (a + 3)), .inl (nm (V (a + 1)) - 4), .inl y1, .inl (K (a + 2)), .inr (.inr (some 11))], (I79, L80, R, Y), 0, 0) (fun _ => rfl) ?_
                  refine yi_D_callv rfl (p_emitWhen hW96) ?_
                  rintro _ ⟨I98, rfl, hE99⟩
                  have hW100 := cs_W_t hW96 (cs_E_F (L := L80) hE99)
                  have hF101 := cs_F_t hF97 (cs_E_F hE99)
                  have hf102 : I98 11 11 = 0 := (hE99 11 11 (by omega) (by omega)).trans hf82
                  have hA103 := cs_A_e hA83 hE99
                  show yi_D zi_Ms d zi_m266 k (153, [(4, .inl (V (a + 3))), (3, .inl (K (a + 2))), (2, .inl (nm (V (a + 1)) - 4)), (1, .inl y1), (0, .inr (.inr (some 11)))], [], (I98, L80, R, Y), 0, 0) _
                  refine yi_D_retv rfl ?_
                  first
                  | (exfalso; omega)
                  | (refine ⟨_, _, rfl, hF101, Or.inl ⟨_, sp_cc (if K a = 14 then 4 else if K a = 15 then 5 else nm (V a)) (nm (V (a + 1)) - 4) (K (a + 2) - 18) (V (a + 3)), ?_, hf102, hA103⟩⟩; unfold sp_single; repeat (first | rw [if_pos (by omega)] | rw [if_neg (by omega)]))
                · have hW104 := cs_W_t hW59 (cs_G_F hGa87)
                  have hF105 := cs_F_t hF60 (cs_G_F hGa87)
                  have hz106 : ¬ sp_f P (a + 3) 1 = 0 := sp_f_ne hW59 hA58.2.1 (by omega)
                  have hn107 : ¬ I85 11 11 = 0 := by rw [he88]; exact hz106
                  have hx108 : sp_single K P V ld nm a = .inr (sp_f P (a + 3) 1) := by
                    first
                    | (exfalso; omega)
                    | (unfold sp_single; repeat (first | rw [if_pos (by omega)] | rw [if_neg (by omega)]))
                  show yi_D zi_Ms d zi_m266 k (142, [(4, .inl 0), (3, .inl (K (a + 2))), (2, .inl (nm (V (a + 1)) - 4)), (1, .inl y1), (0, .inr (.inr (some 11)))], [.inl z89], (I85, L86, R, Y), 0, 0) _
                  refine yi_D_run 1 (144, [(4, .inl z89), (3, .inl (K (a + 2))), (2, .inl (nm (V (a + 1)) - 4)), (1, .inl y1), (0, .inr (.inr (some 11)))], [], (I85, L86, R, Y), 0, 0) (fun _ => rfl) ?_
                  exact yi_D_mono (jn144f z89 (K (a + 2)) (nm (V (a + 1)) - 4) y1 _ _ _ hF105 he88 hz106 hx108 ) (by omega)
                · have hW109 := cs_W_t hW59 (cs_G_F hGa93)
                  have hF110 := cs_F_t hF60 (cs_G_F hGa93)
                  have hz111 : ¬ sp_f P (a + 3) 4 = 0 := sp_f_ne hW59 hA58.2.1 (by omega)
                  have hn112 : ¬ I91 11 11 = 0 := by rw [he94]; exact hz111
                  have hx113 : sp_single K P V ld nm a = .inr (sp_f P (a + 3) 4) := by
                    first
                    | (exfalso; omega)
                    | (unfold sp_single; repeat (first | rw [if_pos (by omega)] | rw [if_neg (by omega)]))
                  show yi_D zi_Ms d zi_m266 k (142, [(4, .inl 0), (3, .inl (K (a + 2))), (2, .inl (nm (V (a + 1)) - 4)), (1, .inl y1), (0, .inr (.inr (some 11)))], [.inl z95], (I91, L92, R, Y), 0, 0) _
                  refine yi_D_run 1 (144, [(4, .inl z95), (3, .inl (K (a + 2))), (2, .inl (nm (V (a + 1)) - 4)), (1, .inl y1), (0, .inr (.inr (some 11)))], [], (I91, L92, R, Y), 0, 0) (fun _ => rfl) ?_
                  exact yi_D_mono (jn144f z95 (K (a + 2)) (nm (V (a + 1)) - 4) y1 _ _ _ hF110 he94 hz111 hx113 ) (by omega)
              · refine yi_D_if2 false rfl (yi_eq_f h75) ?_
                refine yi_D_run 2 (124, [(4, .inl 0), (3, .inl (K (a + 2))), (2, .inl (nm (V (a + 1)) - 4)), (1, .inl y1), (0, .inr (.inr (some 11)))], [.inl 24, .inl (K (a + 2)), .inr (.inr (some 11))], (I54, L55, R, Y), 0, 0) (fun _ => rfl) ?_
                by_cases h114 : (K (a + 2)) = 24
                · refine yi_D_if2 false rfl (yi_ne_f h114) ?_
                  refine yi_D_run 3 (133, [(4, .inl 0), (3, .inl (K (a + 2))), (2, .inl (nm (V (a + 1)) - 4)), (1, .inl y1), (0, .inr (.inr (some 11)))], [.inr (.inr (some 11)), .inl 0, .inr (.inr (some 11))], (I54, L55, R, Y), 0, 0) (fun _ => rfl) ?_
                  refine yi_D_gr (v := some q) rfl rfl rfl hW.2.2.1.2.1 (fun _ => ?_)
                  have r115 : I54 q 14 = ld 0 := by rw [hGa56.1 q 14 (by omega), hGa26.1 q 14 (by omega), jF1 q 14 (by omega), hW.2.2.2.1.1]
                  refine yi_D_gi (v := ld 0) rfl rfl (Nat.ble_eq_true_of_le (by omega)) r115 (fun _ => ?_)
                  have hlo : sp_lo (K (a + 2)) = 0 := if_neg (by omega)
                  refine yi_D_callv rfl (p_takeNumber_z (lo := 0) (hi := ld 0) hW59 hf57 hA58) ?_
                  rintro _ (⟨c116, c117, I118, L119, rfl, hGa120, hf121, hA122⟩ | ⟨c123, z128, I124, L125, rfl, hGa126, he127⟩ | ⟨c129, z134, I130, L131, rfl, hGa132, he133⟩)
                  · have hA122 : cs_A I118 L119 K te (a + 4) := hA122
                    have hW135 := cs_W_t hW59 (cs_G_F hGa120)
                    have hF136 := cs_F_t hF60 (cs_G_F hGa120)
                    show yi_D zi_Ms d zi_m266 k (142, [(4, .inl 0), (3, .inl (K (a + 2))), (2, .inl (nm (V (a + 1)) - 4)), (1, .inl y1), (0, .inr (.inr (some 11)))], [.inl (V (a + 3))], (I118, L119, R, Y), 0, 0) _
                    refine yi_D_run 6 (150, [(4, .inl (V (a + 3))), (3, .inl (K (a + 2))), (2, .inl (nm (V (a + 1)) - 4)), (1, .inl y1), (0, .inr (.inr (some 11)))], [.inl (V (a + 3)), .inl (nm (V (a + 1)) - 4), .inl y1, .inl (K (a + 2)), .inr (.inr (some 11))], (I118, L119, R, Y), 0, 0) (fun _ => rfl) ?_
                    refine yi_D_callv rfl (p_emitWhen hW135) ?_
                    rintro _ ⟨I137, rfl, hE138⟩
                    have hW139 := cs_W_t hW135 (cs_E_F (L := L119) hE138)
                    have hF140 := cs_F_t hF136 (cs_E_F hE138)
                    have hf141 : I137 11 11 = 0 := (hE138 11 11 (by omega) (by omega)).trans hf121
                    have hA142 := cs_A_e hA122 hE138
                    show yi_D zi_Ms d zi_m266 k (153, [(4, .inl (V (a + 3))), (3, .inl (K (a + 2))), (2, .inl (nm (V (a + 1)) - 4)), (1, .inl y1), (0, .inr (.inr (some 11)))], [], (I137, L119, R, Y), 0, 0) _
                    refine yi_D_retv rfl ?_
                    first
                    | (exfalso; omega)
                    | (refine ⟨_, _, rfl, hF140, Or.inl ⟨_, sp_cc (if K a = 14 then 4 else if K a = 15 then 5 else nm (V a)) (nm (V (a + 1)) - 4) (K (a + 2) - 18) (V (a + 3)), ?_, hf141, hA142⟩⟩; unfold sp_single; repeat (first | rw [if_pos (by omega)] | rw [if_neg (by omega)]))
                  · have hW143 := cs_W_t hW59 (cs_G_F hGa126)
                    have hF144 := cs_F_t hF60 (cs_G_F hGa126)
                    have hz145 : ¬ sp_f P (a + 3) 1 = 0 := sp_f_ne hW59 hA58.2.1 (by omega)
                    have hn146 : ¬ I124 11 11 = 0 := by rw [he127]; exact hz145
                    have hx147 : sp_single K P V ld nm a = .inr (sp_f P (a + 3) 1) := by
                      first
                      | (exfalso; omega)
                      | (unfold sp_single; repeat (first | rw [if_pos (by omega)] | rw [if_neg (by omega)]))
                    show yi_D zi_Ms d zi_m266 k (142, [(4, .inl 0), (3, .inl (K (a + 2))), (2, .inl (nm (V (a + 1)) - 4)), (1, .inl y1), (0, .inr (.inr (some 11)))], [.inl z128], (I124, L125, R, Y), 0, 0) _
                    refine yi_D_run 1 (144, [(4, .inl z128), (3, .inl (K (a + 2))), (2, .inl (nm (V (a + 1)) - 4)), (1, .inl y1), (0, .inr (.inr (some 11)))], [], (I124, L125, R, Y), 0, 0) (fun _ => rfl) ?_
                    exact yi_D_mono (jn144f z128 (K (a + 2)) (nm (V (a + 1)) - 4) y1 _ _ _ hF144 he127 hz145 hx147 ) (by omega)
                  · have hW148 := cs_W_t hW59 (cs_G_F hGa132)
                    have hF149 := cs_F_t hF60 (cs_G_F hGa132)
                    have hz150 : ¬ sp_f P (a + 3) 4 = 0 := sp_f_ne hW59 hA58.2.1 (by omega)
                    have hn151 : ¬ I130 11 11 = 0 := by rw [he133]; exact hz150
                    have hx152 : sp_single K P V ld nm a = .inr (sp_f P (a + 3) 4) := by
                      first
                      | (exfalso; omega)
                      | (unfold sp_single; repeat (first | rw [if_pos (by omega)] | rw [if_neg (by omega)]))
                    show yi_D zi_Ms d zi_m266 k (142, [(4, .inl 0), (3, .inl (K (a + 2))), (2, .inl (nm (V (a + 1)) - 4)), (1, .inl y1), (0, .inr (.inr (some 11)))], [.inl z134], (I130, L131, R, Y), 0, 0) _
                    refine yi_D_run 1 (144, [(4, .inl z134), (3, .inl (K (a + 2))), (2, .inl (nm (V (a + 1)) - 4)), (1, .inl y1), (0, .inr (.inr (some 11)))], [], (I130, L131, R, Y), 0, 0) (fun _ => rfl) ?_
                    exact yi_D_mono (jn144f z134 (K (a + 2)) (nm (V (a + 1)) - 4) y1 _ _ _ hF149 he133 hz150 hx152 ) (by omega)
                · refine yi_D_if2 true rfl (yi_ne_t h114) ?_
                  refine yi_D_run 2 (133, [(4, .inl 0), (3, .inl (K (a + 2))), (2, .inl (nm (V (a + 1)) - 4)), (1, .inl y1), (0, .inr (.inr (some 11)))], [.inr (.inr (some 11)), .inl 1, .inr (.inr (some 11))], (I54, L55, R, Y), 0, 0) (fun _ => rfl) ?_
                  refine yi_D_gr (v := some q) rfl rfl rfl hW.2.2.1.2.1 (fun _ => ?_)
                  have r153 : I54 q 14 = ld 0 := by rw [hGa56.1 q 14 (by omega), hGa26.1 q 14 (by omega), jF1 q 14 (by omega), hW.2.2.2.1.1]
                  refine yi_D_gi (v := ld 0) rfl rfl (Nat.ble_eq_true_of_le (by omega)) r153 (fun _ => ?_)
                  have hlo : sp_lo (K (a + 2)) = 1 := if_pos (by omega)
                  refine yi_D_callv rfl (p_takeNumber_z (lo := 1) (hi := ld 0) hW59 hf57 hA58) ?_
                  rintro _ (⟨c154, c155, I156, L157, rfl, hGa158, hf159, hA160⟩ | ⟨c161, z166, I162, L163, rfl, hGa164, he165⟩ | ⟨c167, z172, I168, L169, rfl, hGa170, he171⟩)
                  · have hA160 : cs_A I156 L157 K te (a + 4) := hA160
                    have hW173 := cs_W_t hW59 (cs_G_F hGa158)
                    have hF174 := cs_F_t hF60 (cs_G_F hGa158)
                    show yi_D zi_Ms d zi_m266 k (142, [(4, .inl 0), (3, .inl (K (a + 2))), (2, .inl (nm (V (a + 1)) - 4)), (1, .inl y1), (0, .inr (.inr (some 11)))], [.inl (V (a + 3))], (I156, L157, R, Y), 0, 0) _
                    refine yi_D_run 6 (150, [(4, .inl (V (a + 3))), (3, .inl (K (a + 2))), (2, .inl (nm (V (a + 1)) - 4)), (1, .inl y1), (0, .inr (.inr (some 11)))], [.inl (V (a + 3)), .inl (nm (V (a + 1)) - 4), .inl y1, .inl (K (a + 2)), .inr (.inr (some 11))], (I156, L157, R, Y), 0, 0) (fun _ => rfl) ?_
                    refine yi_D_callv rfl (p_emitWhen hW173) ?_
                    rintro _ ⟨I175, rfl, hE176⟩
                    have hW177 := cs_W_t hW173 (cs_E_F (L := L157) hE176)
                    have hF178 := cs_F_t hF174 (cs_E_F hE176)
                    have hf179 : I175 11 11 = 0 := (hE176 11 11 (by omega) (by omega)).trans hf159
                    have hA180 := cs_A_e hA160 hE176
                    show yi_D zi_Ms d zi_m266 k (153, [(4, .inl (V (a + 3))), (3, .inl (K (a + 2))), (2, .inl (nm (V (a + 1)) - 4)), (1, .inl y1), (0, .inr (.inr (some 11)))], [], (I175, L157, R, Y), 0, 0) _
                    refine yi_D_retv rfl ?_
                    first
                    | (exfalso; omega)
                    | (refine ⟨_, _, rfl, hF178, Or.inl ⟨_, sp_cc (if K a = 14 then 4 else if K a = 15 then 5 else nm (V a)) (nm (V (a + 1)) - 4) (K (a + 2) - 18) (V (a + 3)), ?_, hf179, hA180⟩⟩; unfold sp_single; repeat (first | rw [if_pos (by omega)] | rw [if_neg (by omega)]))
                  · have hW181 := cs_W_t hW59 (cs_G_F hGa164)
                    have hF182 := cs_F_t hF60 (cs_G_F hGa164)
                    have hz183 : ¬ sp_f P (a + 3) 1 = 0 := sp_f_ne hW59 hA58.2.1 (by omega)
                    have hn184 : ¬ I162 11 11 = 0 := by rw [he165]; exact hz183
                    have hx185 : sp_single K P V ld nm a = .inr (sp_f P (a + 3) 1) := by
                      first
                      | (exfalso; omega)
                      | (unfold sp_single; repeat (first | rw [if_pos (by omega)] | rw [if_neg (by omega)]))
                    show yi_D zi_Ms d zi_m266 k (142, [(4, .inl 0), (3, .inl (K (a + 2))), (2, .inl (nm (V (a + 1)) - 4)), (1, .inl y1), (0, .inr (.inr (some 11)))], [.inl z166], (I162, L163, R, Y), 0, 0) _
                    refine yi_D_run 1 (144, [(4, .inl z166), (3, .inl (K (a + 2))), (2, .inl (nm (V (a + 1)) - 4)), (1, .inl y1), (0, .inr (.inr (some 11)))], [], (I162, L163, R, Y), 0, 0) (fun _ => rfl) ?_
                    exact yi_D_mono (jn144f z166 (K (a + 2)) (nm (V (a + 1)) - 4) y1 _ _ _ hF182 he165 hz183 hx185 ) (by omega)
                  · have hW186 := cs_W_t hW59 (cs_G_F hGa170)
                    have hF187 := cs_F_t hF60 (cs_G_F hGa170)
                    have hz188 : ¬ sp_f P (a + 3) 4 = 0 := sp_f_ne hW59 hA58.2.1 (by omega)
                    have hn189 : ¬ I168 11 11 = 0 := by rw [he171]; exact hz188
                    have hx190 : sp_single K P V ld nm a = .inr (sp_f P (a + 3) 4) := by
                      first
                      | (exfalso; omega)
                      | (unfold sp_single; repeat (first | rw [if_pos (by omega)] | rw [if_neg (by omega)]))
                    show yi_D zi_Ms d zi_m266 k (142, [(4, .inl 0), (3, .inl (K (a + 2))), (2, .inl (nm (V (a + 1)) - 4)), (1, .inl y1), (0, .inr (.inr (some 11)))], [.inl z172], (I168, L169, R, Y), 0, 0) _
                    refine yi_D_run 1 (144, [(4, .inl z172), (3, .inl (K (a + 2))), (2, .inl (nm (V (a + 1)) - 4)), (1, .inl y1), (0, .inr (.inr (some 11)))], [], (I168, L169, R, Y), 0, 0) (fun _ => rfl) ?_
                    exact yi_D_mono (jn144f z172 (K (a + 2)) (nm (V (a + 1)) - 4) y1 _ _ _ hF187 he171 hz188 hx190 ) (by omega)
        · refine yi_D_if2 false rfl (yi_le_f h53) ?_
          refine yi_D_run 2 (92, [(3, .inl (K (a + 2))), (2, .inl (nm (V (a + 1)) - 4)), (1, .inl y1), (0, .inr (.inr (some 11)))], [.inl 1, .inr (.inr (some 11))], (I24, L25, R, Y), 0, 0) (fun _ => rfl) ?_
          refine yi_D_callv rfl (p_wrong_z ⟨by omega, by omega⟩ hW41 hf27 hA28) ?_
          rintro _ ⟨I191, rfl, hg192, he193⟩
          have hGw194 : cs_G I24 L25 I191 L25 := ⟨fun p k hp => hg192 p k (by omega), fun _ _ _ => rfl⟩
          have hW195 := cs_W_t hW41 (cs_G_F hGw194)
          have hF196 := cs_F_t hF42 (cs_G_F hGw194)
          have hz197 : ¬ sp_f P (a + 2) 1 = 0 := sp_f_ne hW41 hA28.2.1 (by omega)
          have hn198 : ¬ I191 11 11 = 0 := by rw [he193]; exact hz197
          have hx199 : sp_single K P V ld nm a = .inr (sp_f P (a + 2) 1) := by
            first
            | (exfalso; omega)
            | (unfold sp_single; repeat (first | rw [if_pos (by omega)] | rw [if_neg (by omega)]))
          show yi_D zi_Ms d zi_m266 k (95, [(3, .inl (K (a + 2))), (2, .inl (nm (V (a + 1)) - 4)), (1, .inl y1), (0, .inr (.inr (some 11)))], [], (I191, L25, R, Y), 0, 0) _
          exact yi_D_mono (jn95f (K (a + 2)) (nm (V (a + 1)) - 4) y1 _ _ _ hF196 he193 hz197 hx199 ) (by omega)
    · have hW200 := cs_W_t jW (cs_G_F hGa32)
      have hF201 := cs_F_t jF (cs_G_F hGa32)
      have hz202 : ¬ sp_f P (a + 1) 1 = 0 := sp_f_ne jW jA.2.1 (by omega)
      have hn203 : ¬ I30 11 11 = 0 := by rw [he33]; exact hz202
      have hx204 : sp_single K P V ld nm a = .inr (sp_f P (a + 1) 1) := by
        first
        | (exfalso; omega)
        | (unfold sp_single; repeat (first | rw [if_pos (by omega)] | rw [if_neg (by omega)]))
      show yi_D zi_Ms d zi_m266 k (72, [(1, .inl y1), (0, .inr (.inr (some 11)))], [.inl z34], (I30, L31, R, Y), 0, 0) _
      refine yi_D_run 1 (73, [(2, .inl z34), (1, .inl y1), (0, .inr (.inr (some 11)))], [], (I30, L31, R, Y), 0, 0) (fun _ => rfl) ?_
      exact yi_D_mono (jn73f z34 y1 _ _ _ hF201 he33 hz202 hx204 ) (by omega)
    · have hW205 := cs_W_t jW (cs_G_F hGa38)
      have hF206 := cs_F_t jF (cs_G_F hGa38)
      have hz207 : ¬ sp_f P (a + 1) 2 = 0 := sp_f_ne jW jA.2.1 (by omega)
      have hn208 : ¬ I36 11 11 = 0 := by rw [he39]; exact hz207
      have hx209 : sp_single K P V ld nm a = .inr (sp_f P (a + 1) 2) := by
        first
        | (exfalso; omega)
        | (unfold sp_single; repeat (first | rw [if_pos (by omega)] | rw [if_neg (by omega)]))
      show yi_D zi_Ms d zi_m266 k (72, [(1, .inl y1), (0, .inr (.inr (some 11)))], [.inl z40], (I36, L37, R, Y), 0, 0) _
      refine yi_D_run 1 (73, [(2, .inl z40), (1, .inl y1), (0, .inr (.inr (some 11)))], [], (I36, L37, R, Y), 0, 0) (fun _ => rfl) ?_
      exact yi_D_mono (jn73f z40 y1 _ _ _ hF206 he39 hz207 hx209 ) (by omega)
  show yi_D zi_Ms d zi_m266 k (0, [(0, .inr (.inr (some 11)))], [], (I, L, R, Y), 0, 0) _
  refine yi_D_run 1 (1, [(0, .inr (.inr (some 11)))], [.inr (.inr (some 11))], (I, L, R, Y), 0, 0) (fun _ => rfl) ?_
  refine yi_D_gi (v := K a) rfl rfl rfl hA.2.2.1 (fun _ => ?_)
  refine yi_D_run 1 (6, [(0, .inr (.inr (some 11)))], [.inl 14, .inl (K a)], (I, L, R, Y), 0, 0) (fun _ => rfl) ?_
  by_cases h210 : (K a) = 14
  · refine yi_D_if2 false rfl (yi_ne_f h210) ?_
    refine yi_D_run 4 (16, [(1, .inl 4), (0, .inr (.inr (some 11)))], [.inr (.inr (some 11))], (I, L, R, Y), 0, 0) (fun _ => rfl) ?_
    refine yi_D_gi (v := K a) rfl rfl rfl hA.2.2.1 (fun _ => ?_)
    refine yi_D_run 1 (20, [(1, .inl 4), (0, .inr (.inr (some 11)))], [.inl 3, .inl (K a)], (I, L, R, Y), 0, 0) (fun _ => rfl) ?_
    have h211 : ¬ ((K a) = 3) := by omega
    refine yi_D_if2 true rfl (yi_ne_t h211) ?_
    refine yi_D_run 1 (51, [(1, .inl 4), (0, .inr (.inr (some 11)))], [.inr (.inr (some 11))], (I, L, R, Y), 0, 0) (fun _ => rfl) ?_
    refine yi_D_callv rfl (p_advance_z hW hf hA) ?_
    rintro _ ⟨I212, L213, rfl, hGa214, hf215, hA216⟩
    rw [sp_nx_lt (cs_lt hW.2.1 hA.2.1 (by omega))] at hA216
    have hA216 : cs_A I212 L213 K te (a + 1) := hA216
    have hW217 := cs_W_t hW (cs_G_F hGa214)
    have hF218 := (cs_G_F hGa214)
    have hG219 := hGa214
    show yi_D zi_Ms d zi_m266 k (54, [(1, .inl 4), (0, .inr (.inr (some 11)))], [], (I212, L213, R, Y), 0, 0) _
    exact yi_D_mono (jn54z 4 _ _ hF218 hf215 hA216 ) (by omega)
  · refine yi_D_if2 true rfl (yi_ne_t h210) ?_
    refine yi_D_run 3 (16, [(1, .inl 5), (0, .inr (.inr (some 11)))], [.inr (.inr (some 11))], (I, L, R, Y), 0, 0) (fun _ => rfl) ?_
    refine yi_D_gi (v := K a) rfl rfl rfl hA.2.2.1 (fun _ => ?_)
    refine yi_D_run 1 (20, [(1, .inl 5), (0, .inr (.inr (some 11)))], [.inl 3, .inl (K a)], (I, L, R, Y), 0, 0) (fun _ => rfl) ?_
    by_cases h220 : (K a) = 3
    · refine yi_D_if2 false rfl (yi_ne_f h220) ?_
      refine yi_D_run 2 (25, [(1, .inl 5), (0, .inr (.inr (some 11)))], [.inr (.inr (some 11)), .inr (.inr (some 11))], (I, L, R, Y), 0, 0) (fun _ => rfl) ?_
      refine yi_D_gr (v := some q) rfl rfl rfl hW.2.2.1.2.1 (fun _ => ?_)
      refine yi_D_gr (v := some (q + 1)) rfl rfl (Nat.ble_eq_true_of_le (by omega)) (hW.2.2.1.2.2.1 0 (by omega)) (fun _ => ?_)
      refine yi_D_run 1 (32, [(1, .inl 5), (0, .inr (.inr (some 11)))], [.inr (.inr (some 11)), .inr (.inr (some (q + 1))), .inr (.inr (some 11))], (I, L, R, Y), 0, 0) (fun _ => rfl) ?_
      refine yi_D_gr (v := some q) rfl rfl rfl hW.2.2.1.2.1 (fun _ => ?_)
      refine yi_D_gi (v := ld 1) rfl rfl (Nat.ble_eq_true_of_le (by omega)) hW.2.2.2.1.2.1 (fun _ => ?_)
      refine yi_D_callv rfl (p_takeName_z (by omega) ⟨by omega, by omega, by omega⟩ hW hf hA (by omega) hW.2.2.2.2.2.2.2.1.1) ?_
      rintro _ (⟨c221, c222, I223, L224, rfl, hGa225, hf226, hA227⟩ | ⟨c228, z233, I229, L230, rfl, hGa231, he232⟩ | ⟨c234, z239, I235, L236, rfl, hGa237, he238⟩)
      · have hA227 : cs_A I223 L224 K te (a + 1) := hA227
        have hW240 := cs_W_t hW (cs_G_F hGa225)
        have hF241 := (cs_G_F hGa225)
        have hG242 := hGa225
        show yi_D zi_Ms d zi_m266 k (41, [(1, .inl 5), (0, .inr (.inr (some 11)))], [.inl (nm (V a) - 0)], (I223, L224, R, Y), 0, 0) _
        refine yi_D_run 3 (44, [(1, .inl (nm (V a) - 0)), (0, .inr (.inr (some 11)))], [.inl 1, .inr (.inr (some 11))], (I223, L224, R, Y), 0, 0) (fun _ => rfl) ?_
        refine yi_D_pi rfl (fun _ => ?_)
        generalize w244 : yi_u I223 11 5 1 = I243
        have hE245 : cs_E I223 I243 := fun p k hp0 hp1 => by rw [← w244, yi_u_ne _ _ (by omega)]
        have hW246 := cs_W_t hW240 (cs_E_F (L := L224) hE245)
        have hF247 := cs_F_t hF241 (cs_E_F hE245)
        have hf248 : I243 11 11 = 0 := (hE245 11 11 (by omega) (by omega)).trans hf226
        have hA249 := cs_A_e hA227 hE245
        refine yi_D_run 1 (54, [(1, .inl (nm (V a) - 0)), (0, .inr (.inr (some 11)))], [], (I243, L224, R, Y), 0, 0) (fun _ => rfl) ?_
        exact yi_D_mono (jn54z (nm (V a) - 0) _ _ hF247 hf248 hA249 ) (by omega)
      · exfalso; omega
      · have hW250 := cs_W_t hW (cs_G_F hGa237)
        have hF251 := (cs_G_F hGa237)
        have hG252 := hGa237
        have hz253 : ¬ sp_f P a 2 = 0 := sp_f_ne hW hA.2.1 (by omega)
        have hn254 : ¬ I235 11 11 = 0 := by rw [he238]; exact hz253
        have hx255 : sp_single K P V ld nm a = .inr (sp_f P a 2) := by
          first
          | (exfalso; omega)
          | (unfold sp_single; repeat (first | rw [if_pos (by omega)] | rw [if_neg (by omega)]))
        show yi_D zi_Ms d zi_m266 k (41, [(1, .inl 5), (0, .inr (.inr (some 11)))], [.inl z239], (I235, L236, R, Y), 0, 0) _
        refine yi_D_run 3 (44, [(1, .inl z239), (0, .inr (.inr (some 11)))], [.inl 1, .inr (.inr (some 11))], (I235, L236, R, Y), 0, 0) (fun _ => rfl) ?_
        refine yi_D_pi rfl (fun _ => ?_)
        generalize w257 : yi_u I235 11 5 1 = I256
        have hE258 : cs_E I235 I256 := fun p k hp0 hp1 => by rw [← w257, yi_u_ne _ _ (by omega)]
        have hW259 := cs_W_t hW250 (cs_E_F (L := L236) hE258)
        have hF260 := cs_F_t hF251 (cs_E_F hE258)
        have hf261 : ¬ I256 11 11 = 0 := by rw [hE258 11 11 (by omega) (by omega)]; exact hn254
        have he262 := (hE258 11 11 (by omega) (by omega)).trans he238
        refine yi_D_run 1 (54, [(1, .inl z239), (0, .inr (.inr (some 11)))], [], (I256, L236, R, Y), 0, 0) (fun _ => rfl) ?_
        exact yi_D_mono (jn54f z239 _ _ _ hF260 he262 hz253 hx255 ) (by omega)
    · refine yi_D_if2 true rfl (yi_ne_t h220) ?_
      refine yi_D_run 1 (51, [(1, .inl 5), (0, .inr (.inr (some 11)))], [.inr (.inr (some 11))], (I, L, R, Y), 0, 0) (fun _ => rfl) ?_
      refine yi_D_callv rfl (p_advance_z hW hf hA) ?_
      rintro _ ⟨I263, L264, rfl, hGa265, hf266, hA267⟩
      rw [sp_nx_lt (cs_lt hW.2.1 hA.2.1 (by omega))] at hA267
      have hA267 : cs_A I263 L264 K te (a + 1) := hA267
      have hW268 := cs_W_t hW (cs_G_F hGa265)
      have hF269 := (cs_G_F hGa265)
      have hG270 := hGa265
      show yi_D zi_Ms d zi_m266 k (54, [(1, .inl 5), (0, .inr (.inr (some 11)))], [], (I263, L264, R, Y), 0, 0) _
      exact yi_D_mono (jn54z 5 _ _ hF269 hf266 hA267 ) (by omega)
