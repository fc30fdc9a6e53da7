/-! Draws, prices, sets of rows, worlds. -/
theorem k_floorMod (D : Nat) (hD : 1 ≤ D) {E : List Nat} {I L : cl_I} {R : cl_Rr} {Y : cl_Y} (hC : cl_C E I L R Y) {x : Int} (hx : 0 ≤ x) (hx2 : x ≤ 31) : yi_E zi_Ms D 319 [.inl x, .inl 16] (I, L, R, Y) (fun r => ∃ z, r = (some (.inl z), (I, L, R, Y), 0, 0) ∧ (0 ≤ z ∧ z ≤ 15)) := by
  obtain ⟨d, rfl⟩ : ∃ d, D = d + 1 := ⟨D - 1, by omega⟩
  refine yi_E_of (M := zi_m319) rfl rfl ?_
  have hP : cl_P E I L R Y I L R Y := cl_P_r hC
  show yi_G zi_Ms d zi_m319 (0, [(0, .inl x), (1, .inl 16)], [], (I, L, R, Y), 0, 0) _
  refine yi_G_run 2 (2, [(0, .inl x), (1, .inl 16)], [.inl 16, .inl x], (I, L, R, Y), 0, 0) (fun _ => rfl) ?_
  refine yi_G_irem rfl (by decide) (x % 16) (yi_md (by omega) rfl) ?_
  refine yi_G_run 4 (7, [(2, .inl (x % 16)), (0, .inl x), (1, .inl 16)], [.inl (yi_ixor x 16)], (I, L, R, Y), 0, 0) (fun _ => rfl) ?_
  have hx3 := cl_xor16 hx hx2
  by_cases h1 : 0 ≤ (yi_ixor x 16)
  · refine yi_G_if1 true rfl (yi_ge_t h1) ?_
    refine yi_G_run 1 (19, [(2, .inl (x % 16)), (0, .inl x), (1, .inl 16)], [.inl (x % 16)], (I, L, R, Y), 0, 0) (fun _ => rfl) ?_
    exact yi_G_reti rfl rfl (⟨_, rfl, by omega⟩)
  · refine yi_G_if1 false rfl (yi_ge_f h1) ?_
    refine yi_G_run 1 (11, [(2, .inl (x % 16)), (0, .inl x), (1, .inl 16)], [.inl (x % 16)], (I, L, R, Y), 0, 0) (fun _ => rfl) ?_
    by_cases h2 : (x % 16) = 0
    · refine yi_G_if1 true rfl (yi_eq_t h2) ?_
      refine yi_G_run 1 (19, [(2, .inl (x % 16)), (0, .inl x), (1, .inl 16)], [.inl (x % 16)], (I, L, R, Y), 0, 0) (fun _ => rfl) ?_
      exact yi_G_reti rfl rfl (⟨_, rfl, by omega⟩)
    · refine yi_G_if1 false rfl (yi_eq_f h2) ?_
      refine yi_G_run 2 (16, [(2, .inl (x % 16)), (0, .inl x), (1, .inl 16)], [.inl 16, .inl (x % 16)], (I, L, R, Y), 0, 0) (fun _ => rfl) ?_
      refine yi_G_iadd rfl ((x % 16) + 16) (yi_wn (by omega) (by omega)) ?_
      exact yi_G_reti rfl rfl (⟨_, rfl, by omega⟩)
theorem k_beginD (D : Nat) (hD : 1 ≤ D) {E : List Nat} {I L : cl_I} {R : cl_Rr} {Y : cl_Y} (hC : cl_C E I L R Y) {p : Nat} (tp : cl_T E Y p 8) {x : Int} (hx : 0 ≤ x ∧ x ≤ 9999) : yi_E zi_Ms D 193 [.inr (.inr (some p)), .inl x] (I, L, R, Y) (fun r => ∃ L', r = (none, (I, L', R, Y), 0, 0) ∧ cl_P E I L R Y I L' R Y) := by
  obtain ⟨d, rfl⟩ : ∃ d, D = d + 1 := ⟨D - 1, by omega⟩
  refine yi_E_of (M := zi_m193) rfl rfl ?_
  have hP : cl_P E I L R Y I L R Y := cl_P_r hC
  show yi_G zi_Ms d zi_m193 (0, [(0, .inr (.inr (some p))), (1, .inl x)], [], (I, L, R, Y), 0, 0) _
  refine yi_G_run 3 (3, [(0, .inr (.inr (some p))), (1, .inl x)], [.inr (.inl x), .inr (.inr (some p))], (I, L, R, Y), 0, 0) (fun _ => rfl) ?_
  refine cl_G_pl rfl (cl_T_K tp) rfl rfl rfl ?_
  have hP1 := cl_P_uL (k := 0) (v := x) hP tp (by omega)
  generalize w2 : yi_u L p 0 x = L3 at hP1 ⊢
  exact yi_G_retv rfl rfl (⟨_, rfl, hP1⟩)
theorem k_below (D : Nat) (hD : 1 ≤ D) {E : List Nat} {I L : cl_I} {R : cl_Rr} {Y : cl_Y} (hC : cl_C E I L R Y) {p : Nat} (tp : cl_T E Y p 8) {x : Int} (hx : x ≤ 2147483647) : yi_E zi_Ms D 194 [.inr (.inr (some p)), .inl x] (I, L, R, Y) (fun r => ∃ z, ∃ L', r = (some (.inl z), (I, L', R, Y), 0, 0) ∧ cl_P E I L R Y I L' R Y ∧ (0 ≤ z ∧ (1 ≤ x → z < x) ∧ (x ≤ 0 → z = 0))) := by
  obtain ⟨d, rfl⟩ : ∃ d, D = d + 1 := ⟨D - 1, by omega⟩
  refine yi_E_of (M := zi_m194) rfl rfl ?_
  have hP : cl_P E I L R Y I L R Y := cl_P_r hC
  show yi_G zi_Ms d zi_m194 (0, [(0, .inr (.inr (some p))), (1, .inl x)], [], (I, L, R, Y), 0, 0) _
  refine yi_G_run 2 (2, [(0, .inr (.inr (some p))), (1, .inl x)], [.inr (.inr (some p)), .inr (.inr (some p))], (I, L, R, Y), 0, 0) (fun _ => rfl) ?_
  refine cl_G_gl rfl (cl_T_K tp) rfl rfl rfl ?_
  refine yi_G_ldc2 (1103515245) rfl (by decide +kernel) ?_
  have sb := hP.1.2.2.2.2.2 p tp
  refine yi_G_lmul rfl ((L p 0) * 1103515245) (yi_Wn (by omega) (by omega)) ?_
  refine yi_G_ldc2 (12345) rfl (by decide +kernel) ?_
  refine yi_G_ladd rfl (((L p 0) * 1103515245) + 12345) (yi_Wn (by omega) (by omega)) ?_
  refine yi_G_ldc2 (2147483648) rfl (by decide +kernel) ?_
  refine yi_G_lrem rfl (by decide) ((((L p 0) * 1103515245) + 12345) % 2147483648) (yi_md (by omega) rfl) ?_
  refine cl_G_pl rfl (cl_T_K tp) rfl rfl rfl ?_
  have hP1 := cl_P_uL (k := 0) (v := (((L p 0) * 1103515245) + 12345) % 2147483648) hP tp (by omega)
  generalize w2 : yi_u L p 0 ((((L p 0) * 1103515245) + 12345) % 2147483648) = L3 at hP1 ⊢
  refine yi_G_run 1 (21, [(0, .inr (.inr (some p))), (1, .inl x)], [.inl x], (I, L3, R, Y), 0, 0) (fun _ => rfl) ?_
  by_cases h4 : 0 < x
  · refine yi_G_if1 true rfl (yi_gt_t h4) ?_
    refine yi_G_run 1 (29, [(0, .inr (.inr (some p))), (1, .inl x)], [.inr (.inr (some p))], (I, L3, R, Y), 0, 0) (fun _ => rfl) ?_
    refine cl_G_gl rfl (cl_T_K tp) rfl rfl rfl ?_
    have sb2 := hP1.1.2.2.2.2.2 p tp
    refine yi_G_ldc2 (65536) rfl (by decide +kernel) ?_
    refine yi_G_ldiv rfl (by decide) ((L3 p 0) / 65536) (yi_dvL (by omega) rfl (by omega) (by omega)) ?_
    refine yi_G_run 2 (38, [(0, .inr (.inr (some p))), (1, .inl x)], [.inr (.inl x), .inr (.inl ((L3 p 0) / 65536))], (I, L3, R, Y), 0, 0) (fun _ => rfl) ?_
    have mo := Int.emod_lt_of_pos (L3 p 0 / 65536) (show 0 < x by omega)
    have mo2 := Int.emod_nonneg (L3 p 0 / 65536) (show x ≠ 0 by omega)
    refine yi_G_lrem rfl (by omega) (((L3 p 0) / 65536) % x) (yi_md (by omega) rfl) ?_
    refine yi_G_l2i rfl (((L3 p 0) / 65536) % x) (yi_wn (by omega) (by omega)) ?_
    exact yi_G_reti rfl rfl (⟨_, _, rfl, hP1, by omega⟩)
  · refine yi_G_if1 false rfl (yi_gt_f h4) ?_
    refine yi_G_run 2 (40, [(0, .inr (.inr (some p))), (1, .inl x)], [.inl 0], (I, L3, R, Y), 0, 0) (fun _ => rfl) ?_
    exact yi_G_reti rfl rfl (⟨_, _, rfl, hP1, by omega⟩)
theorem k_factValue (D : Nat) (hD : 1 ≤ D) {E : List Nat} {I L : cl_I} {R : cl_Rr} {Y : cl_Y} (hC : cl_C E I L R Y) {x : Int} {y : Int} {v : Int} {w : Int} : yi_E zi_Ms D 243 [.inl x, .inl y, .inl v, .inl w] (I, L, R, Y) (fun r => ∃ z, r = (some (.inl z), (I, L, R, Y), 0, 0)) := by
  obtain ⟨d, rfl⟩ : ∃ d, D = d + 1 := ⟨D - 1, by omega⟩
  refine yi_E_of (M := zi_m243) rfl rfl ?_
  have hP : cl_P E I L R Y I L R Y := cl_P_r hC
  show yi_G zi_Ms d zi_m243 (0, [(0, .inl x), (1, .inl y), (2, .inl v), (3, .inl w)], [], (I, L, R, Y), 0, 0) _
  refine yi_G_run 2 (2, [(0, .inl x), (1, .inl y), (2, .inl v), (3, .inl w)], [.inl 2, .inl x], (I, L, R, Y), 0, 0) (fun _ => rfl) ?_
  by_cases h1 : x = 2
  · refine yi_G_if2 false rfl (yi_ne_f h1) ?_
    refine yi_G_run 1 (6, [(0, .inl x), (1, .inl y), (2, .inl v), (3, .inl w)], [.inl w], (I, L, R, Y), 0, 0) (fun _ => rfl) ?_
    exact yi_G_reti rfl rfl (⟨_, rfl⟩)
  · refine yi_G_if2 true rfl (yi_ne_t h1) ?_
    refine yi_G_run 1 (8, [(0, .inl x), (1, .inl y), (2, .inl v), (3, .inl w)], [.inl x], (I, L, R, Y), 0, 0) (fun _ => rfl) ?_
    by_cases h2 : x = 0
    · refine yi_G_if1 false rfl (yi_ne_f h2) ?_
      refine yi_G_run 3 (19, [(0, .inl x), (1, .inl y), (2, .inl v), (3, .inl w)], [.inl 9999, .inl y], (I, L, R, Y), 0, 0) (fun _ => rfl) ?_
      refine cl_G_min rfl rfl cl_min ?_
      exact yi_G_reti rfl rfl (⟨_, rfl⟩)
    · refine yi_G_if1 true rfl (yi_ne_t h2) ?_
      refine yi_G_run 2 (19, [(0, .inl x), (1, .inl y), (2, .inl v), (3, .inl w)], [.inl 9999, .inl v], (I, L, R, Y), 0, 0) (fun _ => rfl) ?_
      refine cl_G_min rfl rfl cl_min ?_
      exact yi_G_reti rfl rfl (⟨_, rfl⟩)
theorem k_joined (D : Nat) (hD : 1 ≤ D) {E : List Nat} {I L : cl_I} {R : cl_Rr} {Y : cl_Y} (hC : cl_C E I L R Y) {x : Int} {y : Int} {w : Int} : yi_E zi_Ms D 244 [.inl x, .inl y, .inl w] (I, L, R, Y) (fun r => ∃ z, r = (some (.inl z), (I, L, R, Y), 0, 0)) := by
  obtain ⟨d, rfl⟩ : ∃ d, D = d + 1 := ⟨D - 1, by omega⟩
  refine yi_E_of (M := zi_m244) rfl rfl ?_
  have hP : cl_P E I L R Y I L R Y := cl_P_r hC
  show yi_G zi_Ms d zi_m244 (0, [(0, .inl x), (1, .inl y), (2, .inl w)], [], (I, L, R, Y), 0, 0) _
  refine yi_G_run 1 (1, [(0, .inl x), (1, .inl y), (2, .inl w)], [.inl x], (I, L, R, Y), 0, 0) (fun _ => rfl) ?_
  by_cases h1 : x = 31
  · refine cl_G_lsw (off := 59) 60 rfl (by show Op.lookupswitch.offset [(31, 59), (32, 73), (43, 109), (45, 113), (60, 87), (61, 98)] _ _ = _; rw [Op.lookupswitch.offset_cons, if_pos (by omega)]) (by decide) ?_
    refine yi_G_run 1 (61, [(0, .inl x), (1, .inl y), (2, .inl w)], [.inl y], (I, L, R, Y), 0, 0) (fun _ => rfl) ?_
    by_cases h2 : y = 0
    · refine yi_G_if1 true rfl (yi_eq_t h2) ?_
      refine yi_G_run 1 (73, [(0, .inl x), (1, .inl y), (2, .inl w)], [.inl 0], (I, L, R, Y), 0, 0) (fun _ => rfl) ?_
      exact yi_G_reti rfl rfl (⟨_, rfl⟩)
    · refine yi_G_if1 false rfl (yi_eq_f h2) ?_
      refine yi_G_run 1 (65, [(0, .inl x), (1, .inl y), (2, .inl w)], [.inl w], (I, L, R, Y), 0, 0) (fun _ => rfl) ?_
      by_cases h3 : w = 0
      · refine yi_G_if1 true rfl (yi_eq_t h3) ?_
        refine yi_G_run 1 (73, [(0, .inl x), (1, .inl y), (2, .inl w)], [.inl 0], (I, L, R, Y), 0, 0) (fun _ => rfl) ?_
        exact yi_G_reti rfl rfl (⟨_, rfl⟩)
      · refine yi_G_if1 false rfl (yi_eq_f h3) ?_
        refine yi_G_run 2 (73, [(0, .inl x), (1, .inl y), (2, .inl w)], [.inl 1], (I, L, R, Y), 0, 0) (fun _ => rfl) ?_
        exact yi_G_reti rfl rfl (⟨_, rfl⟩)
  by_cases h4 : x = 32
  · refine cl_G_lsw (off := 73) 74 rfl (by show Op.lookupswitch.offset [(31, 59), (32, 73), (43, 109), (45, 113), (60, 87), (61, 98)] _ _ = _; rw [Op.lookupswitch.offset_cons, if_neg (by omega), Op.lookupswitch.offset_cons, if_pos (by omega)]) (by decide) ?_
    refine yi_G_run 1 (75, [(0, .inl x), (1, .inl y), (2, .inl w)], [.inl y], (I, L, R, Y), 0, 0) (fun _ => rfl) ?_
    by_cases h5 : y = 0
    · refine yi_G_if1 false rfl (yi_ne_f h5) ?_
      refine yi_G_run 1 (79, [(0, .inl x), (1, .inl y), (2, .inl w)], [.inl w], (I, L, R, Y), 0, 0) (fun _ => rfl) ?_
      by_cases h6 : w = 0
      · refine yi_G_if1 true rfl (yi_eq_t h6) ?_
        refine yi_G_run 1 (87, [(0, .inl x), (1, .inl y), (2, .inl w)], [.inl 0], (I, L, R, Y), 0, 0) (fun _ => rfl) ?_
        exact yi_G_reti rfl rfl (⟨_, rfl⟩)
      · refine yi_G_if1 false rfl (yi_eq_f h6) ?_
        refine yi_G_run 2 (87, [(0, .inl x), (1, .inl y), (2, .inl w)], [.inl 1], (I, L, R, Y), 0, 0) (fun _ => rfl) ?_
        exact yi_G_reti rfl rfl (⟨_, rfl⟩)
    · refine yi_G_if1 true rfl (yi_ne_t h5) ?_
      refine yi_G_run 2 (87, [(0, .inl x), (1, .inl y), (2, .inl w)], [.inl 1], (I, L, R, Y), 0, 0) (fun _ => rfl) ?_
      exact yi_G_reti rfl rfl (⟨_, rfl⟩)
  by_cases h7 : x = 43
  · refine cl_G_lsw (off := 109) 110 rfl (by show Op.lookupswitch.offset [(31, 59), (32, 73), (43, 109), (45, 113), (60, 87), (61, 98)] _ _ = _; rw [Op.lookupswitch.offset_cons, if_neg (by omega), Op.lookupswitch.offset_cons, if_neg (by omega), Op.lookupswitch.offset_cons, if_pos (by omega)]) (by decide) ?_
    refine yi_G_run 3 (113, [(0, .inl x), (1, .inl y), (2, .inl w)], [.inl (yi_w (y + w))], (I, L, R, Y), 0, 0) (fun _ => rfl) ?_
    exact yi_G_reti rfl rfl (⟨_, rfl⟩)
  by_cases h8 : x = 45
  · refine cl_G_lsw (off := 113) 114 rfl (by show Op.lookupswitch.offset [(31, 59), (32, 73), (43, 109), (45, 113), (60, 87), (61, 98)] _ _ = _; rw [Op.lookupswitch.offset_cons, if_neg (by omega), Op.lookupswitch.offset_cons, if_neg (by omega), Op.lookupswitch.offset_cons, if_neg (by omega), Op.lookupswitch.offset_cons, if_pos (by omega)]) (by decide) ?_
    refine yi_G_run 3 (117, [(0, .inl x), (1, .inl y), (2, .inl w)], [.inl (yi_w (y - w))], (I, L, R, Y), 0, 0) (fun _ => rfl) ?_
    exact yi_G_reti rfl rfl (⟨_, rfl⟩)
  by_cases h9 : x = 60
  · refine cl_G_lsw (off := 87) 88 rfl (by show Op.lookupswitch.offset [(31, 59), (32, 73), (43, 109), (45, 113), (60, 87), (61, 98)] _ _ = _; rw [Op.lookupswitch.offset_cons, if_neg (by omega), Op.lookupswitch.offset_cons, if_neg (by omega), Op.lookupswitch.offset_cons, if_neg (by omega), Op.lookupswitch.offset_cons, if_neg (by omega), Op.lookupswitch.offset_cons, if_pos (by omega)]) (by decide) ?_
    refine yi_G_run 2 (90, [(0, .inl x), (1, .inl y), (2, .inl w)], [.inl w, .inl y], (I, L, R, Y), 0, 0) (fun _ => rfl) ?_
    by_cases h10 : w ≤ y
    · refine yi_G_if2 true rfl (yi_ge_t h10) ?_
      refine yi_G_run 1 (98, [(0, .inl x), (1, .inl y), (2, .inl w)], [.inl 0], (I, L, R, Y), 0, 0) (fun _ => rfl) ?_
      exact yi_G_reti rfl rfl (⟨_, rfl⟩)
    · refine yi_G_if2 false rfl (yi_ge_f h10) ?_
      refine yi_G_run 2 (98, [(0, .inl x), (1, .inl y), (2, .inl w)], [.inl 1], (I, L, R, Y), 0, 0) (fun _ => rfl) ?_
      exact yi_G_reti rfl rfl (⟨_, rfl⟩)
  by_cases h11 : x = 61
  · refine cl_G_lsw (off := 98) 99 rfl (by show Op.lookupswitch.offset [(31, 59), (32, 73), (43, 109), (45, 113), (60, 87), (61, 98)] _ _ = _; rw [Op.lookupswitch.offset_cons, if_neg (by omega), Op.lookupswitch.offset_cons, if_neg (by omega), Op.lookupswitch.offset_cons, if_neg (by omega), Op.lookupswitch.offset_cons, if_neg (by omega), Op.lookupswitch.offset_cons, if_neg (by omega), Op.lookupswitch.offset_cons, if_pos (by omega)]) (by decide) ?_
    refine yi_G_run 2 (101, [(0, .inl x), (1, .inl y), (2, .inl w)], [.inl w, .inl y], (I, L, R, Y), 0, 0) (fun _ => rfl) ?_
    by_cases h12 : y = w
    · refine yi_G_if2 false rfl (yi_ne_f h12) ?_
      refine yi_G_run 2 (109, [(0, .inl x), (1, .inl y), (2, .inl w)], [.inl 1], (I, L, R, Y), 0, 0) (fun _ => rfl) ?_
      exact yi_G_reti rfl rfl (⟨_, rfl⟩)
    · refine yi_G_if2 true rfl (yi_ne_t h12) ?_
      refine yi_G_run 1 (109, [(0, .inl x), (1, .inl y), (2, .inl w)], [.inl 0], (I, L, R, Y), 0, 0) (fun _ => rfl) ?_
      exact yi_G_reti rfl rfl (⟨_, rfl⟩)
  refine cl_G_lsw (off := 117) 118 rfl (by show Op.lookupswitch.offset [(31, 59), (32, 73), (43, 109), (45, 113), (60, 87), (61, 98)] _ _ = _; rw [Op.lookupswitch.offset_cons, if_neg (by omega), Op.lookupswitch.offset_cons, if_neg (by omega), Op.lookupswitch.offset_cons, if_neg (by omega), Op.lookupswitch.offset_cons, if_neg (by omega), Op.lookupswitch.offset_cons, if_neg (by omega), Op.lookupswitch.offset_cons, if_neg (by omega), Op.lookupswitch.offset_nil]) (by decide) ?_
  refine yi_G_run 3 (121, [(0, .inl x), (1, .inl y), (2, .inl w)], [.inl (yi_w (y * w))], (I, L, R, Y), 0, 0) (fun _ => rfl) ?_
  exact yi_G_reti rfl rfl (⟨_, rfl⟩)
theorem k_priceOf (D : Nat) (hD : 2 ≤ D) {E : List Nat} {I L : cl_I} {R : cl_Rr} {Y : cl_Y} (hC : cl_C E I L R Y) {p : Nat} (tp : cl_T E Y p 6) {a : Nat} (ta : cl_T E Y a 20) {x : Int} {y : Int} {w : Int} : yi_E zi_Ms D 245 [.inr (.inr (some p)), .inr (.inr (some a)), .inl x, .inl y, .inl w] (I, L, R, Y) (fun r => ∃ z, ∃ I', r = (some (.inl z), (I', L, R, Y), 0, 0) ∧ cl_P E I L R Y I' L R Y) := by
  obtain ⟨d, rfl⟩ : ∃ d, D = d + 1 := ⟨D - 1, by omega⟩
  refine yi_E_of (M := zi_m245) rfl rfl ?_
  have hP : cl_P E I L R Y I L R Y := cl_P_r hC
  have na := cl_nb hP.1 ta
  show yi_G zi_Ms d zi_m245 (0, [(0, .inr (.inr (some p))), (1, .inr (.inr (some a))), (2, .inl x), (3, .inl y), (4, .inl w)], [], (I, L, R, Y), 0, 0) _
  refine yi_G_run 4 (6, [(6, .inl 0), (5, .inl 0), (0, .inr (.inr (some p))), (1, .inr (.inr (some a))), (2, .inl x), (3, .inl y), (4, .inl w)], [], (I, L, R, Y), 0, 0) (fun _ => rfl) ?_
  have pt6 : ∀ (m_ : Nat) (j : Int) (tz : Int) (Ip6 : cl_I), (cl_P E I L R Y Ip6 L R Y) → (0 ≤ j ∧ j ≤ (Y.2.1 a : Int)) → (0 ≤ tz ∧ tz ≤ 64) → ((Y.2.1 a : Int) - j).toNat = m_ → yi_G zi_Ms d zi_m245 (6, [(6, .inl j), (5, .inl tz), (0, .inr (.inr (some p))), (1, .inr (.inr (some a))), (2, .inl x), (3, .inl y), (4, .inl w)], [], (Ip6, L, R, Y), 0, 0) (fun r => ∃ z, ∃ I', r = (some (.inl z), (I', L, R, Y), 0, 0) ∧ cl_P E I L R Y I' L R Y) := by
    intro m6
    induction m6 using Nat.strongRecOn with
    | _ m6 ih6 =>
    intro j tz Ip6 hPp6 j0 tz0 hm6
    refine yi_G_run 2 (9, [(6, .inl j), (5, .inl tz), (0, .inr (.inr (some p))), (1, .inr (.inr (some a))), (2, .inl x), (3, .inl y), (4, .inl w)], [.inr (.inr (some a)), .inl j], (Ip6, L, R, Y), 0, 0) (fun _ => rfl) ?_
    refine cl_G_len rfl ta (by omega) ?_
    by_cases h1 : ((Y.2.1 a : Int)) ≤ j
    · refine yi_G_if2 true rfl (yi_ge_t h1) ?_
      refine yi_G_run 2 (179, [(6, .inl j), (5, .inl tz), (0, .inr (.inr (some p))), (1, .inr (.inr (some a))), (2, .inl x), (3, .inl y), (4, .inl w)], [.inl 1, .inl tz], (Ip6, L, R, Y), 0, 0) (fun _ => rfl) ?_
      by_cases h2 : tz < 1
      · refine yi_G_if2 true rfl (yi_lt_t h2) ?_
        refine yi_G_run 5 (202, [(6, .inl 0), (5, .inl tz), (0, .inr (.inr (some p))), (1, .inr (.inr (some a))), (2, .inl x), (3, .inl y), (4, .inl w)], [.inl 99, .inl 0, .inl 0], (Ip6, L, R, Y), 0, 0) (fun _ => rfl) ?_
        refine cl_G_min rfl rfl cl_min ?_
        refine cl_G_max rfl rfl cl_max ?_
        exact yi_G_reti rfl rfl (⟨_, _, rfl, hPp6⟩)
      · refine yi_G_if2 false rfl (yi_lt_f h2) ?_
        refine yi_G_run 1 (183, [(6, .inl j), (5, .inl tz), (0, .inr (.inr (some p))), (1, .inr (.inr (some a))), (2, .inl x), (3, .inl y), (4, .inl w)], [.inr (.inr (some p))], (Ip6, L, R, Y), 0, 0) (fun _ => rfl) ?_
        obtain ⟨q3, e4, t5, n6⟩ := cl_rn hPp6.1 tp (k := 0) (m := 63) rfl
        refine cl_G_gr rfl (cl_T_K tp) rfl rfl rfl e4 ?_
        refine yi_G_run 2 (189, [(6, .inl j), (5, .inl tz), (0, .inr (.inr (some p))), (1, .inr (.inr (some a))), (2, .inl x), (3, .inl y), (4, .inl w)], [.inl 1, .inl tz, .inr (.inr (some q3))], (Ip6, L, R, Y), 0, 0) (fun _ => rfl) ?_
        refine yi_G_isub rfl (tz - 1) (yi_wn (by omega) (by omega)) ?_
        refine cl_G_iald rfl t5 (by omega) (by omega) ?_
        refine yi_G_run 5 (202, [(6, .inl (Ip6 q3 ((tz - 1).toNat))), (5, .inl tz), (0, .inr (.inr (some p))), (1, .inr (.inr (some a))), (2, .inl x), (3, .inl y), (4, .inl w)], [.inl 99, .inl (Ip6 q3 ((tz - 1).toNat)), .inl 0], (Ip6, L, R, Y), 0, 0) (fun _ => rfl) ?_
        refine cl_G_min rfl rfl cl_min ?_
        refine cl_G_max rfl rfl cl_max ?_
        exact yi_G_reti rfl rfl (⟨_, _, rfl, hPp6⟩)
    · refine yi_G_if2 false rfl (yi_ge_f h1) ?_
      refine yi_G_run 2 (16, [(6, .inl j), (5, .inl tz), (0, .inr (.inr (some p))), (1, .inr (.inr (some a))), (2, .inl x), (3, .inl y), (4, .inl w)], [.inl j, .inr (.inr (some a))], (Ip6, L, R, Y), 0, 0) (fun _ => rfl) ?_
      refine cl_G_iald rfl ta (by omega) (by omega) ?_
      refine yi_G_run 5 (26, [(7, .inl (yi_iand (Ip6 a (j.toNat)) 255)), (6, .inl j), (5, .inl tz), (0, .inr (.inr (some p))), (1, .inr (.inr (some a))), (2, .inl x), (3, .inl y), (4, .inl w)], [.inl j, .inr (.inr (some a))], (Ip6, L, R, Y), 0, 0) (fun _ => rfl) ?_
      refine cl_G_iald rfl ta (by omega) (by omega) ?_
      refine yi_G_run 5 (35, [(8, .inl (yi_shr (Ip6 a (j.toNat)) 8)), (7, .inl (yi_iand (Ip6 a (j.toNat)) 255)), (6, .inl j), (5, .inl tz), (0, .inr (.inr (some p))), (1, .inr (.inr (some a))), (2, .inl x), (3, .inl y), (4, .inl w)], [.inl 2, .inl (yi_iand (Ip6 a (j.toNat)) 255)], (Ip6, L, R, Y), 0, 0) (fun _ => rfl) ?_
      by_cases h7 : (yi_iand (Ip6 a (j.toNat)) 255) = 2
      · refine yi_G_if2 true rfl (yi_eq_t h7) ?_
        refine yi_G_run 2 (47, [(8, .inl (yi_shr (Ip6 a (j.toNat)) 8)), (7, .inl (yi_iand (Ip6 a (j.toNat)) 255)), (6, .inl j), (5, .inl tz), (0, .inr (.inr (some p))), (1, .inr (.inr (some a))), (2, .inl x), (3, .inl y), (4, .inl w)], [.inr (.inr (some p)), .inl tz], (Ip6, L, R, Y), 0, 0) (fun _ => rfl) ?_
        obtain ⟨q8, e9, t10, n11⟩ := cl_rn hPp6.1 tp (k := 0) (m := 63) rfl
        refine cl_G_gr rfl (cl_T_K tp) rfl rfl rfl e9 ?_
        refine cl_G_len rfl t10 (by omega) ?_
        by_cases h12 : ((Y.2.1 q8 : Int)) ≤ tz
        · refine yi_G_if2 true rfl (yi_ge_t h12) ?_
          refine yi_G_iinc [(6, .inl (j + 1)), (8, .inl (yi_shr (Ip6 a (j.toNat)) 8)), (7, .inl (yi_iand (Ip6 a (j.toNat)) 255)), (5, .inl tz), (0, .inr (.inr (some p))), (1, .inr (.inr (some a))), (2, .inl x), (3, .inl y), (4, .inl w)] rfl rfl rfl (by rw [show yi_w (j + 1) = j + 1 from (yi_wn (by omega) (by omega)).trans (by omega)]; rfl) ?_
          refine yi_G_run 1 (6, [(6, .inl (j + 1)), (8, .inl (yi_shr (Ip6 a (j.toNat)) 8)), (7, .inl (yi_iand (Ip6 a (j.toNat)) 255)), (5, .inl tz), (0, .inr (.inr (some p))), (1, .inr (.inr (some a))), (2, .inl x), (3, .inl y), (4, .inl w)], [], (Ip6, L, R, Y), 0, 0) (fun _ => rfl) ?_
          refine yi_G_al (al := [(6, .inl (j + 1)), (5, .inl tz), (0, .inr (.inr (some p))), (1, .inr (.inr (some a))), (2, .inl x), (3, .inl y), (4, .inl w)]) (show ([6, 5, 0, 1, 2, 3, 4] : List Nat).Nodup by decide) (show ([6, 8, 7, 5, 0, 1, 2, 3, 4] : List Nat).Nodup by decide) (yi_mc (List.mem_of_getElem? (i := 0) rfl) (yi_mc (List.mem_of_getElem? (i := 3) rfl) (yi_mc (List.mem_of_getElem? (i := 4) rfl) (yi_mc (List.mem_of_getElem? (i := 5) rfl) (yi_mc (List.mem_of_getElem? (i := 6) rfl) (yi_mc (List.mem_of_getElem? (i := 7) rfl) (yi_mc (List.mem_of_getElem? (i := 8) rfl) yi_mn))))))) ?_
          exact ih6 _ (by omega) (j + 1) tz Ip6 hPp6 (by omega) (by omega) rfl
        · refine yi_G_if2 false rfl (yi_ge_f h12) ?_
          refine yi_G_run 1 (55, [(8, .inl (yi_shr (Ip6 a (j.toNat)) 8)), (7, .inl (yi_iand (Ip6 a (j.toNat)) 255)), (6, .inl j), (5, .inl tz), (0, .inr (.inr (some p))), (1, .inr (.inr (some a))), (2, .inl x), (3, .inl y), (4, .inl w)], [.inr (.inr (some p))], (Ip6, L, R, Y), 0, 0) (fun _ => rfl) ?_
          refine cl_G_gr rfl (cl_T_K tp) rfl rfl rfl e9 ?_
          refine yi_G_run 3 (63, [(8, .inl (yi_shr (Ip6 a (j.toNat)) 8)), (7, .inl (yi_iand (Ip6 a (j.toNat)) 255)), (6, .inl j), (5, .inl tz), (0, .inr (.inr (some p))), (1, .inr (.inr (some a))), (2, .inl x), (3, .inl y), (4, .inl w)], [.inl 2, .inl (yi_iand (Ip6 a (j.toNat)) 255), .inl tz, .inr (.inr (some q8))], (Ip6, L, R, Y), 0, 0) (fun _ => rfl) ?_
          by_cases h13 : (yi_iand (Ip6 a (j.toNat)) 255) = 2
          · refine yi_G_if2 false rfl (yi_ne_f h13) ?_
            refine yi_G_run 2 (80, [(8, .inl (yi_shr (Ip6 a (j.toNat)) 8)), (7, .inl (yi_iand (Ip6 a (j.toNat)) 255)), (6, .inl j), (5, .inl tz), (0, .inr (.inr (some p))), (1, .inr (.inr (some a))), (2, .inl x), (3, .inl y), (4, .inl w)], [.inl (yi_shr (Ip6 a (j.toNat)) 8), .inl tz, .inr (.inr (some q8))], (Ip6, L, R, Y), 0, 0) (fun _ => rfl) ?_
            refine cl_G_iast rfl t10 (by omega) (by omega) ?_
            have hP14 := cl_P_uI (k := (tz.toNat)) (v := yi_shr (Ip6 a (j.toNat)) 8) hPp6 t10 (by omega) (cl_hv0 rfl)
            generalize w15 : yi_u Ip6 q8 (tz.toNat) (yi_shr (Ip6 a (j.toNat)) 8) = I16 at hP14 ⊢
            refine yi_G_iinc [(5, .inl (tz + 1)), (8, .inl (yi_shr (Ip6 a (j.toNat)) 8)), (7, .inl (yi_iand (Ip6 a (j.toNat)) 255)), (6, .inl j), (0, .inr (.inr (some p))), (1, .inr (.inr (some a))), (2, .inl x), (3, .inl y), (4, .inl w)] rfl rfl rfl (by rw [show yi_w (tz + 1) = tz + 1 from (yi_wn (by omega) (by omega)).trans (by omega)]; rfl) ?_
            refine yi_G_run 1 (170, [(5, .inl (tz + 1)), (8, .inl (yi_shr (Ip6 a (j.toNat)) 8)), (7, .inl (yi_iand (Ip6 a (j.toNat)) 255)), (6, .inl j), (0, .inr (.inr (some p))), (1, .inr (.inr (some a))), (2, .inl x), (3, .inl y), (4, .inl w)], [], (I16, L, R, Y), 0, 0) (fun _ => rfl) ?_
            refine yi_G_iinc [(6, .inl (j + 1)), (5, .inl (tz + 1)), (8, .inl (yi_shr (Ip6 a (j.toNat)) 8)), (7, .inl (yi_iand (Ip6 a (j.toNat)) 255)), (0, .inr (.inr (some p))), (1, .inr (.inr (some a))), (2, .inl x), (3, .inl y), (4, .inl w)] rfl rfl rfl (by rw [show yi_w (j + 1) = j + 1 from (yi_wn (by omega) (by omega)).trans (by omega)]; rfl) ?_
            refine yi_G_run 1 (6, [(6, .inl (j + 1)), (5, .inl (tz + 1)), (8, .inl (yi_shr (Ip6 a (j.toNat)) 8)), (7, .inl (yi_iand (Ip6 a (j.toNat)) 255)), (0, .inr (.inr (some p))), (1, .inr (.inr (some a))), (2, .inl x), (3, .inl y), (4, .inl w)], [], (I16, L, R, Y), 0, 0) (fun _ => rfl) ?_
            refine yi_G_al (al := [(6, .inl (j + 1)), (5, .inl (tz + 1)), (0, .inr (.inr (some p))), (1, .inr (.inr (some a))), (2, .inl x), (3, .inl y), (4, .inl w)]) (show ([6, 5, 0, 1, 2, 3, 4] : List Nat).Nodup by decide) (show ([6, 5, 8, 7, 0, 1, 2, 3, 4] : List Nat).Nodup by decide) (yi_mc (List.mem_of_getElem? (i := 0) rfl) (yi_mc (List.mem_of_getElem? (i := 1) rfl) (yi_mc (List.mem_of_getElem? (i := 4) rfl) (yi_mc (List.mem_of_getElem? (i := 5) rfl) (yi_mc (List.mem_of_getElem? (i := 6) rfl) (yi_mc (List.mem_of_getElem? (i := 7) rfl) (yi_mc (List.mem_of_getElem? (i := 8) rfl) yi_mn))))))) ?_
            exact ih6 _ (by omega) (j + 1) (tz + 1) I16 hP14 (by omega) (by omega) rfl
          · refine yi_G_if2 true rfl (yi_ne_t h13) ?_
            refine yi_G_run 4 (77, [(8, .inl (yi_shr (Ip6 a (j.toNat)) 8)), (7, .inl (yi_iand (Ip6 a (j.toNat)) 255)), (6, .inl j), (5, .inl tz), (0, .inr (.inr (some p))), (1, .inr (.inr (some a))), (2, .inl x), (3, .inl y), (4, .inl w)], [.inl w, .inl y, .inl x, .inl (yi_shr (Ip6 a (j.toNat)) 8), .inl tz, .inr (.inr (some q8))], (Ip6, L, R, Y), 0, 0) (fun _ => rfl) ?_
            refine yi_G_calls rfl rfl (k_factValue d (by omega) hPp6.1  ) ?_
            rintro _ ⟨z17, rfl⟩
            show yi_G zi_Ms d zi_m245 (80, [(8, .inl (yi_shr (Ip6 a (j.toNat)) 8)), (7, .inl (yi_iand (Ip6 a (j.toNat)) 255)), (6, .inl j), (5, .inl tz), (0, .inr (.inr (some p))), (1, .inr (.inr (some a))), (2, .inl x), (3, .inl y), (4, .inl w)], [.inl z17, .inl tz, .inr (.inr (some q8))], (Ip6, L, R, Y), 0, 0) _
            refine cl_G_iast rfl t10 (by omega) (by omega) ?_
            have hP18 := cl_P_uI (k := (tz.toNat)) (v := z17) hPp6 t10 (by omega) (cl_hv0 rfl)
            generalize w19 : yi_u Ip6 q8 (tz.toNat) z17 = I20 at hP18 ⊢
            refine yi_G_iinc [(5, .inl (tz + 1)), (8, .inl (yi_shr (Ip6 a (j.toNat)) 8)), (7, .inl (yi_iand (Ip6 a (j.toNat)) 255)), (6, .inl j), (0, .inr (.inr (some p))), (1, .inr (.inr (some a))), (2, .inl x), (3, .inl y), (4, .inl w)] rfl rfl rfl (by rw [show yi_w (tz + 1) = tz + 1 from (yi_wn (by omega) (by omega)).trans (by omega)]; rfl) ?_
            refine yi_G_run 1 (170, [(5, .inl (tz + 1)), (8, .inl (yi_shr (Ip6 a (j.toNat)) 8)), (7, .inl (yi_iand (Ip6 a (j.toNat)) 255)), (6, .inl j), (0, .inr (.inr (some p))), (1, .inr (.inr (some a))), (2, .inl x), (3, .inl y), (4, .inl w)], [], (I20, L, R, Y), 0, 0) (fun _ => rfl) ?_
            refine yi_G_iinc [(6, .inl (j + 1)), (5, .inl (tz + 1)), (8, .inl (yi_shr (Ip6 a (j.toNat)) 8)), (7, .inl (yi_iand (Ip6 a (j.toNat)) 255)), (0, .inr (.inr (some p))), (1, .inr (.inr (some a))), (2, .inl x), (3, .inl y), (4, .inl w)] rfl rfl rfl (by rw [show yi_w (j + 1) = j + 1 from (yi_wn (by omega) (by omega)).trans (by omega)]; rfl) ?_
            refine yi_G_run 1 (6, [(6, .inl (j + 1)), (5, .inl (tz + 1)), (8, .inl (yi_shr (Ip6 a (j.toNat)) 8)), (7, .inl (yi_iand (Ip6 a (j.toNat)) 255)), (0, .inr (.inr (some p))), (1, .inr (.inr (some a))), (2, .inl x), (3, .inl y), (4, .inl w)], [], (I20, L, R, Y), 0, 0) (fun _ => rfl) ?_
            refine yi_G_al (al := [(6, .inl (j + 1)), (5, .inl (tz + 1)), (0, .inr (.inr (some p))), (1, .inr (.inr (some a))), (2, .inl x), (3, .inl y), (4, .inl w)]) (show ([6, 5, 0, 1, 2, 3, 4] : List Nat).Nodup by decide) (show ([6, 5, 8, 7, 0, 1, 2, 3, 4] : List Nat).Nodup by decide) (yi_mc (List.mem_of_getElem? (i := 0) rfl) (yi_mc (List.mem_of_getElem? (i := 1) rfl) (yi_mc (List.mem_of_getElem? (i := 4) rfl) (yi_mc (List.mem_of_getElem? (i := 5) rfl) (yi_mc (List.mem_of_getElem? (i := 6) rfl) (yi_mc (List.mem_of_getElem? (i := 7) rfl) (yi_mc (List.mem_of_getElem? (i := 8) rfl) yi_mn))))))) ?_
            exact ih6 _ (by omega) (j + 1) (tz + 1) I20 hP18 (by omega) (by omega) rfl
      · refine yi_G_if2 false rfl (yi_eq_f h7) ?_
        refine yi_G_run 2 (41, [(8, .inl (yi_shr (Ip6 a (j.toNat)) 8)), (7, .inl (yi_iand (Ip6 a (j.toNat)) 255)), (6, .inl j), (5, .inl tz), (0, .inr (.inr (some p))), (1, .inr (.inr (some a))), (2, .inl x), (3, .inl y), (4, .inl w)], [.inl 3, .inl (yi_iand (Ip6 a (j.toNat)) 255)], (Ip6, L, R, Y), 0, 0) (fun _ => rfl) ?_
        by_cases h21 : (yi_iand (Ip6 a (j.toNat)) 255) = 3
        · refine yi_G_if2 false rfl (yi_ne_f h21) ?_
          refine yi_G_run 2 (47, [(8, .inl (yi_shr (Ip6 a (j.toNat)) 8)), (7, .inl (yi_iand (Ip6 a (j.toNat)) 255)), (6, .inl j), (5, .inl tz), (0, .inr (.inr (some p))), (1, .inr (.inr (some a))), (2, .inl x), (3, .inl y), (4, .inl w)], [.inr (.inr (some p)), .inl tz], (Ip6, L, R, Y), 0, 0) (fun _ => rfl) ?_
          obtain ⟨q22, e23, t24, n25⟩ := cl_rn hPp6.1 tp (k := 0) (m := 63) rfl
          refine cl_G_gr rfl (cl_T_K tp) rfl rfl rfl e23 ?_
          refine cl_G_len rfl t24 (by omega) ?_
          by_cases h26 : ((Y.2.1 q22 : Int)) ≤ tz
          · refine yi_G_if2 true rfl (yi_ge_t h26) ?_
            refine yi_G_iinc [(6, .inl (j + 1)), (8, .inl (yi_shr (Ip6 a (j.toNat)) 8)), (7, .inl (yi_iand (Ip6 a (j.toNat)) 255)), (5, .inl tz), (0, .inr (.inr (some p))), (1, .inr (.inr (some a))), (2, .inl x), (3, .inl y), (4, .inl w)] rfl rfl rfl (by rw [show yi_w (j + 1) = j + 1 from (yi_wn (by omega) (by omega)).trans (by omega)]; rfl) ?_
            refine yi_G_run 1 (6, [(6, .inl (j + 1)), (8, .inl (yi_shr (Ip6 a (j.toNat)) 8)), (7, .inl (yi_iand (Ip6 a (j.toNat)) 255)), (5, .inl tz), (0, .inr (.inr (some p))), (1, .inr (.inr (some a))), (2, .inl x), (3, .inl y), (4, .inl w)], [], (Ip6, L, R, Y), 0, 0) (fun _ => rfl) ?_
            refine yi_G_al (al := [(6, .inl (j + 1)), (5, .inl tz), (0, .inr (.inr (some p))), (1, .inr (.inr (some a))), (2, .inl x), (3, .inl y), (4, .inl w)]) (show ([6, 5, 0, 1, 2, 3, 4] : List Nat).Nodup by decide) (show ([6, 8, 7, 5, 0, 1, 2, 3, 4] : List Nat).Nodup by decide) (yi_mc (List.mem_of_getElem? (i := 0) rfl) (yi_mc (List.mem_of_getElem? (i := 3) rfl) (yi_mc (List.mem_of_getElem? (i := 4) rfl) (yi_mc (List.mem_of_getElem? (i := 5) rfl) (yi_mc (List.mem_of_getElem? (i := 6) rfl) (yi_mc (List.mem_of_getElem? (i := 7) rfl) (yi_mc (List.mem_of_getElem? (i := 8) rfl) yi_mn))))))) ?_
            exact ih6 _ (by omega) (j + 1) tz Ip6 hPp6 (by omega) (by omega) rfl
          · refine yi_G_if2 false rfl (yi_ge_f h26) ?_
            refine yi_G_run 1 (55, [(8, .inl (yi_shr (Ip6 a (j.toNat)) 8)), (7, .inl (yi_iand (Ip6 a (j.toNat)) 255)), (6, .inl j), (5, .inl tz), (0, .inr (.inr (some p))), (1, .inr (.inr (some a))), (2, .inl x), (3, .inl y), (4, .inl w)], [.inr (.inr (some p))], (Ip6, L, R, Y), 0, 0) (fun _ => rfl) ?_
            refine cl_G_gr rfl (cl_T_K tp) rfl rfl rfl e23 ?_
            refine yi_G_run 3 (63, [(8, .inl (yi_shr (Ip6 a (j.toNat)) 8)), (7, .inl (yi_iand (Ip6 a (j.toNat)) 255)), (6, .inl j), (5, .inl tz), (0, .inr (.inr (some p))), (1, .inr (.inr (some a))), (2, .inl x), (3, .inl y), (4, .inl w)], [.inl 2, .inl (yi_iand (Ip6 a (j.toNat)) 255), .inl tz, .inr (.inr (some q22))], (Ip6, L, R, Y), 0, 0) (fun _ => rfl) ?_
            by_cases h27 : (yi_iand (Ip6 a (j.toNat)) 255) = 2
            · refine yi_G_if2 false rfl (yi_ne_f h27) ?_
              refine yi_G_run 2 (80, [(8, .inl (yi_shr (Ip6 a (j.toNat)) 8)), (7, .inl (yi_iand (Ip6 a (j.toNat)) 255)), (6, .inl j), (5, .inl tz), (0, .inr (.inr (some p))), (1, .inr (.inr (some a))), (2, .inl x), (3, .inl y), (4, .inl w)], [.inl (yi_shr (Ip6 a (j.toNat)) 8), .inl tz, .inr (.inr (some q22))], (Ip6, L, R, Y), 0, 0) (fun _ => rfl) ?_
              refine cl_G_iast rfl t24 (by omega) (by omega) ?_
              have hP28 := cl_P_uI (k := (tz.toNat)) (v := yi_shr (Ip6 a (j.toNat)) 8) hPp6 t24 (by omega) (cl_hv0 rfl)
              generalize w29 : yi_u Ip6 q22 (tz.toNat) (yi_shr (Ip6 a (j.toNat)) 8) = I30 at hP28 ⊢
              refine yi_G_iinc [(5, .inl (tz + 1)), (8, .inl (yi_shr (Ip6 a (j.toNat)) 8)), (7, .inl (yi_iand (Ip6 a (j.toNat)) 255)), (6, .inl j), (0, .inr (.inr (some p))), (1, .inr (.inr (some a))), (2, .inl x), (3, .inl y), (4, .inl w)] rfl rfl rfl (by rw [show yi_w (tz + 1) = tz + 1 from (yi_wn (by omega) (by omega)).trans (by omega)]; rfl) ?_
              refine yi_G_run 1 (170, [(5, .inl (tz + 1)), (8, .inl (yi_shr (Ip6 a (j.toNat)) 8)), (7, .inl (yi_iand (Ip6 a (j.toNat)) 255)), (6, .inl j), (0, .inr (.inr (some p))), (1, .inr (.inr (some a))), (2, .inl x), (3, .inl y), (4, .inl w)], [], (I30, L, R, Y), 0, 0) (fun _ => rfl) ?_
              refine yi_G_iinc [(6, .inl (j + 1)), (5, .inl (tz + 1)), (8, .inl (yi_shr (Ip6 a (j.toNat)) 8)), (7, .inl (yi_iand (Ip6 a (j.toNat)) 255)), (0, .inr (.inr (some p))), (1, .inr (.inr (some a))), (2, .inl x), (3, .inl y), (4, .inl w)] rfl rfl rfl (by rw [show yi_w (j + 1) = j + 1 from (yi_wn (by omega) (by omega)).trans (by omega)]; rfl) ?_
              refine yi_G_run 1 (6, [(6, .inl (j + 1)), (5, .inl (tz + 1)), (8, .inl (yi_shr (Ip6 a (j.toNat)) 8)), (7, .inl (yi_iand (Ip6 a (j.toNat)) 255)), (0, .inr (.inr (some p))), (1, .inr (.inr (some a))), (2, .inl x), (3, .inl y), (4, .inl w)], [], (I30, L, R, Y), 0, 0) (fun _ => rfl) ?_
              refine yi_G_al (al := [(6, .inl (j + 1)), (5, .inl (tz + 1)), (0, .inr (.inr (some p))), (1, .inr (.inr (some a))), (2, .inl x), (3, .inl y), (4, .inl w)]) (show ([6, 5, 0, 1, 2, 3, 4] : List Nat).Nodup by decide) (show ([6, 5, 8, 7, 0, 1, 2, 3, 4] : List Nat).Nodup by decide) (yi_mc (List.mem_of_getElem? (i := 0) rfl) (yi_mc (List.mem_of_getElem? (i := 1) rfl) (yi_mc (List.mem_of_getElem? (i := 4) rfl) (yi_mc (List.mem_of_getElem? (i := 5) rfl) (yi_mc (List.mem_of_getElem? (i := 6) rfl) (yi_mc (List.mem_of_getElem? (i := 7) rfl) (yi_mc (List.mem_of_getElem? (i := 8) rfl) yi_mn))))))) ?_
              exact ih6 _ (by omega) (j + 1) (tz + 1) I30 hP28 (by omega) (by omega) rfl
            · refine yi_G_if2 true rfl (yi_ne_t h27) ?_
              refine yi_G_run 4 (77, [(8, .inl (yi_shr (Ip6 a (j.toNat)) 8)), (7, .inl (yi_iand (Ip6 a (j.toNat)) 255)), (6, .inl j), (5, .inl tz), (0, .inr (.inr (some p))), (1, .inr (.inr (some a))), (2, .inl x), (3, .inl y), (4, .inl w)], [.inl w, .inl y, .inl x, .inl (yi_shr (Ip6 a (j.toNat)) 8), .inl tz, .inr (.inr (some q22))], (Ip6, L, R, Y), 0, 0) (fun _ => rfl) ?_
              refine yi_G_calls rfl rfl (k_factValue d (by omega) hPp6.1  ) ?_
              rintro _ ⟨z31, rfl⟩
              show yi_G zi_Ms d zi_m245 (80, [(8, .inl (yi_shr (Ip6 a (j.toNat)) 8)), (7, .inl (yi_iand (Ip6 a (j.toNat)) 255)), (6, .inl j), (5, .inl tz), (0, .inr (.inr (some p))), (1, .inr (.inr (some a))), (2, .inl x), (3, .inl y), (4, .inl w)], [.inl z31, .inl tz, .inr (.inr (some q22))], (Ip6, L, R, Y), 0, 0) _
              refine cl_G_iast rfl t24 (by omega) (by omega) ?_
              have hP32 := cl_P_uI (k := (tz.toNat)) (v := z31) hPp6 t24 (by omega) (cl_hv0 rfl)
              generalize w33 : yi_u Ip6 q22 (tz.toNat) z31 = I34 at hP32 ⊢
              refine yi_G_iinc [(5, .inl (tz + 1)), (8, .inl (yi_shr (Ip6 a (j.toNat)) 8)), (7, .inl (yi_iand (Ip6 a (j.toNat)) 255)), (6, .inl j), (0, .inr (.inr (some p))), (1, .inr (.inr (some a))), (2, .inl x), (3, .inl y), (4, .inl w)] rfl rfl rfl (by rw [show yi_w (tz + 1) = tz + 1 from (yi_wn (by omega) (by omega)).trans (by omega)]; rfl) ?_
              refine yi_G_run 1 (170, [(5, .inl (tz + 1)), (8, .inl (yi_shr (Ip6 a (j.toNat)) 8)), (7, .inl (yi_iand (Ip6 a (j.toNat)) 255)), (6, .inl j), (0, .inr (.inr (some p))), (1, .inr (.inr (some a))), (2, .inl x), (3, .inl y), (4, .inl w)], [], (I34, L, R, Y), 0, 0) (fun _ => rfl) ?_
              refine yi_G_iinc [(6, .inl (j + 1)), (5, .inl (tz + 1)), (8, .inl (yi_shr (Ip6 a (j.toNat)) 8)), (7, .inl (yi_iand (Ip6 a (j.toNat)) 255)), (0, .inr (.inr (some p))), (1, .inr (.inr (some a))), (2, .inl x), (3, .inl y), (4, .inl w)] rfl rfl rfl (by rw [show yi_w (j + 1) = j + 1 from (yi_wn (by omega) (by omega)).trans (by omega)]; rfl) ?_
              refine yi_G_run 1 (6, [(6, .inl (j + 1)), (5, .inl (tz + 1)), (8, .inl (yi_shr (Ip6 a (j.toNat)) 8)), (7, .inl (yi_iand (Ip6 a (j.toNat)) 255)), (0, .inr (.inr (some p))), (1, .inr (.inr (some a))), (2, .inl x), (3, .inl y), (4, .inl w)], [], (I34, L, R, Y), 0, 0) (fun _ => rfl) ?_
              refine yi_G_al (al := [(6, .inl (j + 1)), (5, .inl (tz + 1)), (0, .inr (.inr (some p))), (1, .inr (.inr (some a))), (2, .inl x), (3, .inl y), (4, .inl w)]) (show ([6, 5, 0, 1, 2, 3, 4] : List Nat).Nodup by decide) (show ([6, 5, 8, 7, 0, 1, 2, 3, 4] : List Nat).Nodup by decide) (yi_mc (List.mem_of_getElem? (i := 0) rfl) (yi_mc (List.mem_of_getElem? (i := 1) rfl) (yi_mc (List.mem_of_getElem? (i := 4) rfl) (yi_mc (List.mem_of_getElem? (i := 5) rfl) (yi_mc (List.mem_of_getElem? (i := 6) rfl) (yi_mc (List.mem_of_getElem? (i := 7) rfl) (yi_mc (List.mem_of_getElem? (i := 8) rfl) yi_mn))))))) ?_
              exact ih6 _ (by omega) (j + 1) (tz + 1) I34 hP32 (by omega) (by omega) rfl
        · refine yi_G_if2 true rfl (yi_ne_t h21) ?_
          refine yi_G_run 2 (91, [(8, .inl (yi_shr (Ip6 a (j.toNat)) 8)), (7, .inl (yi_iand (Ip6 a (j.toNat)) 255)), (6, .inl j), (5, .inl tz), (0, .inr (.inr (some p))), (1, .inr (.inr (some a))), (2, .inl x), (3, .inl y), (4, .inl w)], [.inl 30, .inl (yi_iand (Ip6 a (j.toNat)) 255)], (Ip6, L, R, Y), 0, 0) (fun _ => rfl) ?_
          by_cases h35 : (yi_iand (Ip6 a (j.toNat)) 255) = 30
          · refine yi_G_if2 false rfl (yi_ne_f h35) ?_
            refine yi_G_run 2 (97, [(8, .inl (yi_shr (Ip6 a (j.toNat)) 8)), (7, .inl (yi_iand (Ip6 a (j.toNat)) 255)), (6, .inl j), (5, .inl tz), (0, .inr (.inr (some p))), (1, .inr (.inr (some a))), (2, .inl x), (3, .inl y), (4, .inl w)], [.inl 1, .inl tz], (Ip6, L, R, Y), 0, 0) (fun _ => rfl) ?_
            by_cases h36 : tz < 1
            · refine yi_G_if2 true rfl (yi_lt_t h36) ?_
              refine yi_G_iinc [(6, .inl (j + 1)), (8, .inl (yi_shr (Ip6 a (j.toNat)) 8)), (7, .inl (yi_iand (Ip6 a (j.toNat)) 255)), (5, .inl tz), (0, .inr (.inr (some p))), (1, .inr (.inr (some a))), (2, .inl x), (3, .inl y), (4, .inl w)] rfl rfl rfl (by rw [show yi_w (j + 1) = j + 1 from (yi_wn (by omega) (by omega)).trans (by omega)]; rfl) ?_
              refine yi_G_run 1 (6, [(6, .inl (j + 1)), (8, .inl (yi_shr (Ip6 a (j.toNat)) 8)), (7, .inl (yi_iand (Ip6 a (j.toNat)) 255)), (5, .inl tz), (0, .inr (.inr (some p))), (1, .inr (.inr (some a))), (2, .inl x), (3, .inl y), (4, .inl w)], [], (Ip6, L, R, Y), 0, 0) (fun _ => rfl) ?_
              refine yi_G_al (al := [(6, .inl (j + 1)), (5, .inl tz), (0, .inr (.inr (some p))), (1, .inr (.inr (some a))), (2, .inl x), (3, .inl y), (4, .inl w)]) (show ([6, 5, 0, 1, 2, 3, 4] : List Nat).Nodup by decide) (show ([6, 8, 7, 5, 0, 1, 2, 3, 4] : List Nat).Nodup by decide) (yi_mc (List.mem_of_getElem? (i := 0) rfl) (yi_mc (List.mem_of_getElem? (i := 3) rfl) (yi_mc (List.mem_of_getElem? (i := 4) rfl) (yi_mc (List.mem_of_getElem? (i := 5) rfl) (yi_mc (List.mem_of_getElem? (i := 6) rfl) (yi_mc (List.mem_of_getElem? (i := 7) rfl) (yi_mc (List.mem_of_getElem? (i := 8) rfl) yi_mn))))))) ?_
              exact ih6 _ (by omega) (j + 1) tz Ip6 hPp6 (by omega) (by omega) rfl
            · refine yi_G_if2 false rfl (yi_lt_f h36) ?_
              refine yi_G_run 1 (101, [(8, .inl (yi_shr (Ip6 a (j.toNat)) 8)), (7, .inl (yi_iand (Ip6 a (j.toNat)) 255)), (6, .inl j), (5, .inl tz), (0, .inr (.inr (some p))), (1, .inr (.inr (some a))), (2, .inl x), (3, .inl y), (4, .inl w)], [.inr (.inr (some p))], (Ip6, L, R, Y), 0, 0) (fun _ => rfl) ?_
              obtain ⟨q37, e38, t39, n40⟩ := cl_rn hPp6.1 tp (k := 0) (m := 63) rfl
              refine cl_G_gr rfl (cl_T_K tp) rfl rfl rfl e38 ?_
              refine yi_G_run 2 (107, [(8, .inl (yi_shr (Ip6 a (j.toNat)) 8)), (7, .inl (yi_iand (Ip6 a (j.toNat)) 255)), (6, .inl j), (5, .inl tz), (0, .inr (.inr (some p))), (1, .inr (.inr (some a))), (2, .inl x), (3, .inl y), (4, .inl w)], [.inl 1, .inl tz, .inr (.inr (some q37))], (Ip6, L, R, Y), 0, 0) (fun _ => rfl) ?_
              refine yi_G_isub rfl (tz - 1) (yi_wn (by omega) (by omega)) ?_
              refine yi_G_run 1 (109, [(8, .inl (yi_shr (Ip6 a (j.toNat)) 8)), (7, .inl (yi_iand (Ip6 a (j.toNat)) 255)), (6, .inl j), (5, .inl tz), (0, .inr (.inr (some p))), (1, .inr (.inr (some a))), (2, .inl x), (3, .inl y), (4, .inl w)], [.inr (.inr (some p)), .inl (tz - 1), .inr (.inr (some q37))], (Ip6, L, R, Y), 0, 0) (fun _ => rfl) ?_
              refine cl_G_gr rfl (cl_T_K tp) rfl rfl rfl e38 ?_
              refine yi_G_run 2 (115, [(8, .inl (yi_shr (Ip6 a (j.toNat)) 8)), (7, .inl (yi_iand (Ip6 a (j.toNat)) 255)), (6, .inl j), (5, .inl tz), (0, .inr (.inr (some p))), (1, .inr (.inr (some a))), (2, .inl x), (3, .inl y), (4, .inl w)], [.inl 1, .inl tz, .inr (.inr (some q37)), .inl (tz - 1), .inr (.inr (some q37))], (Ip6, L, R, Y), 0, 0) (fun _ => rfl) ?_
              refine yi_G_isub rfl (tz - 1) (yi_wn (by omega) (by omega)) ?_
              refine cl_G_iald rfl t39 (by omega) (by omega) ?_
              by_cases h41 : (Ip6 q37 ((tz - 1).toNat)) = 0
              · refine yi_G_if1 false rfl (yi_ne_f h41) ?_
                refine yi_G_run 2 (125, [(8, .inl (yi_shr (Ip6 a (j.toNat)) 8)), (7, .inl (yi_iand (Ip6 a (j.toNat)) 255)), (6, .inl j), (5, .inl tz), (0, .inr (.inr (some p))), (1, .inr (.inr (some a))), (2, .inl x), (3, .inl y), (4, .inl w)], [.inl 1, .inl (tz - 1), .inr (.inr (some q37))], (Ip6, L, R, Y), 0, 0) (fun _ => rfl) ?_
                refine cl_G_iast rfl t39 (by omega) (by omega) ?_
                have hP42 := cl_P_uI (k := ((tz - 1).toNat)) (v := 1) hPp6 t39 (by omega) (cl_hv0 rfl)
                generalize w43 : yi_u Ip6 q37 ((tz - 1).toNat) 1 = I44 at hP42 ⊢
                refine yi_G_run 1 (170, [(8, .inl (yi_shr (Ip6 a (j.toNat)) 8)), (7, .inl (yi_iand (Ip6 a (j.toNat)) 255)), (6, .inl j), (5, .inl tz), (0, .inr (.inr (some p))), (1, .inr (.inr (some a))), (2, .inl x), (3, .inl y), (4, .inl w)], [], (I44, L, R, Y), 0, 0) (fun _ => rfl) ?_
                refine yi_G_iinc [(6, .inl (j + 1)), (8, .inl (yi_shr (Ip6 a (j.toNat)) 8)), (7, .inl (yi_iand (Ip6 a (j.toNat)) 255)), (5, .inl tz), (0, .inr (.inr (some p))), (1, .inr (.inr (some a))), (2, .inl x), (3, .inl y), (4, .inl w)] rfl rfl rfl (by rw [show yi_w (j + 1) = j + 1 from (yi_wn (by omega) (by omega)).trans (by omega)]; rfl) ?_
                refine yi_G_run 1 (6, [(6, .inl (j + 1)), (8, .inl (yi_shr (Ip6 a (j.toNat)) 8)), (7, .inl (yi_iand (Ip6 a (j.toNat)) 255)), (5, .inl tz), (0, .inr (.inr (some p))), (1, .inr (.inr (some a))), (2, .inl x), (3, .inl y), (4, .inl w)], [], (I44, L, R, Y), 0, 0) (fun _ => rfl) ?_
                refine yi_G_al (al := [(6, .inl (j + 1)), (5, .inl tz), (0, .inr (.inr (some p))), (1, .inr (.inr (some a))), (2, .inl x), (3, .inl y), (4, .inl w)]) (show ([6, 5, 0, 1, 2, 3, 4] : List Nat).Nodup by decide) (show ([6, 8, 7, 5, 0, 1, 2, 3, 4] : List Nat).Nodup by decide) (yi_mc (List.mem_of_getElem? (i := 0) rfl) (yi_mc (List.mem_of_getElem? (i := 3) rfl) (yi_mc (List.mem_of_getElem? (i := 4) rfl) (yi_mc (List.mem_of_getElem? (i := 5) rfl) (yi_mc (List.mem_of_getElem? (i := 6) rfl) (yi_mc (List.mem_of_getElem? (i := 7) rfl) (yi_mc (List.mem_of_getElem? (i := 8) rfl) yi_mn))))))) ?_
                exact ih6 _ (by omega) (j + 1) tz I44 hP42 (by omega) (by omega) rfl
              · refine yi_G_if1 true rfl (yi_ne_t h41) ?_
                refine yi_G_run 1 (125, [(8, .inl (yi_shr (Ip6 a (j.toNat)) 8)), (7, .inl (yi_iand (Ip6 a (j.toNat)) 255)), (6, .inl j), (5, .inl tz), (0, .inr (.inr (some p))), (1, .inr (.inr (some a))), (2, .inl x), (3, .inl y), (4, .inl w)], [.inl 0, .inl (tz - 1), .inr (.inr (some q37))], (Ip6, L, R, Y), 0, 0) (fun _ => rfl) ?_
                refine cl_G_iast rfl t39 (by omega) (by omega) ?_
                have hP45 := cl_P_uI (k := ((tz - 1).toNat)) (v := 0) hPp6 t39 (by omega) (cl_hv0 rfl)
                generalize w46 : yi_u Ip6 q37 ((tz - 1).toNat) 0 = I47 at hP45 ⊢
                refine yi_G_run 1 (170, [(8, .inl (yi_shr (Ip6 a (j.toNat)) 8)), (7, .inl (yi_iand (Ip6 a (j.toNat)) 255)), (6, .inl j), (5, .inl tz), (0, .inr (.inr (some p))), (1, .inr (.inr (some a))), (2, .inl x), (3, .inl y), (4, .inl w)], [], (I47, L, R, Y), 0, 0) (fun _ => rfl) ?_
                refine yi_G_iinc [(6, .inl (j + 1)), (8, .inl (yi_shr (Ip6 a (j.toNat)) 8)), (7, .inl (yi_iand (Ip6 a (j.toNat)) 255)), (5, .inl tz), (0, .inr (.inr (some p))), (1, .inr (.inr (some a))), (2, .inl x), (3, .inl y), (4, .inl w)] rfl rfl rfl (by rw [show yi_w (j + 1) = j + 1 from (yi_wn (by omega) (by omega)).trans (by omega)]; rfl) ?_
                refine yi_G_run 1 (6, [(6, .inl (j + 1)), (8, .inl (yi_shr (Ip6 a (j.toNat)) 8)), (7, .inl (yi_iand (Ip6 a (j.toNat)) 255)), (5, .inl tz), (0, .inr (.inr (some p))), (1, .inr (.inr (some a))), (2, .inl x), (3, .inl y), (4, .inl w)], [], (I47, L, R, Y), 0, 0) (fun _ => rfl) ?_
                refine yi_G_al (al := [(6, .inl (j + 1)), (5, .inl tz), (0, .inr (.inr (some p))), (1, .inr (.inr (some a))), (2, .inl x), (3, .inl y), (4, .inl w)]) (show ([6, 5, 0, 1, 2, 3, 4] : List Nat).Nodup by decide) (show ([6, 8, 7, 5, 0, 1, 2, 3, 4] : List Nat).Nodup by decide) (yi_mc (List.mem_of_getElem? (i := 0) rfl) (yi_mc (List.mem_of_getElem? (i := 3) rfl) (yi_mc (List.mem_of_getElem? (i := 4) rfl) (yi_mc (List.mem_of_getElem? (i := 5) rfl) (yi_mc (List.mem_of_getElem? (i := 6) rfl) (yi_mc (List.mem_of_getElem? (i := 7) rfl) (yi_mc (List.mem_of_getElem? (i := 8) rfl) yi_mn))))))) ?_
                exact ih6 _ (by omega) (j + 1) tz I47 hP45 (by omega) (by omega) rfl
          · refine yi_G_if2 true rfl (yi_ne_t h35) ?_
            refine yi_G_run 2 (132, [(8, .inl (yi_shr (Ip6 a (j.toNat)) 8)), (7, .inl (yi_iand (Ip6 a (j.toNat)) 255)), (6, .inl j), (5, .inl tz), (0, .inr (.inr (some p))), (1, .inr (.inr (some a))), (2, .inl x), (3, .inl y), (4, .inl w)], [.inl 2, .inl tz], (Ip6, L, R, Y), 0, 0) (fun _ => rfl) ?_
            by_cases h48 : tz < 2
            · refine yi_G_if2 true rfl (yi_lt_t h48) ?_
              refine yi_G_iinc [(6, .inl (j + 1)), (8, .inl (yi_shr (Ip6 a (j.toNat)) 8)), (7, .inl (yi_iand (Ip6 a (j.toNat)) 255)), (5, .inl tz), (0, .inr (.inr (some p))), (1, .inr (.inr (some a))), (2, .inl x), (3, .inl y), (4, .inl w)] rfl rfl rfl (by rw [show yi_w (j + 1) = j + 1 from (yi_wn (by omega) (by omega)).trans (by omega)]; rfl) ?_
              refine yi_G_run 1 (6, [(6, .inl (j + 1)), (8, .inl (yi_shr (Ip6 a (j.toNat)) 8)), (7, .inl (yi_iand (Ip6 a (j.toNat)) 255)), (5, .inl tz), (0, .inr (.inr (some p))), (1, .inr (.inr (some a))), (2, .inl x), (3, .inl y), (4, .inl w)], [], (Ip6, L, R, Y), 0, 0) (fun _ => rfl) ?_
              refine yi_G_al (al := [(6, .inl (j + 1)), (5, .inl tz), (0, .inr (.inr (some p))), (1, .inr (.inr (some a))), (2, .inl x), (3, .inl y), (4, .inl w)]) (show ([6, 5, 0, 1, 2, 3, 4] : List Nat).Nodup by decide) (show ([6, 8, 7, 5, 0, 1, 2, 3, 4] : List Nat).Nodup by decide) (yi_mc (List.mem_of_getElem? (i := 0) rfl) (yi_mc (List.mem_of_getElem? (i := 3) rfl) (yi_mc (List.mem_of_getElem? (i := 4) rfl) (yi_mc (List.mem_of_getElem? (i := 5) rfl) (yi_mc (List.mem_of_getElem? (i := 6) rfl) (yi_mc (List.mem_of_getElem? (i := 7) rfl) (yi_mc (List.mem_of_getElem? (i := 8) rfl) yi_mn))))))) ?_
              exact ih6 _ (by omega) (j + 1) tz Ip6 hPp6 (by omega) (by omega) rfl
            · refine yi_G_if2 false rfl (yi_lt_f h48) ?_
              refine yi_G_run 1 (136, [(8, .inl (yi_shr (Ip6 a (j.toNat)) 8)), (7, .inl (yi_iand (Ip6 a (j.toNat)) 255)), (6, .inl j), (5, .inl tz), (0, .inr (.inr (some p))), (1, .inr (.inr (some a))), (2, .inl x), (3, .inl y), (4, .inl w)], [.inr (.inr (some p))], (Ip6, L, R, Y), 0, 0) (fun _ => rfl) ?_
              obtain ⟨q49, e50, t51, n52⟩ := cl_rn hPp6.1 tp (k := 0) (m := 63) rfl
              refine cl_G_gr rfl (cl_T_K tp) rfl rfl rfl e50 ?_
              refine yi_G_run 2 (142, [(8, .inl (yi_shr (Ip6 a (j.toNat)) 8)), (7, .inl (yi_iand (Ip6 a (j.toNat)) 255)), (6, .inl j), (5, .inl tz), (0, .inr (.inr (some p))), (1, .inr (.inr (some a))), (2, .inl x), (3, .inl y), (4, .inl w)], [.inl 2, .inl tz, .inr (.inr (some q49))], (Ip6, L, R, Y), 0, 0) (fun _ => rfl) ?_
              refine yi_G_isub rfl (tz - 2) (yi_wn (by omega) (by omega)) ?_
              refine yi_G_run 2 (146, [(8, .inl (yi_shr (Ip6 a (j.toNat)) 8)), (7, .inl (yi_iand (Ip6 a (j.toNat)) 255)), (6, .inl j), (5, .inl tz), (0, .inr (.inr (some p))), (1, .inr (.inr (some a))), (2, .inl x), (3, .inl y), (4, .inl w)], [.inr (.inr (some p)), .inl (yi_iand (Ip6 a (j.toNat)) 255), .inl (tz - 2), .inr (.inr (some q49))], (Ip6, L, R, Y), 0, 0) (fun _ => rfl) ?_
              refine cl_G_gr rfl (cl_T_K tp) rfl rfl rfl e50 ?_
              refine yi_G_run 2 (152, [(8, .inl (yi_shr (Ip6 a (j.toNat)) 8)), (7, .inl (yi_iand (Ip6 a (j.toNat)) 255)), (6, .inl j), (5, .inl tz), (0, .inr (.inr (some p))), (1, .inr (.inr (some a))), (2, .inl x), (3, .inl y), (4, .inl w)], [.inl 2, .inl tz, .inr (.inr (some q49)), .inl (yi_iand (Ip6 a (j.toNat)) 255), .inl (tz - 2), .inr (.inr (some q49))], (Ip6, L, R, Y), 0, 0) (fun _ => rfl) ?_
              refine yi_G_isub rfl (tz - 2) (yi_wn (by omega) (by omega)) ?_
              refine cl_G_iald rfl t51 (by omega) (by omega) ?_
              refine yi_G_run 1 (155, [(8, .inl (yi_shr (Ip6 a (j.toNat)) 8)), (7, .inl (yi_iand (Ip6 a (j.toNat)) 255)), (6, .inl j), (5, .inl tz), (0, .inr (.inr (some p))), (1, .inr (.inr (some a))), (2, .inl x), (3, .inl y), (4, .inl w)], [.inr (.inr (some p)), .inl (Ip6 q49 ((tz - 2).toNat)), .inl (yi_iand (Ip6 a (j.toNat)) 255), .inl (tz - 2), .inr (.inr (some q49))], (Ip6, L, R, Y), 0, 0) (fun _ => rfl) ?_
              refine cl_G_gr rfl (cl_T_K tp) rfl rfl rfl e50 ?_
              refine yi_G_run 2 (161, [(8, .inl (yi_shr (Ip6 a (j.toNat)) 8)), (7, .inl (yi_iand (Ip6 a (j.toNat)) 255)), (6, .inl j), (5, .inl tz), (0, .inr (.inr (some p))), (1, .inr (.inr (some a))), (2, .inl x), (3, .inl y), (4, .inl w)], [.inl 1, .inl tz, .inr (.inr (some q49)), .inl (Ip6 q49 ((tz - 2).toNat)), .inl (yi_iand (Ip6 a (j.toNat)) 255), .inl (tz - 2), .inr (.inr (some q49))], (Ip6, L, R, Y), 0, 0) (fun _ => rfl) ?_
              refine yi_G_isub rfl (tz - 1) (yi_wn (by omega) (by omega)) ?_
              refine cl_G_iald rfl t51 (by omega) (by omega) ?_
              refine yi_G_calls rfl rfl (k_joined d (by omega) hPp6.1  ) ?_
              rintro _ ⟨z53, rfl⟩
              show yi_G zi_Ms d zi_m245 (166, [(8, .inl (yi_shr (Ip6 a (j.toNat)) 8)), (7, .inl (yi_iand (Ip6 a (j.toNat)) 255)), (6, .inl j), (5, .inl tz), (0, .inr (.inr (some p))), (1, .inr (.inr (some a))), (2, .inl x), (3, .inl y), (4, .inl w)], [.inl z53, .inl (tz - 2), .inr (.inr (some q49))], (Ip6, L, R, Y), 0, 0) _
              refine cl_G_iast rfl t51 (by omega) (by omega) ?_
              have hP54 := cl_P_uI (k := ((tz - 2).toNat)) (v := z53) hPp6 t51 (by omega) (cl_hv0 rfl)
              generalize w55 : yi_u Ip6 q49 ((tz - 2).toNat) z53 = I56 at hP54 ⊢
              refine yi_G_iinc [(5, .inl (tz - 1)), (8, .inl (yi_shr (Ip6 a (j.toNat)) 8)), (7, .inl (yi_iand (Ip6 a (j.toNat)) 255)), (6, .inl j), (0, .inr (.inr (some p))), (1, .inr (.inr (some a))), (2, .inl x), (3, .inl y), (4, .inl w)] rfl rfl rfl (by rw [show yi_w (tz + (-1)) = tz - 1 from (yi_wn (by omega) (by omega)).trans (by omega)]; rfl) ?_
              refine yi_G_iinc [(6, .inl (j + 1)), (5, .inl (tz - 1)), (8, .inl (yi_shr (Ip6 a (j.toNat)) 8)), (7, .inl (yi_iand (Ip6 a (j.toNat)) 255)), (0, .inr (.inr (some p))), (1, .inr (.inr (some a))), (2, .inl x), (3, .inl y), (4, .inl w)] rfl rfl rfl (by rw [show yi_w (j + 1) = j + 1 from (yi_wn (by omega) (by omega)).trans (by omega)]; rfl) ?_
              refine yi_G_run 1 (6, [(6, .inl (j + 1)), (5, .inl (tz - 1)), (8, .inl (yi_shr (Ip6 a (j.toNat)) 8)), (7, .inl (yi_iand (Ip6 a (j.toNat)) 255)), (0, .inr (.inr (some p))), (1, .inr (.inr (some a))), (2, .inl x), (3, .inl y), (4, .inl w)], [], (I56, L, R, Y), 0, 0) (fun _ => rfl) ?_
              refine yi_G_al (al := [(6, .inl (j + 1)), (5, .inl (tz - 1)), (0, .inr (.inr (some p))), (1, .inr (.inr (some a))), (2, .inl x), (3, .inl y), (4, .inl w)]) (show ([6, 5, 0, 1, 2, 3, 4] : List Nat).Nodup by decide) (show ([6, 5, 8, 7, 0, 1, 2, 3, 4] : List Nat).Nodup by decide) (yi_mc (List.mem_of_getElem? (i := 0) rfl) (yi_mc (List.mem_of_getElem? (i := 1) rfl) (yi_mc (List.mem_of_getElem? (i := 4) rfl) (yi_mc (List.mem_of_getElem? (i := 5) rfl) (yi_mc (List.mem_of_getElem? (i := 6) rfl) (yi_mc (List.mem_of_getElem? (i := 7) rfl) (yi_mc (List.mem_of_getElem? (i := 8) rfl) yi_mn))))))) ?_
              exact ih6 _ (by omega) (j + 1) (tz - 1) I56 hP54 (by omega) (by omega) rfl
  exact pt6 _ 0 0 I hP (by omega) (by omega) rfl
theorem k_beginJ (D : Nat) (hD : 1 ≤ D) {E : List Nat} {I L : cl_I} {R : cl_Rr} {Y : cl_Y} (hC : cl_C E I L R Y) {p : Nat} (tp : cl_T E Y p 7) : yi_E zi_Ms D 215 [.inr (.inr (some p))] (I, L, R, Y) (fun r => ∃ I', r = (none, (I', L, R, Y), 0, 0) ∧ cl_P E I L R Y I' L R Y) := by
  obtain ⟨d, rfl⟩ : ∃ d, D = d + 1 := ⟨D - 1, by omega⟩
  refine yi_E_of (M := zi_m215) rfl rfl ?_
  have hP : cl_P E I L R Y I L R Y := cl_P_r hC
  show yi_G zi_Ms d zi_m215 (0, [(0, .inr (.inr (some p)))], [], (I, L, R, Y), 0, 0) _
  refine yi_G_run 2 (2, [(0, .inr (.inr (some p)))], [.inl 0, .inr (.inr (some p))], (I, L, R, Y), 0, 0) (fun _ => rfl) ?_
  refine cl_G_pi rfl (cl_T_K tp) rfl rfl rfl ?_
  have hP1 := cl_P_uI (k := 2) (v := 0) hP tp (by decide) (cl_hv rfl (by omega) (by omega))
  generalize w2 : yi_u I p 2 0 = I3 at hP1 ⊢
  exact yi_G_retv rfl rfl (⟨_, rfl, hP1⟩)
theorem k_addRow (D : Nat) (hD : 1 ≤ D) {E : List Nat} {I L : cl_I} {R : cl_Rr} {Y : cl_Y} (hC : cl_C E I L R Y) {p : Nat} (tp : cl_T E Y p 7) {u : Nat} (tu : cl_T E Y u 5) : yi_E zi_Ms D 213 [.inr (.inr (some p)), .inr (.inr (some u))] (I, L, R, Y) (fun r => ∃ I', ∃ R', r = (none, (I', L, R', Y), 0, 0) ∧ cl_P E I L R Y I' L R' Y) := by
  obtain ⟨d, rfl⟩ : ∃ d, D = d + 1 := ⟨D - 1, by omega⟩
  refine yi_E_of (M := zi_m213) rfl rfl ?_
  have hP : cl_P E I L R Y I L R Y := cl_P_r hC
  show yi_G zi_Ms d zi_m213 (0, [(0, .inr (.inr (some p))), (1, .inr (.inr (some u)))], [], (I, L, R, Y), 0, 0) _
  refine yi_G_run 1 (1, [(0, .inr (.inr (some p))), (1, .inr (.inr (some u)))], [.inr (.inr (some p))], (I, L, R, Y), 0, 0) (fun _ => rfl) ?_
  have b1 := cl_rd hP.1 tp (k := 2) (lo := 0) (hi := 12) rfl
  refine cl_G_gi rfl (cl_T_K tp) rfl rfl rfl ?_
  refine yi_G_run 1 (5, [(0, .inr (.inr (some p))), (1, .inr (.inr (some u)))], [.inr (.inr (some p)), .inl (I p 2)], (I, L, R, Y), 0, 0) (fun _ => rfl) ?_
  obtain ⟨q2, e3, t4, n5⟩ := cl_rn hP.1 tp (k := 0) (m := 11) rfl
  refine cl_G_gr rfl (cl_T_K tp) rfl rfl rfl e3 ?_
  refine cl_G_len rfl t4 (by omega) ?_
  by_cases h6 : ((Y.2.1 q2 : Int)) ≤ (I p 2)
  · refine yi_G_if2 true rfl (yi_ge_t h6) ?_
    exact yi_G_retv rfl rfl (⟨_, _, rfl, hP⟩)
  · refine yi_G_if2 false rfl (yi_ge_f h6) ?_
    refine yi_G_run 1 (13, [(0, .inr (.inr (some p))), (1, .inr (.inr (some u)))], [.inr (.inr (some p))], (I, L, R, Y), 0, 0) (fun _ => rfl) ?_
    refine cl_G_gr rfl (cl_T_K tp) rfl rfl rfl e3 ?_
    refine yi_G_run 1 (17, [(0, .inr (.inr (some p))), (1, .inr (.inr (some u)))], [.inr (.inr (some p)), .inr (.inr (some q2))], (I, L, R, Y), 0, 0) (fun _ => rfl) ?_
    have b7 := cl_rd hP.1 tp (k := 2) (lo := 0) (hi := 12) rfl
    refine cl_G_gi rfl (cl_T_K tp) rfl rfl rfl ?_
    refine yi_G_run 1 (21, [(0, .inr (.inr (some p))), (1, .inr (.inr (some u)))], [.inr (.inr (some u)), .inl (I p 2), .inr (.inr (some q2))], (I, L, R, Y), 0, 0) (fun _ => rfl) ?_
    refine cl_G_aast rfl t4 (by omega) rfl (by omega) (by omega) (Or.inr ⟨_, rfl, tu⟩) ?_
    have hP8 := cl_P_uR (k := ((I p 2).toNat)) (v := (some u)) hP t4 (by omega) (by omega) (cl_hro rfl tu)
    generalize w9 : cl_u R q2 ((I p 2).toNat) (some u) = R10 at hP8 ⊢
    have e11 : R10 p 0 = some q2 := by rw [← w9, cl_u_ne _ _ (fun z => cl_ne tp t4 (by decide) z.1)]; exact e3
    have e12 : R10 q2 ((I p 2).toNat) = some u := by rw [← w9, cl_u_eq]
    refine yi_G_run 2 (24, [(0, .inr (.inr (some p))), (1, .inr (.inr (some u)))], [.inr (.inr (some p)), .inr (.inr (some p))], (I, L, R10, Y), 0, 0) (fun _ => rfl) ?_
    have b13 := cl_rd hP8.1 tp (k := 2) (lo := 0) (hi := 12) rfl
    refine cl_G_gi rfl (cl_T_K tp) rfl rfl rfl ?_
    refine yi_G_run 1 (28, [(0, .inr (.inr (some p))), (1, .inr (.inr (some u)))], [.inl 1, .inl (I p 2), .inr (.inr (some p))], (I, L, R10, Y), 0, 0) (fun _ => rfl) ?_
    refine yi_G_iadd rfl ((I p 2) + 1) (yi_wn (by omega) (by omega)) ?_
    refine cl_G_pi rfl (cl_T_K tp) rfl rfl rfl ?_
    have hP14 := cl_P_uI (k := 2) (v := (I p 2) + 1) hP8 tp (by decide) (cl_hv rfl (by omega) (by omega))
    generalize w15 : yi_u I p 2 ((I p 2) + 1) = I16 at hP14 ⊢
    exact yi_G_retv rfl rfl (⟨_, _, rfl, hP14⟩)
theorem k_agree (D : Nat) (hD : 1 ≤ D) {E : List Nat} {I L : cl_I} {R : cl_Rr} {Y : cl_Y} (hC : cl_C E I L R Y) {p : Nat} (tp : cl_T E Y p 7) {x : Int} : yi_E zi_Ms D 214 [.inr (.inr (some p)), .inl x] (I, L, R, Y) (fun r => ∃ z, r = (some (.inl z), (I, L, R, Y), 0, 0) ∧ (z = 0 ∨ z = 1) ∧ (z = 1 → 0 ≤ x)) := by
  obtain ⟨d, rfl⟩ : ∃ d, D = d + 1 := ⟨D - 1, by omega⟩
  refine yi_E_of (M := zi_m214) rfl rfl ?_
  have hP : cl_P E I L R Y I L R Y := cl_P_r hC
  show yi_G zi_Ms d zi_m214 (0, [(0, .inr (.inr (some p))), (1, .inl x)], [], (I, L, R, Y), 0, 0) _
  refine yi_G_run 1 (1, [(0, .inr (.inr (some p))), (1, .inl x)], [.inl x], (I, L, R, Y), 0, 0) (fun _ => rfl) ?_
  by_cases h1 : x < 0
  · refine yi_G_if1 true rfl (yi_lt_t h1) ?_
    refine yi_G_run 1 (37, [(0, .inr (.inr (some p))), (1, .inl x)], [.inl 0], (I, L, R, Y), 0, 0) (fun _ => rfl) ?_
    exact yi_G_retb rfl rfl (by decide) (⟨_, rfl, by decide, by omega⟩)
  · refine yi_G_if1 false rfl (yi_lt_f h1) ?_
    refine yi_G_run 3 (7, [(0, .inr (.inr (some p))), (1, .inl x)], [.inr (.inr (some p)), .inl 1, .inl x], (I, L, R, Y), 0, 0) (fun _ => rfl) ?_
    have b2 := cl_rd hP.1 tp (k := 2) (lo := 0) (hi := 12) rfl
    refine cl_G_gi rfl (cl_T_K tp) rfl rfl rfl ?_
    refine yi_G_run 1 (11, [(0, .inr (.inr (some p))), (1, .inl x)], [.inl (yi_shl 1 (I p 2)), .inl x], (I, L, R, Y), 0, 0) (fun _ => rfl) ?_
    by_cases h3 : (yi_shl 1 (I p 2)) ≤ x
    · refine yi_G_if2 true rfl (yi_ge_t h3) ?_
      refine yi_G_run 1 (37, [(0, .inr (.inr (some p))), (1, .inl x)], [.inl 0], (I, L, R, Y), 0, 0) (fun _ => rfl) ?_
      exact yi_G_retb rfl rfl (by decide) (⟨_, rfl, by decide, by omega⟩)
    · refine yi_G_if2 false rfl (yi_ge_f h3) ?_
      refine yi_G_run 2 (16, [(0, .inr (.inr (some p))), (1, .inl x)], [.inr (.inr (some p)), .inl x], (I, L, R, Y), 0, 0) (fun _ => rfl) ?_
      obtain ⟨q4, e5, t6⟩ := cl_rf hP.1 tp (k := 1) rfl
      have n7 := cl_nb hP.1 t6
      refine cl_G_gr rfl (cl_T_K tp) rfl rfl rfl e5 ?_
      refine cl_G_len rfl t6 (by omega) ?_
      by_cases h8 : ((Y.2.1 q4 : Int)) ≤ x
      · refine yi_G_if2 true rfl (yi_ge_t h8) ?_
        refine yi_G_run 1 (37, [(0, .inr (.inr (some p))), (1, .inl x)], [.inl 0], (I, L, R, Y), 0, 0) (fun _ => rfl) ?_
        exact yi_G_retb rfl rfl (by decide) (⟨_, rfl, by decide, by omega⟩)
      · refine yi_G_if2 false rfl (yi_ge_f h8) ?_
        refine yi_G_run 1 (24, [(0, .inr (.inr (some p))), (1, .inl x)], [.inr (.inr (some p))], (I, L, R, Y), 0, 0) (fun _ => rfl) ?_
        refine cl_G_gr rfl (cl_T_K tp) rfl rfl rfl e5 ?_
        refine yi_G_run 1 (28, [(0, .inr (.inr (some p))), (1, .inl x)], [.inl x, .inr (.inr (some q4))], (I, L, R, Y), 0, 0) (fun _ => rfl) ?_
        refine cl_G_bald rfl t6 (by omega) (by omega) ?_
        by_cases h9 : (I q4 (x.toNat)) = 0
        · refine yi_G_if1 true rfl (yi_eq_t h9) ?_
          refine yi_G_run 1 (37, [(0, .inr (.inr (some p))), (1, .inl x)], [.inl 0], (I, L, R, Y), 0, 0) (fun _ => rfl) ?_
          exact yi_G_retb rfl rfl (by decide) (⟨_, rfl, by decide, by omega⟩)
        · refine yi_G_if1 false rfl (yi_eq_f h9) ?_
          refine yi_G_run 2 (37, [(0, .inr (.inr (some p))), (1, .inl x)], [.inl 1], (I, L, R, Y), 0, 0) (fun _ => rfl) ?_
          exact yi_G_retb rfl rfl (by decide) (⟨_, rfl, by decide, by omega⟩)
theorem k_spread (D : Nat) (hD : 1 ≤ D) {E : List Nat} {I L : cl_I} {R : cl_Rr} {Y : cl_Y} (hC : cl_C E I L R Y) {p : Nat} (tp : cl_T E Y p 7) {x : Int} (hx : x ≤ 4096) : yi_E zi_Ms D 218 [.inr (.inr (some p)), .inl x] (I, L, R, Y) (fun r => ∃ I', r = (none, (I', L, R, Y), 0, 0) ∧ cl_P E I L R Y I' L R Y) := by
  obtain ⟨d, rfl⟩ : ∃ d, D = d + 1 := ⟨D - 1, by omega⟩
  refine yi_E_of (M := zi_m218) rfl rfl ?_
  have hP : cl_P E I L R Y I L R Y := cl_P_r hC
  show yi_G zi_Ms d zi_m218 (0, [(0, .inr (.inr (some p))), (1, .inl x)], [], (I, L, R, Y), 0, 0) _
  refine yi_G_run 2 (2, [(2, .inl 0), (0, .inr (.inr (some p))), (1, .inl x)], [], (I, L, R, Y), 0, 0) (fun _ => rfl) ?_
  have pt2 : ∀ (m_ : Nat) (i : Int) (Ip2 : cl_I), (cl_P E I L R Y Ip2 L R Y) → (0 ≤ i ∧ i ≤ 12) → (12 - i).toNat = m_ → yi_G zi_Ms d zi_m218 (2, [(2, .inl i), (0, .inr (.inr (some p))), (1, .inl x)], [], (Ip2, L, R, Y), 0, 0) (fun r => ∃ I', r = (none, (I', L, R, Y), 0, 0) ∧ cl_P E I L R Y I' L R Y) := by
    intro m2
    induction m2 using Nat.strongRecOn with
    | _ m2 ih2 =>
    intro i Ip2 hPp2 i0 hm2
    refine yi_G_run 2 (4, [(2, .inl i), (0, .inr (.inr (some p))), (1, .inl x)], [.inr (.inr (some p)), .inl i], (Ip2, L, R, Y), 0, 0) (fun _ => rfl) ?_
    have b1 := cl_rd hPp2.1 tp (k := 2) (lo := 0) (hi := 12) rfl
    refine cl_G_gi rfl (cl_T_K tp) rfl rfl rfl ?_
    by_cases h2 : (Ip2 p 2) ≤ i
    · refine yi_G_if2 true rfl (yi_ge_t h2) ?_
      exact yi_G_retv rfl rfl (⟨_, rfl, hPp2⟩)
    · refine yi_G_if2 false rfl (yi_ge_f h2) ?_
      refine yi_G_run 6 (17, [(4, .inl 0), (3, .inl (yi_shl 1 i)), (2, .inl i), (0, .inr (.inr (some p))), (1, .inl x)], [], (Ip2, L, R, Y), 0, 0) (fun _ => rfl) ?_
      have pt17 : ∀ (m_ : Nat) (j : Int) (Ip17 : cl_I), (cl_P E I L R Y Ip17 L R Y) → (0 ≤ j ∧ j ≤ 4096) → (4096 - j).toNat = m_ → yi_G zi_Ms d zi_m218 (17, [(4, .inl j), (3, .inl (yi_shl 1 i)), (2, .inl i), (0, .inr (.inr (some p))), (1, .inl x)], [], (Ip17, L, R, Y), 0, 0) (fun r => ∃ I', r = (none, (I', L, R, Y), 0, 0) ∧ cl_P E I L R Y I' L R Y) := by
        intro m17
        induction m17 using Nat.strongRecOn with
        | _ m17 ih17 =>
        intro j Ip17 hPp17 j0 hm17
        refine yi_G_run 2 (20, [(4, .inl j), (3, .inl (yi_shl 1 i)), (2, .inl i), (0, .inr (.inr (some p))), (1, .inl x)], [.inl x, .inl j], (Ip17, L, R, Y), 0, 0) (fun _ => rfl) ?_
        by_cases h3 : x ≤ j
        · refine yi_G_if2 true rfl (yi_ge_t h3) ?_
          refine yi_G_iinc [(2, .inl (i + 1)), (4, .inl j), (3, .inl (yi_shl 1 i)), (0, .inr (.inr (some p))), (1, .inl x)] rfl rfl rfl (by rw [show yi_w (i + 1) = i + 1 from (yi_wn (by omega) (by omega)).trans (by omega)]; rfl) ?_
          refine yi_G_run 1 (2, [(2, .inl (i + 1)), (4, .inl j), (3, .inl (yi_shl 1 i)), (0, .inr (.inr (some p))), (1, .inl x)], [], (Ip17, L, R, Y), 0, 0) (fun _ => rfl) ?_
          refine yi_G_al (al := [(2, .inl (i + 1)), (0, .inr (.inr (some p))), (1, .inl x)]) (show ([2, 0, 1] : List Nat).Nodup by decide) (show ([2, 4, 3, 0, 1] : List Nat).Nodup by decide) (yi_mc (List.mem_of_getElem? (i := 0) rfl) (yi_mc (List.mem_of_getElem? (i := 3) rfl) (yi_mc (List.mem_of_getElem? (i := 4) rfl) yi_mn))) ?_
          exact ih2 _ (by omega) (i + 1) Ip17 hPp17 (by omega) rfl
        · refine yi_G_if2 false rfl (yi_ge_f h3) ?_
          refine yi_G_run 2 (26, [(4, .inl j), (3, .inl (yi_shl 1 i)), (2, .inl i), (0, .inr (.inr (some p))), (1, .inl x)], [.inr (.inr (some p)), .inl j], (Ip17, L, R, Y), 0, 0) (fun _ => rfl) ?_
          obtain ⟨q4, e5, t6⟩ := cl_rf hPp17.1 tp (k := 1) rfl
          have n7 := cl_nb hPp17.1 t6
          refine cl_G_gr rfl (cl_T_K tp) rfl rfl rfl e5 ?_
          refine cl_G_len rfl t6 (by omega) ?_
          by_cases h8 : ((Y.2.1 q4 : Int)) ≤ j
          · refine yi_G_if2 true rfl (yi_ge_t h8) ?_
            refine yi_G_iinc [(2, .inl (i + 1)), (4, .inl j), (3, .inl (yi_shl 1 i)), (0, .inr (.inr (some p))), (1, .inl x)] rfl rfl rfl (by rw [show yi_w (i + 1) = i + 1 from (yi_wn (by omega) (by omega)).trans (by omega)]; rfl) ?_
            refine yi_G_run 1 (2, [(2, .inl (i + 1)), (4, .inl j), (3, .inl (yi_shl 1 i)), (0, .inr (.inr (some p))), (1, .inl x)], [], (Ip17, L, R, Y), 0, 0) (fun _ => rfl) ?_
            refine yi_G_al (al := [(2, .inl (i + 1)), (0, .inr (.inr (some p))), (1, .inl x)]) (show ([2, 0, 1] : List Nat).Nodup by decide) (show ([2, 4, 3, 0, 1] : List Nat).Nodup by decide) (yi_mc (List.mem_of_getElem? (i := 0) rfl) (yi_mc (List.mem_of_getElem? (i := 3) rfl) (yi_mc (List.mem_of_getElem? (i := 4) rfl) yi_mn))) ?_
            exact ih2 _ (by omega) (i + 1) Ip17 hPp17 (by omega) rfl
          · refine yi_G_if2 false rfl (yi_ge_f h8) ?_
            refine yi_G_run 6 (42, [(5, .inl (yi_ior j (yi_shl 1 i))), (4, .inl j), (3, .inl (yi_shl 1 i)), (2, .inl i), (0, .inr (.inr (some p))), (1, .inl x)], [.inr (.inr (some p)), .inl (yi_ior j (yi_shl 1 i))], (Ip17, L, R, Y), 0, 0) (fun _ => rfl) ?_
            refine cl_G_gr rfl (cl_T_K tp) rfl rfl rfl e5 ?_
            refine cl_G_len rfl t6 (by omega) ?_
            have oo := cl_or (a := j) (b := yi_shl 1 i) (by omega) (by omega) (by have := yi_shl1 (s := i) (by omega) (by omega); omega) (by have := yi_shl1 (s := i) (by omega) (by omega); omega)
            by_cases h9 : ((Y.2.1 q4 : Int)) ≤ (yi_ior j (yi_shl 1 i))
            · refine yi_G_if2 true rfl (yi_ge_t h9) ?_
              refine yi_G_iinc [(4, .inl (j + 1)), (5, .inl (yi_ior j (yi_shl 1 i))), (3, .inl (yi_shl 1 i)), (2, .inl i), (0, .inr (.inr (some p))), (1, .inl x)] rfl rfl rfl (by rw [show yi_w (j + 1) = j + 1 from (yi_wn (by omega) (by omega)).trans (by omega)]; rfl) ?_
              refine yi_G_run 1 (17, [(4, .inl (j + 1)), (5, .inl (yi_ior j (yi_shl 1 i))), (3, .inl (yi_shl 1 i)), (2, .inl i), (0, .inr (.inr (some p))), (1, .inl x)], [], (Ip17, L, R, Y), 0, 0) (fun _ => rfl) ?_
              refine yi_G_al (al := [(4, .inl (j + 1)), (3, .inl (yi_shl 1 i)), (2, .inl i), (0, .inr (.inr (some p))), (1, .inl x)]) (show ([4, 3, 2, 0, 1] : List Nat).Nodup by decide) (show ([4, 5, 3, 2, 0, 1] : List Nat).Nodup by decide) (yi_mc (List.mem_of_getElem? (i := 0) rfl) (yi_mc (List.mem_of_getElem? (i := 2) rfl) (yi_mc (List.mem_of_getElem? (i := 3) rfl) (yi_mc (List.mem_of_getElem? (i := 4) rfl) (yi_mc (List.mem_of_getElem? (i := 5) rfl) yi_mn))))) ?_
              exact ih17 _ (by omega) (j + 1) Ip17 hPp17 (by omega) rfl
            · refine yi_G_if2 false rfl (yi_ge_f h9) ?_
              refine yi_G_run 1 (50, [(5, .inl (yi_ior j (yi_shl 1 i))), (4, .inl j), (3, .inl (yi_shl 1 i)), (2, .inl i), (0, .inr (.inr (some p))), (1, .inl x)], [.inr (.inr (some p))], (Ip17, L, R, Y), 0, 0) (fun _ => rfl) ?_
              refine cl_G_gr rfl (cl_T_K tp) rfl rfl rfl e5 ?_
              refine yi_G_run 1 (55, [(5, .inl (yi_ior j (yi_shl 1 i))), (4, .inl j), (3, .inl (yi_shl 1 i)), (2, .inl i), (0, .inr (.inr (some p))), (1, .inl x)], [.inl (yi_ior j (yi_shl 1 i)), .inr (.inr (some q4))], (Ip17, L, R, Y), 0, 0) (fun _ => rfl) ?_
              refine cl_G_bald rfl t6 (by omega) (by omega) ?_
              by_cases h10 : (Ip17 q4 ((yi_ior j (yi_shl 1 i)).toNat)) = 0
              · refine yi_G_if1 true rfl (yi_eq_t h10) ?_
                refine yi_G_iinc [(4, .inl (j + 1)), (5, .inl (yi_ior j (yi_shl 1 i))), (3, .inl (yi_shl 1 i)), (2, .inl i), (0, .inr (.inr (some p))), (1, .inl x)] rfl rfl rfl (by rw [show yi_w (j + 1) = j + 1 from (yi_wn (by omega) (by omega)).trans (by omega)]; rfl) ?_
                refine yi_G_run 1 (17, [(4, .inl (j + 1)), (5, .inl (yi_ior j (yi_shl 1 i))), (3, .inl (yi_shl 1 i)), (2, .inl i), (0, .inr (.inr (some p))), (1, .inl x)], [], (Ip17, L, R, Y), 0, 0) (fun _ => rfl) ?_
                refine yi_G_al (al := [(4, .inl (j + 1)), (3, .inl (yi_shl 1 i)), (2, .inl i), (0, .inr (.inr (some p))), (1, .inl x)]) (show ([4, 3, 2, 0, 1] : List Nat).Nodup by decide) (show ([4, 5, 3, 2, 0, 1] : List Nat).Nodup by decide) (yi_mc (List.mem_of_getElem? (i := 0) rfl) (yi_mc (List.mem_of_getElem? (i := 2) rfl) (yi_mc (List.mem_of_getElem? (i := 3) rfl) (yi_mc (List.mem_of_getElem? (i := 4) rfl) (yi_mc (List.mem_of_getElem? (i := 5) rfl) yi_mn))))) ?_
                exact ih17 _ (by omega) (j + 1) Ip17 hPp17 (by omega) rfl
              · refine yi_G_if1 false rfl (yi_eq_f h10) ?_
                refine yi_G_run 1 (60, [(5, .inl (yi_ior j (yi_shl 1 i))), (4, .inl j), (3, .inl (yi_shl 1 i)), (2, .inl i), (0, .inr (.inr (some p))), (1, .inl x)], [.inr (.inr (some p))], (Ip17, L, R, Y), 0, 0) (fun _ => rfl) ?_
                refine cl_G_gr rfl (cl_T_K tp) rfl rfl rfl e5 ?_
                refine yi_G_run 2 (66, [(5, .inl (yi_ior j (yi_shl 1 i))), (4, .inl j), (3, .inl (yi_shl 1 i)), (2, .inl i), (0, .inr (.inr (some p))), (1, .inl x)], [.inl 1, .inl j, .inr (.inr (some q4))], (Ip17, L, R, Y), 0, 0) (fun _ => rfl) ?_
                refine cl_G_bast rfl t6 (by omega) (by omega) (by omega) ?_
                have hP11 := cl_P_uI (k := (j.toNat)) (v := 1) hPp17 t6 (by omega) (cl_hv0 rfl)
                generalize w12 : yi_u Ip17 q4 (j.toNat) 1 = I13 at hP11 ⊢
                refine yi_G_iinc [(4, .inl (j + 1)), (5, .inl (yi_ior j (yi_shl 1 i))), (3, .inl (yi_shl 1 i)), (2, .inl i), (0, .inr (.inr (some p))), (1, .inl x)] rfl rfl rfl (by rw [show yi_w (j + 1) = j + 1 from (yi_wn (by omega) (by omega)).trans (by omega)]; rfl) ?_
                refine yi_G_run 1 (17, [(4, .inl (j + 1)), (5, .inl (yi_ior j (yi_shl 1 i))), (3, .inl (yi_shl 1 i)), (2, .inl i), (0, .inr (.inr (some p))), (1, .inl x)], [], (I13, L, R, Y), 0, 0) (fun _ => rfl) ?_
                refine yi_G_al (al := [(4, .inl (j + 1)), (3, .inl (yi_shl 1 i)), (2, .inl i), (0, .inr (.inr (some p))), (1, .inl x)]) (show ([4, 3, 2, 0, 1] : List Nat).Nodup by decide) (show ([4, 5, 3, 2, 0, 1] : List Nat).Nodup by decide) (yi_mc (List.mem_of_getElem? (i := 0) rfl) (yi_mc (List.mem_of_getElem? (i := 2) rfl) (yi_mc (List.mem_of_getElem? (i := 3) rfl) (yi_mc (List.mem_of_getElem? (i := 4) rfl) (yi_mc (List.mem_of_getElem? (i := 5) rfl) yi_mn))))) ?_
                exact ih17 _ (by omega) (j + 1) I13 hP11 (by omega) rfl
      exact pt17 _ 0 Ip2 hPp2 (by omega) rfl
  exact pt2 _ 0 I hP (by omega) rfl
theorem k_gatherCell (D : Nat) (hD : 2 ≤ D) {E : List Nat} {I L : cl_I} {R : cl_Rr} {Y : cl_Y} (hC : cl_C E I L R Y) {p : Nat} (tp : cl_T E Y p 7) {v : Int} {x : Int} : yi_E zi_Ms D 217 [.inr (.inr (some p)), .inr (.inl v), .inl x] (I, L, R, Y) (fun r => ∃ I', r = (none, (I', L, R, Y), 0, 0) ∧ cl_P E I L R Y I' L R Y) := by
  obtain ⟨d, rfl⟩ : ∃ d, D = d + 1 := ⟨D - 1, by omega⟩
  refine yi_E_of (M := zi_m217) rfl rfl ?_
  have hP : cl_P E I L R Y I L R Y := cl_P_r hC
  show yi_G zi_Ms d zi_m217 (0, [(0, .inr (.inr (some p))), (1, .inr (.inl v)), (3, .inl x)], [], (I, L, R, Y), 0, 0) _
  refine yi_G_run 4 (6, [(6, .inl 0), (4, .inr (.inl v)), (0, .inr (.inr (some p))), (1, .inr (.inl v)), (3, .inl x)], [], (I, L, R, Y), 0, 0) (fun _ => rfl) ?_
  have pt6 : ∀ (m_ : Nat) (n : Int) (y : Int) (Ip6 : cl_I), (cl_P E I L R Y Ip6 L R Y) → (0 ≤ n ∧ n ≤ 64) → (64 - n).toNat = m_ → yi_G zi_Ms d zi_m217 (6, [(6, .inl n), (4, .inr (.inl y)), (0, .inr (.inr (some p))), (1, .inr (.inl v)), (3, .inl x)], [], (Ip6, L, R, Y), 0, 0) (fun r => ∃ I', r = (none, (I', L, R, Y), 0, 0) ∧ cl_P E I L R Y I' L R Y) := by
    intro m6
    induction m6 using Nat.strongRecOn with
    | _ m6 ih6 =>
    intro n y Ip6 hPp6 n0 hm6
    refine yi_G_run 2 (10, [(6, .inl n), (4, .inr (.inl y)), (0, .inr (.inr (some p))), (1, .inr (.inl v)), (3, .inl x)], [.inl 64, .inl n], (Ip6, L, R, Y), 0, 0) (fun _ => rfl) ?_
    by_cases h1 : 64 ≤ n
    · refine yi_G_if2 true rfl (yi_ge_t h1) ?_
      exact yi_G_retv rfl rfl (⟨_, rfl, hPp6⟩)
    · refine yi_G_if2 false rfl (yi_ge_f h1) ?_
      refine yi_G_run 3 (17, [(6, .inl n), (4, .inr (.inl y)), (0, .inr (.inr (some p))), (1, .inr (.inl v)), (3, .inl x)], [.inl (yi_lcmp y 0)], (Ip6, L, R, Y), 0, 0) (fun _ => rfl) ?_
      by_cases h2 : y = 0
      · refine yi_G_if1 true rfl (yi_Leq_t h2) ?_
        exact yi_G_retv rfl rfl (⟨_, rfl, hPp6⟩)
      · refine yi_G_if1 false rfl (yi_Leq_f h2) ?_
        refine yi_G_run 11 (38, [(12, .inl 0), (11, .inl 0), (9, .inr (.inl y)), (7, .inr (.inl (yi_land y (yi_W (-y))))), (6, .inl n), (4, .inr (.inl y)), (0, .inr (.inr (some p))), (1, .inr (.inl v)), (3, .inl x)], [], (Ip6, L, R, Y), 0, 0) (fun _ => rfl) ?_
        have pt38 : ∀ (m_ : Nat) (i : Int) (se : Int) (sa : Int), (0 ≤ i ∧ i ≤ 12) → (0 ≤ se ∧ se ≤ 2147483647) → (12 - i).toNat = m_ → yi_G zi_Ms d zi_m217 (38, [(12, .inl i), (11, .inl se), (9, .inr (.inl sa)), (7, .inr (.inl (yi_land y (yi_W (-y))))), (6, .inl n), (4, .inr (.inl y)), (0, .inr (.inr (some p))), (1, .inr (.inl v)), (3, .inl x)], [], (Ip6, L, R, Y), 0, 0) (fun r => ∃ I', r = (none, (I', L, R, Y), 0, 0) ∧ cl_P E I L R Y I' L R Y) := by
          intro m38
          induction m38 using Nat.strongRecOn with
          | _ m38 ih38 =>
          intro i se sa i0 s0 hm38
          refine yi_G_run 2 (41, [(12, .inl i), (11, .inl se), (9, .inr (.inl sa)), (7, .inr (.inl (yi_land y (yi_W (-y))))), (6, .inl n), (4, .inr (.inl y)), (0, .inr (.inr (some p))), (1, .inr (.inl v)), (3, .inl x)], [.inr (.inr (some p)), .inl i], (Ip6, L, R, Y), 0, 0) (fun _ => rfl) ?_
          have b3 := cl_rd hPp6.1 tp (k := 2) (lo := 0) (hi := 12) rfl
          refine cl_G_gi rfl (cl_T_K tp) rfl rfl rfl ?_
          by_cases h4 : (Ip6 p 2) ≤ i
          · refine yi_G_if2 true rfl (yi_ge_t h4) ?_
            refine yi_G_run 2 (148, [(12, .inl i), (11, .inl se), (9, .inr (.inl sa)), (7, .inr (.inl (yi_land y (yi_W (-y))))), (6, .inl n), (4, .inr (.inl y)), (0, .inr (.inr (some p))), (1, .inr (.inl v)), (3, .inl x)], [.inr (.inr (some p)), .inl se], (Ip6, L, R, Y), 0, 0) (fun _ => rfl) ?_
            obtain ⟨q5, e6, t7⟩ := cl_rf hPp6.1 tp (k := 1) rfl
            have n8 := cl_nb hPp6.1 t7
            refine cl_G_gr rfl (cl_T_K tp) rfl rfl rfl e6 ?_
            refine cl_G_len rfl t7 (by omega) ?_
            by_cases h9 : ((Y.2.1 q5 : Int)) ≤ se
            · refine yi_G_if2 true rfl (yi_ge_t h9) ?_
              refine yi_G_run 2 (167, [(12, .inl i), (11, .inl se), (9, .inr (.inl sa)), (7, .inr (.inl (yi_land y (yi_W (-y))))), (6, .inl n), (4, .inr (.inl y)), (0, .inr (.inr (some p))), (1, .inr (.inl v)), (3, .inl x)], [.inr (.inl sa), .inr (.inl y)], (Ip6, L, R, Y), 0, 0) (fun _ => rfl) ?_
              refine yi_G_ldc2 ((-1)) rfl (by decide +kernel) ?_
              refine yi_G_run 3 (174, [(4, .inr (.inl (yi_land y (yi_lxor sa (-1))))), (12, .inl i), (11, .inl se), (9, .inr (.inl sa)), (7, .inr (.inl (yi_land y (yi_W (-y))))), (6, .inl n), (0, .inr (.inr (some p))), (1, .inr (.inl v)), (3, .inl x)], [], (Ip6, L, R, Y), 0, 0) (fun _ => rfl) ?_
              refine yi_G_iinc [(6, .inl (n + 1)), (4, .inr (.inl (yi_land y (yi_lxor sa (-1))))), (12, .inl i), (11, .inl se), (9, .inr (.inl sa)), (7, .inr (.inl (yi_land y (yi_W (-y))))), (0, .inr (.inr (some p))), (1, .inr (.inl v)), (3, .inl x)] rfl rfl rfl (by rw [show yi_w (n + 1) = n + 1 from (yi_wn (by omega) (by omega)).trans (by omega)]; rfl) ?_
              refine yi_G_run 1 (6, [(6, .inl (n + 1)), (4, .inr (.inl (yi_land y (yi_lxor sa (-1))))), (12, .inl i), (11, .inl se), (9, .inr (.inl sa)), (7, .inr (.inl (yi_land y (yi_W (-y))))), (0, .inr (.inr (some p))), (1, .inr (.inl v)), (3, .inl x)], [], (Ip6, L, R, Y), 0, 0) (fun _ => rfl) ?_
              refine yi_G_al (al := [(6, .inl (n + 1)), (4, .inr (.inl (yi_land y (yi_lxor sa (-1))))), (0, .inr (.inr (some p))), (1, .inr (.inl v)), (3, .inl x)]) (show ([6, 4, 0, 1, 3] : List Nat).Nodup by decide) (show ([6, 4, 12, 11, 9, 7, 0, 1, 3] : List Nat).Nodup by decide) (yi_mc (List.mem_of_getElem? (i := 0) rfl) (yi_mc (List.mem_of_getElem? (i := 1) rfl) (yi_mc (List.mem_of_getElem? (i := 6) rfl) (yi_mc (List.mem_of_getElem? (i := 7) rfl) (yi_mc (List.mem_of_getElem? (i := 8) rfl) yi_mn))))) ?_
              exact ih6 _ (by omega) (n + 1) (yi_land y (yi_lxor sa (-1))) Ip6 hPp6 (by omega) rfl
            · refine yi_G_if2 false rfl (yi_ge_f h9) ?_
              refine yi_G_run 1 (156, [(12, .inl i), (11, .inl se), (9, .inr (.inl sa)), (7, .inr (.inl (yi_land y (yi_W (-y))))), (6, .inl n), (4, .inr (.inl y)), (0, .inr (.inr (some p))), (1, .inr (.inl v)), (3, .inl x)], [.inr (.inr (some p))], (Ip6, L, R, Y), 0, 0) (fun _ => rfl) ?_
              refine cl_G_gr rfl (cl_T_K tp) rfl rfl rfl e6 ?_
              refine yi_G_run 2 (162, [(12, .inl i), (11, .inl se), (9, .inr (.inl sa)), (7, .inr (.inl (yi_land y (yi_W (-y))))), (6, .inl n), (4, .inr (.inl y)), (0, .inr (.inr (some p))), (1, .inr (.inl v)), (3, .inl x)], [.inl 1, .inl se, .inr (.inr (some q5))], (Ip6, L, R, Y), 0, 0) (fun _ => rfl) ?_
              refine cl_G_bast rfl t7 (by omega) (by omega) (by omega) ?_
              have hP10 := cl_P_uI (k := (se.toNat)) (v := 1) hPp6 t7 (by omega) (cl_hv0 rfl)
              generalize w11 : yi_u Ip6 q5 (se.toNat) 1 = I12 at hP10 ⊢
              refine yi_G_run 2 (167, [(12, .inl i), (11, .inl se), (9, .inr (.inl sa)), (7, .inr (.inl (yi_land y (yi_W (-y))))), (6, .inl n), (4, .inr (.inl y)), (0, .inr (.inr (some p))), (1, .inr (.inl v)), (3, .inl x)], [.inr (.inl sa), .inr (.inl y)], (I12, L, R, Y), 0, 0) (fun _ => rfl) ?_
              refine yi_G_ldc2 ((-1)) rfl (by decide +kernel) ?_
              refine yi_G_run 3 (174, [(4, .inr (.inl (yi_land y (yi_lxor sa (-1))))), (12, .inl i), (11, .inl se), (9, .inr (.inl sa)), (7, .inr (.inl (yi_land y (yi_W (-y))))), (6, .inl n), (0, .inr (.inr (some p))), (1, .inr (.inl v)), (3, .inl x)], [], (I12, L, R, Y), 0, 0) (fun _ => rfl) ?_
              refine yi_G_iinc [(6, .inl (n + 1)), (4, .inr (.inl (yi_land y (yi_lxor sa (-1))))), (12, .inl i), (11, .inl se), (9, .inr (.inl sa)), (7, .inr (.inl (yi_land y (yi_W (-y))))), (0, .inr (.inr (some p))), (1, .inr (.inl v)), (3, .inl x)] rfl rfl rfl (by rw [show yi_w (n + 1) = n + 1 from (yi_wn (by omega) (by omega)).trans (by omega)]; rfl) ?_
              refine yi_G_run 1 (6, [(6, .inl (n + 1)), (4, .inr (.inl (yi_land y (yi_lxor sa (-1))))), (12, .inl i), (11, .inl se), (9, .inr (.inl sa)), (7, .inr (.inl (yi_land y (yi_W (-y))))), (0, .inr (.inr (some p))), (1, .inr (.inl v)), (3, .inl x)], [], (I12, L, R, Y), 0, 0) (fun _ => rfl) ?_
              refine yi_G_al (al := [(6, .inl (n + 1)), (4, .inr (.inl (yi_land y (yi_lxor sa (-1))))), (0, .inr (.inr (some p))), (1, .inr (.inl v)), (3, .inl x)]) (show ([6, 4, 0, 1, 3] : List Nat).Nodup by decide) (show ([6, 4, 12, 11, 9, 7, 0, 1, 3] : List Nat).Nodup by decide) (yi_mc (List.mem_of_getElem? (i := 0) rfl) (yi_mc (List.mem_of_getElem? (i := 1) rfl) (yi_mc (List.mem_of_getElem? (i := 6) rfl) (yi_mc (List.mem_of_getElem? (i := 7) rfl) (yi_mc (List.mem_of_getElem? (i := 8) rfl) yi_mn))))) ?_
              exact ih6 _ (by omega) (n + 1) (yi_land y (yi_lxor sa (-1))) I12 hP10 (by omega) rfl
          · refine yi_G_if2 false rfl (yi_ge_f h4) ?_
            refine yi_G_run 2 (50, [(12, .inl i), (11, .inl se), (9, .inr (.inl sa)), (7, .inr (.inl (yi_land y (yi_W (-y))))), (6, .inl n), (4, .inr (.inl y)), (0, .inr (.inr (some p))), (1, .inr (.inl v)), (3, .inl x)], [.inr (.inr (some p)), .inl i], (Ip6, L, R, Y), 0, 0) (fun _ => rfl) ?_
            obtain ⟨q13, e14, t15, n16⟩ := cl_rn hPp6.1 tp (k := 0) (m := 11) rfl
            refine cl_G_gr rfl (cl_T_K tp) rfl rfl rfl e14 ?_
            refine cl_G_len rfl t15 (by omega) ?_
            by_cases h17 : ((Y.2.1 q13 : Int)) ≤ i
            · refine yi_G_if2 true rfl (yi_ge_t h17) ?_
              refine yi_G_run 2 (148, [(12, .inl i), (11, .inl se), (9, .inr (.inl sa)), (7, .inr (.inl (yi_land y (yi_W (-y))))), (6, .inl n), (4, .inr (.inl y)), (0, .inr (.inr (some p))), (1, .inr (.inl v)), (3, .inl x)], [.inr (.inr (some p)), .inl se], (Ip6, L, R, Y), 0, 0) (fun _ => rfl) ?_
              obtain ⟨q18, e19, t20⟩ := cl_rf hPp6.1 tp (k := 1) rfl
              have n21 := cl_nb hPp6.1 t20
              refine cl_G_gr rfl (cl_T_K tp) rfl rfl rfl e19 ?_
              refine cl_G_len rfl t20 (by omega) ?_
              by_cases h22 : ((Y.2.1 q18 : Int)) ≤ se
              · refine yi_G_if2 true rfl (yi_ge_t h22) ?_
                refine yi_G_run 2 (167, [(12, .inl i), (11, .inl se), (9, .inr (.inl sa)), (7, .inr (.inl (yi_land y (yi_W (-y))))), (6, .inl n), (4, .inr (.inl y)), (0, .inr (.inr (some p))), (1, .inr (.inl v)), (3, .inl x)], [.inr (.inl sa), .inr (.inl y)], (Ip6, L, R, Y), 0, 0) (fun _ => rfl) ?_
                refine yi_G_ldc2 ((-1)) rfl (by decide +kernel) ?_
                refine yi_G_run 3 (174, [(4, .inr (.inl (yi_land y (yi_lxor sa (-1))))), (12, .inl i), (11, .inl se), (9, .inr (.inl sa)), (7, .inr (.inl (yi_land y (yi_W (-y))))), (6, .inl n), (0, .inr (.inr (some p))), (1, .inr (.inl v)), (3, .inl x)], [], (Ip6, L, R, Y), 0, 0) (fun _ => rfl) ?_
                refine yi_G_iinc [(6, .inl (n + 1)), (4, .inr (.inl (yi_land y (yi_lxor sa (-1))))), (12, .inl i), (11, .inl se), (9, .inr (.inl sa)), (7, .inr (.inl (yi_land y (yi_W (-y))))), (0, .inr (.inr (some p))), (1, .inr (.inl v)), (3, .inl x)] rfl rfl rfl (by rw [show yi_w (n + 1) = n + 1 from (yi_wn (by omega) (by omega)).trans (by omega)]; rfl) ?_
                refine yi_G_run 1 (6, [(6, .inl (n + 1)), (4, .inr (.inl (yi_land y (yi_lxor sa (-1))))), (12, .inl i), (11, .inl se), (9, .inr (.inl sa)), (7, .inr (.inl (yi_land y (yi_W (-y))))), (0, .inr (.inr (some p))), (1, .inr (.inl v)), (3, .inl x)], [], (Ip6, L, R, Y), 0, 0) (fun _ => rfl) ?_
                refine yi_G_al (al := [(6, .inl (n + 1)), (4, .inr (.inl (yi_land y (yi_lxor sa (-1))))), (0, .inr (.inr (some p))), (1, .inr (.inl v)), (3, .inl x)]) (show ([6, 4, 0, 1, 3] : List Nat).Nodup by decide) (show ([6, 4, 12, 11, 9, 7, 0, 1, 3] : List Nat).Nodup by decide) (yi_mc (List.mem_of_getElem? (i := 0) rfl) (yi_mc (List.mem_of_getElem? (i := 1) rfl) (yi_mc (List.mem_of_getElem? (i := 6) rfl) (yi_mc (List.mem_of_getElem? (i := 7) rfl) (yi_mc (List.mem_of_getElem? (i := 8) rfl) yi_mn))))) ?_
                exact ih6 _ (by omega) (n + 1) (yi_land y (yi_lxor sa (-1))) Ip6 hPp6 (by omega) rfl
              · refine yi_G_if2 false rfl (yi_ge_f h22) ?_
                refine yi_G_run 1 (156, [(12, .inl i), (11, .inl se), (9, .inr (.inl sa)), (7, .inr (.inl (yi_land y (yi_W (-y))))), (6, .inl n), (4, .inr (.inl y)), (0, .inr (.inr (some p))), (1, .inr (.inl v)), (3, .inl x)], [.inr (.inr (some p))], (Ip6, L, R, Y), 0, 0) (fun _ => rfl) ?_
                refine cl_G_gr rfl (cl_T_K tp) rfl rfl rfl e19 ?_
                refine yi_G_run 2 (162, [(12, .inl i), (11, .inl se), (9, .inr (.inl sa)), (7, .inr (.inl (yi_land y (yi_W (-y))))), (6, .inl n), (4, .inr (.inl y)), (0, .inr (.inr (some p))), (1, .inr (.inl v)), (3, .inl x)], [.inl 1, .inl se, .inr (.inr (some q18))], (Ip6, L, R, Y), 0, 0) (fun _ => rfl) ?_
                refine cl_G_bast rfl t20 (by omega) (by omega) (by omega) ?_
                have hP23 := cl_P_uI (k := (se.toNat)) (v := 1) hPp6 t20 (by omega) (cl_hv0 rfl)
                generalize w24 : yi_u Ip6 q18 (se.toNat) 1 = I25 at hP23 ⊢
                refine yi_G_run 2 (167, [(12, .inl i), (11, .inl se), (9, .inr (.inl sa)), (7, .inr (.inl (yi_land y (yi_W (-y))))), (6, .inl n), (4, .inr (.inl y)), (0, .inr (.inr (some p))), (1, .inr (.inl v)), (3, .inl x)], [.inr (.inl sa), .inr (.inl y)], (I25, L, R, Y), 0, 0) (fun _ => rfl) ?_
                refine yi_G_ldc2 ((-1)) rfl (by decide +kernel) ?_
                refine yi_G_run 3 (174, [(4, .inr (.inl (yi_land y (yi_lxor sa (-1))))), (12, .inl i), (11, .inl se), (9, .inr (.inl sa)), (7, .inr (.inl (yi_land y (yi_W (-y))))), (6, .inl n), (0, .inr (.inr (some p))), (1, .inr (.inl v)), (3, .inl x)], [], (I25, L, R, Y), 0, 0) (fun _ => rfl) ?_
                refine yi_G_iinc [(6, .inl (n + 1)), (4, .inr (.inl (yi_land y (yi_lxor sa (-1))))), (12, .inl i), (11, .inl se), (9, .inr (.inl sa)), (7, .inr (.inl (yi_land y (yi_W (-y))))), (0, .inr (.inr (some p))), (1, .inr (.inl v)), (3, .inl x)] rfl rfl rfl (by rw [show yi_w (n + 1) = n + 1 from (yi_wn (by omega) (by omega)).trans (by omega)]; rfl) ?_
                refine yi_G_run 1 (6, [(6, .inl (n + 1)), (4, .inr (.inl (yi_land y (yi_lxor sa (-1))))), (12, .inl i), (11, .inl se), (9, .inr (.inl sa)), (7, .inr (.inl (yi_land y (yi_W (-y))))), (0, .inr (.inr (some p))), (1, .inr (.inl v)), (3, .inl x)], [], (I25, L, R, Y), 0, 0) (fun _ => rfl) ?_
                refine yi_G_al (al := [(6, .inl (n + 1)), (4, .inr (.inl (yi_land y (yi_lxor sa (-1))))), (0, .inr (.inr (some p))), (1, .inr (.inl v)), (3, .inl x)]) (show ([6, 4, 0, 1, 3] : List Nat).Nodup by decide) (show ([6, 4, 12, 11, 9, 7, 0, 1, 3] : List Nat).Nodup by decide) (yi_mc (List.mem_of_getElem? (i := 0) rfl) (yi_mc (List.mem_of_getElem? (i := 1) rfl) (yi_mc (List.mem_of_getElem? (i := 6) rfl) (yi_mc (List.mem_of_getElem? (i := 7) rfl) (yi_mc (List.mem_of_getElem? (i := 8) rfl) yi_mn))))) ?_
                exact ih6 _ (by omega) (n + 1) (yi_land y (yi_lxor sa (-1))) I25 hP23 (by omega) rfl
            · refine yi_G_if2 false rfl (yi_ge_f h17) ?_
              refine yi_G_run 1 (58, [(12, .inl i), (11, .inl se), (9, .inr (.inl sa)), (7, .inr (.inl (yi_land y (yi_W (-y))))), (6, .inl n), (4, .inr (.inl y)), (0, .inr (.inr (some p))), (1, .inr (.inl v)), (3, .inl x)], [.inr (.inr (some p))], (Ip6, L, R, Y), 0, 0) (fun _ => rfl) ?_
              refine cl_G_gr rfl (cl_T_K tp) rfl rfl rfl e14 ?_
              refine yi_G_run 1 (63, [(12, .inl i), (11, .inl se), (9, .inr (.inl sa)), (7, .inr (.inl (yi_land y (yi_W (-y))))), (6, .inl n), (4, .inr (.inl y)), (0, .inr (.inr (some p))), (1, .inr (.inl v)), (3, .inl x)], [.inl i, .inr (.inr (some q13))], (Ip6, L, R, Y), 0, 0) (fun _ => rfl) ?_
              rcases cl_ro hPp6.1 t15 (k := i.toNat) rfl with e27 | ⟨q26, e27, t28⟩
              · refine cl_G_aald rfl t15 (by omega) (by omega) (by omega) e27 ?_
                refine yi_G_run 2 (68, [(13, .inr (.inr none)), (12, .inl i), (11, .inl se), (9, .inr (.inl sa)), (7, .inr (.inl (yi_land y (yi_W (-y))))), (6, .inl n), (4, .inr (.inl y)), (0, .inr (.inr (some p))), (1, .inr (.inl v)), (3, .inl x)], [.inr (.inr none)], (Ip6, L, R, Y), 0, 0) (fun _ => rfl) ?_
                refine cl_G_nnl true rfl rfl ?_
                refine yi_G_run 8 (90, [(14, .inr (.inl 0)), (13, .inr (.inr none)), (12, .inl i), (11, .inl se), (9, .inr (.inl sa)), (7, .inr (.inl (yi_land y (yi_W (-y))))), (6, .inl n), (4, .inr (.inl y)), (0, .inr (.inr (some p))), (1, .inr (.inl v)), (3, .inl x)], [.inl (yi_lcmp (yi_land 0 (yi_land y (yi_W (-y)))) 0)], (Ip6, L, R, Y), 0, 0) (fun _ => rfl) ?_
                by_cases h29 : ((yi_land 0 (yi_land y (yi_W (-y))))) = 0
                · refine yi_G_if1 true rfl (yi_Leq_t h29) ?_
                  refine yi_G_run 4 (104, [(16, .inl 0), (14, .inr (.inl 0)), (13, .inr (.inr none)), (12, .inl i), (11, .inl se), (9, .inr (.inl sa)), (7, .inr (.inl (yi_land y (yi_W (-y))))), (6, .inl n), (4, .inr (.inl y)), (0, .inr (.inr (some p))), (1, .inr (.inl v)), (3, .inl x)], [.inl 0, .inl se], (Ip6, L, R, Y), 0, 0) (fun _ => rfl) ?_
                  refine yi_G_if1 true rfl (by decide) ?_
                  refine yi_G_run 5 (122, [(11, .inl (yi_ior se 0)), (16, .inl 0), (14, .inr (.inl 0)), (13, .inr (.inr none)), (12, .inl i), (9, .inr (.inl sa)), (7, .inr (.inl (yi_land y (yi_W (-y))))), (6, .inl n), (4, .inr (.inl y)), (0, .inr (.inr (some p))), (1, .inr (.inl v)), (3, .inl x)], [.inl 0, .inr (.inl sa)], (Ip6, L, R, Y), 0, 0) (fun _ => rfl) ?_
                  refine yi_G_if1 true rfl (by decide) ?_
                  refine yi_G_run 1 (132, [(11, .inl (yi_ior se 0)), (16, .inl 0), (14, .inr (.inl 0)), (13, .inr (.inr none)), (12, .inl i), (9, .inr (.inl sa)), (7, .inr (.inl (yi_land y (yi_W (-y))))), (6, .inl n), (4, .inr (.inl y)), (0, .inr (.inr (some p))), (1, .inr (.inl v)), (3, .inl x)], [.inr (.inl 0), .inr (.inl sa)], (Ip6, L, R, Y), 0, 0) (fun _ => rfl) ?_
                  refine yi_G_ldc2 ((-1)) rfl (by decide +kernel) ?_
                  refine yi_G_run 3 (139, [(9, .inr (.inl (yi_land sa (yi_lxor 0 (-1))))), (11, .inl (yi_ior se 0)), (16, .inl 0), (14, .inr (.inl 0)), (13, .inr (.inr none)), (12, .inl i), (7, .inr (.inl (yi_land y (yi_W (-y))))), (6, .inl n), (4, .inr (.inl y)), (0, .inr (.inr (some p))), (1, .inr (.inl v)), (3, .inl x)], [], (Ip6, L, R, Y), 0, 0) (fun _ => rfl) ?_
                  refine yi_G_iinc [(12, .inl (i + 1)), (9, .inr (.inl (yi_land sa (yi_lxor 0 (-1))))), (11, .inl (yi_ior se 0)), (16, .inl 0), (14, .inr (.inl 0)), (13, .inr (.inr none)), (7, .inr (.inl (yi_land y (yi_W (-y))))), (6, .inl n), (4, .inr (.inl y)), (0, .inr (.inr (some p))), (1, .inr (.inl v)), (3, .inl x)] rfl rfl rfl (by rw [show yi_w (i + 1) = i + 1 from (yi_wn (by omega) (by omega)).trans (by omega)]; rfl) ?_
                  refine yi_G_run 1 (38, [(12, .inl (i + 1)), (9, .inr (.inl (yi_land sa (yi_lxor 0 (-1))))), (11, .inl (yi_ior se 0)), (16, .inl 0), (14, .inr (.inl 0)), (13, .inr (.inr none)), (7, .inr (.inl (yi_land y (yi_W (-y))))), (6, .inl n), (4, .inr (.inl y)), (0, .inr (.inr (some p))), (1, .inr (.inl v)), (3, .inl x)], [], (Ip6, L, R, Y), 0, 0) (fun _ => rfl) ?_
                  refine yi_G_al (al := [(12, .inl (i + 1)), (11, .inl (yi_ior se 0)), (9, .inr (.inl (yi_land sa (yi_lxor 0 (-1))))), (7, .inr (.inl (yi_land y (yi_W (-y))))), (6, .inl n), (4, .inr (.inl y)), (0, .inr (.inr (some p))), (1, .inr (.inl v)), (3, .inl x)]) (show ([12, 11, 9, 7, 6, 4, 0, 1, 3] : List Nat).Nodup by decide) (show ([12, 9, 11, 16, 14, 13, 7, 6, 4, 0, 1, 3] : List Nat).Nodup by decide) (yi_mc (List.mem_of_getElem? (i := 0) rfl) (yi_mc (List.mem_of_getElem? (i := 2) rfl) (yi_mc (List.mem_of_getElem? (i := 1) rfl) (yi_mc (List.mem_of_getElem? (i := 6) rfl) (yi_mc (List.mem_of_getElem? (i := 7) rfl) (yi_mc (List.mem_of_getElem? (i := 8) rfl) (yi_mc (List.mem_of_getElem? (i := 9) rfl) (yi_mc (List.mem_of_getElem? (i := 10) rfl) (yi_mc (List.mem_of_getElem? (i := 11) rfl) yi_mn))))))))) ?_
                  exact ih38 _ (by omega) (i + 1) (yi_ior se 0) (yi_land sa (yi_lxor 0 (-1))) (by omega) (by first | (have oo := cl_or (a := se) (b := yi_shl 1 i) (by omega) (by omega) (by have := yi_shl1 (s := i) (by omega) (by omega); omega) (by have := yi_shl1 (s := i) (by omega) (by omega); omega); omega) | (have oo := cl_or (a := se) (b := 0) (by omega) (by omega) (by omega) (by omega); omega)) rfl
                · refine yi_G_if1 false rfl (yi_Leq_f h29) ?_
                  refine yi_G_run 5 (104, [(16, .inl 1), (14, .inr (.inl 0)), (13, .inr (.inr none)), (12, .inl i), (11, .inl se), (9, .inr (.inl sa)), (7, .inr (.inl (yi_land y (yi_W (-y))))), (6, .inl n), (4, .inr (.inl y)), (0, .inr (.inr (some p))), (1, .inr (.inl v)), (3, .inl x)], [.inl 1, .inl se], (Ip6, L, R, Y), 0, 0) (fun _ => rfl) ?_
                  refine yi_G_if1 false rfl (by decide) ?_
                  refine yi_G_run 8 (122, [(11, .inl (yi_ior se (yi_shl 1 i))), (16, .inl 1), (14, .inr (.inl 0)), (13, .inr (.inr none)), (12, .inl i), (9, .inr (.inl sa)), (7, .inr (.inl (yi_land y (yi_W (-y))))), (6, .inl n), (4, .inr (.inl y)), (0, .inr (.inr (some p))), (1, .inr (.inl v)), (3, .inl x)], [.inl 1, .inr (.inl sa)], (Ip6, L, R, Y), 0, 0) (fun _ => rfl) ?_
                  refine yi_G_if1 false rfl (by decide) ?_
                  refine yi_G_run 4 (139, [(9, .inr (.inl (yi_land sa 0))), (11, .inl (yi_ior se (yi_shl 1 i))), (16, .inl 1), (14, .inr (.inl 0)), (13, .inr (.inr none)), (12, .inl i), (7, .inr (.inl (yi_land y (yi_W (-y))))), (6, .inl n), (4, .inr (.inl y)), (0, .inr (.inr (some p))), (1, .inr (.inl v)), (3, .inl x)], [], (Ip6, L, R, Y), 0, 0) (fun _ => rfl) ?_
                  refine yi_G_iinc [(12, .inl (i + 1)), (9, .inr (.inl (yi_land sa 0))), (11, .inl (yi_ior se (yi_shl 1 i))), (16, .inl 1), (14, .inr (.inl 0)), (13, .inr (.inr none)), (7, .inr (.inl (yi_land y (yi_W (-y))))), (6, .inl n), (4, .inr (.inl y)), (0, .inr (.inr (some p))), (1, .inr (.inl v)), (3, .inl x)] rfl rfl rfl (by rw [show yi_w (i + 1) = i + 1 from (yi_wn (by omega) (by omega)).trans (by omega)]; rfl) ?_
                  refine yi_G_run 1 (38, [(12, .inl (i + 1)), (9, .inr (.inl (yi_land sa 0))), (11, .inl (yi_ior se (yi_shl 1 i))), (16, .inl 1), (14, .inr (.inl 0)), (13, .inr (.inr none)), (7, .inr (.inl (yi_land y (yi_W (-y))))), (6, .inl n), (4, .inr (.inl y)), (0, .inr (.inr (some p))), (1, .inr (.inl v)), (3, .inl x)], [], (Ip6, L, R, Y), 0, 0) (fun _ => rfl) ?_
                  refine yi_G_al (al := [(12, .inl (i + 1)), (11, .inl (yi_ior se (yi_shl 1 i))), (9, .inr (.inl (yi_land sa 0))), (7, .inr (.inl (yi_land y (yi_W (-y))))), (6, .inl n), (4, .inr (.inl y)), (0, .inr (.inr (some p))), (1, .inr (.inl v)), (3, .inl x)]) (show ([12, 11, 9, 7, 6, 4, 0, 1, 3] : List Nat).Nodup by decide) (show ([12, 9, 11, 16, 14, 13, 7, 6, 4, 0, 1, 3] : List Nat).Nodup by decide) (yi_mc (List.mem_of_getElem? (i := 0) rfl) (yi_mc (List.mem_of_getElem? (i := 2) rfl) (yi_mc (List.mem_of_getElem? (i := 1) rfl) (yi_mc (List.mem_of_getElem? (i := 6) rfl) (yi_mc (List.mem_of_getElem? (i := 7) rfl) (yi_mc (List.mem_of_getElem? (i := 8) rfl) (yi_mc (List.mem_of_getElem? (i := 9) rfl) (yi_mc (List.mem_of_getElem? (i := 10) rfl) (yi_mc (List.mem_of_getElem? (i := 11) rfl) yi_mn))))))))) ?_
                  exact ih38 _ (by omega) (i + 1) (yi_ior se (yi_shl 1 i)) (yi_land sa 0) (by omega) (by first | (have oo := cl_or (a := se) (b := yi_shl 1 i) (by omega) (by omega) (by have := yi_shl1 (s := i) (by omega) (by omega); omega) (by have := yi_shl1 (s := i) (by omega) (by omega); omega); omega) | (have oo := cl_or (a := se) (b := 0) (by omega) (by omega) (by omega) (by omega); omega)) rfl
              · refine cl_G_aald rfl t15 (by omega) (by omega) (by omega) e27 ?_
                refine yi_G_run 2 (68, [(13, .inr (.inr (some q26))), (12, .inl i), (11, .inl se), (9, .inr (.inl sa)), (7, .inr (.inl (yi_land y (yi_W (-y))))), (6, .inl n), (4, .inr (.inl y)), (0, .inr (.inr (some p))), (1, .inr (.inl v)), (3, .inl x)], [.inr (.inr (some q26))], (Ip6, L, R, Y), 0, 0) (fun _ => rfl) ?_
                refine cl_G_nnl false rfl rfl ?_
                refine yi_G_run 2 (78, [(13, .inr (.inr (some q26))), (12, .inl i), (11, .inl se), (9, .inr (.inl sa)), (7, .inr (.inl (yi_land y (yi_W (-y))))), (6, .inl n), (4, .inr (.inl y)), (0, .inr (.inr (some p))), (1, .inr (.inl v)), (3, .inl x)], [.inl x, .inr (.inr (some q26))], (Ip6, L, R, Y), 0, 0) (fun _ => rfl) ?_
                refine yi_G_callv rfl rfl (cl_rcv t28 rfl) rfl (k_cellAt d (by omega) hPp6.1 t28 ) ?_
                rintro _ ⟨z30, rfl⟩
                show yi_G zi_Ms d zi_m217 (81, [(13, .inr (.inr (some q26))), (12, .inl i), (11, .inl se), (9, .inr (.inl sa)), (7, .inr (.inl (yi_land y (yi_W (-y))))), (6, .inl n), (4, .inr (.inl y)), (0, .inr (.inr (some p))), (1, .inr (.inl v)), (3, .inl x)], [.inr (.inl z30)], (Ip6, L, R, Y), 0, 0) _
                refine yi_G_run 6 (90, [(14, .inr (.inl z30)), (13, .inr (.inr (some q26))), (12, .inl i), (11, .inl se), (9, .inr (.inl sa)), (7, .inr (.inl (yi_land y (yi_W (-y))))), (6, .inl n), (4, .inr (.inl y)), (0, .inr (.inr (some p))), (1, .inr (.inl v)), (3, .inl x)], [.inl (yi_lcmp (yi_land z30 (yi_land y (yi_W (-y)))) 0)], (Ip6, L, R, Y), 0, 0) (fun _ => rfl) ?_
                by_cases h31 : ((yi_land z30 (yi_land y (yi_W (-y))))) = 0
                · refine yi_G_if1 true rfl (yi_Leq_t h31) ?_
                  refine yi_G_run 4 (104, [(16, .inl 0), (14, .inr (.inl z30)), (13, .inr (.inr (some q26))), (12, .inl i), (11, .inl se), (9, .inr (.inl sa)), (7, .inr (.inl (yi_land y (yi_W (-y))))), (6, .inl n), (4, .inr (.inl y)), (0, .inr (.inr (some p))), (1, .inr (.inl v)), (3, .inl x)], [.inl 0, .inl se], (Ip6, L, R, Y), 0, 0) (fun _ => rfl) ?_
                  refine yi_G_if1 true rfl (by decide) ?_
                  refine yi_G_run 5 (122, [(11, .inl (yi_ior se 0)), (16, .inl 0), (14, .inr (.inl z30)), (13, .inr (.inr (some q26))), (12, .inl i), (9, .inr (.inl sa)), (7, .inr (.inl (yi_land y (yi_W (-y))))), (6, .inl n), (4, .inr (.inl y)), (0, .inr (.inr (some p))), (1, .inr (.inl v)), (3, .inl x)], [.inl 0, .inr (.inl sa)], (Ip6, L, R, Y), 0, 0) (fun _ => rfl) ?_
                  refine yi_G_if1 true rfl (by decide) ?_
                  refine yi_G_run 1 (132, [(11, .inl (yi_ior se 0)), (16, .inl 0), (14, .inr (.inl z30)), (13, .inr (.inr (some q26))), (12, .inl i), (9, .inr (.inl sa)), (7, .inr (.inl (yi_land y (yi_W (-y))))), (6, .inl n), (4, .inr (.inl y)), (0, .inr (.inr (some p))), (1, .inr (.inl v)), (3, .inl x)], [.inr (.inl z30), .inr (.inl sa)], (Ip6, L, R, Y), 0, 0) (fun _ => rfl) ?_
                  refine yi_G_ldc2 ((-1)) rfl (by decide +kernel) ?_
                  refine yi_G_run 3 (139, [(9, .inr (.inl (yi_land sa (yi_lxor z30 (-1))))), (11, .inl (yi_ior se 0)), (16, .inl 0), (14, .inr (.inl z30)), (13, .inr (.inr (some q26))), (12, .inl i), (7, .inr (.inl (yi_land y (yi_W (-y))))), (6, .inl n), (4, .inr (.inl y)), (0, .inr (.inr (some p))), (1, .inr (.inl v)), (3, .inl x)], [], (Ip6, L, R, Y), 0, 0) (fun _ => rfl) ?_
                  refine yi_G_iinc [(12, .inl (i + 1)), (9, .inr (.inl (yi_land sa (yi_lxor z30 (-1))))), (11, .inl (yi_ior se 0)), (16, .inl 0), (14, .inr (.inl z30)), (13, .inr (.inr (some q26))), (7, .inr (.inl (yi_land y (yi_W (-y))))), (6, .inl n), (4, .inr (.inl y)), (0, .inr (.inr (some p))), (1, .inr (.inl v)), (3, .inl x)] rfl rfl rfl (by rw [show yi_w (i + 1) = i + 1 from (yi_wn (by omega) (by omega)).trans (by omega)]; rfl) ?_
                  refine yi_G_run 1 (38, [(12, .inl (i + 1)), (9, .inr (.inl (yi_land sa (yi_lxor z30 (-1))))), (11, .inl (yi_ior se 0)), (16, .inl 0), (14, .inr (.inl z30)), (13, .inr (.inr (some q26))), (7, .inr (.inl (yi_land y (yi_W (-y))))), (6, .inl n), (4, .inr (.inl y)), (0, .inr (.inr (some p))), (1, .inr (.inl v)), (3, .inl x)], [], (Ip6, L, R, Y), 0, 0) (fun _ => rfl) ?_
                  refine yi_G_al (al := [(12, .inl (i + 1)), (11, .inl (yi_ior se 0)), (9, .inr (.inl (yi_land sa (yi_lxor z30 (-1))))), (7, .inr (.inl (yi_land y (yi_W (-y))))), (6, .inl n), (4, .inr (.inl y)), (0, .inr (.inr (some p))), (1, .inr (.inl v)), (3, .inl x)]) (show ([12, 11, 9, 7, 6, 4, 0, 1, 3] : List Nat).Nodup by decide) (show ([12, 9, 11, 16, 14, 13, 7, 6, 4, 0, 1, 3] : List Nat).Nodup by decide) (yi_mc (List.mem_of_getElem? (i := 0) rfl) (yi_mc (List.mem_of_getElem? (i := 2) rfl) (yi_mc (List.mem_of_getElem? (i := 1) rfl) (yi_mc (List.mem_of_getElem? (i := 6) rfl) (yi_mc (List.mem_of_getElem? (i := 7) rfl) (yi_mc (List.mem_of_getElem? (i := 8) rfl) (yi_mc (List.mem_of_getElem? (i := 9) rfl) (yi_mc (List.mem_of_getElem? (i := 10) rfl) (yi_mc (List.mem_of_getElem? (i := 11) rfl) yi_mn))))))))) ?_
                  exact ih38 _ (by omega) (i + 1) (yi_ior se 0) (yi_land sa (yi_lxor z30 (-1))) (by omega) (by first | (have oo := cl_or (a := se) (b := yi_shl 1 i) (by omega) (by omega) (by have := yi_shl1 (s := i) (by omega) (by omega); omega) (by have := yi_shl1 (s := i) (by omega) (by omega); omega); omega) | (have oo := cl_or (a := se) (b := 0) (by omega) (by omega) (by omega) (by omega); omega)) rfl
                · refine yi_G_if1 false rfl (yi_Leq_f h31) ?_
                  refine yi_G_run 5 (104, [(16, .inl 1), (14, .inr (.inl z30)), (13, .inr (.inr (some q26))), (12, .inl i), (11, .inl se), (9, .inr (.inl sa)), (7, .inr (.inl (yi_land y (yi_W (-y))))), (6, .inl n), (4, .inr (.inl y)), (0, .inr (.inr (some p))), (1, .inr (.inl v)), (3, .inl x)], [.inl 1, .inl se], (Ip6, L, R, Y), 0, 0) (fun _ => rfl) ?_
                  refine yi_G_if1 false rfl (by decide) ?_
                  refine yi_G_run 8 (122, [(11, .inl (yi_ior se (yi_shl 1 i))), (16, .inl 1), (14, .inr (.inl z30)), (13, .inr (.inr (some q26))), (12, .inl i), (9, .inr (.inl sa)), (7, .inr (.inl (yi_land y (yi_W (-y))))), (6, .inl n), (4, .inr (.inl y)), (0, .inr (.inr (some p))), (1, .inr (.inl v)), (3, .inl x)], [.inl 1, .inr (.inl sa)], (Ip6, L, R, Y), 0, 0) (fun _ => rfl) ?_
                  refine yi_G_if1 false rfl (by decide) ?_
                  refine yi_G_run 4 (139, [(9, .inr (.inl (yi_land sa z30))), (11, .inl (yi_ior se (yi_shl 1 i))), (16, .inl 1), (14, .inr (.inl z30)), (13, .inr (.inr (some q26))), (12, .inl i), (7, .inr (.inl (yi_land y (yi_W (-y))))), (6, .inl n), (4, .inr (.inl y)), (0, .inr (.inr (some p))), (1, .inr (.inl v)), (3, .inl x)], [], (Ip6, L, R, Y), 0, 0) (fun _ => rfl) ?_
                  refine yi_G_iinc [(12, .inl (i + 1)), (9, .inr (.inl (yi_land sa z30))), (11, .inl (yi_ior se (yi_shl 1 i))), (16, .inl 1), (14, .inr (.inl z30)), (13, .inr (.inr (some q26))), (7, .inr (.inl (yi_land y (yi_W (-y))))), (6, .inl n), (4, .inr (.inl y)), (0, .inr (.inr (some p))), (1, .inr (.inl v)), (3, .inl x)] rfl rfl rfl (by rw [show yi_w (i + 1) = i + 1 from (yi_wn (by omega) (by omega)).trans (by omega)]; rfl) ?_
                  refine yi_G_run 1 (38, [(12, .inl (i + 1)), (9, .inr (.inl (yi_land sa z30))), (11, .inl (yi_ior se (yi_shl 1 i))), (16, .inl 1), (14, .inr (.inl z30)), (13, .inr (.inr (some q26))), (7, .inr (.inl (yi_land y (yi_W (-y))))), (6, .inl n), (4, .inr (.inl y)), (0, .inr (.inr (some p))), (1, .inr (.inl v)), (3, .inl x)], [], (Ip6, L, R, Y), 0, 0) (fun _ => rfl) ?_
                  refine yi_G_al (al := [(12, .inl (i + 1)), (11, .inl (yi_ior se (yi_shl 1 i))), (9, .inr (.inl (yi_land sa z30))), (7, .inr (.inl (yi_land y (yi_W (-y))))), (6, .inl n), (4, .inr (.inl y)), (0, .inr (.inr (some p))), (1, .inr (.inl v)), (3, .inl x)]) (show ([12, 11, 9, 7, 6, 4, 0, 1, 3] : List Nat).Nodup by decide) (show ([12, 9, 11, 16, 14, 13, 7, 6, 4, 0, 1, 3] : List Nat).Nodup by decide) (yi_mc (List.mem_of_getElem? (i := 0) rfl) (yi_mc (List.mem_of_getElem? (i := 2) rfl) (yi_mc (List.mem_of_getElem? (i := 1) rfl) (yi_mc (List.mem_of_getElem? (i := 6) rfl) (yi_mc (List.mem_of_getElem? (i := 7) rfl) (yi_mc (List.mem_of_getElem? (i := 8) rfl) (yi_mc (List.mem_of_getElem? (i := 9) rfl) (yi_mc (List.mem_of_getElem? (i := 10) rfl) (yi_mc (List.mem_of_getElem? (i := 11) rfl) yi_mn))))))))) ?_
                  exact ih38 _ (by omega) (i + 1) (yi_ior se (yi_shl 1 i)) (yi_land sa z30) (by omega) (by first | (have oo := cl_or (a := se) (b := yi_shl 1 i) (by omega) (by omega) (by have := yi_shl1 (s := i) (by omega) (by omega); omega) (by have := yi_shl1 (s := i) (by omega) (by omega); omega); omega) | (have oo := cl_or (a := se) (b := 0) (by omega) (by omega) (by omega) (by omega); omega)) rfl
        exact pt38 _ 0 0 y (by omega) (by omega) rfl
  exact pt6 _ 0 v I hP (by omega) rfl
theorem k_gather (D : Nat) (hD : 3 ≤ D) {E : List Nat} {I L : cl_I} {R : cl_Rr} {Y : cl_Y} (hC : cl_C E I L R Y) {p : Nat} (tp : cl_T E Y p 7) {u : Nat} (tu : cl_T E Y u 5) : yi_E zi_Ms D 216 [.inr (.inr (some p)), .inr (.inr (some u))] (I, L, R, Y) (fun r => ∃ I', ∃ L', ∃ R', ∃ Y', ∃ nc ns, r = (none, (I', L', R', Y'), nc, ns) ∧ cl_P E I L R Y I' L' R' Y' ∧ nc ≤ 1 ∧ ns ≤ 4096) := by
  obtain ⟨d, rfl⟩ : ∃ d, D = d + 1 := ⟨D - 1, by omega⟩
  refine yi_E_of (M := zi_m216) rfl rfl ?_
  have hP : cl_P E I L R Y I L R Y := cl_P_r hC
  have szb := cl_rd hP.1 tp (k := 2) (lo := 0) (hi := 12) rfl
  have sz := yi_shl1 (s := I p 2) szb.1 szb.2
  show yi_G zi_Ms d zi_m216 (0, [(0, .inr (.inr (some p))), (1, .inr (.inr (some u)))], [], (I, L, R, Y), 0, 0) _
  refine yi_G_run 2 (2, [(0, .inr (.inr (some p))), (1, .inr (.inr (some u)))], [.inr (.inr (some p)), .inl 1], (I, L, R, Y), 0, 0) (fun _ => rfl) ?_
  have b1 := cl_rd hP.1 tp (k := 2) (lo := 0) (hi := 12) rfl
  refine cl_G_gi rfl (cl_T_K tp) rfl rfl rfl ?_
  refine yi_G_run 2 (7, [(2, .inl (yi_shl 1 (I p 2))), (0, .inr (.inr (some p))), (1, .inr (.inr (some u)))], [], (I, L, R, Y), 0, 0) (fun _ => rfl) ?_
  have pt23 : ∀ (Ip23 : cl_I) (Lp23 : cl_I) (Rp23 : cl_Rr) (Yp23 : cl_Y) (ncp23 : Nat) (nsp23 : Nat), (cl_P E I L R Y Ip23 Lp23 Rp23 Yp23) → (cl_T E Yp23 p 7) → (cl_T E Yp23 u 5) → (ncp23 ≤ 1 ∧ nsp23 ≤ 4096) → yi_G zi_Ms d zi_m216 (23, [(2, .inl (yi_shl 1 (I p 2))), (0, .inr (.inr (some p))), (1, .inr (.inr (some u)))], [], (Ip23, Lp23, Rp23, Yp23), ncp23, nsp23) (fun r => ∃ I', ∃ L', ∃ R', ∃ Y', ∃ nc ns, r = (none, (I', L', R', Y'), nc, ns) ∧ cl_P E I L R Y I' L' R' Y' ∧ nc ≤ 1 ∧ ns ≤ 4096) := by
    intro Ip23 Lp23 Rp23 Yp23 ncp23 nsp23 hPp23 tpp23 tup23 c0
    refine yi_G_run 2 (25, [(3, .inl 0), (2, .inl (yi_shl 1 (I p 2))), (0, .inr (.inr (some p))), (1, .inr (.inr (some u)))], [], (Ip23, Lp23, Rp23, Yp23), ncp23, nsp23) (fun _ => rfl) ?_
    have pt25 : ∀ (m_ : Nat) (j : Int) (Ip25 : cl_I), (cl_P E I L R Y Ip25 Lp23 Rp23 Yp23) → (0 ≤ j ∧ j ≤ 4096) → (4096 - j).toNat = m_ → yi_G zi_Ms d zi_m216 (25, [(3, .inl j), (2, .inl (yi_shl 1 (I p 2))), (0, .inr (.inr (some p))), (1, .inr (.inr (some u)))], [], (Ip25, Lp23, Rp23, Yp23), ncp23, nsp23) (fun r => ∃ I', ∃ L', ∃ R', ∃ Y', ∃ nc ns, r = (none, (I', L', R', Y'), nc, ns) ∧ cl_P E I L R Y I' L' R' Y' ∧ nc ≤ 1 ∧ ns ≤ 4096) := by
      intro m25
      induction m25 using Nat.strongRecOn with
      | _ m25 ih25 =>
      intro j Ip25 hPp25 j0 hm25
      refine yi_G_run 2 (27, [(3, .inl j), (2, .inl (yi_shl 1 (I p 2))), (0, .inr (.inr (some p))), (1, .inr (.inr (some u)))], [.inl (yi_shl 1 (I p 2)), .inl j], (Ip25, Lp23, Rp23, Yp23), ncp23, nsp23) (fun _ => rfl) ?_
      by_cases h2 : (yi_shl 1 (I p 2)) ≤ j
      · refine yi_G_if2 true rfl (yi_ge_t h2) ?_
        refine yi_G_run 2 (54, [(3, .inl 0), (2, .inl (yi_shl 1 (I p 2))), (0, .inr (.inr (some p))), (1, .inr (.inr (some u)))], [], (Ip25, Lp23, Rp23, Yp23), ncp23, nsp23) (fun _ => rfl) ?_
        have pt54 : ∀ (m_ : Nat) (j : Int) (Ip54 : cl_I), (cl_P E I L R Y Ip54 Lp23 Rp23 Yp23) → (0 ≤ j ∧ j ≤ 513) → (513 - j).toNat = m_ → yi_G zi_Ms d zi_m216 (54, [(3, .inl j), (2, .inl (yi_shl 1 (I p 2))), (0, .inr (.inr (some p))), (1, .inr (.inr (some u)))], [], (Ip54, Lp23, Rp23, Yp23), ncp23, nsp23) (fun r => ∃ I', ∃ L', ∃ R', ∃ Y', ∃ nc ns, r = (none, (I', L', R', Y'), nc, ns) ∧ cl_P E I L R Y I' L' R' Y' ∧ nc ≤ 1 ∧ ns ≤ 4096) := by
          intro m54
          induction m54 using Nat.strongRecOn with
          | _ m54 ih54 =>
          intro j Ip54 hPp54 j1 hm54
          refine yi_G_run 2 (56, [(3, .inl j), (2, .inl (yi_shl 1 (I p 2))), (0, .inr (.inr (some p))), (1, .inr (.inr (some u)))], [.inr (.inr (some u)), .inl j], (Ip54, Lp23, Rp23, Yp23), ncp23, nsp23) (fun _ => rfl) ?_
          have b3 := cl_rd hPp54.1 tup23 (k := 1) (lo := 1) (hi := 513) rfl
          refine cl_G_gi rfl (cl_T_K tup23) rfl rfl rfl ?_
          by_cases h4 : (Ip54 u 1) ≤ j
          · refine yi_G_if2 true rfl (yi_ge_t h4) ?_
            refine yi_G_run 2 (80, [(3, .inl j), (2, .inl (yi_shl 1 (I p 2))), (0, .inr (.inr (some p))), (1, .inr (.inr (some u)))], [.inl (yi_shl 1 (I p 2)), .inr (.inr (some p))], (Ip54, Lp23, Rp23, Yp23), ncp23, nsp23) (fun _ => rfl) ?_
            refine yi_G_callv rfl rfl (cl_rcv tpp23 rfl) rfl (k_spread d (by omega) hPp54.1 tpp23 (by omega)) ?_
            rintro _ ⟨I5, rfl, hQ5⟩
            have hP5 := cl_P_t hPp54 hQ5
            show yi_G zi_Ms d zi_m216 (83, [(3, .inl j), (2, .inl (yi_shl 1 (I p 2))), (0, .inr (.inr (some p))), (1, .inr (.inr (some u)))], [], (I5, Lp23, Rp23, Yp23), ncp23, nsp23) _
            exact yi_G_retv rfl rfl (⟨_, _, _, _, _, _, rfl, hP5, by omega, by omega⟩)
          · refine yi_G_if2 false rfl (yi_ge_f h4) ?_
            refine yi_G_run 3 (65, [(3, .inl j), (2, .inl (yi_shl 1 (I p 2))), (0, .inr (.inr (some p))), (1, .inr (.inr (some u)))], [.inl j, .inr (.inr (some u)), .inr (.inr (some p))], (Ip54, Lp23, Rp23, Yp23), ncp23, nsp23) (fun _ => rfl) ?_
            refine yi_G_callv rfl rfl (cl_rcv tup23 rfl) rfl (k_cellAt d (by omega) hPp54.1 tup23 ) ?_
            rintro _ ⟨z6, rfl⟩
            show yi_G zi_Ms d zi_m216 (68, [(3, .inl j), (2, .inl (yi_shl 1 (I p 2))), (0, .inr (.inr (some p))), (1, .inr (.inr (some u)))], [.inr (.inl z6), .inr (.inr (some p))], (Ip54, Lp23, Rp23, Yp23), ncp23, nsp23) _
            refine yi_G_run 1 (69, [(3, .inl j), (2, .inl (yi_shl 1 (I p 2))), (0, .inr (.inr (some p))), (1, .inr (.inr (some u)))], [.inl j, .inr (.inl z6), .inr (.inr (some p))], (Ip54, Lp23, Rp23, Yp23), ncp23, nsp23) (fun _ => rfl) ?_
            refine yi_G_callv rfl rfl (cl_rcv tpp23 rfl) rfl (k_gatherCell d (by omega) hPp54.1 tpp23 ) ?_
            rintro _ ⟨I7, rfl, hQ7⟩
            have hP7 := cl_P_t hPp54 hQ7
            show yi_G zi_Ms d zi_m216 (72, [(3, .inl j), (2, .inl (yi_shl 1 (I p 2))), (0, .inr (.inr (some p))), (1, .inr (.inr (some u)))], [], (I7, Lp23, Rp23, Yp23), ncp23, nsp23) _
            refine yi_G_iinc [(3, .inl (j + 1)), (2, .inl (yi_shl 1 (I p 2))), (0, .inr (.inr (some p))), (1, .inr (.inr (some u)))] rfl rfl rfl (by rw [show yi_w (j + 1) = j + 1 from (yi_wn (by omega) (by omega)).trans (by omega)]; rfl) ?_
            refine yi_G_run 1 (54, [(3, .inl (j + 1)), (2, .inl (yi_shl 1 (I p 2))), (0, .inr (.inr (some p))), (1, .inr (.inr (some u)))], [], (I7, Lp23, Rp23, Yp23), ncp23, nsp23) (fun _ => rfl) ?_
            exact ih54 _ (by omega) (j + 1) I7 hP7 (by omega) rfl
        exact pt54 _ 0 Ip25 hPp25 (by omega) rfl
      · refine yi_G_if2 false rfl (yi_ge_f h2) ?_
        refine yi_G_run 2 (32, [(3, .inl j), (2, .inl (yi_shl 1 (I p 2))), (0, .inr (.inr (some p))), (1, .inr (.inr (some u)))], [.inr (.inr (some p)), .inl j], (Ip25, Lp23, Rp23, Yp23), ncp23, nsp23) (fun _ => rfl) ?_
        obtain ⟨q8, e9, t10⟩ := cl_rf hPp25.1 tpp23 (k := 1) rfl
        have n11 := cl_nb hPp25.1 t10
        refine cl_G_gr rfl (cl_T_K tpp23) rfl rfl rfl e9 ?_
        refine cl_G_len rfl t10 (by omega) ?_
        by_cases h12 : ((Yp23.2.1 q8 : Int)) ≤ j
        · refine yi_G_if2 true rfl (yi_ge_t h12) ?_
          refine yi_G_run 2 (54, [(3, .inl 0), (2, .inl (yi_shl 1 (I p 2))), (0, .inr (.inr (some p))), (1, .inr (.inr (some u)))], [], (Ip25, Lp23, Rp23, Yp23), ncp23, nsp23) (fun _ => rfl) ?_
          have pt54 : ∀ (m_ : Nat) (j : Int) (Ip54 : cl_I), (cl_P E I L R Y Ip54 Lp23 Rp23 Yp23) → (0 ≤ j ∧ j ≤ 513) → (513 - j).toNat = m_ → yi_G zi_Ms d zi_m216 (54, [(3, .inl j), (2, .inl (yi_shl 1 (I p 2))), (0, .inr (.inr (some p))), (1, .inr (.inr (some u)))], [], (Ip54, Lp23, Rp23, Yp23), ncp23, nsp23) (fun r => ∃ I', ∃ L', ∃ R', ∃ Y', ∃ nc ns, r = (none, (I', L', R', Y'), nc, ns) ∧ cl_P E I L R Y I' L' R' Y' ∧ nc ≤ 1 ∧ ns ≤ 4096) := by
            intro m54
            induction m54 using Nat.strongRecOn with
            | _ m54 ih54 =>
            intro j Ip54 hPp54 j1 hm54
            refine yi_G_run 2 (56, [(3, .inl j), (2, .inl (yi_shl 1 (I p 2))), (0, .inr (.inr (some p))), (1, .inr (.inr (some u)))], [.inr (.inr (some u)), .inl j], (Ip54, Lp23, Rp23, Yp23), ncp23, nsp23) (fun _ => rfl) ?_
            have b13 := cl_rd hPp54.1 tup23 (k := 1) (lo := 1) (hi := 513) rfl
            refine cl_G_gi rfl (cl_T_K tup23) rfl rfl rfl ?_
            by_cases h14 : (Ip54 u 1) ≤ j
            · refine yi_G_if2 true rfl (yi_ge_t h14) ?_
              refine yi_G_run 2 (80, [(3, .inl j), (2, .inl (yi_shl 1 (I p 2))), (0, .inr (.inr (some p))), (1, .inr (.inr (some u)))], [.inl (yi_shl 1 (I p 2)), .inr (.inr (some p))], (Ip54, Lp23, Rp23, Yp23), ncp23, nsp23) (fun _ => rfl) ?_
              refine yi_G_callv rfl rfl (cl_rcv tpp23 rfl) rfl (k_spread d (by omega) hPp54.1 tpp23 (by omega)) ?_
              rintro _ ⟨I15, rfl, hQ15⟩
              have hP15 := cl_P_t hPp54 hQ15
              show yi_G zi_Ms d zi_m216 (83, [(3, .inl j), (2, .inl (yi_shl 1 (I p 2))), (0, .inr (.inr (some p))), (1, .inr (.inr (some u)))], [], (I15, Lp23, Rp23, Yp23), ncp23, nsp23) _
              exact yi_G_retv rfl rfl (⟨_, _, _, _, _, _, rfl, hP15, by omega, by omega⟩)
            · refine yi_G_if2 false rfl (yi_ge_f h14) ?_
              refine yi_G_run 3 (65, [(3, .inl j), (2, .inl (yi_shl 1 (I p 2))), (0, .inr (.inr (some p))), (1, .inr (.inr (some u)))], [.inl j, .inr (.inr (some u)), .inr (.inr (some p))], (Ip54, Lp23, Rp23, Yp23), ncp23, nsp23) (fun _ => rfl) ?_
              refine yi_G_callv rfl rfl (cl_rcv tup23 rfl) rfl (k_cellAt d (by omega) hPp54.1 tup23 ) ?_
              rintro _ ⟨z16, rfl⟩
              show yi_G zi_Ms d zi_m216 (68, [(3, .inl j), (2, .inl (yi_shl 1 (I p 2))), (0, .inr (.inr (some p))), (1, .inr (.inr (some u)))], [.inr (.inl z16), .inr (.inr (some p))], (Ip54, Lp23, Rp23, Yp23), ncp23, nsp23) _
              refine yi_G_run 1 (69, [(3, .inl j), (2, .inl (yi_shl 1 (I p 2))), (0, .inr (.inr (some p))), (1, .inr (.inr (some u)))], [.inl j, .inr (.inl z16), .inr (.inr (some p))], (Ip54, Lp23, Rp23, Yp23), ncp23, nsp23) (fun _ => rfl) ?_
              refine yi_G_callv rfl rfl (cl_rcv tpp23 rfl) rfl (k_gatherCell d (by omega) hPp54.1 tpp23 ) ?_
              rintro _ ⟨I17, rfl, hQ17⟩
              have hP17 := cl_P_t hPp54 hQ17
              show yi_G zi_Ms d zi_m216 (72, [(3, .inl j), (2, .inl (yi_shl 1 (I p 2))), (0, .inr (.inr (some p))), (1, .inr (.inr (some u)))], [], (I17, Lp23, Rp23, Yp23), ncp23, nsp23) _
              refine yi_G_iinc [(3, .inl (j + 1)), (2, .inl (yi_shl 1 (I p 2))), (0, .inr (.inr (some p))), (1, .inr (.inr (some u)))] rfl rfl rfl (by rw [show yi_w (j + 1) = j + 1 from (yi_wn (by omega) (by omega)).trans (by omega)]; rfl) ?_
              refine yi_G_run 1 (54, [(3, .inl (j + 1)), (2, .inl (yi_shl 1 (I p 2))), (0, .inr (.inr (some p))), (1, .inr (.inr (some u)))], [], (I17, Lp23, Rp23, Yp23), ncp23, nsp23) (fun _ => rfl) ?_
              exact ih54 _ (by omega) (j + 1) I17 hP17 (by omega) rfl
          exact pt54 _ 0 Ip25 hPp25 (by omega) rfl
        · refine yi_G_if2 false rfl (yi_ge_f h12) ?_
          refine yi_G_run 1 (40, [(3, .inl j), (2, .inl (yi_shl 1 (I p 2))), (0, .inr (.inr (some p))), (1, .inr (.inr (some u)))], [.inr (.inr (some p))], (Ip25, Lp23, Rp23, Yp23), ncp23, nsp23) (fun _ => rfl) ?_
          refine cl_G_gr rfl (cl_T_K tpp23) rfl rfl rfl e9 ?_
          refine yi_G_run 2 (45, [(3, .inl j), (2, .inl (yi_shl 1 (I p 2))), (0, .inr (.inr (some p))), (1, .inr (.inr (some u)))], [.inl 0, .inl j, .inr (.inr (some q8))], (Ip25, Lp23, Rp23, Yp23), ncp23, nsp23) (fun _ => rfl) ?_
          refine cl_G_bast rfl t10 (by omega) (by omega) (by omega) ?_
          have hP18 := cl_P_uI (k := (j.toNat)) (v := 0) hPp25 t10 (by omega) (cl_hv0 rfl)
          generalize w19 : yi_u Ip25 q8 (j.toNat) 0 = I20 at hP18 ⊢
          refine yi_G_iinc [(3, .inl (j + 1)), (2, .inl (yi_shl 1 (I p 2))), (0, .inr (.inr (some p))), (1, .inr (.inr (some u)))] rfl rfl rfl (by rw [show yi_w (j + 1) = j + 1 from (yi_wn (by omega) (by omega)).trans (by omega)]; rfl) ?_
          refine yi_G_run 1 (25, [(3, .inl (j + 1)), (2, .inl (yi_shl 1 (I p 2))), (0, .inr (.inr (some p))), (1, .inr (.inr (some u)))], [], (I20, Lp23, Rp23, Yp23), ncp23, nsp23) (fun _ => rfl) ?_
          exact ih25 _ (by omega) (j + 1) I20 hP18 (by omega) rfl
    exact pt25 _ 0 Ip23 hPp23 (by omega) rfl
  refine yi_G_run 1 (8, [(2, .inl (yi_shl 1 (I p 2))), (0, .inr (.inr (some p))), (1, .inr (.inr (some u)))], [.inr (.inr (some p))], (I, L, R, Y), 0, 0) (fun _ => rfl) ?_
  obtain ⟨q21, e22, t23⟩ := cl_rf hP.1 tp (k := 1) rfl
  have n24 := cl_nb hP.1 t23
  refine cl_G_gr rfl (cl_T_K tp) rfl rfl rfl e22 ?_
  refine cl_G_len rfl t23 (by omega) ?_
  refine yi_G_run 1 (13, [(2, .inl (yi_shl 1 (I p 2))), (0, .inr (.inr (some p))), (1, .inr (.inr (some u)))], [.inl (yi_shl 1 (I p 2)), .inl ((Y.2.1 q21 : Int))], (I, L, R, Y), 0, 0) (fun _ => rfl) ?_
  by_cases h25 : (yi_shl 1 (I p 2)) ≤ ((Y.2.1 q21 : Int))
  · refine yi_G_if2 true rfl (yi_ge_t h25) ?_
    exact pt23 I L R Y (0) (0) hP tp tu (by omega)
  · refine yi_G_if2 false rfl (yi_ge_f h25) ?_
    refine yi_G_run 2 (18, [(2, .inl (yi_shl 1 (I p 2))), (0, .inr (.inr (some p))), (1, .inr (.inr (some u)))], [.inl (yi_shl 1 (I p 2)), .inr (.inr (some p))], (I, L, R, Y), 0, 0) (fun _ => rfl) ?_
    refine cl_G_mka rfl hP (by omega) (by omega) (by decide) (fun e26x I26 L26 R26 Y26 ee26 hP26 x26 t26 n26 o26 => ?_)
    have t27 := cl_T_x tp x26
    have t28 := cl_T_x tu x26
    have t29 := cl_T_x t23 x26
    have n30 := cl_T_n t23 x26
    have e31 := (o26 p 1 (tp).2.1).1.trans e22
    refine cl_G_pr rfl (cl_T_K t27) rfl rfl rfl ?_
    have hP32 := cl_P_uR (k := 1) (v := (some e26x)) hP26 t27 (by decide) (by decide) (cl_hrf rfl t26)
    generalize w33 : cl_u R26 p 1 (some e26x) = R34 at hP32 ⊢
    have e35 : R34 p 1 = some e26x := by rw [← w33, cl_u_eq]
    exact pt23 I26 L26 R34 Y26 (0 + 1) (0 + (yi_shl 1 (I p 2) : Int).toNat) hP32 t27 t28 (by omega)
theorem k_wordNumber (D : Nat) (hD : 1 ≤ D) {E : List Nat} {I L : cl_I} {R : cl_Rr} {Y : cl_Y} (hC : cl_C E I L R Y) {x : Int} {y : Int} {w : Int} : yi_E zi_Ms D 189 [.inl x, .inl y, .inl w] (I, L, R, Y) (fun r => ∃ z, r = (some (.inl z), (I, L, R, Y), 0, 0)) := by
  obtain ⟨d, rfl⟩ : ∃ d, D = d + 1 := ⟨D - 1, by omega⟩
  refine yi_E_of (M := zi_m189) rfl rfl ?_
  have hP : cl_P E I L R Y I L R Y := cl_P_r hC
  show yi_G zi_Ms d zi_m189 (0, [(0, .inl x), (1, .inl y), (2, .inl w)], [], (I, L, R, Y), 0, 0) _
  refine yi_G_run 13 (13, [(0, .inl x), (1, .inl y), (2, .inl w)], [.inl (yi_w ((yi_w ((yi_w ((yi_w ((yi_w (y - 1)) * 4)) * 4)) + (yi_w (x * 4)))) + w))], (I, L, R, Y), 0, 0) (fun _ => rfl) ?_
  exact yi_G_reti rfl rfl (⟨_, rfl⟩)
theorem k_clauseCode (D : Nat) (hD : 1 ≤ D) {E : List Nat} {I L : cl_I} {R : cl_Rr} {Y : cl_Y} (hC : cl_C E I L R Y) {x : Int} {y : Int} {v : Int} {w : Int} {u : Int} : yi_E zi_Ms D 143 [.inl x, .inl y, .inl v, .inl w, .inl u] (I, L, R, Y) (fun r => ∃ z, r = (some (.inl z), (I, L, R, Y), 0, 0)) := by
  obtain ⟨d, rfl⟩ : ∃ d, D = d + 1 := ⟨D - 1, by omega⟩
  refine yi_E_of (M := zi_m143) rfl rfl ?_
  have hP : cl_P E I L R Y I L R Y := cl_P_r hC
  show yi_G zi_Ms d zi_m143 (0, [(0, .inl x), (1, .inl y), (2, .inl v), (3, .inl w), (4, .inl u)], [], (I, L, R, Y), 0, 0) _
  refine yi_G_run 14 (17, [(0, .inl x), (1, .inl y), (2, .inl v), (3, .inl w), (4, .inl u)], [.inl u, .inl (yi_ior (yi_ior (yi_ior x (yi_shl y 4)) (yi_shl v 8)) (yi_shl w 12))], (I, L, R, Y), 0, 0) (fun _ => rfl) ?_
  refine yi_G_run 3 (21, [(0, .inl x), (1, .inl y), (2, .inl v), (3, .inl w), (4, .inl u)], [.inl (yi_ior (yi_ior (yi_ior (yi_ior x (yi_shl y 4)) (yi_shl v 8)) (yi_shl w 12)) (yi_shl u 16))], (I, L, R, Y), 0, 0) (fun _ => rfl) ?_
  exact yi_G_reti rfl rfl (⟨_, rfl⟩)
theorem k_standing (D : Nat) (hD : 1 ≤ D) {E : List Nat} {I L : cl_I} {R : cl_Rr} {Y : cl_Y} (hC : cl_C E I L R Y) {x : Int} {y : Int} : yi_E zi_Ms D 176 [.inl x, .inl y] (I, L, R, Y) (fun r => ∃ z, r = (some (.inl z), (I, L, R, Y), 0, 0)) := by
  obtain ⟨d, rfl⟩ : ∃ d, D = d + 1 := ⟨D - 1, by omega⟩
  refine yi_E_of (M := zi_m176) rfl rfl ?_
  have hP : cl_P E I L R Y I L R Y := cl_P_r hC
  show yi_G zi_Ms d zi_m176 (0, [(0, .inl x), (1, .inl y)], [], (I, L, R, Y), 0, 0) _
  refine yi_G_run 2 (2, [(0, .inl x), (1, .inl y)], [.inl y, .inl x], (I, L, R, Y), 0, 0) (fun _ => rfl) ?_
  by_cases h1 : x = y
  · refine yi_G_if2 false rfl (yi_ne_f h1) ?_
    refine yi_G_run 1 (6, [(0, .inl x), (1, .inl y)], [.inl 1], (I, L, R, Y), 0, 0) (fun _ => rfl) ?_
    exact yi_G_reti rfl rfl (⟨_, rfl⟩)
  · refine yi_G_if2 true rfl (yi_ne_t h1) ?_
    refine yi_G_run 1 (8, [(0, .inl x), (1, .inl y)], [.inl x], (I, L, R, Y), 0, 0) (fun _ => rfl) ?_
    by_cases h2 : x = 0
    · refine yi_G_if1 false rfl (yi_ne_f h2) ?_
      refine yi_G_run 2 (16, [(0, .inl x), (1, .inl y)], [.inl 0], (I, L, R, Y), 0, 0) (fun _ => rfl) ?_
      exact yi_G_reti rfl rfl (⟨_, rfl⟩)
    · refine yi_G_if1 true rfl (yi_ne_t h2) ?_
      refine yi_G_run 1 (16, [(0, .inl x), (1, .inl y)], [.inl 2], (I, L, R, Y), 0, 0) (fun _ => rfl) ?_
      exact yi_G_reti rfl rfl (⟨_, rfl⟩)
theorem k_wordRow (D : Nat) (hD : 1 ≤ D) {E : List Nat} {I L : cl_I} {R : cl_Rr} {Y : cl_Y} (hC : cl_C E I L R Y) {p : Nat} (tp : cl_T E Y p 4) {x : Int} : yi_E zi_Ms D 314 [.inr (.inr (some p)), .inl x] (I, L, R, Y) (fun r => ∃ q, r = (some (.inr (.inr (some q))), (I, L, R, Y), 0, 0) ∧ cl_T E Y q 5) := by
  obtain ⟨d, rfl⟩ : ∃ d, D = d + 1 := ⟨D - 1, by omega⟩
  refine yi_E_of (M := zi_m314) rfl rfl ?_
  have hP : cl_P E I L R Y I L R Y := cl_P_r hC
  show yi_G zi_Ms d zi_m314 (0, [(0, .inr (.inr (some p))), (1, .inl x)], [], (I, L, R, Y), 0, 0) _
  refine yi_G_run 1 (1, [(0, .inr (.inr (some p))), (1, .inl x)], [.inl x], (I, L, R, Y), 0, 0) (fun _ => rfl) ?_
  by_cases h1 : x < 0
  · refine yi_G_if1 true rfl (yi_lt_t h1) ?_
    refine yi_G_run 3 (25, [(2, .inr (.inr none)), (0, .inr (.inr (some p))), (1, .inl x)], [.inr (.inr none)], (I, L, R, Y), 0, 0) (fun _ => rfl) ?_
    refine cl_G_nnl true rfl rfl ?_
    refine yi_G_run 1 (29, [(2, .inr (.inr none)), (0, .inr (.inr (some p))), (1, .inl x)], [.inr (.inr (some p))], (I, L, R, Y), 0, 0) (fun _ => rfl) ?_
    obtain ⟨q2, e3, t4⟩ := cl_rf hP.1 tp (k := 1) rfl
    refine cl_G_gr rfl (cl_T_K tp) rfl rfl rfl e3 ?_
    refine yi_G_run 1 (36, [(2, .inr (.inr none)), (0, .inr (.inr (some p))), (1, .inl x)], [.inr (.inr (some q2))], (I, L, R, Y), 0, 0) (fun _ => rfl) ?_
    exact cl_G_reta rfl rfl rfl (⟨_, rfl, t4⟩)
  · refine yi_G_if1 false rfl (yi_lt_f h1) ?_
    refine yi_G_run 2 (6, [(0, .inr (.inr (some p))), (1, .inl x)], [.inr (.inr (some p)), .inl x], (I, L, R, Y), 0, 0) (fun _ => rfl) ?_
    obtain ⟨q5, e6, t7, n8⟩ := cl_rn hP.1 tp (k := 3) (m := 95) rfl
    refine cl_G_gr rfl (cl_T_K tp) rfl rfl rfl e6 ?_
    refine cl_G_len rfl t7 (by omega) ?_
    by_cases h9 : ((Y.2.1 q5 : Int)) ≤ x
    · refine yi_G_if2 true rfl (yi_ge_t h9) ?_
      refine yi_G_run 3 (25, [(2, .inr (.inr none)), (0, .inr (.inr (some p))), (1, .inl x)], [.inr (.inr none)], (I, L, R, Y), 0, 0) (fun _ => rfl) ?_
      refine cl_G_nnl true rfl rfl ?_
      refine yi_G_run 1 (29, [(2, .inr (.inr none)), (0, .inr (.inr (some p))), (1, .inl x)], [.inr (.inr (some p))], (I, L, R, Y), 0, 0) (fun _ => rfl) ?_
      obtain ⟨q10, e11, t12⟩ := cl_rf hP.1 tp (k := 1) rfl
      refine cl_G_gr rfl (cl_T_K tp) rfl rfl rfl e11 ?_
      refine yi_G_run 1 (36, [(2, .inr (.inr none)), (0, .inr (.inr (some p))), (1, .inl x)], [.inr (.inr (some q10))], (I, L, R, Y), 0, 0) (fun _ => rfl) ?_
      exact cl_G_reta rfl rfl rfl (⟨_, rfl, t12⟩)
    · refine yi_G_if2 false rfl (yi_ge_f h9) ?_
      refine yi_G_run 1 (14, [(0, .inr (.inr (some p))), (1, .inl x)], [.inr (.inr (some p))], (I, L, R, Y), 0, 0) (fun _ => rfl) ?_
      refine cl_G_gr rfl (cl_T_K tp) rfl rfl rfl e6 ?_
      refine yi_G_run 1 (18, [(0, .inr (.inr (some p))), (1, .inl x)], [.inl x, .inr (.inr (some q5))], (I, L, R, Y), 0, 0) (fun _ => rfl) ?_
      rcases cl_ro hP.1 t7 (k := x.toNat) rfl with e14 | ⟨q13, e14, t15⟩
      · refine cl_G_aald rfl t7 (by omega) (by omega) (by omega) e14 ?_
        refine yi_G_run 3 (25, [(2, .inr (.inr none)), (0, .inr (.inr (some p))), (1, .inl x)], [.inr (.inr none)], (I, L, R, Y), 0, 0) (fun _ => rfl) ?_
        refine cl_G_nnl true rfl rfl ?_
        refine yi_G_run 1 (29, [(2, .inr (.inr none)), (0, .inr (.inr (some p))), (1, .inl x)], [.inr (.inr (some p))], (I, L, R, Y), 0, 0) (fun _ => rfl) ?_
        obtain ⟨q16, e17, t18⟩ := cl_rf hP.1 tp (k := 1) rfl
        refine cl_G_gr rfl (cl_T_K tp) rfl rfl rfl e17 ?_
        refine yi_G_run 1 (36, [(2, .inr (.inr none)), (0, .inr (.inr (some p))), (1, .inl x)], [.inr (.inr (some q16))], (I, L, R, Y), 0, 0) (fun _ => rfl) ?_
        exact cl_G_reta rfl rfl rfl (⟨_, rfl, t18⟩)
      · refine cl_G_aald rfl t7 (by omega) (by omega) (by omega) e14 ?_
        refine yi_G_run 3 (25, [(2, .inr (.inr (some q13))), (0, .inr (.inr (some p))), (1, .inl x)], [.inr (.inr (some q13))], (I, L, R, Y), 0, 0) (fun _ => rfl) ?_
        refine cl_G_nnl false rfl rfl ?_
        refine yi_G_run 1 (36, [(2, .inr (.inr (some q13))), (0, .inr (.inr (some p))), (1, .inl x)], [.inr (.inr (some q13))], (I, L, R, Y), 0, 0) (fun _ => rfl) ?_
        exact cl_G_reta rfl rfl rfl (⟨_, rfl, t15⟩)
theorem k_wishRow (D : Nat) (hD : 1 ≤ D) {E : List Nat} {I L : cl_I} {R : cl_Rr} {Y : cl_Y} (hC : cl_C E I L R Y) {p : Nat} (tp : cl_T E Y p 4) {x : Int} : yi_E zi_Ms D 312 [.inr (.inr (some p)), .inl x] (I, L, R, Y) (fun r => ∃ q, r = (some (.inr (.inr (some q))), (I, L, R, Y), 0, 0) ∧ cl_T E Y q 5) := by
  obtain ⟨d, rfl⟩ : ∃ d, D = d + 1 := ⟨D - 1, by omega⟩
  refine yi_E_of (M := zi_m312) rfl rfl ?_
  have hP : cl_P E I L R Y I L R Y := cl_P_r hC
  show yi_G zi_Ms d zi_m312 (0, [(0, .inr (.inr (some p))), (1, .inl x)], [], (I, L, R, Y), 0, 0) _
  refine yi_G_run 1 (1, [(0, .inr (.inr (some p))), (1, .inl x)], [.inl x], (I, L, R, Y), 0, 0) (fun _ => rfl) ?_
  by_cases h1 : x < 0
  · refine yi_G_if1 true rfl (yi_lt_t h1) ?_
    refine yi_G_run 3 (25, [(2, .inr (.inr none)), (0, .inr (.inr (some p))), (1, .inl x)], [.inr (.inr none)], (I, L, R, Y), 0, 0) (fun _ => rfl) ?_
    refine cl_G_nnl true rfl rfl ?_
    refine yi_G_run 1 (29, [(2, .inr (.inr none)), (0, .inr (.inr (some p))), (1, .inl x)], [.inr (.inr (some p))], (I, L, R, Y), 0, 0) (fun _ => rfl) ?_
    obtain ⟨q2, e3, t4⟩ := cl_rf hP.1 tp (k := 1) rfl
    refine cl_G_gr rfl (cl_T_K tp) rfl rfl rfl e3 ?_
    refine yi_G_run 1 (36, [(2, .inr (.inr none)), (0, .inr (.inr (some p))), (1, .inl x)], [.inr (.inr (some q2))], (I, L, R, Y), 0, 0) (fun _ => rfl) ?_
    exact cl_G_reta rfl rfl rfl (⟨_, rfl, t4⟩)
  · refine yi_G_if1 false rfl (yi_lt_f h1) ?_
    refine yi_G_run 2 (6, [(0, .inr (.inr (some p))), (1, .inl x)], [.inr (.inr (some p)), .inl x], (I, L, R, Y), 0, 0) (fun _ => rfl) ?_
    obtain ⟨q5, e6, t7, n8⟩ := cl_rn hP.1 tp (k := 4) (m := 5) rfl
    refine cl_G_gr rfl (cl_T_K tp) rfl rfl rfl e6 ?_
    refine cl_G_len rfl t7 (by omega) ?_
    by_cases h9 : ((Y.2.1 q5 : Int)) ≤ x
    · refine yi_G_if2 true rfl (yi_ge_t h9) ?_
      refine yi_G_run 3 (25, [(2, .inr (.inr none)), (0, .inr (.inr (some p))), (1, .inl x)], [.inr (.inr none)], (I, L, R, Y), 0, 0) (fun _ => rfl) ?_
      refine cl_G_nnl true rfl rfl ?_
      refine yi_G_run 1 (29, [(2, .inr (.inr none)), (0, .inr (.inr (some p))), (1, .inl x)], [.inr (.inr (some p))], (I, L, R, Y), 0, 0) (fun _ => rfl) ?_
      obtain ⟨q10, e11, t12⟩ := cl_rf hP.1 tp (k := 1) rfl
      refine cl_G_gr rfl (cl_T_K tp) rfl rfl rfl e11 ?_
      refine yi_G_run 1 (36, [(2, .inr (.inr none)), (0, .inr (.inr (some p))), (1, .inl x)], [.inr (.inr (some q10))], (I, L, R, Y), 0, 0) (fun _ => rfl) ?_
      exact cl_G_reta rfl rfl rfl (⟨_, rfl, t12⟩)
    · refine yi_G_if2 false rfl (yi_ge_f h9) ?_
      refine yi_G_run 1 (14, [(0, .inr (.inr (some p))), (1, .inl x)], [.inr (.inr (some p))], (I, L, R, Y), 0, 0) (fun _ => rfl) ?_
      refine cl_G_gr rfl (cl_T_K tp) rfl rfl rfl e6 ?_
      refine yi_G_run 1 (18, [(0, .inr (.inr (some p))), (1, .inl x)], [.inl x, .inr (.inr (some q5))], (I, L, R, Y), 0, 0) (fun _ => rfl) ?_
      rcases cl_ro hP.1 t7 (k := x.toNat) rfl with e14 | ⟨q13, e14, t15⟩
      · refine cl_G_aald rfl t7 (by omega) (by omega) (by omega) e14 ?_
        refine yi_G_run 3 (25, [(2, .inr (.inr none)), (0, .inr (.inr (some p))), (1, .inl x)], [.inr (.inr none)], (I, L, R, Y), 0, 0) (fun _ => rfl) ?_
        refine cl_G_nnl true rfl rfl ?_
        refine yi_G_run 1 (29, [(2, .inr (.inr none)), (0, .inr (.inr (some p))), (1, .inl x)], [.inr (.inr (some p))], (I, L, R, Y), 0, 0) (fun _ => rfl) ?_
        obtain ⟨q16, e17, t18⟩ := cl_rf hP.1 tp (k := 1) rfl
        refine cl_G_gr rfl (cl_T_K tp) rfl rfl rfl e17 ?_
        refine yi_G_run 1 (36, [(2, .inr (.inr none)), (0, .inr (.inr (some p))), (1, .inl x)], [.inr (.inr (some q16))], (I, L, R, Y), 0, 0) (fun _ => rfl) ?_
        exact cl_G_reta rfl rfl rfl (⟨_, rfl, t18⟩)
      · refine cl_G_aald rfl t7 (by omega) (by omega) (by omega) e14 ?_
        refine yi_G_run 3 (25, [(2, .inr (.inr (some q13))), (0, .inr (.inr (some p))), (1, .inl x)], [.inr (.inr (some q13))], (I, L, R, Y), 0, 0) (fun _ => rfl) ?_
        refine cl_G_nnl false rfl rfl ?_
        refine yi_G_run 1 (36, [(2, .inr (.inr (some q13))), (0, .inr (.inr (some p))), (1, .inl x)], [.inr (.inr (some q13))], (I, L, R, Y), 0, 0) (fun _ => rfl) ?_
        exact cl_G_reta rfl rfl rfl (⟨_, rfl, t15⟩)
theorem k_wordCell (D : Nat) (hD : 2 ≤ D) {E : List Nat} {I L : cl_I} {R : cl_Rr} {Y : cl_Y} (hC : cl_C E I L R Y) {p : Nat} (tp : cl_T E Y p 4) {x : Int} {y : Int} {v : Int} {w : Int} : yi_E zi_Ms D 313 [.inr (.inr (some p)), .inl x, .inl y, .inl v, .inl w] (I, L, R, Y) (fun r => ∃ z, r = (some (.inr (.inl z)), (I, L, R, Y), 0, 0)) := by
  obtain ⟨d, rfl⟩ : ∃ d, D = d + 1 := ⟨D - 1, by omega⟩
  refine yi_E_of (M := zi_m313) rfl rfl ?_
  have hP : cl_P E I L R Y I L R Y := cl_P_r hC
  show yi_G zi_Ms d zi_m313 (0, [(0, .inr (.inr (some p))), (1, .inl x), (2, .inl y), (3, .inl v), (4, .inl w)], [], (I, L, R, Y), 0, 0) _
  refine yi_G_run 3 (3, [(0, .inr (.inr (some p))), (1, .inl x), (2, .inl y), (3, .inl v), (4, .inl w)], [.inl v, .inl y, .inl x], (I, L, R, Y), 0, 0) (fun _ => rfl) ?_
  refine yi_G_calls rfl rfl (k_wordNumber d (by omega) hP.1  ) ?_
  rintro _ ⟨z1, rfl⟩
  show yi_G zi_Ms d zi_m313 (6, [(0, .inr (.inr (some p))), (1, .inl x), (2, .inl y), (3, .inl v), (4, .inl w)], [.inl z1], (I, L, R, Y), 0, 0) _
  refine yi_G_run 2 (10, [(5, .inl z1), (0, .inr (.inr (some p))), (1, .inl x), (2, .inl y), (3, .inl v), (4, .inl w)], [.inl z1], (I, L, R, Y), 0, 0) (fun _ => rfl) ?_
  by_cases h2 : z1 < 0
  · refine yi_G_if1 true rfl (yi_lt_t h2) ?_
    refine yi_G_run 3 (38, [(6, .inr (.inr none)), (5, .inl z1), (0, .inr (.inr (some p))), (1, .inl x), (2, .inl y), (3, .inl v), (4, .inl w)], [.inr (.inr none)], (I, L, R, Y), 0, 0) (fun _ => rfl) ?_
    refine cl_G_nul true rfl rfl ?_
    refine yi_G_run 1 (69, [(6, .inr (.inr none)), (5, .inl z1), (0, .inr (.inr (some p))), (1, .inl x), (2, .inl y), (3, .inl v), (4, .inl w)], [.inr (.inl 0)], (I, L, R, Y), 0, 0) (fun _ => rfl) ?_
    exact yi_G_retl rfl rfl (⟨_, rfl⟩)
  · refine yi_G_if1 false rfl (yi_lt_f h2) ?_
    refine yi_G_run 2 (16, [(5, .inl z1), (0, .inr (.inr (some p))), (1, .inl x), (2, .inl y), (3, .inl v), (4, .inl w)], [.inr (.inr (some p)), .inl z1], (I, L, R, Y), 0, 0) (fun _ => rfl) ?_
    obtain ⟨q3, e4, t5, n6⟩ := cl_rn hP.1 tp (k := 3) (m := 95) rfl
    refine cl_G_gr rfl (cl_T_K tp) rfl rfl rfl e4 ?_
    refine cl_G_len rfl t5 (by omega) ?_
    by_cases h7 : ((Y.2.1 q3 : Int)) ≤ z1
    · refine yi_G_if2 true rfl (yi_ge_t h7) ?_
      refine yi_G_run 3 (38, [(6, .inr (.inr none)), (5, .inl z1), (0, .inr (.inr (some p))), (1, .inl x), (2, .inl y), (3, .inl v), (4, .inl w)], [.inr (.inr none)], (I, L, R, Y), 0, 0) (fun _ => rfl) ?_
      refine cl_G_nul true rfl rfl ?_
      refine yi_G_run 1 (69, [(6, .inr (.inr none)), (5, .inl z1), (0, .inr (.inr (some p))), (1, .inl x), (2, .inl y), (3, .inl v), (4, .inl w)], [.inr (.inl 0)], (I, L, R, Y), 0, 0) (fun _ => rfl) ?_
      exact yi_G_retl rfl rfl (⟨_, rfl⟩)
    · refine yi_G_if2 false rfl (yi_ge_f h7) ?_
      refine yi_G_run 1 (24, [(5, .inl z1), (0, .inr (.inr (some p))), (1, .inl x), (2, .inl y), (3, .inl v), (4, .inl w)], [.inr (.inr (some p))], (I, L, R, Y), 0, 0) (fun _ => rfl) ?_
      refine cl_G_gr rfl (cl_T_K tp) rfl rfl rfl e4 ?_
      refine yi_G_run 1 (29, [(5, .inl z1), (0, .inr (.inr (some p))), (1, .inl x), (2, .inl y), (3, .inl v), (4, .inl w)], [.inl z1, .inr (.inr (some q3))], (I, L, R, Y), 0, 0) (fun _ => rfl) ?_
      rcases cl_ro hP.1 t5 (k := z1.toNat) rfl with e9 | ⟨q8, e9, t10⟩
      · refine cl_G_aald rfl t5 (by omega) (by omega) (by omega) e9 ?_
        refine yi_G_run 3 (38, [(6, .inr (.inr none)), (5, .inl z1), (0, .inr (.inr (some p))), (1, .inl x), (2, .inl y), (3, .inl v), (4, .inl w)], [.inr (.inr none)], (I, L, R, Y), 0, 0) (fun _ => rfl) ?_
        refine cl_G_nul true rfl rfl ?_
        refine yi_G_run 1 (69, [(6, .inr (.inr none)), (5, .inl z1), (0, .inr (.inr (some p))), (1, .inl x), (2, .inl y), (3, .inl v), (4, .inl w)], [.inr (.inl 0)], (I, L, R, Y), 0, 0) (fun _ => rfl) ?_
        exact yi_G_retl rfl rfl (⟨_, rfl⟩)
      · refine cl_G_aald rfl t5 (by omega) (by omega) (by omega) e9 ?_
        refine yi_G_run 3 (38, [(6, .inr (.inr (some q8))), (5, .inl z1), (0, .inr (.inr (some p))), (1, .inl x), (2, .inl y), (3, .inl v), (4, .inl w)], [.inr (.inr (some q8))], (I, L, R, Y), 0, 0) (fun _ => rfl) ?_
        refine cl_G_nul false rfl rfl ?_
        refine yi_G_run 1 (43, [(6, .inr (.inr (some q8))), (5, .inl z1), (0, .inr (.inr (some p))), (1, .inl x), (2, .inl y), (3, .inl v), (4, .inl w)], [.inl w], (I, L, R, Y), 0, 0) (fun _ => rfl) ?_
        by_cases h11 : w < 0
        · refine yi_G_if1 true rfl (yi_lt_t h11) ?_
          refine yi_G_run 1 (69, [(6, .inr (.inr (some q8))), (5, .inl z1), (0, .inr (.inr (some p))), (1, .inl x), (2, .inl y), (3, .inl v), (4, .inl w)], [.inr (.inl 0)], (I, L, R, Y), 0, 0) (fun _ => rfl) ?_
          exact yi_G_retl rfl rfl (⟨_, rfl⟩)
        · refine yi_G_if1 false rfl (yi_lt_f h11) ?_
          refine yi_G_run 2 (50, [(6, .inr (.inr (some q8))), (5, .inl z1), (0, .inr (.inr (some p))), (1, .inl x), (2, .inl y), (3, .inl v), (4, .inl w)], [.inr (.inr (some q8)), .inl w], (I, L, R, Y), 0, 0) (fun _ => rfl) ?_
          obtain ⟨q12, e13, t14⟩ := cl_rf hP.1 t10 (k := 0) rfl
          have n15 := cl_nb hP.1 t14
          refine cl_G_gr rfl (cl_T_K t10) rfl rfl rfl e13 ?_
          refine cl_G_len rfl t14 (by omega) ?_
          by_cases h16 : ((Y.2.1 q12 : Int)) ≤ w
          · refine yi_G_if2 true rfl (yi_ge_t h16) ?_
            refine yi_G_run 1 (69, [(6, .inr (.inr (some q8))), (5, .inl z1), (0, .inr (.inr (some p))), (1, .inl x), (2, .inl y), (3, .inl v), (4, .inl w)], [.inr (.inl 0)], (I, L, R, Y), 0, 0) (fun _ => rfl) ?_
            exact yi_G_retl rfl rfl (⟨_, rfl⟩)
          · refine yi_G_if2 false rfl (yi_ge_f h16) ?_
            refine yi_G_run 1 (59, [(6, .inr (.inr (some q8))), (5, .inl z1), (0, .inr (.inr (some p))), (1, .inl x), (2, .inl y), (3, .inl v), (4, .inl w)], [.inr (.inr (some q8))], (I, L, R, Y), 0, 0) (fun _ => rfl) ?_
            refine cl_G_gr rfl (cl_T_K t10) rfl rfl rfl e13 ?_
            refine yi_G_run 1 (64, [(6, .inr (.inr (some q8))), (5, .inl z1), (0, .inr (.inr (some p))), (1, .inl x), (2, .inl y), (3, .inl v), (4, .inl w)], [.inl w, .inr (.inr (some q12))], (I, L, R, Y), 0, 0) (fun _ => rfl) ?_
            refine cl_G_lald rfl t14 (by omega) (by omega) ?_
            refine yi_G_run 1 (69, [(6, .inr (.inr (some q8))), (5, .inl z1), (0, .inr (.inr (some p))), (1, .inl x), (2, .inl y), (3, .inl v), (4, .inl w)], [.inr (.inl (L q12 (w.toNat)))], (I, L, R, Y), 0, 0) (fun _ => rfl) ?_
            exact yi_G_retl rfl rfl (⟨_, rfl⟩)
theorem k_pairCell (D : Nat) (hD : 3 ≤ D) {E : List Nat} {I L : cl_I} {R : cl_Rr} {Y : cl_Y} (hC : cl_C E I L R Y) {p : Nat} (tp : cl_T E Y p 4) {x : Int} {w : Int} : yi_E zi_Ms D 308 [.inr (.inr (some p)), .inl x, .inl w] (I, L, R, Y) (fun r => ∃ z, r = (some (.inr (.inl z)), (I, L, R, Y), 0, 0)) := by
  obtain ⟨d, rfl⟩ : ∃ d, D = d + 1 := ⟨D - 1, by omega⟩
  refine yi_E_of (M := zi_m308) rfl rfl ?_
  have hP : cl_P E I L R Y I L R Y := cl_P_r hC
  show yi_G zi_Ms d zi_m308 (0, [(0, .inr (.inr (some p))), (1, .inl x), (2, .inl w)], [], (I, L, R, Y), 0, 0) _
  refine yi_G_run 14 (19, [(4, .inl (yi_iand (yi_shr x 8) 15)), (3, .inl (yi_iand (yi_shr x 4) 15)), (0, .inr (.inr (some p))), (1, .inl x), (2, .inl w)], [.inl 12, .inl x], (I, L, R, Y), 0, 0) (fun _ => rfl) ?_
  refine yi_G_run 8 (31, [(5, .inl (yi_iand (yi_shr x 12) 15)), (4, .inl (yi_iand (yi_shr x 8) 15)), (3, .inl (yi_iand (yi_shr x 4) 15)), (0, .inr (.inr (some p))), (1, .inl x), (2, .inl w)], [.inl 7, .inl (yi_iand x 15)], (I, L, R, Y), 0, 0) (fun _ => rfl) ?_
  by_cases h1 : (yi_iand x 15) = 7
  · refine yi_G_if2 false rfl (yi_ne_f h1) ?_
    refine yi_G_run 9 (50, [(11, .inl 1), (9, .inr (.inl 0)), (7, .inr (.inl 0)), (6, .inl 1), (5, .inl (yi_iand (yi_shr x 12) 15)), (4, .inl (yi_iand (yi_shr x 8) 15)), (3, .inl (yi_iand (yi_shr x 4) 15)), (0, .inr (.inr (some p))), (1, .inl x), (2, .inl w)], [], (I, L, R, Y), 0, 0) (fun _ => rfl) ?_
    have pt50 : ∀ (m_ : Nat) (j : Int) (y : Int) (v : Int), (1 ≤ j ∧ j ≤ 7) → (7 - j).toNat = m_ → yi_G zi_Ms d zi_m308 (50, [(11, .inl j), (9, .inr (.inl v)), (7, .inr (.inl y)), (6, .inl 1), (5, .inl (yi_iand (yi_shr x 12) 15)), (4, .inl (yi_iand (yi_shr x 8) 15)), (3, .inl (yi_iand (yi_shr x 4) 15)), (0, .inr (.inr (some p))), (1, .inl x), (2, .inl w)], [], (I, L, R, Y), 0, 0) (fun r => ∃ z, r = (some (.inr (.inl z)), (I, L, R, Y), 0, 0)) := by
      intro m50
      induction m50 using Nat.strongRecOn with
      | _ m50 ih50 =>
      intro j y v j0 hm50
      refine yi_G_run 2 (53, [(11, .inl j), (9, .inr (.inl v)), (7, .inr (.inl y)), (6, .inl 1), (5, .inl (yi_iand (yi_shr x 12) 15)), (4, .inl (yi_iand (yi_shr x 8) 15)), (3, .inl (yi_iand (yi_shr x 4) 15)), (0, .inr (.inr (some p))), (1, .inl x), (2, .inl w)], [.inr (.inr (some p)), .inl j], (I, L, R, Y), 0, 0) (fun _ => rfl) ?_
      have b2 := cl_rd hP.1 tp (k := 7) (lo := 1) (hi := 6) rfl
      refine cl_G_gi rfl (cl_T_K tp) rfl rfl rfl ?_
      by_cases h3 : (I p 7) < j
      · refine yi_G_if2 true rfl (yi_gt_t h3) ?_
        refine yi_G_run 1 (123, [(11, .inl j), (9, .inr (.inl v)), (7, .inr (.inl y)), (6, .inl 1), (5, .inl (yi_iand (yi_shr x 12) 15)), (4, .inl (yi_iand (yi_shr x 8) 15)), (3, .inl (yi_iand (yi_shr x 4) 15)), (0, .inr (.inr (some p))), (1, .inl x), (2, .inl w)], [.inr (.inl y)], (I, L, R, Y), 0, 0) (fun _ => rfl) ?_
        exact yi_G_retl rfl rfl (⟨_, rfl⟩)
      · refine yi_G_if2 false rfl (yi_gt_f h3) ?_
        refine yi_G_run 5 (66, [(11, .inl j), (9, .inr (.inl v)), (7, .inr (.inl y)), (6, .inl 1), (5, .inl (yi_iand (yi_shr x 12) 15)), (4, .inl (yi_iand (yi_shr x 8) 15)), (3, .inl (yi_iand (yi_shr x 4) 15)), (0, .inr (.inr (some p))), (1, .inl x), (2, .inl w)], [.inl w, .inl (yi_iand (yi_shr x 8) 15), .inl j, .inl (yi_iand (yi_shr x 4) 15), .inr (.inr (some p))], (I, L, R, Y), 0, 0) (fun _ => rfl) ?_
        refine yi_G_callv rfl rfl (cl_rcv tp rfl) rfl (k_wordCell d (by omega) hP.1 tp ) ?_
        rintro _ ⟨z4, rfl⟩
        show yi_G zi_Ms d zi_m308 (69, [(11, .inl j), (9, .inr (.inl v)), (7, .inr (.inl y)), (6, .inl 1), (5, .inl (yi_iand (yi_shr x 12) 15)), (4, .inl (yi_iand (yi_shr x 8) 15)), (3, .inl (yi_iand (yi_shr x 4) 15)), (0, .inr (.inr (some p))), (1, .inl x), (2, .inl w)], [.inr (.inl z4)], (I, L, R, Y), 0, 0) _
        refine yi_G_run 6 (79, [(12, .inr (.inl z4)), (11, .inl j), (9, .inr (.inl v)), (7, .inr (.inl y)), (6, .inl 1), (5, .inl (yi_iand (yi_shr x 12) 15)), (4, .inl (yi_iand (yi_shr x 8) 15)), (3, .inl (yi_iand (yi_shr x 4) 15)), (0, .inr (.inr (some p))), (1, .inl x), (2, .inl w)], [.inl w, .inl (yi_iand (yi_shr x 8) 15), .inl j, .inl (yi_iand (yi_shr x 12) 15), .inr (.inr (some p))], (I, L, R, Y), 0, 0) (fun _ => rfl) ?_
        refine yi_G_callv rfl rfl (cl_rcv tp rfl) rfl (k_wordCell d (by omega) hP.1 tp ) ?_
        rintro _ ⟨z5, rfl⟩
        show yi_G zi_Ms d zi_m308 (82, [(12, .inr (.inl z4)), (11, .inl j), (9, .inr (.inl v)), (7, .inr (.inl y)), (6, .inl 1), (5, .inl (yi_iand (yi_shr x 12) 15)), (4, .inl (yi_iand (yi_shr x 8) 15)), (3, .inl (yi_iand (yi_shr x 4) 15)), (0, .inr (.inr (some p))), (1, .inl x), (2, .inl w)], [.inr (.inl z5)], (I, L, R, Y), 0, 0) _
        refine yi_G_run 8 (97, [(9, .inr (.inl (yi_lor v z5))), (14, .inr (.inl z5)), (12, .inr (.inl z4)), (11, .inl j), (7, .inr (.inl y)), (6, .inl 1), (5, .inl (yi_iand (yi_shr x 12) 15)), (4, .inl (yi_iand (yi_shr x 8) 15)), (3, .inl (yi_iand (yi_shr x 4) 15)), (0, .inr (.inr (some p))), (1, .inl x), (2, .inl w)], [.inl 1, .inr (.inl z4), .inr (.inl y)], (I, L, R, Y), 0, 0) (fun _ => rfl) ?_
        refine yi_G_if1 false rfl (by decide) ?_
        refine yi_G_run 1 (102, [(9, .inr (.inl (yi_lor v z5))), (14, .inr (.inl z5)), (12, .inr (.inl z4)), (11, .inl j), (7, .inr (.inl y)), (6, .inl 1), (5, .inl (yi_iand (yi_shr x 12) 15)), (4, .inl (yi_iand (yi_shr x 8) 15)), (3, .inl (yi_iand (yi_shr x 4) 15)), (0, .inr (.inr (some p))), (1, .inl x), (2, .inl w)], [.inr (.inl (yi_lor v z5)), .inr (.inl z4), .inr (.inl y)], (I, L, R, Y), 0, 0) (fun _ => rfl) ?_
        refine yi_G_ldc2 ((-1)) rfl (by decide +kernel) ?_
        refine yi_G_run 5 (115, [(7, .inr (.inl (yi_lor y (yi_land z4 (yi_lxor (yi_lor v z5) (-1)))))), (9, .inr (.inl (yi_lor v z5))), (14, .inr (.inl z5)), (12, .inr (.inl z4)), (11, .inl j), (6, .inl 1), (5, .inl (yi_iand (yi_shr x 12) 15)), (4, .inl (yi_iand (yi_shr x 8) 15)), (3, .inl (yi_iand (yi_shr x 4) 15)), (0, .inr (.inr (some p))), (1, .inl x), (2, .inl w)], [], (I, L, R, Y), 0, 0) (fun _ => rfl) ?_
        refine yi_G_iinc [(11, .inl (j + 1)), (7, .inr (.inl (yi_lor y (yi_land z4 (yi_lxor (yi_lor v z5) (-1)))))), (9, .inr (.inl (yi_lor v z5))), (14, .inr (.inl z5)), (12, .inr (.inl z4)), (6, .inl 1), (5, .inl (yi_iand (yi_shr x 12) 15)), (4, .inl (yi_iand (yi_shr x 8) 15)), (3, .inl (yi_iand (yi_shr x 4) 15)), (0, .inr (.inr (some p))), (1, .inl x), (2, .inl w)] rfl rfl rfl (by rw [show yi_w (j + 1) = j + 1 from (yi_wn (by omega) (by omega)).trans (by omega)]; rfl) ?_
        refine yi_G_run 1 (50, [(11, .inl (j + 1)), (7, .inr (.inl (yi_lor y (yi_land z4 (yi_lxor (yi_lor v z5) (-1)))))), (9, .inr (.inl (yi_lor v z5))), (14, .inr (.inl z5)), (12, .inr (.inl z4)), (6, .inl 1), (5, .inl (yi_iand (yi_shr x 12) 15)), (4, .inl (yi_iand (yi_shr x 8) 15)), (3, .inl (yi_iand (yi_shr x 4) 15)), (0, .inr (.inr (some p))), (1, .inl x), (2, .inl w)], [], (I, L, R, Y), 0, 0) (fun _ => rfl) ?_
        refine yi_G_al (al := [(11, .inl (j + 1)), (9, .inr (.inl (yi_lor v z5))), (7, .inr (.inl (yi_lor y (yi_land z4 (yi_lxor (yi_lor v z5) (-1)))))), (6, .inl 1), (5, .inl (yi_iand (yi_shr x 12) 15)), (4, .inl (yi_iand (yi_shr x 8) 15)), (3, .inl (yi_iand (yi_shr x 4) 15)), (0, .inr (.inr (some p))), (1, .inl x), (2, .inl w)]) (show ([11, 9, 7, 6, 5, 4, 3, 0, 1, 2] : List Nat).Nodup by decide) (show ([11, 7, 9, 14, 12, 6, 5, 4, 3, 0, 1, 2] : List Nat).Nodup by decide) (yi_mc (List.mem_of_getElem? (i := 0) rfl) (yi_mc (List.mem_of_getElem? (i := 2) rfl) (yi_mc (List.mem_of_getElem? (i := 1) rfl) (yi_mc (List.mem_of_getElem? (i := 5) rfl) (yi_mc (List.mem_of_getElem? (i := 6) rfl) (yi_mc (List.mem_of_getElem? (i := 7) rfl) (yi_mc (List.mem_of_getElem? (i := 8) rfl) (yi_mc (List.mem_of_getElem? (i := 9) rfl) (yi_mc (List.mem_of_getElem? (i := 10) rfl) (yi_mc (List.mem_of_getElem? (i := 11) rfl) yi_mn)))))))))) ?_
        exact ih50 _ (by omega) (j + 1) (yi_lor y (yi_land z4 (yi_lxor (yi_lor v z5) (-1)))) (yi_lor v z5) (by omega) rfl
    exact pt50 _ 1 0 0 (by omega) rfl
  · refine yi_G_if2 true rfl (yi_ne_t h1) ?_
    refine yi_G_run 8 (50, [(11, .inl 1), (9, .inr (.inl 0)), (7, .inr (.inl 0)), (6, .inl 0), (5, .inl (yi_iand (yi_shr x 12) 15)), (4, .inl (yi_iand (yi_shr x 8) 15)), (3, .inl (yi_iand (yi_shr x 4) 15)), (0, .inr (.inr (some p))), (1, .inl x), (2, .inl w)], [], (I, L, R, Y), 0, 0) (fun _ => rfl) ?_
    have pt50 : ∀ (m_ : Nat) (j : Int) (y : Int) (v : Int), (1 ≤ j ∧ j ≤ 7) → (7 - j).toNat = m_ → yi_G zi_Ms d zi_m308 (50, [(11, .inl j), (9, .inr (.inl v)), (7, .inr (.inl y)), (6, .inl 0), (5, .inl (yi_iand (yi_shr x 12) 15)), (4, .inl (yi_iand (yi_shr x 8) 15)), (3, .inl (yi_iand (yi_shr x 4) 15)), (0, .inr (.inr (some p))), (1, .inl x), (2, .inl w)], [], (I, L, R, Y), 0, 0) (fun r => ∃ z, r = (some (.inr (.inl z)), (I, L, R, Y), 0, 0)) := by
      intro m50
      induction m50 using Nat.strongRecOn with
      | _ m50 ih50 =>
      intro j y v j0 hm50
      refine yi_G_run 2 (53, [(11, .inl j), (9, .inr (.inl v)), (7, .inr (.inl y)), (6, .inl 0), (5, .inl (yi_iand (yi_shr x 12) 15)), (4, .inl (yi_iand (yi_shr x 8) 15)), (3, .inl (yi_iand (yi_shr x 4) 15)), (0, .inr (.inr (some p))), (1, .inl x), (2, .inl w)], [.inr (.inr (some p)), .inl j], (I, L, R, Y), 0, 0) (fun _ => rfl) ?_
      have b6 := cl_rd hP.1 tp (k := 7) (lo := 1) (hi := 6) rfl
      refine cl_G_gi rfl (cl_T_K tp) rfl rfl rfl ?_
      by_cases h7 : (I p 7) < j
      · refine yi_G_if2 true rfl (yi_gt_t h7) ?_
        refine yi_G_run 1 (123, [(11, .inl j), (9, .inr (.inl v)), (7, .inr (.inl y)), (6, .inl 0), (5, .inl (yi_iand (yi_shr x 12) 15)), (4, .inl (yi_iand (yi_shr x 8) 15)), (3, .inl (yi_iand (yi_shr x 4) 15)), (0, .inr (.inr (some p))), (1, .inl x), (2, .inl w)], [.inr (.inl y)], (I, L, R, Y), 0, 0) (fun _ => rfl) ?_
        exact yi_G_retl rfl rfl (⟨_, rfl⟩)
      · refine yi_G_if2 false rfl (yi_gt_f h7) ?_
        refine yi_G_run 5 (66, [(11, .inl j), (9, .inr (.inl v)), (7, .inr (.inl y)), (6, .inl 0), (5, .inl (yi_iand (yi_shr x 12) 15)), (4, .inl (yi_iand (yi_shr x 8) 15)), (3, .inl (yi_iand (yi_shr x 4) 15)), (0, .inr (.inr (some p))), (1, .inl x), (2, .inl w)], [.inl w, .inl (yi_iand (yi_shr x 8) 15), .inl j, .inl (yi_iand (yi_shr x 4) 15), .inr (.inr (some p))], (I, L, R, Y), 0, 0) (fun _ => rfl) ?_
        refine yi_G_callv rfl rfl (cl_rcv tp rfl) rfl (k_wordCell d (by omega) hP.1 tp ) ?_
        rintro _ ⟨z8, rfl⟩
        show yi_G zi_Ms d zi_m308 (69, [(11, .inl j), (9, .inr (.inl v)), (7, .inr (.inl y)), (6, .inl 0), (5, .inl (yi_iand (yi_shr x 12) 15)), (4, .inl (yi_iand (yi_shr x 8) 15)), (3, .inl (yi_iand (yi_shr x 4) 15)), (0, .inr (.inr (some p))), (1, .inl x), (2, .inl w)], [.inr (.inl z8)], (I, L, R, Y), 0, 0) _
        refine yi_G_run 6 (79, [(12, .inr (.inl z8)), (11, .inl j), (9, .inr (.inl v)), (7, .inr (.inl y)), (6, .inl 0), (5, .inl (yi_iand (yi_shr x 12) 15)), (4, .inl (yi_iand (yi_shr x 8) 15)), (3, .inl (yi_iand (yi_shr x 4) 15)), (0, .inr (.inr (some p))), (1, .inl x), (2, .inl w)], [.inl w, .inl (yi_iand (yi_shr x 8) 15), .inl j, .inl (yi_iand (yi_shr x 12) 15), .inr (.inr (some p))], (I, L, R, Y), 0, 0) (fun _ => rfl) ?_
        refine yi_G_callv rfl rfl (cl_rcv tp rfl) rfl (k_wordCell d (by omega) hP.1 tp ) ?_
        rintro _ ⟨z9, rfl⟩
        show yi_G zi_Ms d zi_m308 (82, [(12, .inr (.inl z8)), (11, .inl j), (9, .inr (.inl v)), (7, .inr (.inl y)), (6, .inl 0), (5, .inl (yi_iand (yi_shr x 12) 15)), (4, .inl (yi_iand (yi_shr x 8) 15)), (3, .inl (yi_iand (yi_shr x 4) 15)), (0, .inr (.inr (some p))), (1, .inl x), (2, .inl w)], [.inr (.inl z9)], (I, L, R, Y), 0, 0) _
        refine yi_G_run 8 (97, [(9, .inr (.inl (yi_lor v z9))), (14, .inr (.inl z9)), (12, .inr (.inl z8)), (11, .inl j), (7, .inr (.inl y)), (6, .inl 0), (5, .inl (yi_iand (yi_shr x 12) 15)), (4, .inl (yi_iand (yi_shr x 8) 15)), (3, .inl (yi_iand (yi_shr x 4) 15)), (0, .inr (.inr (some p))), (1, .inl x), (2, .inl w)], [.inl 0, .inr (.inl z8), .inr (.inl y)], (I, L, R, Y), 0, 0) (fun _ => rfl) ?_
        refine yi_G_if1 true rfl (by decide) ?_
        refine yi_G_run 4 (115, [(7, .inr (.inl (yi_lor y (yi_land z8 z9)))), (9, .inr (.inl (yi_lor v z9))), (14, .inr (.inl z9)), (12, .inr (.inl z8)), (11, .inl j), (6, .inl 0), (5, .inl (yi_iand (yi_shr x 12) 15)), (4, .inl (yi_iand (yi_shr x 8) 15)), (3, .inl (yi_iand (yi_shr x 4) 15)), (0, .inr (.inr (some p))), (1, .inl x), (2, .inl w)], [], (I, L, R, Y), 0, 0) (fun _ => rfl) ?_
        refine yi_G_iinc [(11, .inl (j + 1)), (7, .inr (.inl (yi_lor y (yi_land z8 z9)))), (9, .inr (.inl (yi_lor v z9))), (14, .inr (.inl z9)), (12, .inr (.inl z8)), (6, .inl 0), (5, .inl (yi_iand (yi_shr x 12) 15)), (4, .inl (yi_iand (yi_shr x 8) 15)), (3, .inl (yi_iand (yi_shr x 4) 15)), (0, .inr (.inr (some p))), (1, .inl x), (2, .inl w)] rfl rfl rfl (by rw [show yi_w (j + 1) = j + 1 from (yi_wn (by omega) (by omega)).trans (by omega)]; rfl) ?_
        refine yi_G_run 1 (50, [(11, .inl (j + 1)), (7, .inr (.inl (yi_lor y (yi_land z8 z9)))), (9, .inr (.inl (yi_lor v z9))), (14, .inr (.inl z9)), (12, .inr (.inl z8)), (6, .inl 0), (5, .inl (yi_iand (yi_shr x 12) 15)), (4, .inl (yi_iand (yi_shr x 8) 15)), (3, .inl (yi_iand (yi_shr x 4) 15)), (0, .inr (.inr (some p))), (1, .inl x), (2, .inl w)], [], (I, L, R, Y), 0, 0) (fun _ => rfl) ?_
        refine yi_G_al (al := [(11, .inl (j + 1)), (9, .inr (.inl (yi_lor v z9))), (7, .inr (.inl (yi_lor y (yi_land z8 z9)))), (6, .inl 0), (5, .inl (yi_iand (yi_shr x 12) 15)), (4, .inl (yi_iand (yi_shr x 8) 15)), (3, .inl (yi_iand (yi_shr x 4) 15)), (0, .inr (.inr (some p))), (1, .inl x), (2, .inl w)]) (show ([11, 9, 7, 6, 5, 4, 3, 0, 1, 2] : List Nat).Nodup by decide) (show ([11, 7, 9, 14, 12, 6, 5, 4, 3, 0, 1, 2] : List Nat).Nodup by decide) (yi_mc (List.mem_of_getElem? (i := 0) rfl) (yi_mc (List.mem_of_getElem? (i := 2) rfl) (yi_mc (List.mem_of_getElem? (i := 1) rfl) (yi_mc (List.mem_of_getElem? (i := 5) rfl) (yi_mc (List.mem_of_getElem? (i := 6) rfl) (yi_mc (List.mem_of_getElem? (i := 7) rfl) (yi_mc (List.mem_of_getElem? (i := 8) rfl) (yi_mc (List.mem_of_getElem? (i := 9) rfl) (yi_mc (List.mem_of_getElem? (i := 10) rfl) (yi_mc (List.mem_of_getElem? (i := 11) rfl) yi_mn)))))))))) ?_
        exact ih50 _ (by omega) (j + 1) (yi_lor y (yi_land z8 z9)) (yi_lor v z9) (by omega) rfl
    exact pt50 _ 1 0 0 (by omega) rfl
theorem k_duringCell (D : Nat) (hD : 3 ≤ D) {E : List Nat} {I L : cl_I} {R : cl_Rr} {Y : cl_Y} (hC : cl_C E I L R Y) {p : Nat} (tp : cl_T E Y p 4) {x : Int} {y : Int} {w : Int} : yi_E zi_Ms D 306 [.inr (.inr (some p)), .inl x, .inl y, .inl w] (I, L, R, Y) (fun r => ∃ z, r = (some (.inr (.inl z)), (I, L, R, Y), 0, 0)) := by
  obtain ⟨d, rfl⟩ : ∃ d, D = d + 1 := ⟨D - 1, by omega⟩
  refine yi_E_of (M := zi_m306) rfl rfl ?_
  have hP : cl_P E I L R Y I L R Y := cl_P_r hC
  have an8 := cl_and15 (yi_shr x 8)
  have an12 := cl_and15 (yi_shr x 12)
  have an16 := cl_and15 (yi_shr x 16)
  show yi_G zi_Ms d zi_m306 (0, [(0, .inr (.inr (some p))), (1, .inl x), (2, .inl y), (3, .inl w)], [], (I, L, R, Y), 0, 0) _
  refine yi_G_run 14 (21, [(5, .inl (yi_iand (yi_shr x 12) 15)), (4, .inl (yi_iand (yi_shr x 8) 15)), (0, .inr (.inr (some p))), (1, .inl x), (2, .inl y), (3, .inl w)], [.inl 16, .inl x], (I, L, R, Y), 0, 0) (fun _ => rfl) ?_
  refine yi_G_run 8 (34, [(9, .inl (yi_iand (yi_shr x 12) 15)), (7, .inr (.inl 0)), (6, .inl (yi_iand (yi_shr x 16) 15)), (5, .inl (yi_iand (yi_shr x 12) 15)), (4, .inl (yi_iand (yi_shr x 8) 15)), (0, .inr (.inr (some p))), (1, .inl x), (2, .inl y), (3, .inl w)], [], (I, L, R, Y), 0, 0) (fun _ => rfl) ?_
  have pt34 : ∀ (m_ : Nat) (j : Int) (v : Int), (0 ≤ j ∧ j ≤ 16) → (16 - j).toNat = m_ → yi_G zi_Ms d zi_m306 (34, [(9, .inl j), (7, .inr (.inl v)), (6, .inl (yi_iand (yi_shr x 16) 15)), (5, .inl (yi_iand (yi_shr x 12) 15)), (4, .inl (yi_iand (yi_shr x 8) 15)), (0, .inr (.inr (some p))), (1, .inl x), (2, .inl y), (3, .inl w)], [], (I, L, R, Y), 0, 0) (fun r => ∃ z, r = (some (.inr (.inl z)), (I, L, R, Y), 0, 0)) := by
    intro m34
    induction m34 using Nat.strongRecOn with
    | _ m34 ih34 =>
    intro j v j0 hm34
    refine yi_G_run 2 (38, [(9, .inl j), (7, .inr (.inl v)), (6, .inl (yi_iand (yi_shr x 16) 15)), (5, .inl (yi_iand (yi_shr x 12) 15)), (4, .inl (yi_iand (yi_shr x 8) 15)), (0, .inr (.inr (some p))), (1, .inl x), (2, .inl y), (3, .inl w)], [.inl (yi_iand (yi_shr x 16) 15), .inl j], (I, L, R, Y), 0, 0) (fun _ => rfl) ?_
    by_cases h1 : (yi_iand (yi_shr x 16) 15) < j
    · refine yi_G_if2 true rfl (yi_gt_t h1) ?_
      refine yi_G_run 1 (64, [(9, .inl j), (7, .inr (.inl v)), (6, .inl (yi_iand (yi_shr x 16) 15)), (5, .inl (yi_iand (yi_shr x 12) 15)), (4, .inl (yi_iand (yi_shr x 8) 15)), (0, .inr (.inr (some p))), (1, .inl x), (2, .inl y), (3, .inl w)], [.inr (.inl v)], (I, L, R, Y), 0, 0) (fun _ => rfl) ?_
      exact yi_G_retl rfl rfl (⟨_, rfl⟩)
    · refine yi_G_if2 false rfl (yi_gt_f h1) ?_
      refine yi_G_run 6 (50, [(9, .inl j), (7, .inr (.inl v)), (6, .inl (yi_iand (yi_shr x 16) 15)), (5, .inl (yi_iand (yi_shr x 12) 15)), (4, .inl (yi_iand (yi_shr x 8) 15)), (0, .inr (.inr (some p))), (1, .inl x), (2, .inl y), (3, .inl w)], [.inl w, .inl (yi_iand (yi_shr x 8) 15), .inl j, .inl y, .inr (.inr (some p)), .inr (.inl v)], (I, L, R, Y), 0, 0) (fun _ => rfl) ?_
      refine yi_G_callv rfl rfl (cl_rcv tp rfl) rfl (k_wordCell d (by omega) hP.1 tp ) ?_
      rintro _ ⟨z2, rfl⟩
      show yi_G zi_Ms d zi_m306 (53, [(9, .inl j), (7, .inr (.inl v)), (6, .inl (yi_iand (yi_shr x 16) 15)), (5, .inl (yi_iand (yi_shr x 12) 15)), (4, .inl (yi_iand (yi_shr x 8) 15)), (0, .inr (.inr (some p))), (1, .inl x), (2, .inl y), (3, .inl w)], [.inr (.inl z2), .inr (.inl v)], (I, L, R, Y), 0, 0) _
      refine yi_G_run 2 (56, [(7, .inr (.inl (yi_lor v z2))), (9, .inl j), (6, .inl (yi_iand (yi_shr x 16) 15)), (5, .inl (yi_iand (yi_shr x 12) 15)), (4, .inl (yi_iand (yi_shr x 8) 15)), (0, .inr (.inr (some p))), (1, .inl x), (2, .inl y), (3, .inl w)], [], (I, L, R, Y), 0, 0) (fun _ => rfl) ?_
      refine yi_G_iinc [(9, .inl (j + 1)), (7, .inr (.inl (yi_lor v z2))), (6, .inl (yi_iand (yi_shr x 16) 15)), (5, .inl (yi_iand (yi_shr x 12) 15)), (4, .inl (yi_iand (yi_shr x 8) 15)), (0, .inr (.inr (some p))), (1, .inl x), (2, .inl y), (3, .inl w)] rfl rfl rfl (by rw [show yi_w (j + 1) = j + 1 from (yi_wn (by omega) (by omega)).trans (by omega)]; rfl) ?_
      refine yi_G_run 1 (34, [(9, .inl (j + 1)), (7, .inr (.inl (yi_lor v z2))), (6, .inl (yi_iand (yi_shr x 16) 15)), (5, .inl (yi_iand (yi_shr x 12) 15)), (4, .inl (yi_iand (yi_shr x 8) 15)), (0, .inr (.inr (some p))), (1, .inl x), (2, .inl y), (3, .inl w)], [], (I, L, R, Y), 0, 0) (fun _ => rfl) ?_
      exact ih34 _ (by omega) (j + 1) (yi_lor v z2) (by omega) rfl
  exact pt34 _ (yi_iand (yi_shr x 12) 15) 0 (by omega) rfl
theorem k_timesCell (D : Nat) (hD : 3 ≤ D) {E : List Nat} {I L : cl_I} {R : cl_Rr} {Y : cl_Y} (hC : cl_C E I L R Y) {p : Nat} (tp : cl_T E Y p 4) {x : Int} {y : Int} {w : Int} : yi_E zi_Ms D 311 [.inr (.inr (some p)), .inl x, .inl y, .inl w] (I, L, R, Y) (fun r => ∃ z, r = (some (.inr (.inl z)), (I, L, R, Y), 0, 0)) := by
  obtain ⟨d, rfl⟩ : ∃ d, D = d + 1 := ⟨D - 1, by omega⟩
  refine yi_E_of (M := zi_m311) rfl rfl ?_
  have hP : cl_P E I L R Y I L R Y := cl_P_r hC
  have an8 := cl_and15 (yi_shr x 8)
  have an12 := cl_and15 (yi_shr x 12)
  have an16 := cl_and15 (yi_shr x 16)
  show yi_G zi_Ms d zi_m311 (0, [(0, .inr (.inr (some p))), (1, .inl x), (2, .inl y), (3, .inl w)], [], (I, L, R, Y), 0, 0) _
  refine yi_G_run 8 (12, [(10, .inl 1), (8, .inr (.inl 0)), (6, .inr (.inl 0)), (4, .inr (.inl 0)), (0, .inr (.inr (some p))), (1, .inl x), (2, .inl y), (3, .inl w)], [], (I, L, R, Y), 0, 0) (fun _ => rfl) ?_
  have pt12 : ∀ (m_ : Nat) (j : Int) (a : Int) (b : Int) (c : Int), (1 ≤ j ∧ j ≤ 7) → (7 - j).toNat = m_ → yi_G zi_Ms d zi_m311 (12, [(10, .inl j), (8, .inr (.inl c)), (6, .inr (.inl b)), (4, .inr (.inl a)), (0, .inr (.inr (some p))), (1, .inl x), (2, .inl y), (3, .inl w)], [], (I, L, R, Y), 0, 0) (fun r => ∃ z, r = (some (.inr (.inl z)), (I, L, R, Y), 0, 0)) := by
    intro m12
    induction m12 using Nat.strongRecOn with
    | _ m12 ih12 =>
    intro j a b c j0 hm12
    refine yi_G_run 2 (15, [(10, .inl j), (8, .inr (.inl c)), (6, .inr (.inl b)), (4, .inr (.inl a)), (0, .inr (.inr (some p))), (1, .inl x), (2, .inl y), (3, .inl w)], [.inr (.inr (some p)), .inl j], (I, L, R, Y), 0, 0) (fun _ => rfl) ?_
    have b1 := cl_rd hP.1 tp (k := 7) (lo := 1) (hi := 6) rfl
    refine cl_G_gi rfl (cl_T_K tp) rfl rfl rfl ?_
    by_cases h2 : (I p 7) < j
    · refine yi_G_if2 true rfl (yi_gt_t h2) ?_
      refine yi_G_run 14 (96, [(13, .inl (yi_iand (yi_shr x 12) 15)), (11, .inr (.inl 0)), (10, .inl (yi_iand (yi_shr x 16) 15)), (8, .inr (.inl c)), (6, .inr (.inl b)), (4, .inr (.inl a)), (0, .inr (.inr (some p))), (1, .inl x), (2, .inl y), (3, .inl w)], [], (I, L, R, Y), 0, 0) (fun _ => rfl) ?_
      have pt96 : ∀ (m_ : Nat) (i : Int) (v : Int), (0 ≤ i ∧ i ≤ 16) → (16 - i).toNat = m_ → yi_G zi_Ms d zi_m311 (96, [(13, .inl i), (11, .inr (.inl v)), (10, .inl (yi_iand (yi_shr x 16) 15)), (8, .inr (.inl c)), (6, .inr (.inl b)), (4, .inr (.inl a)), (0, .inr (.inr (some p))), (1, .inl x), (2, .inl y), (3, .inl w)], [], (I, L, R, Y), 0, 0) (fun r => ∃ z, r = (some (.inr (.inl z)), (I, L, R, Y), 0, 0)) := by
        intro m96
        induction m96 using Nat.strongRecOn with
        | _ m96 ih96 =>
        intro i v i0 hm96
        refine yi_G_run 2 (100, [(13, .inl i), (11, .inr (.inl v)), (10, .inl (yi_iand (yi_shr x 16) 15)), (8, .inr (.inl c)), (6, .inr (.inl b)), (4, .inr (.inl a)), (0, .inr (.inr (some p))), (1, .inl x), (2, .inl y), (3, .inl w)], [.inl (yi_iand (yi_shr x 16) 15), .inl i], (I, L, R, Y), 0, 0) (fun _ => rfl) ?_
        by_cases h3 : (yi_iand (yi_shr x 16) 15) < i
        · refine yi_G_if2 true rfl (yi_gt_t h3) ?_
          refine yi_G_run 1 (184, [(13, .inl i), (11, .inr (.inl v)), (10, .inl (yi_iand (yi_shr x 16) 15)), (8, .inr (.inl c)), (6, .inr (.inl b)), (4, .inr (.inl a)), (0, .inr (.inr (some p))), (1, .inl x), (2, .inl y), (3, .inl w)], [.inr (.inl v)], (I, L, R, Y), 0, 0) (fun _ => rfl) ?_
          exact yi_G_retl rfl rfl (⟨_, rfl⟩)
        · refine yi_G_if2 false rfl (yi_gt_f h3) ?_
          refine yi_G_run 3 (107, [(13, .inl i), (11, .inr (.inl v)), (10, .inl (yi_iand (yi_shr x 16) 15)), (8, .inr (.inl c)), (6, .inr (.inl b)), (4, .inr (.inl a)), (0, .inr (.inr (some p))), (1, .inl x), (2, .inl y), (3, .inl w)], [.inl (yi_iand i 1)], (I, L, R, Y), 0, 0) (fun _ => rfl) ?_
          by_cases h4 : (yi_iand i 1) = 0
          · refine yi_G_if1 true rfl (yi_eq_t h4) ?_
            refine yi_G_run 1 (117, [(13, .inl i), (11, .inr (.inl v)), (10, .inl (yi_iand (yi_shr x 16) 15)), (8, .inr (.inl c)), (6, .inr (.inl b)), (4, .inr (.inl a)), (0, .inr (.inr (some p))), (1, .inl x), (2, .inl y), (3, .inl w)], [.inr (.inl a)], (I, L, R, Y), 0, 0) (fun _ => rfl) ?_
            refine yi_G_ldc2 ((-1)) rfl (by decide +kernel) ?_
            refine yi_G_run 6 (129, [(14, .inr (.inl (yi_lxor a (-1)))), (13, .inl i), (11, .inr (.inl v)), (10, .inl (yi_iand (yi_shr x 16) 15)), (8, .inr (.inl c)), (6, .inr (.inl b)), (4, .inr (.inl a)), (0, .inr (.inr (some p))), (1, .inl x), (2, .inl y), (3, .inl w)], [.inl (yi_iand i 2), .inr (.inl (yi_lxor a (-1)))], (I, L, R, Y), 0, 0) (fun _ => rfl) ?_
            by_cases h5 : (yi_iand i 2) = 0
            · refine yi_G_if1 true rfl (yi_eq_t h5) ?_
              refine yi_G_run 1 (139, [(14, .inr (.inl (yi_lxor a (-1)))), (13, .inl i), (11, .inr (.inl v)), (10, .inl (yi_iand (yi_shr x 16) 15)), (8, .inr (.inl c)), (6, .inr (.inl b)), (4, .inr (.inl a)), (0, .inr (.inr (some p))), (1, .inl x), (2, .inl y), (3, .inl w)], [.inr (.inl b), .inr (.inl (yi_lxor a (-1)))], (I, L, R, Y), 0, 0) (fun _ => rfl) ?_
              refine yi_G_ldc2 ((-1)) rfl (by decide +kernel) ?_
              refine yi_G_run 7 (152, [(14, .inr (.inl (yi_land (yi_lxor a (-1)) (yi_lxor b (-1))))), (13, .inl i), (11, .inr (.inl v)), (10, .inl (yi_iand (yi_shr x 16) 15)), (8, .inr (.inl c)), (6, .inr (.inl b)), (4, .inr (.inl a)), (0, .inr (.inr (some p))), (1, .inl x), (2, .inl y), (3, .inl w)], [.inl (yi_iand i 4), .inr (.inl (yi_land (yi_lxor a (-1)) (yi_lxor b (-1))))], (I, L, R, Y), 0, 0) (fun _ => rfl) ?_
              by_cases h6 : (yi_iand i 4) = 0
              · refine yi_G_if1 true rfl (yi_eq_t h6) ?_
                refine yi_G_run 1 (162, [(14, .inr (.inl (yi_land (yi_lxor a (-1)) (yi_lxor b (-1))))), (13, .inl i), (11, .inr (.inl v)), (10, .inl (yi_iand (yi_shr x 16) 15)), (8, .inr (.inl c)), (6, .inr (.inl b)), (4, .inr (.inl a)), (0, .inr (.inr (some p))), (1, .inl x), (2, .inl y), (3, .inl w)], [.inr (.inl c), .inr (.inl (yi_land (yi_lxor a (-1)) (yi_lxor b (-1))))], (I, L, R, Y), 0, 0) (fun _ => rfl) ?_
                refine yi_G_ldc2 ((-1)) rfl (by decide +kernel) ?_
                refine yi_G_run 7 (176, [(11, .inr (.inl (yi_lor v (yi_land (yi_land (yi_lxor a (-1)) (yi_lxor b (-1))) (yi_lxor c (-1)))))), (14, .inr (.inl (yi_land (yi_land (yi_lxor a (-1)) (yi_lxor b (-1))) (yi_lxor c (-1))))), (13, .inl i), (10, .inl (yi_iand (yi_shr x 16) 15)), (8, .inr (.inl c)), (6, .inr (.inl b)), (4, .inr (.inl a)), (0, .inr (.inr (some p))), (1, .inl x), (2, .inl y), (3, .inl w)], [], (I, L, R, Y), 0, 0) (fun _ => rfl) ?_
                refine yi_G_iinc [(13, .inl (i + 1)), (11, .inr (.inl (yi_lor v (yi_land (yi_land (yi_lxor a (-1)) (yi_lxor b (-1))) (yi_lxor c (-1)))))), (14, .inr (.inl (yi_land (yi_land (yi_lxor a (-1)) (yi_lxor b (-1))) (yi_lxor c (-1))))), (10, .inl (yi_iand (yi_shr x 16) 15)), (8, .inr (.inl c)), (6, .inr (.inl b)), (4, .inr (.inl a)), (0, .inr (.inr (some p))), (1, .inl x), (2, .inl y), (3, .inl w)] rfl rfl rfl (by rw [show yi_w (i + 1) = i + 1 from (yi_wn (by omega) (by omega)).trans (by omega)]; rfl) ?_
                refine yi_G_run 1 (96, [(13, .inl (i + 1)), (11, .inr (.inl (yi_lor v (yi_land (yi_land (yi_lxor a (-1)) (yi_lxor b (-1))) (yi_lxor c (-1)))))), (14, .inr (.inl (yi_land (yi_land (yi_lxor a (-1)) (yi_lxor b (-1))) (yi_lxor c (-1))))), (10, .inl (yi_iand (yi_shr x 16) 15)), (8, .inr (.inl c)), (6, .inr (.inl b)), (4, .inr (.inl a)), (0, .inr (.inr (some p))), (1, .inl x), (2, .inl y), (3, .inl w)], [], (I, L, R, Y), 0, 0) (fun _ => rfl) ?_
                refine yi_G_al (al := [(13, .inl (i + 1)), (11, .inr (.inl (yi_lor v (yi_land (yi_land (yi_lxor a (-1)) (yi_lxor b (-1))) (yi_lxor c (-1)))))), (10, .inl (yi_iand (yi_shr x 16) 15)), (8, .inr (.inl c)), (6, .inr (.inl b)), (4, .inr (.inl a)), (0, .inr (.inr (some p))), (1, .inl x), (2, .inl y), (3, .inl w)]) (show ([13, 11, 10, 8, 6, 4, 0, 1, 2, 3] : List Nat).Nodup by decide) (show ([13, 11, 14, 10, 8, 6, 4, 0, 1, 2, 3] : List Nat).Nodup by decide) (yi_mc (List.mem_of_getElem? (i := 0) rfl) (yi_mc (List.mem_of_getElem? (i := 1) rfl) (yi_mc (List.mem_of_getElem? (i := 3) rfl) (yi_mc (List.mem_of_getElem? (i := 4) rfl) (yi_mc (List.mem_of_getElem? (i := 5) rfl) (yi_mc (List.mem_of_getElem? (i := 6) rfl) (yi_mc (List.mem_of_getElem? (i := 7) rfl) (yi_mc (List.mem_of_getElem? (i := 8) rfl) (yi_mc (List.mem_of_getElem? (i := 9) rfl) (yi_mc (List.mem_of_getElem? (i := 10) rfl) yi_mn)))))))))) ?_
                exact ih96 _ (by omega) (i + 1) (yi_lor v (yi_land (yi_land (yi_lxor a (-1)) (yi_lxor b (-1))) (yi_lxor c (-1)))) (by omega) rfl
              · refine yi_G_if1 false rfl (yi_eq_f h6) ?_
                refine yi_G_run 8 (176, [(11, .inr (.inl (yi_lor v (yi_land (yi_land (yi_lxor a (-1)) (yi_lxor b (-1))) c)))), (14, .inr (.inl (yi_land (yi_land (yi_lxor a (-1)) (yi_lxor b (-1))) c))), (13, .inl i), (10, .inl (yi_iand (yi_shr x 16) 15)), (8, .inr (.inl c)), (6, .inr (.inl b)), (4, .inr (.inl a)), (0, .inr (.inr (some p))), (1, .inl x), (2, .inl y), (3, .inl w)], [], (I, L, R, Y), 0, 0) (fun _ => rfl) ?_
                refine yi_G_iinc [(13, .inl (i + 1)), (11, .inr (.inl (yi_lor v (yi_land (yi_land (yi_lxor a (-1)) (yi_lxor b (-1))) c)))), (14, .inr (.inl (yi_land (yi_land (yi_lxor a (-1)) (yi_lxor b (-1))) c))), (10, .inl (yi_iand (yi_shr x 16) 15)), (8, .inr (.inl c)), (6, .inr (.inl b)), (4, .inr (.inl a)), (0, .inr (.inr (some p))), (1, .inl x), (2, .inl y), (3, .inl w)] rfl rfl rfl (by rw [show yi_w (i + 1) = i + 1 from (yi_wn (by omega) (by omega)).trans (by omega)]; rfl) ?_
                refine yi_G_run 1 (96, [(13, .inl (i + 1)), (11, .inr (.inl (yi_lor v (yi_land (yi_land (yi_lxor a (-1)) (yi_lxor b (-1))) c)))), (14, .inr (.inl (yi_land (yi_land (yi_lxor a (-1)) (yi_lxor b (-1))) c))), (10, .inl (yi_iand (yi_shr x 16) 15)), (8, .inr (.inl c)), (6, .inr (.inl b)), (4, .inr (.inl a)), (0, .inr (.inr (some p))), (1, .inl x), (2, .inl y), (3, .inl w)], [], (I, L, R, Y), 0, 0) (fun _ => rfl) ?_
                refine yi_G_al (al := [(13, .inl (i + 1)), (11, .inr (.inl (yi_lor v (yi_land (yi_land (yi_lxor a (-1)) (yi_lxor b (-1))) c)))), (10, .inl (yi_iand (yi_shr x 16) 15)), (8, .inr (.inl c)), (6, .inr (.inl b)), (4, .inr (.inl a)), (0, .inr (.inr (some p))), (1, .inl x), (2, .inl y), (3, .inl w)]) (show ([13, 11, 10, 8, 6, 4, 0, 1, 2, 3] : List Nat).Nodup by decide) (show ([13, 11, 14, 10, 8, 6, 4, 0, 1, 2, 3] : List Nat).Nodup by decide) (yi_mc (List.mem_of_getElem? (i := 0) rfl) (yi_mc (List.mem_of_getElem? (i := 1) rfl) (yi_mc (List.mem_of_getElem? (i := 3) rfl) (yi_mc (List.mem_of_getElem? (i := 4) rfl) (yi_mc (List.mem_of_getElem? (i := 5) rfl) (yi_mc (List.mem_of_getElem? (i := 6) rfl) (yi_mc (List.mem_of_getElem? (i := 7) rfl) (yi_mc (List.mem_of_getElem? (i := 8) rfl) (yi_mc (List.mem_of_getElem? (i := 9) rfl) (yi_mc (List.mem_of_getElem? (i := 10) rfl) yi_mn)))))))))) ?_
                exact ih96 _ (by omega) (i + 1) (yi_lor v (yi_land (yi_land (yi_lxor a (-1)) (yi_lxor b (-1))) c)) (by omega) rfl
            · refine yi_G_if1 false rfl (yi_eq_f h5) ?_
              refine yi_G_run 8 (152, [(14, .inr (.inl (yi_land (yi_lxor a (-1)) b))), (13, .inl i), (11, .inr (.inl v)), (10, .inl (yi_iand (yi_shr x 16) 15)), (8, .inr (.inl c)), (6, .inr (.inl b)), (4, .inr (.inl a)), (0, .inr (.inr (some p))), (1, .inl x), (2, .inl y), (3, .inl w)], [.inl (yi_iand i 4), .inr (.inl (yi_land (yi_lxor a (-1)) b))], (I, L, R, Y), 0, 0) (fun _ => rfl) ?_
              by_cases h7 : (yi_iand i 4) = 0
              · refine yi_G_if1 true rfl (yi_eq_t h7) ?_
                refine yi_G_run 1 (162, [(14, .inr (.inl (yi_land (yi_lxor a (-1)) b))), (13, .inl i), (11, .inr (.inl v)), (10, .inl (yi_iand (yi_shr x 16) 15)), (8, .inr (.inl c)), (6, .inr (.inl b)), (4, .inr (.inl a)), (0, .inr (.inr (some p))), (1, .inl x), (2, .inl y), (3, .inl w)], [.inr (.inl c), .inr (.inl (yi_land (yi_lxor a (-1)) b))], (I, L, R, Y), 0, 0) (fun _ => rfl) ?_
                refine yi_G_ldc2 ((-1)) rfl (by decide +kernel) ?_
                refine yi_G_run 7 (176, [(11, .inr (.inl (yi_lor v (yi_land (yi_land (yi_lxor a (-1)) b) (yi_lxor c (-1)))))), (14, .inr (.inl (yi_land (yi_land (yi_lxor a (-1)) b) (yi_lxor c (-1))))), (13, .inl i), (10, .inl (yi_iand (yi_shr x 16) 15)), (8, .inr (.inl c)), (6, .inr (.inl b)), (4, .inr (.inl a)), (0, .inr (.inr (some p))), (1, .inl x), (2, .inl y), (3, .inl w)], [], (I, L, R, Y), 0, 0) (fun _ => rfl) ?_
                refine yi_G_iinc [(13, .inl (i + 1)), (11, .inr (.inl (yi_lor v (yi_land (yi_land (yi_lxor a (-1)) b) (yi_lxor c (-1)))))), (14, .inr (.inl (yi_land (yi_land (yi_lxor a (-1)) b) (yi_lxor c (-1))))), (10, .inl (yi_iand (yi_shr x 16) 15)), (8, .inr (.inl c)), (6, .inr (.inl b)), (4, .inr (.inl a)), (0, .inr (.inr (some p))), (1, .inl x), (2, .inl y), (3, .inl w)] rfl rfl rfl (by rw [show yi_w (i + 1) = i + 1 from (yi_wn (by omega) (by omega)).trans (by omega)]; rfl) ?_
                refine yi_G_run 1 (96, [(13, .inl (i + 1)), (11, .inr (.inl (yi_lor v (yi_land (yi_land (yi_lxor a (-1)) b) (yi_lxor c (-1)))))), (14, .inr (.inl (yi_land (yi_land (yi_lxor a (-1)) b) (yi_lxor c (-1))))), (10, .inl (yi_iand (yi_shr x 16) 15)), (8, .inr (.inl c)), (6, .inr (.inl b)), (4, .inr (.inl a)), (0, .inr (.inr (some p))), (1, .inl x), (2, .inl y), (3, .inl w)], [], (I, L, R, Y), 0, 0) (fun _ => rfl) ?_
                refine yi_G_al (al := [(13, .inl (i + 1)), (11, .inr (.inl (yi_lor v (yi_land (yi_land (yi_lxor a (-1)) b) (yi_lxor c (-1)))))), (10, .inl (yi_iand (yi_shr x 16) 15)), (8, .inr (.inl c)), (6, .inr (.inl b)), (4, .inr (.inl a)), (0, .inr (.inr (some p))), (1, .inl x), (2, .inl y), (3, .inl w)]) (show ([13, 11, 10, 8, 6, 4, 0, 1, 2, 3] : List Nat).Nodup by decide) (show ([13, 11, 14, 10, 8, 6, 4, 0, 1, 2, 3] : List Nat).Nodup by decide) (yi_mc (List.mem_of_getElem? (i := 0) rfl) (yi_mc (List.mem_of_getElem? (i := 1) rfl) (yi_mc (List.mem_of_getElem? (i := 3) rfl) (yi_mc (List.mem_of_getElem? (i := 4) rfl) (yi_mc (List.mem_of_getElem? (i := 5) rfl) (yi_mc (List.mem_of_getElem? (i := 6) rfl) (yi_mc (List.mem_of_getElem? (i := 7) rfl) (yi_mc (List.mem_of_getElem? (i := 8) rfl) (yi_mc (List.mem_of_getElem? (i := 9) rfl) (yi_mc (List.mem_of_getElem? (i := 10) rfl) yi_mn)))))))))) ?_
                exact ih96 _ (by omega) (i + 1) (yi_lor v (yi_land (yi_land (yi_lxor a (-1)) b) (yi_lxor c (-1)))) (by omega) rfl
              · refine yi_G_if1 false rfl (yi_eq_f h7) ?_
                refine yi_G_run 8 (176, [(11, .inr (.inl (yi_lor v (yi_land (yi_land (yi_lxor a (-1)) b) c)))), (14, .inr (.inl (yi_land (yi_land (yi_lxor a (-1)) b) c))), (13, .inl i), (10, .inl (yi_iand (yi_shr x 16) 15)), (8, .inr (.inl c)), (6, .inr (.inl b)), (4, .inr (.inl a)), (0, .inr (.inr (some p))), (1, .inl x), (2, .inl y), (3, .inl w)], [], (I, L, R, Y), 0, 0) (fun _ => rfl) ?_
                refine yi_G_iinc [(13, .inl (i + 1)), (11, .inr (.inl (yi_lor v (yi_land (yi_land (yi_lxor a (-1)) b) c)))), (14, .inr (.inl (yi_land (yi_land (yi_lxor a (-1)) b) c))), (10, .inl (yi_iand (yi_shr x 16) 15)), (8, .inr (.inl c)), (6, .inr (.inl b)), (4, .inr (.inl a)), (0, .inr (.inr (some p))), (1, .inl x), (2, .inl y), (3, .inl w)] rfl rfl rfl (by rw [show yi_w (i + 1) = i + 1 from (yi_wn (by omega) (by omega)).trans (by omega)]; rfl) ?_
                refine yi_G_run 1 (96, [(13, .inl (i + 1)), (11, .inr (.inl (yi_lor v (yi_land (yi_land (yi_lxor a (-1)) b) c)))), (14, .inr (.inl (yi_land (yi_land (yi_lxor a (-1)) b) c))), (10, .inl (yi_iand (yi_shr x 16) 15)), (8, .inr (.inl c)), (6, .inr (.inl b)), (4, .inr (.inl a)), (0, .inr (.inr (some p))), (1, .inl x), (2, .inl y), (3, .inl w)], [], (I, L, R, Y), 0, 0) (fun _ => rfl) ?_
                refine yi_G_al (al := [(13, .inl (i + 1)), (11, .inr (.inl (yi_lor v (yi_land (yi_land (yi_lxor a (-1)) b) c)))), (10, .inl (yi_iand (yi_shr x 16) 15)), (8, .inr (.inl c)), (6, .inr (.inl b)), (4, .inr (.inl a)), (0, .inr (.inr (some p))), (1, .inl x), (2, .inl y), (3, .inl w)]) (show ([13, 11, 10, 8, 6, 4, 0, 1, 2, 3] : List Nat).Nodup by decide) (show ([13, 11, 14, 10, 8, 6, 4, 0, 1, 2, 3] : List Nat).Nodup by decide) (yi_mc (List.mem_of_getElem? (i := 0) rfl) (yi_mc (List.mem_of_getElem? (i := 1) rfl) (yi_mc (List.mem_of_getElem? (i := 3) rfl) (yi_mc (List.mem_of_getElem? (i := 4) rfl) (yi_mc (List.mem_of_getElem? (i := 5) rfl) (yi_mc (List.mem_of_getElem? (i := 6) rfl) (yi_mc (List.mem_of_getElem? (i := 7) rfl) (yi_mc (List.mem_of_getElem? (i := 8) rfl) (yi_mc (List.mem_of_getElem? (i := 9) rfl) (yi_mc (List.mem_of_getElem? (i := 10) rfl) yi_mn)))))))))) ?_
                exact ih96 _ (by omega) (i + 1) (yi_lor v (yi_land (yi_land (yi_lxor a (-1)) b) c)) (by omega) rfl
          · refine yi_G_if1 false rfl (yi_eq_f h4) ?_
            refine yi_G_run 7 (129, [(14, .inr (.inl a)), (13, .inl i), (11, .inr (.inl v)), (10, .inl (yi_iand (yi_shr x 16) 15)), (8, .inr (.inl c)), (6, .inr (.inl b)), (4, .inr (.inl a)), (0, .inr (.inr (some p))), (1, .inl x), (2, .inl y), (3, .inl w)], [.inl (yi_iand i 2), .inr (.inl a)], (I, L, R, Y), 0, 0) (fun _ => rfl) ?_
            by_cases h8 : (yi_iand i 2) = 0
            · refine yi_G_if1 true rfl (yi_eq_t h8) ?_
              refine yi_G_run 1 (139, [(14, .inr (.inl a)), (13, .inl i), (11, .inr (.inl v)), (10, .inl (yi_iand (yi_shr x 16) 15)), (8, .inr (.inl c)), (6, .inr (.inl b)), (4, .inr (.inl a)), (0, .inr (.inr (some p))), (1, .inl x), (2, .inl y), (3, .inl w)], [.inr (.inl b), .inr (.inl a)], (I, L, R, Y), 0, 0) (fun _ => rfl) ?_
              refine yi_G_ldc2 ((-1)) rfl (by decide +kernel) ?_
              refine yi_G_run 7 (152, [(14, .inr (.inl (yi_land a (yi_lxor b (-1))))), (13, .inl i), (11, .inr (.inl v)), (10, .inl (yi_iand (yi_shr x 16) 15)), (8, .inr (.inl c)), (6, .inr (.inl b)), (4, .inr (.inl a)), (0, .inr (.inr (some p))), (1, .inl x), (2, .inl y), (3, .inl w)], [.inl (yi_iand i 4), .inr (.inl (yi_land a (yi_lxor b (-1))))], (I, L, R, Y), 0, 0) (fun _ => rfl) ?_
              by_cases h9 : (yi_iand i 4) = 0
              · refine yi_G_if1 true rfl (yi_eq_t h9) ?_
                refine yi_G_run 1 (162, [(14, .inr (.inl (yi_land a (yi_lxor b (-1))))), (13, .inl i), (11, .inr (.inl v)), (10, .inl (yi_iand (yi_shr x 16) 15)), (8, .inr (.inl c)), (6, .inr (.inl b)), (4, .inr (.inl a)), (0, .inr (.inr (some p))), (1, .inl x), (2, .inl y), (3, .inl w)], [.inr (.inl c), .inr (.inl (yi_land a (yi_lxor b (-1))))], (I, L, R, Y), 0, 0) (fun _ => rfl) ?_
                refine yi_G_ldc2 ((-1)) rfl (by decide +kernel) ?_
                refine yi_G_run 7 (176, [(11, .inr (.inl (yi_lor v (yi_land (yi_land a (yi_lxor b (-1))) (yi_lxor c (-1)))))), (14, .inr (.inl (yi_land (yi_land a (yi_lxor b (-1))) (yi_lxor c (-1))))), (13, .inl i), (10, .inl (yi_iand (yi_shr x 16) 15)), (8, .inr (.inl c)), (6, .inr (.inl b)), (4, .inr (.inl a)), (0, .inr (.inr (some p))), (1, .inl x), (2, .inl y), (3, .inl w)], [], (I, L, R, Y), 0, 0) (fun _ => rfl) ?_
                refine yi_G_iinc [(13, .inl (i + 1)), (11, .inr (.inl (yi_lor v (yi_land (yi_land a (yi_lxor b (-1))) (yi_lxor c (-1)))))), (14, .inr (.inl (yi_land (yi_land a (yi_lxor b (-1))) (yi_lxor c (-1))))), (10, .inl (yi_iand (yi_shr x 16) 15)), (8, .inr (.inl c)), (6, .inr (.inl b)), (4, .inr (.inl a)), (0, .inr (.inr (some p))), (1, .inl x), (2, .inl y), (3, .inl w)] rfl rfl rfl (by rw [show yi_w (i + 1) = i + 1 from (yi_wn (by omega) (by omega)).trans (by omega)]; rfl) ?_
                refine yi_G_run 1 (96, [(13, .inl (i + 1)), (11, .inr (.inl (yi_lor v (yi_land (yi_land a (yi_lxor b (-1))) (yi_lxor c (-1)))))), (14, .inr (.inl (yi_land (yi_land a (yi_lxor b (-1))) (yi_lxor c (-1))))), (10, .inl (yi_iand (yi_shr x 16) 15)), (8, .inr (.inl c)), (6, .inr (.inl b)), (4, .inr (.inl a)), (0, .inr (.inr (some p))), (1, .inl x), (2, .inl y), (3, .inl w)], [], (I, L, R, Y), 0, 0) (fun _ => rfl) ?_
                refine yi_G_al (al := [(13, .inl (i + 1)), (11, .inr (.inl (yi_lor v (yi_land (yi_land a (yi_lxor b (-1))) (yi_lxor c (-1)))))), (10, .inl (yi_iand (yi_shr x 16) 15)), (8, .inr (.inl c)), (6, .inr (.inl b)), (4, .inr (.inl a)), (0, .inr (.inr (some p))), (1, .inl x), (2, .inl y), (3, .inl w)]) (show ([13, 11, 10, 8, 6, 4, 0, 1, 2, 3] : List Nat).Nodup by decide) (show ([13, 11, 14, 10, 8, 6, 4, 0, 1, 2, 3] : List Nat).Nodup by decide) (yi_mc (List.mem_of_getElem? (i := 0) rfl) (yi_mc (List.mem_of_getElem? (i := 1) rfl) (yi_mc (List.mem_of_getElem? (i := 3) rfl) (yi_mc (List.mem_of_getElem? (i := 4) rfl) (yi_mc (List.mem_of_getElem? (i := 5) rfl) (yi_mc (List.mem_of_getElem? (i := 6) rfl) (yi_mc (List.mem_of_getElem? (i := 7) rfl) (yi_mc (List.mem_of_getElem? (i := 8) rfl) (yi_mc (List.mem_of_getElem? (i := 9) rfl) (yi_mc (List.mem_of_getElem? (i := 10) rfl) yi_mn)))))))))) ?_
                exact ih96 _ (by omega) (i + 1) (yi_lor v (yi_land (yi_land a (yi_lxor b (-1))) (yi_lxor c (-1)))) (by omega) rfl
              · refine yi_G_if1 false rfl (yi_eq_f h9) ?_
                refine yi_G_run 8 (176, [(11, .inr (.inl (yi_lor v (yi_land (yi_land a (yi_lxor b (-1))) c)))), (14, .inr (.inl (yi_land (yi_land a (yi_lxor b (-1))) c))), (13, .inl i), (10, .inl (yi_iand (yi_shr x 16) 15)), (8, .inr (.inl c)), (6, .inr (.inl b)), (4, .inr (.inl a)), (0, .inr (.inr (some p))), (1, .inl x), (2, .inl y), (3, .inl w)], [], (I, L, R, Y), 0, 0) (fun _ => rfl) ?_
                refine yi_G_iinc [(13, .inl (i + 1)), (11, .inr (.inl (yi_lor v (yi_land (yi_land a (yi_lxor b (-1))) c)))), (14, .inr (.inl (yi_land (yi_land a (yi_lxor b (-1))) c))), (10, .inl (yi_iand (yi_shr x 16) 15)), (8, .inr (.inl c)), (6, .inr (.inl b)), (4, .inr (.inl a)), (0, .inr (.inr (some p))), (1, .inl x), (2, .inl y), (3, .inl w)] rfl rfl rfl (by rw [show yi_w (i + 1) = i + 1 from (yi_wn (by omega) (by omega)).trans (by omega)]; rfl) ?_
                refine yi_G_run 1 (96, [(13, .inl (i + 1)), (11, .inr (.inl (yi_lor v (yi_land (yi_land a (yi_lxor b (-1))) c)))), (14, .inr (.inl (yi_land (yi_land a (yi_lxor b (-1))) c))), (10, .inl (yi_iand (yi_shr x 16) 15)), (8, .inr (.inl c)), (6, .inr (.inl b)), (4, .inr (.inl a)), (0, .inr (.inr (some p))), (1, .inl x), (2, .inl y), (3, .inl w)], [], (I, L, R, Y), 0, 0) (fun _ => rfl) ?_
                refine yi_G_al (al := [(13, .inl (i + 1)), (11, .inr (.inl (yi_lor v (yi_land (yi_land a (yi_lxor b (-1))) c)))), (10, .inl (yi_iand (yi_shr x 16) 15)), (8, .inr (.inl c)), (6, .inr (.inl b)), (4, .inr (.inl a)), (0, .inr (.inr (some p))), (1, .inl x), (2, .inl y), (3, .inl w)]) (show ([13, 11, 10, 8, 6, 4, 0, 1, 2, 3] : List Nat).Nodup by decide) (show ([13, 11, 14, 10, 8, 6, 4, 0, 1, 2, 3] : List Nat).Nodup by decide) (yi_mc (List.mem_of_getElem? (i := 0) rfl) (yi_mc (List.mem_of_getElem? (i := 1) rfl) (yi_mc (List.mem_of_getElem? (i := 3) rfl) (yi_mc (List.mem_of_getElem? (i := 4) rfl) (yi_mc (List.mem_of_getElem? (i := 5) rfl) (yi_mc (List.mem_of_getElem? (i := 6) rfl) (yi_mc (List.mem_of_getElem? (i := 7) rfl) (yi_mc (List.mem_of_getElem? (i := 8) rfl) (yi_mc (List.mem_of_getElem? (i := 9) rfl) (yi_mc (List.mem_of_getElem? (i := 10) rfl) yi_mn)))))))))) ?_
                exact ih96 _ (by omega) (i + 1) (yi_lor v (yi_land (yi_land a (yi_lxor b (-1))) c)) (by omega) rfl
            · refine yi_G_if1 false rfl (yi_eq_f h8) ?_
              refine yi_G_run 8 (152, [(14, .inr (.inl (yi_land a b))), (13, .inl i), (11, .inr (.inl v)), (10, .inl (yi_iand (yi_shr x 16) 15)), (8, .inr (.inl c)), (6, .inr (.inl b)), (4, .inr (.inl a)), (0, .inr (.inr (some p))), (1, .inl x), (2, .inl y), (3, .inl w)], [.inl (yi_iand i 4), .inr (.inl (yi_land a b))], (I, L, R, Y), 0, 0) (fun _ => rfl) ?_
              by_cases h10 : (yi_iand i 4) = 0
              · refine yi_G_if1 true rfl (yi_eq_t h10) ?_
                refine yi_G_run 1 (162, [(14, .inr (.inl (yi_land a b))), (13, .inl i), (11, .inr (.inl v)), (10, .inl (yi_iand (yi_shr x 16) 15)), (8, .inr (.inl c)), (6, .inr (.inl b)), (4, .inr (.inl a)), (0, .inr (.inr (some p))), (1, .inl x), (2, .inl y), (3, .inl w)], [.inr (.inl c), .inr (.inl (yi_land a b))], (I, L, R, Y), 0, 0) (fun _ => rfl) ?_
                refine yi_G_ldc2 ((-1)) rfl (by decide +kernel) ?_
                refine yi_G_run 7 (176, [(11, .inr (.inl (yi_lor v (yi_land (yi_land a b) (yi_lxor c (-1)))))), (14, .inr (.inl (yi_land (yi_land a b) (yi_lxor c (-1))))), (13, .inl i), (10, .inl (yi_iand (yi_shr x 16) 15)), (8, .inr (.inl c)), (6, .inr (.inl b)), (4, .inr (.inl a)), (0, .inr (.inr (some p))), (1, .inl x), (2, .inl y), (3, .inl w)], [], (I, L, R, Y), 0, 0) (fun _ => rfl) ?_
                refine yi_G_iinc [(13, .inl (i + 1)), (11, .inr (.inl (yi_lor v (yi_land (yi_land a b) (yi_lxor c (-1)))))), (14, .inr (.inl (yi_land (yi_land a b) (yi_lxor c (-1))))), (10, .inl (yi_iand (yi_shr x 16) 15)), (8, .inr (.inl c)), (6, .inr (.inl b)), (4, .inr (.inl a)), (0, .inr (.inr (some p))), (1, .inl x), (2, .inl y), (3, .inl w)] rfl rfl rfl (by rw [show yi_w (i + 1) = i + 1 from (yi_wn (by omega) (by omega)).trans (by omega)]; rfl) ?_
                refine yi_G_run 1 (96, [(13, .inl (i + 1)), (11, .inr (.inl (yi_lor v (yi_land (yi_land a b) (yi_lxor c (-1)))))), (14, .inr (.inl (yi_land (yi_land a b) (yi_lxor c (-1))))), (10, .inl (yi_iand (yi_shr x 16) 15)), (8, .inr (.inl c)), (6, .inr (.inl b)), (4, .inr (.inl a)), (0, .inr (.inr (some p))), (1, .inl x), (2, .inl y), (3, .inl w)], [], (I, L, R, Y), 0, 0) (fun _ => rfl) ?_
                refine yi_G_al (al := [(13, .inl (i + 1)), (11, .inr (.inl (yi_lor v (yi_land (yi_land a b) (yi_lxor c (-1)))))), (10, .inl (yi_iand (yi_shr x 16) 15)), (8, .inr (.inl c)), (6, .inr (.inl b)), (4, .inr (.inl a)), (0, .inr (.inr (some p))), (1, .inl x), (2, .inl y), (3, .inl w)]) (show ([13, 11, 10, 8, 6, 4, 0, 1, 2, 3] : List Nat).Nodup by decide) (show ([13, 11, 14, 10, 8, 6, 4, 0, 1, 2, 3] : List Nat).Nodup by decide) (yi_mc (List.mem_of_getElem? (i := 0) rfl) (yi_mc (List.mem_of_getElem? (i := 1) rfl) (yi_mc (List.mem_of_getElem? (i := 3) rfl) (yi_mc (List.mem_of_getElem? (i := 4) rfl) (yi_mc (List.mem_of_getElem? (i := 5) rfl) (yi_mc (List.mem_of_getElem? (i := 6) rfl) (yi_mc (List.mem_of_getElem? (i := 7) rfl) (yi_mc (List.mem_of_getElem? (i := 8) rfl) (yi_mc (List.mem_of_getElem? (i := 9) rfl) (yi_mc (List.mem_of_getElem? (i := 10) rfl) yi_mn)))))))))) ?_
                exact ih96 _ (by omega) (i + 1) (yi_lor v (yi_land (yi_land a b) (yi_lxor c (-1)))) (by omega) rfl
              · refine yi_G_if1 false rfl (yi_eq_f h10) ?_
                refine yi_G_run 8 (176, [(11, .inr (.inl (yi_lor v (yi_land (yi_land a b) c)))), (14, .inr (.inl (yi_land (yi_land a b) c))), (13, .inl i), (10, .inl (yi_iand (yi_shr x 16) 15)), (8, .inr (.inl c)), (6, .inr (.inl b)), (4, .inr (.inl a)), (0, .inr (.inr (some p))), (1, .inl x), (2, .inl y), (3, .inl w)], [], (I, L, R, Y), 0, 0) (fun _ => rfl) ?_
                refine yi_G_iinc [(13, .inl (i + 1)), (11, .inr (.inl (yi_lor v (yi_land (yi_land a b) c)))), (14, .inr (.inl (yi_land (yi_land a b) c))), (10, .inl (yi_iand (yi_shr x 16) 15)), (8, .inr (.inl c)), (6, .inr (.inl b)), (4, .inr (.inl a)), (0, .inr (.inr (some p))), (1, .inl x), (2, .inl y), (3, .inl w)] rfl rfl rfl (by rw [show yi_w (i + 1) = i + 1 from (yi_wn (by omega) (by omega)).trans (by omega)]; rfl) ?_
                refine yi_G_run 1 (96, [(13, .inl (i + 1)), (11, .inr (.inl (yi_lor v (yi_land (yi_land a b) c)))), (14, .inr (.inl (yi_land (yi_land a b) c))), (10, .inl (yi_iand (yi_shr x 16) 15)), (8, .inr (.inl c)), (6, .inr (.inl b)), (4, .inr (.inl a)), (0, .inr (.inr (some p))), (1, .inl x), (2, .inl y), (3, .inl w)], [], (I, L, R, Y), 0, 0) (fun _ => rfl) ?_
                refine yi_G_al (al := [(13, .inl (i + 1)), (11, .inr (.inl (yi_lor v (yi_land (yi_land a b) c)))), (10, .inl (yi_iand (yi_shr x 16) 15)), (8, .inr (.inl c)), (6, .inr (.inl b)), (4, .inr (.inl a)), (0, .inr (.inr (some p))), (1, .inl x), (2, .inl y), (3, .inl w)]) (show ([13, 11, 10, 8, 6, 4, 0, 1, 2, 3] : List Nat).Nodup by decide) (show ([13, 11, 14, 10, 8, 6, 4, 0, 1, 2, 3] : List Nat).Nodup by decide) (yi_mc (List.mem_of_getElem? (i := 0) rfl) (yi_mc (List.mem_of_getElem? (i := 1) rfl) (yi_mc (List.mem_of_getElem? (i := 3) rfl) (yi_mc (List.mem_of_getElem? (i := 4) rfl) (yi_mc (List.mem_of_getElem? (i := 5) rfl) (yi_mc (List.mem_of_getElem? (i := 6) rfl) (yi_mc (List.mem_of_getElem? (i := 7) rfl) (yi_mc (List.mem_of_getElem? (i := 8) rfl) (yi_mc (List.mem_of_getElem? (i := 9) rfl) (yi_mc (List.mem_of_getElem? (i := 10) rfl) yi_mn)))))))))) ?_
                exact ih96 _ (by omega) (i + 1) (yi_lor v (yi_land (yi_land a b) c)) (by omega) rfl
      exact pt96 _ (yi_iand (yi_shr x 12) 15) 0 (by omega) rfl
    · refine yi_G_if2 false rfl (yi_gt_f h2) ?_
      refine yi_G_run 9 (33, [(10, .inl j), (8, .inr (.inl c)), (6, .inr (.inl b)), (4, .inr (.inl a)), (0, .inr (.inr (some p))), (1, .inl x), (2, .inl y), (3, .inl w)], [.inl w, .inl (yi_iand (yi_shr x 8) 15), .inl j, .inl y, .inr (.inr (some p))], (I, L, R, Y), 0, 0) (fun _ => rfl) ?_
      refine yi_G_callv rfl rfl (cl_rcv tp rfl) rfl (k_wordCell d (by omega) hP.1 tp ) ?_
      rintro _ ⟨z11, rfl⟩
      show yi_G zi_Ms d zi_m311 (36, [(10, .inl j), (8, .inr (.inl c)), (6, .inr (.inl b)), (4, .inr (.inl a)), (0, .inr (.inr (some p))), (1, .inl x), (2, .inl y), (3, .inl w)], [.inr (.inl z11)], (I, L, R, Y), 0, 0) _
      refine yi_G_run 14 (60, [(4, .inr (.inl (yi_lxor a z11))), (13, .inr (.inl (yi_land a z11))), (11, .inr (.inl z11)), (10, .inl j), (8, .inr (.inl c)), (6, .inr (.inl b)), (0, .inr (.inr (some p))), (1, .inl x), (2, .inl y), (3, .inl w)], [.inr (.inl (yi_lxor c (yi_land b (yi_land a z11))))], (I, L, R, Y), 0, 0) (fun _ => rfl) ?_
      refine yi_G_run 5 (69, [(6, .inr (.inl (yi_lxor b (yi_land a z11)))), (8, .inr (.inl (yi_lxor c (yi_land b (yi_land a z11))))), (4, .inr (.inl (yi_lxor a z11))), (13, .inr (.inl (yi_land a z11))), (11, .inr (.inl z11)), (10, .inl j), (0, .inr (.inr (some p))), (1, .inl x), (2, .inl y), (3, .inl w)], [], (I, L, R, Y), 0, 0) (fun _ => rfl) ?_
      refine yi_G_iinc [(10, .inl (j + 1)), (6, .inr (.inl (yi_lxor b (yi_land a z11)))), (8, .inr (.inl (yi_lxor c (yi_land b (yi_land a z11))))), (4, .inr (.inl (yi_lxor a z11))), (13, .inr (.inl (yi_land a z11))), (11, .inr (.inl z11)), (0, .inr (.inr (some p))), (1, .inl x), (2, .inl y), (3, .inl w)] rfl rfl rfl (by rw [show yi_w (j + 1) = j + 1 from (yi_wn (by omega) (by omega)).trans (by omega)]; rfl) ?_
      refine yi_G_run 1 (12, [(10, .inl (j + 1)), (6, .inr (.inl (yi_lxor b (yi_land a z11)))), (8, .inr (.inl (yi_lxor c (yi_land b (yi_land a z11))))), (4, .inr (.inl (yi_lxor a z11))), (13, .inr (.inl (yi_land a z11))), (11, .inr (.inl z11)), (0, .inr (.inr (some p))), (1, .inl x), (2, .inl y), (3, .inl w)], [], (I, L, R, Y), 0, 0) (fun _ => rfl) ?_
      refine yi_G_al (al := [(10, .inl (j + 1)), (8, .inr (.inl (yi_lxor c (yi_land b (yi_land a z11))))), (6, .inr (.inl (yi_lxor b (yi_land a z11)))), (4, .inr (.inl (yi_lxor a z11))), (0, .inr (.inr (some p))), (1, .inl x), (2, .inl y), (3, .inl w)]) (show ([10, 8, 6, 4, 0, 1, 2, 3] : List Nat).Nodup by decide) (show ([10, 6, 8, 4, 13, 11, 0, 1, 2, 3] : List Nat).Nodup by decide) (yi_mc (List.mem_of_getElem? (i := 0) rfl) (yi_mc (List.mem_of_getElem? (i := 2) rfl) (yi_mc (List.mem_of_getElem? (i := 1) rfl) (yi_mc (List.mem_of_getElem? (i := 3) rfl) (yi_mc (List.mem_of_getElem? (i := 6) rfl) (yi_mc (List.mem_of_getElem? (i := 7) rfl) (yi_mc (List.mem_of_getElem? (i := 8) rfl) (yi_mc (List.mem_of_getElem? (i := 9) rfl) yi_mn)))))))) ?_
      exact ih12 _ (by omega) (j + 1) (yi_lxor a z11) (yi_lxor b (yi_land a z11)) (yi_lxor c (yi_land b (yi_land a z11))) (by omega) rfl
  exact pt12 _ 1 0 0 0 (by omega) rfl
theorem k_clauseCell (D : Nat) (hD : 4 ≤ D) {E : List Nat} {I L : cl_I} {R : cl_Rr} {Y : cl_Y} (hC : cl_C E I L R Y) {p : Nat} (tp : cl_T E Y p 4) {x : Int} {w : Int} : yi_E zi_Ms D 305 [.inr (.inr (some p)), .inl x, .inl w] (I, L, R, Y) (fun r => ∃ z, r = (some (.inr (.inl z)), (I, L, R, Y), 0, 0)) := by
  obtain ⟨d, rfl⟩ : ∃ d, D = d + 1 := ⟨D - 1, by omega⟩
  refine yi_E_of (M := zi_m305) rfl rfl ?_
  have hP : cl_P E I L R Y I L R Y := cl_P_r hC
  have an4 := cl_and15 (yi_shr x 4)
  show yi_G zi_Ms d zi_m305 (0, [(0, .inr (.inr (some p))), (1, .inl x), (2, .inl w)], [], (I, L, R, Y), 0, 0) _
  refine yi_G_run 6 (8, [(3, .inl (yi_iand x 15)), (0, .inr (.inr (some p))), (1, .inl x), (2, .inl w)], [.inl 6, .inl (yi_iand x 15)], (I, L, R, Y), 0, 0) (fun _ => rfl) ?_
  by_cases h1 : (yi_iand x 15) = 6
  · refine yi_G_if2 true rfl (yi_eq_t h1) ?_
    refine yi_G_run 3 (20, [(3, .inl (yi_iand x 15)), (0, .inr (.inr (some p))), (1, .inl x), (2, .inl w)], [.inl w, .inl x, .inr (.inr (some p))], (I, L, R, Y), 0, 0) (fun _ => rfl) ?_
    refine yi_G_callv rfl rfl (cl_rcv tp rfl) rfl (k_pairCell d (by omega) hP.1 tp ) ?_
    rintro _ ⟨z2, rfl⟩
    show yi_G zi_Ms d zi_m305 (23, [(3, .inl (yi_iand x 15)), (0, .inr (.inr (some p))), (1, .inl x), (2, .inl w)], [.inr (.inl z2)], (I, L, R, Y), 0, 0) _
    exact yi_G_retl rfl rfl (⟨_, rfl⟩)
  · refine yi_G_if2 false rfl (yi_eq_f h1) ?_
    refine yi_G_run 2 (14, [(3, .inl (yi_iand x 15)), (0, .inr (.inr (some p))), (1, .inl x), (2, .inl w)], [.inl 7, .inl (yi_iand x 15)], (I, L, R, Y), 0, 0) (fun _ => rfl) ?_
    by_cases h3 : (yi_iand x 15) = 7
    · refine yi_G_if2 false rfl (yi_ne_f h3) ?_
      refine yi_G_run 3 (20, [(3, .inl (yi_iand x 15)), (0, .inr (.inr (some p))), (1, .inl x), (2, .inl w)], [.inl w, .inl x, .inr (.inr (some p))], (I, L, R, Y), 0, 0) (fun _ => rfl) ?_
      refine yi_G_callv rfl rfl (cl_rcv tp rfl) rfl (k_pairCell d (by omega) hP.1 tp ) ?_
      rintro _ ⟨z4, rfl⟩
      show yi_G zi_Ms d zi_m305 (23, [(3, .inl (yi_iand x 15)), (0, .inr (.inr (some p))), (1, .inl x), (2, .inl w)], [.inr (.inl z4)], (I, L, R, Y), 0, 0) _
      exact yi_G_retl rfl rfl (⟨_, rfl⟩)
    · refine yi_G_if2 true rfl (yi_ne_t h3) ?_
      refine yi_G_run 1 (25, [(3, .inl (yi_iand x 15)), (0, .inr (.inr (some p))), (1, .inl x), (2, .inl w)], [.inl (yi_iand x 15)], (I, L, R, Y), 0, 0) (fun _ => rfl) ?_
      by_cases h5 : (yi_iand x 15) = 0
      · refine yi_G_if1 false rfl (yi_ne_f h5) ?_
        refine yi_G_run 1 (29, [(3, .inl (yi_iand x 15)), (0, .inr (.inr (some p))), (1, .inl x), (2, .inl w)], [.inr (.inl 0)], (I, L, R, Y), 0, 0) (fun _ => rfl) ?_
        exact yi_G_retl rfl rfl (⟨_, rfl⟩)
      · refine yi_G_if1 true rfl (yi_ne_t h5) ?_
        refine yi_G_run 8 (41, [(4, .inl (yi_iand (yi_shr x 4) 15)), (3, .inl (yi_iand x 15)), (0, .inr (.inr (some p))), (1, .inl x), (2, .inl w)], [.inl 5, .inl (yi_iand (yi_shr x 4) 15)], (I, L, R, Y), 0, 0) (fun _ => rfl) ?_
        by_cases h6 : (yi_iand (yi_shr x 4) 15) = 5
        · refine yi_G_if2 false rfl (yi_ne_f h6) ?_
          refine yi_G_run 4 (53, [(5, .inl 1), (4, .inl (yi_iand (yi_shr x 4) 15)), (3, .inl (yi_iand x 15)), (0, .inr (.inr (some p))), (1, .inl x), (2, .inl w)], [.inl 1], (I, L, R, Y), 0, 0) (fun _ => rfl) ?_
          refine yi_G_if1 true rfl (by decide) ?_
          refine yi_G_run 3 (71, [(6, .inl 0), (5, .inl 1), (4, .inl (yi_iand (yi_shr x 4) 15)), (3, .inl (yi_iand x 15)), (0, .inr (.inr (some p))), (1, .inl x), (2, .inl w)], [.inl 0], (I, L, R, Y), 0, 0) (fun _ => rfl) ?_
          refine yi_G_if1 true rfl (by decide) ?_
          refine yi_G_run 1 (82, [(6, .inl 0), (5, .inl 1), (4, .inl (yi_iand (yi_shr x 4) 15)), (3, .inl (yi_iand x 15)), (0, .inr (.inr (some p))), (1, .inl x), (2, .inl w)], [.inr (.inr (some p))], (I, L, R, Y), 0, 0) (fun _ => rfl) ?_
          have b7 := cl_rd hP.1 tp (k := 8) (lo := 0) (hi := 4) rfl
          refine cl_G_gi rfl (cl_T_K tp) rfl rfl rfl ?_
          refine yi_G_run 2 (89, [(7, .inl (I p 8)), (6, .inl 0), (5, .inl 1), (4, .inl (yi_iand (yi_shr x 4) 15)), (3, .inl (yi_iand x 15)), (0, .inr (.inr (some p))), (1, .inl x), (2, .inl w)], [.inl 1], (I, L, R, Y), 0, 0) (fun _ => rfl) ?_
          refine yi_G_if1 false rfl (by decide) ?_
          refine yi_G_ldc2 ((-1)) rfl (by decide +kernel) ?_
          refine yi_G_run 3 (103, [(8, .inr (.inl (-1))), (7, .inl (I p 8)), (6, .inl 0), (5, .inl 1), (4, .inl (yi_iand (yi_shr x 4) 15)), (3, .inl (yi_iand x 15)), (0, .inr (.inr (some p))), (1, .inl x), (2, .inl w)], [.inl 0], (I, L, R, Y), 0, 0) (fun _ => rfl) ?_
          refine yi_G_if1 true rfl (by decide) ?_
          refine yi_G_run 2 (114, [(10, .inl 0), (8, .inr (.inl (-1))), (7, .inl (I p 8)), (6, .inl 0), (5, .inl 1), (4, .inl (yi_iand (yi_shr x 4) 15)), (3, .inl (yi_iand x 15)), (0, .inr (.inr (some p))), (1, .inl x), (2, .inl w)], [], (I, L, R, Y), 0, 0) (fun _ => rfl) ?_
          have pt114 : ∀ (m_ : Nat) (j : Int) (v : Int), (0 ≤ j ∧ j ≤ 16) → (16 - j).toNat = m_ → yi_G zi_Ms d zi_m305 (114, [(10, .inl j), (8, .inr (.inl v)), (7, .inl (I p 8)), (6, .inl 0), (5, .inl 1), (4, .inl (yi_iand (yi_shr x 4) 15)), (3, .inl (yi_iand x 15)), (0, .inr (.inr (some p))), (1, .inl x), (2, .inl w)], [], (I, L, R, Y), 0, 0) (fun r => ∃ z, r = (some (.inr (.inl z)), (I, L, R, Y), 0, 0)) := by
            intro m114
            induction m114 using Nat.strongRecOn with
            | _ m114 ih114 =>
            intro j v j0 hm114
            refine yi_G_run 2 (118, [(10, .inl j), (8, .inr (.inl v)), (7, .inl (I p 8)), (6, .inl 0), (5, .inl 1), (4, .inl (yi_iand (yi_shr x 4) 15)), (3, .inl (yi_iand x 15)), (0, .inr (.inr (some p))), (1, .inl x), (2, .inl w)], [.inl (I p 8), .inl j], (I, L, R, Y), 0, 0) (fun _ => rfl) ?_
            by_cases h8 : (I p 8) ≤ j
            · refine yi_G_if2 true rfl (yi_ge_t h8) ?_
              refine yi_G_run 1 (175, [(10, .inl j), (8, .inr (.inl v)), (7, .inl (I p 8)), (6, .inl 0), (5, .inl 1), (4, .inl (yi_iand (yi_shr x 4) 15)), (3, .inl (yi_iand x 15)), (0, .inr (.inr (some p))), (1, .inl x), (2, .inl w)], [.inr (.inl v)], (I, L, R, Y), 0, 0) (fun _ => rfl) ?_
              exact yi_G_retl rfl rfl (⟨_, rfl⟩)
            · refine yi_G_if2 false rfl (yi_ge_f h8) ?_
              refine yi_G_run 2 (123, [(10, .inl j), (8, .inr (.inl v)), (7, .inl (I p 8)), (6, .inl 0), (5, .inl 1), (4, .inl (yi_iand (yi_shr x 4) 15)), (3, .inl (yi_iand x 15)), (0, .inr (.inr (some p))), (1, .inl x), (2, .inl w)], [.inl 5, .inl (yi_iand x 15)], (I, L, R, Y), 0, 0) (fun _ => rfl) ?_
              by_cases h9 : (yi_iand x 15) = 5
              · refine yi_G_if2 false rfl (yi_ne_f h9) ?_
                refine yi_G_run 4 (131, [(10, .inl j), (8, .inr (.inl v)), (7, .inl (I p 8)), (6, .inl 0), (5, .inl 1), (4, .inl (yi_iand (yi_shr x 4) 15)), (3, .inl (yi_iand x 15)), (0, .inr (.inr (some p))), (1, .inl x), (2, .inl w)], [.inl w, .inl j, .inl x, .inr (.inr (some p))], (I, L, R, Y), 0, 0) (fun _ => rfl) ?_
                refine yi_G_callv rfl rfl (cl_rcv tp rfl) rfl (k_timesCell d (by omega) hP.1 tp ) ?_
                rintro _ ⟨z10, rfl⟩
                show yi_G zi_Ms d zi_m305 (134, [(10, .inl j), (8, .inr (.inl v)), (7, .inl (I p 8)), (6, .inl 0), (5, .inl 1), (4, .inl (yi_iand (yi_shr x 4) 15)), (3, .inl (yi_iand x 15)), (0, .inr (.inr (some p))), (1, .inl x), (2, .inl w)], [.inr (.inl z10)], (I, L, R, Y), 0, 0) _
                refine yi_G_run 3 (149, [(11, .inr (.inl z10)), (10, .inl j), (8, .inr (.inl v)), (7, .inl (I p 8)), (6, .inl 0), (5, .inl 1), (4, .inl (yi_iand (yi_shr x 4) 15)), (3, .inl (yi_iand x 15)), (0, .inr (.inr (some p))), (1, .inl x), (2, .inl w)], [.inl 1], (I, L, R, Y), 0, 0) (fun _ => rfl) ?_
                refine yi_G_if1 false rfl (by decide) ?_
                refine yi_G_run 5 (167, [(8, .inr (.inl (yi_land v z10))), (11, .inr (.inl z10)), (10, .inl j), (7, .inl (I p 8)), (6, .inl 0), (5, .inl 1), (4, .inl (yi_iand (yi_shr x 4) 15)), (3, .inl (yi_iand x 15)), (0, .inr (.inr (some p))), (1, .inl x), (2, .inl w)], [], (I, L, R, Y), 0, 0) (fun _ => rfl) ?_
                refine yi_G_iinc [(10, .inl (j + 1)), (8, .inr (.inl (yi_land v z10))), (11, .inr (.inl z10)), (7, .inl (I p 8)), (6, .inl 0), (5, .inl 1), (4, .inl (yi_iand (yi_shr x 4) 15)), (3, .inl (yi_iand x 15)), (0, .inr (.inr (some p))), (1, .inl x), (2, .inl w)] rfl rfl rfl (by rw [show yi_w (j + 1) = j + 1 from (yi_wn (by omega) (by omega)).trans (by omega)]; rfl) ?_
                refine yi_G_run 1 (114, [(10, .inl (j + 1)), (8, .inr (.inl (yi_land v z10))), (11, .inr (.inl z10)), (7, .inl (I p 8)), (6, .inl 0), (5, .inl 1), (4, .inl (yi_iand (yi_shr x 4) 15)), (3, .inl (yi_iand x 15)), (0, .inr (.inr (some p))), (1, .inl x), (2, .inl w)], [], (I, L, R, Y), 0, 0) (fun _ => rfl) ?_
                refine yi_G_al (al := [(10, .inl (j + 1)), (8, .inr (.inl (yi_land v z10))), (7, .inl (I p 8)), (6, .inl 0), (5, .inl 1), (4, .inl (yi_iand (yi_shr x 4) 15)), (3, .inl (yi_iand x 15)), (0, .inr (.inr (some p))), (1, .inl x), (2, .inl w)]) (show ([10, 8, 7, 6, 5, 4, 3, 0, 1, 2] : List Nat).Nodup by decide) (show ([10, 8, 11, 7, 6, 5, 4, 3, 0, 1, 2] : List Nat).Nodup by decide) (yi_mc (List.mem_of_getElem? (i := 0) rfl) (yi_mc (List.mem_of_getElem? (i := 1) rfl) (yi_mc (List.mem_of_getElem? (i := 3) rfl) (yi_mc (List.mem_of_getElem? (i := 4) rfl) (yi_mc (List.mem_of_getElem? (i := 5) rfl) (yi_mc (List.mem_of_getElem? (i := 6) rfl) (yi_mc (List.mem_of_getElem? (i := 7) rfl) (yi_mc (List.mem_of_getElem? (i := 8) rfl) (yi_mc (List.mem_of_getElem? (i := 9) rfl) (yi_mc (List.mem_of_getElem? (i := 10) rfl) yi_mn)))))))))) ?_
                exact ih114 _ (by omega) (j + 1) (yi_land v z10) (by omega) rfl
              · refine yi_G_if2 true rfl (yi_ne_t h9) ?_
                refine yi_G_run 4 (142, [(10, .inl j), (8, .inr (.inl v)), (7, .inl (I p 8)), (6, .inl 0), (5, .inl 1), (4, .inl (yi_iand (yi_shr x 4) 15)), (3, .inl (yi_iand x 15)), (0, .inr (.inr (some p))), (1, .inl x), (2, .inl w)], [.inl w, .inl j, .inl x, .inr (.inr (some p))], (I, L, R, Y), 0, 0) (fun _ => rfl) ?_
                refine yi_G_callv rfl rfl (cl_rcv tp rfl) rfl (k_duringCell d (by omega) hP.1 tp ) ?_
                rintro _ ⟨z11, rfl⟩
                show yi_G zi_Ms d zi_m305 (145, [(10, .inl j), (8, .inr (.inl v)), (7, .inl (I p 8)), (6, .inl 0), (5, .inl 1), (4, .inl (yi_iand (yi_shr x 4) 15)), (3, .inl (yi_iand x 15)), (0, .inr (.inr (some p))), (1, .inl x), (2, .inl w)], [.inr (.inl z11)], (I, L, R, Y), 0, 0) _
                refine yi_G_run 2 (149, [(11, .inr (.inl z11)), (10, .inl j), (8, .inr (.inl v)), (7, .inl (I p 8)), (6, .inl 0), (5, .inl 1), (4, .inl (yi_iand (yi_shr x 4) 15)), (3, .inl (yi_iand x 15)), (0, .inr (.inr (some p))), (1, .inl x), (2, .inl w)], [.inl 1], (I, L, R, Y), 0, 0) (fun _ => rfl) ?_
                refine yi_G_if1 false rfl (by decide) ?_
                refine yi_G_run 5 (167, [(8, .inr (.inl (yi_land v z11))), (11, .inr (.inl z11)), (10, .inl j), (7, .inl (I p 8)), (6, .inl 0), (5, .inl 1), (4, .inl (yi_iand (yi_shr x 4) 15)), (3, .inl (yi_iand x 15)), (0, .inr (.inr (some p))), (1, .inl x), (2, .inl w)], [], (I, L, R, Y), 0, 0) (fun _ => rfl) ?_
                refine yi_G_iinc [(10, .inl (j + 1)), (8, .inr (.inl (yi_land v z11))), (11, .inr (.inl z11)), (7, .inl (I p 8)), (6, .inl 0), (5, .inl 1), (4, .inl (yi_iand (yi_shr x 4) 15)), (3, .inl (yi_iand x 15)), (0, .inr (.inr (some p))), (1, .inl x), (2, .inl w)] rfl rfl rfl (by rw [show yi_w (j + 1) = j + 1 from (yi_wn (by omega) (by omega)).trans (by omega)]; rfl) ?_
                refine yi_G_run 1 (114, [(10, .inl (j + 1)), (8, .inr (.inl (yi_land v z11))), (11, .inr (.inl z11)), (7, .inl (I p 8)), (6, .inl 0), (5, .inl 1), (4, .inl (yi_iand (yi_shr x 4) 15)), (3, .inl (yi_iand x 15)), (0, .inr (.inr (some p))), (1, .inl x), (2, .inl w)], [], (I, L, R, Y), 0, 0) (fun _ => rfl) ?_
                refine yi_G_al (al := [(10, .inl (j + 1)), (8, .inr (.inl (yi_land v z11))), (7, .inl (I p 8)), (6, .inl 0), (5, .inl 1), (4, .inl (yi_iand (yi_shr x 4) 15)), (3, .inl (yi_iand x 15)), (0, .inr (.inr (some p))), (1, .inl x), (2, .inl w)]) (show ([10, 8, 7, 6, 5, 4, 3, 0, 1, 2] : List Nat).Nodup by decide) (show ([10, 8, 11, 7, 6, 5, 4, 3, 0, 1, 2] : List Nat).Nodup by decide) (yi_mc (List.mem_of_getElem? (i := 0) rfl) (yi_mc (List.mem_of_getElem? (i := 1) rfl) (yi_mc (List.mem_of_getElem? (i := 3) rfl) (yi_mc (List.mem_of_getElem? (i := 4) rfl) (yi_mc (List.mem_of_getElem? (i := 5) rfl) (yi_mc (List.mem_of_getElem? (i := 6) rfl) (yi_mc (List.mem_of_getElem? (i := 7) rfl) (yi_mc (List.mem_of_getElem? (i := 8) rfl) (yi_mc (List.mem_of_getElem? (i := 9) rfl) (yi_mc (List.mem_of_getElem? (i := 10) rfl) yi_mn)))))))))) ?_
                exact ih114 _ (by omega) (j + 1) (yi_land v z11) (by omega) rfl
          exact pt114 _ 0 (-1) (by omega) rfl
        · refine yi_G_if2 true rfl (yi_ne_t h6) ?_
          refine yi_G_run 3 (53, [(5, .inl 0), (4, .inl (yi_iand (yi_shr x 4) 15)), (3, .inl (yi_iand x 15)), (0, .inr (.inr (some p))), (1, .inl x), (2, .inl w)], [.inl 0], (I, L, R, Y), 0, 0) (fun _ => rfl) ?_
          refine yi_G_if1 false rfl (by decide) ?_
          refine yi_G_run 2 (59, [(5, .inl 0), (4, .inl (yi_iand (yi_shr x 4) 15)), (3, .inl (yi_iand x 15)), (0, .inr (.inr (some p))), (1, .inl x), (2, .inl w)], [.inl 4, .inl (yi_iand (yi_shr x 4) 15)], (I, L, R, Y), 0, 0) (fun _ => rfl) ?_
          by_cases h12 : (yi_iand (yi_shr x 4) 15) = 4
          · refine yi_G_if2 true rfl (yi_eq_t h12) ?_
            refine yi_G_run 3 (71, [(6, .inl 0), (5, .inl 0), (4, .inl (yi_iand (yi_shr x 4) 15)), (3, .inl (yi_iand x 15)), (0, .inr (.inr (some p))), (1, .inl x), (2, .inl w)], [.inl 0], (I, L, R, Y), 0, 0) (fun _ => rfl) ?_
            refine yi_G_if1 true rfl (by decide) ?_
            refine yi_G_run 1 (82, [(6, .inl 0), (5, .inl 0), (4, .inl (yi_iand (yi_shr x 4) 15)), (3, .inl (yi_iand x 15)), (0, .inr (.inr (some p))), (1, .inl x), (2, .inl w)], [.inr (.inr (some p))], (I, L, R, Y), 0, 0) (fun _ => rfl) ?_
            have b13 := cl_rd hP.1 tp (k := 8) (lo := 0) (hi := 4) rfl
            refine cl_G_gi rfl (cl_T_K tp) rfl rfl rfl ?_
            refine yi_G_run 2 (89, [(7, .inl (I p 8)), (6, .inl 0), (5, .inl 0), (4, .inl (yi_iand (yi_shr x 4) 15)), (3, .inl (yi_iand x 15)), (0, .inr (.inr (some p))), (1, .inl x), (2, .inl w)], [.inl 0], (I, L, R, Y), 0, 0) (fun _ => rfl) ?_
            refine yi_G_if1 true rfl (by decide) ?_
            refine yi_G_run 3 (103, [(8, .inr (.inl 0)), (7, .inl (I p 8)), (6, .inl 0), (5, .inl 0), (4, .inl (yi_iand (yi_shr x 4) 15)), (3, .inl (yi_iand x 15)), (0, .inr (.inr (some p))), (1, .inl x), (2, .inl w)], [.inl 0], (I, L, R, Y), 0, 0) (fun _ => rfl) ?_
            refine yi_G_if1 true rfl (by decide) ?_
            refine yi_G_run 2 (114, [(10, .inl 0), (8, .inr (.inl 0)), (7, .inl (I p 8)), (6, .inl 0), (5, .inl 0), (4, .inl (yi_iand (yi_shr x 4) 15)), (3, .inl (yi_iand x 15)), (0, .inr (.inr (some p))), (1, .inl x), (2, .inl w)], [], (I, L, R, Y), 0, 0) (fun _ => rfl) ?_
            have pt114 : ∀ (m_ : Nat) (j : Int) (v : Int), (0 ≤ j ∧ j ≤ 16) → (16 - j).toNat = m_ → yi_G zi_Ms d zi_m305 (114, [(10, .inl j), (8, .inr (.inl v)), (7, .inl (I p 8)), (6, .inl 0), (5, .inl 0), (4, .inl (yi_iand (yi_shr x 4) 15)), (3, .inl (yi_iand x 15)), (0, .inr (.inr (some p))), (1, .inl x), (2, .inl w)], [], (I, L, R, Y), 0, 0) (fun r => ∃ z, r = (some (.inr (.inl z)), (I, L, R, Y), 0, 0)) := by
              intro m114
              induction m114 using Nat.strongRecOn with
              | _ m114 ih114 =>
              intro j v j0 hm114
              refine yi_G_run 2 (118, [(10, .inl j), (8, .inr (.inl v)), (7, .inl (I p 8)), (6, .inl 0), (5, .inl 0), (4, .inl (yi_iand (yi_shr x 4) 15)), (3, .inl (yi_iand x 15)), (0, .inr (.inr (some p))), (1, .inl x), (2, .inl w)], [.inl (I p 8), .inl j], (I, L, R, Y), 0, 0) (fun _ => rfl) ?_
              by_cases h14 : (I p 8) ≤ j
              · refine yi_G_if2 true rfl (yi_ge_t h14) ?_
                refine yi_G_run 1 (175, [(10, .inl j), (8, .inr (.inl v)), (7, .inl (I p 8)), (6, .inl 0), (5, .inl 0), (4, .inl (yi_iand (yi_shr x 4) 15)), (3, .inl (yi_iand x 15)), (0, .inr (.inr (some p))), (1, .inl x), (2, .inl w)], [.inr (.inl v)], (I, L, R, Y), 0, 0) (fun _ => rfl) ?_
                exact yi_G_retl rfl rfl (⟨_, rfl⟩)
              · refine yi_G_if2 false rfl (yi_ge_f h14) ?_
                refine yi_G_run 2 (123, [(10, .inl j), (8, .inr (.inl v)), (7, .inl (I p 8)), (6, .inl 0), (5, .inl 0), (4, .inl (yi_iand (yi_shr x 4) 15)), (3, .inl (yi_iand x 15)), (0, .inr (.inr (some p))), (1, .inl x), (2, .inl w)], [.inl 5, .inl (yi_iand x 15)], (I, L, R, Y), 0, 0) (fun _ => rfl) ?_
                by_cases h15 : (yi_iand x 15) = 5
                · refine yi_G_if2 false rfl (yi_ne_f h15) ?_
                  refine yi_G_run 4 (131, [(10, .inl j), (8, .inr (.inl v)), (7, .inl (I p 8)), (6, .inl 0), (5, .inl 0), (4, .inl (yi_iand (yi_shr x 4) 15)), (3, .inl (yi_iand x 15)), (0, .inr (.inr (some p))), (1, .inl x), (2, .inl w)], [.inl w, .inl j, .inl x, .inr (.inr (some p))], (I, L, R, Y), 0, 0) (fun _ => rfl) ?_
                  refine yi_G_callv rfl rfl (cl_rcv tp rfl) rfl (k_timesCell d (by omega) hP.1 tp ) ?_
                  rintro _ ⟨z16, rfl⟩
                  show yi_G zi_Ms d zi_m305 (134, [(10, .inl j), (8, .inr (.inl v)), (7, .inl (I p 8)), (6, .inl 0), (5, .inl 0), (4, .inl (yi_iand (yi_shr x 4) 15)), (3, .inl (yi_iand x 15)), (0, .inr (.inr (some p))), (1, .inl x), (2, .inl w)], [.inr (.inl z16)], (I, L, R, Y), 0, 0) _
                  refine yi_G_run 3 (149, [(11, .inr (.inl z16)), (10, .inl j), (8, .inr (.inl v)), (7, .inl (I p 8)), (6, .inl 0), (5, .inl 0), (4, .inl (yi_iand (yi_shr x 4) 15)), (3, .inl (yi_iand x 15)), (0, .inr (.inr (some p))), (1, .inl x), (2, .inl w)], [.inl 0], (I, L, R, Y), 0, 0) (fun _ => rfl) ?_
                  refine yi_G_if1 true rfl (by decide) ?_
                  refine yi_G_run 4 (167, [(8, .inr (.inl (yi_lor v z16))), (11, .inr (.inl z16)), (10, .inl j), (7, .inl (I p 8)), (6, .inl 0), (5, .inl 0), (4, .inl (yi_iand (yi_shr x 4) 15)), (3, .inl (yi_iand x 15)), (0, .inr (.inr (some p))), (1, .inl x), (2, .inl w)], [], (I, L, R, Y), 0, 0) (fun _ => rfl) ?_
                  refine yi_G_iinc [(10, .inl (j + 1)), (8, .inr (.inl (yi_lor v z16))), (11, .inr (.inl z16)), (7, .inl (I p 8)), (6, .inl 0), (5, .inl 0), (4, .inl (yi_iand (yi_shr x 4) 15)), (3, .inl (yi_iand x 15)), (0, .inr (.inr (some p))), (1, .inl x), (2, .inl w)] rfl rfl rfl (by rw [show yi_w (j + 1) = j + 1 from (yi_wn (by omega) (by omega)).trans (by omega)]; rfl) ?_
                  refine yi_G_run 1 (114, [(10, .inl (j + 1)), (8, .inr (.inl (yi_lor v z16))), (11, .inr (.inl z16)), (7, .inl (I p 8)), (6, .inl 0), (5, .inl 0), (4, .inl (yi_iand (yi_shr x 4) 15)), (3, .inl (yi_iand x 15)), (0, .inr (.inr (some p))), (1, .inl x), (2, .inl w)], [], (I, L, R, Y), 0, 0) (fun _ => rfl) ?_
                  refine yi_G_al (al := [(10, .inl (j + 1)), (8, .inr (.inl (yi_lor v z16))), (7, .inl (I p 8)), (6, .inl 0), (5, .inl 0), (4, .inl (yi_iand (yi_shr x 4) 15)), (3, .inl (yi_iand x 15)), (0, .inr (.inr (some p))), (1, .inl x), (2, .inl w)]) (show ([10, 8, 7, 6, 5, 4, 3, 0, 1, 2] : List Nat).Nodup by decide) (show ([10, 8, 11, 7, 6, 5, 4, 3, 0, 1, 2] : List Nat).Nodup by decide) (yi_mc (List.mem_of_getElem? (i := 0) rfl) (yi_mc (List.mem_of_getElem? (i := 1) rfl) (yi_mc (List.mem_of_getElem? (i := 3) rfl) (yi_mc (List.mem_of_getElem? (i := 4) rfl) (yi_mc (List.mem_of_getElem? (i := 5) rfl) (yi_mc (List.mem_of_getElem? (i := 6) rfl) (yi_mc (List.mem_of_getElem? (i := 7) rfl) (yi_mc (List.mem_of_getElem? (i := 8) rfl) (yi_mc (List.mem_of_getElem? (i := 9) rfl) (yi_mc (List.mem_of_getElem? (i := 10) rfl) yi_mn)))))))))) ?_
                  exact ih114 _ (by omega) (j + 1) (yi_lor v z16) (by omega) rfl
                · refine yi_G_if2 true rfl (yi_ne_t h15) ?_
                  refine yi_G_run 4 (142, [(10, .inl j), (8, .inr (.inl v)), (7, .inl (I p 8)), (6, .inl 0), (5, .inl 0), (4, .inl (yi_iand (yi_shr x 4) 15)), (3, .inl (yi_iand x 15)), (0, .inr (.inr (some p))), (1, .inl x), (2, .inl w)], [.inl w, .inl j, .inl x, .inr (.inr (some p))], (I, L, R, Y), 0, 0) (fun _ => rfl) ?_
                  refine yi_G_callv rfl rfl (cl_rcv tp rfl) rfl (k_duringCell d (by omega) hP.1 tp ) ?_
                  rintro _ ⟨z17, rfl⟩
                  show yi_G zi_Ms d zi_m305 (145, [(10, .inl j), (8, .inr (.inl v)), (7, .inl (I p 8)), (6, .inl 0), (5, .inl 0), (4, .inl (yi_iand (yi_shr x 4) 15)), (3, .inl (yi_iand x 15)), (0, .inr (.inr (some p))), (1, .inl x), (2, .inl w)], [.inr (.inl z17)], (I, L, R, Y), 0, 0) _
                  refine yi_G_run 2 (149, [(11, .inr (.inl z17)), (10, .inl j), (8, .inr (.inl v)), (7, .inl (I p 8)), (6, .inl 0), (5, .inl 0), (4, .inl (yi_iand (yi_shr x 4) 15)), (3, .inl (yi_iand x 15)), (0, .inr (.inr (some p))), (1, .inl x), (2, .inl w)], [.inl 0], (I, L, R, Y), 0, 0) (fun _ => rfl) ?_
                  refine yi_G_if1 true rfl (by decide) ?_
                  refine yi_G_run 4 (167, [(8, .inr (.inl (yi_lor v z17))), (11, .inr (.inl z17)), (10, .inl j), (7, .inl (I p 8)), (6, .inl 0), (5, .inl 0), (4, .inl (yi_iand (yi_shr x 4) 15)), (3, .inl (yi_iand x 15)), (0, .inr (.inr (some p))), (1, .inl x), (2, .inl w)], [], (I, L, R, Y), 0, 0) (fun _ => rfl) ?_
                  refine yi_G_iinc [(10, .inl (j + 1)), (8, .inr (.inl (yi_lor v z17))), (11, .inr (.inl z17)), (7, .inl (I p 8)), (6, .inl 0), (5, .inl 0), (4, .inl (yi_iand (yi_shr x 4) 15)), (3, .inl (yi_iand x 15)), (0, .inr (.inr (some p))), (1, .inl x), (2, .inl w)] rfl rfl rfl (by rw [show yi_w (j + 1) = j + 1 from (yi_wn (by omega) (by omega)).trans (by omega)]; rfl) ?_
                  refine yi_G_run 1 (114, [(10, .inl (j + 1)), (8, .inr (.inl (yi_lor v z17))), (11, .inr (.inl z17)), (7, .inl (I p 8)), (6, .inl 0), (5, .inl 0), (4, .inl (yi_iand (yi_shr x 4) 15)), (3, .inl (yi_iand x 15)), (0, .inr (.inr (some p))), (1, .inl x), (2, .inl w)], [], (I, L, R, Y), 0, 0) (fun _ => rfl) ?_
                  refine yi_G_al (al := [(10, .inl (j + 1)), (8, .inr (.inl (yi_lor v z17))), (7, .inl (I p 8)), (6, .inl 0), (5, .inl 0), (4, .inl (yi_iand (yi_shr x 4) 15)), (3, .inl (yi_iand x 15)), (0, .inr (.inr (some p))), (1, .inl x), (2, .inl w)]) (show ([10, 8, 7, 6, 5, 4, 3, 0, 1, 2] : List Nat).Nodup by decide) (show ([10, 8, 11, 7, 6, 5, 4, 3, 0, 1, 2] : List Nat).Nodup by decide) (yi_mc (List.mem_of_getElem? (i := 0) rfl) (yi_mc (List.mem_of_getElem? (i := 1) rfl) (yi_mc (List.mem_of_getElem? (i := 3) rfl) (yi_mc (List.mem_of_getElem? (i := 4) rfl) (yi_mc (List.mem_of_getElem? (i := 5) rfl) (yi_mc (List.mem_of_getElem? (i := 6) rfl) (yi_mc (List.mem_of_getElem? (i := 7) rfl) (yi_mc (List.mem_of_getElem? (i := 8) rfl) (yi_mc (List.mem_of_getElem? (i := 9) rfl) (yi_mc (List.mem_of_getElem? (i := 10) rfl) yi_mn)))))))))) ?_
                  exact ih114 _ (by omega) (j + 1) (yi_lor v z17) (by omega) rfl
            exact pt114 _ 0 0 (by omega) rfl
          · refine yi_G_if2 false rfl (yi_eq_f h12) ?_
            refine yi_G_run 4 (71, [(6, .inl 1), (5, .inl 0), (4, .inl (yi_iand (yi_shr x 4) 15)), (3, .inl (yi_iand x 15)), (0, .inr (.inr (some p))), (1, .inl x), (2, .inl w)], [.inl 1], (I, L, R, Y), 0, 0) (fun _ => rfl) ?_
            refine yi_G_if1 false rfl (by decide) ?_
            refine yi_G_run 2 (77, [(6, .inl 1), (5, .inl 0), (4, .inl (yi_iand (yi_shr x 4) 15)), (3, .inl (yi_iand x 15)), (0, .inr (.inr (some p))), (1, .inl x), (2, .inl w)], [.inl 1, .inl (yi_iand (yi_shr x 4) 15)], (I, L, R, Y), 0, 0) (fun _ => rfl) ?_
            refine yi_G_iadd rfl ((yi_iand (yi_shr x 4) 15) + 1) (yi_wn (by omega) (by omega)) ?_
            refine yi_G_run 3 (89, [(7, .inl ((yi_iand (yi_shr x 4) 15) + 1)), (6, .inl 1), (5, .inl 0), (4, .inl (yi_iand (yi_shr x 4) 15)), (3, .inl (yi_iand x 15)), (0, .inr (.inr (some p))), (1, .inl x), (2, .inl w)], [.inl 0], (I, L, R, Y), 0, 0) (fun _ => rfl) ?_
            refine yi_G_if1 true rfl (by decide) ?_
            refine yi_G_run 3 (103, [(8, .inr (.inl 0)), (7, .inl ((yi_iand (yi_shr x 4) 15) + 1)), (6, .inl 1), (5, .inl 0), (4, .inl (yi_iand (yi_shr x 4) 15)), (3, .inl (yi_iand x 15)), (0, .inr (.inr (some p))), (1, .inl x), (2, .inl w)], [.inl 1], (I, L, R, Y), 0, 0) (fun _ => rfl) ?_
            refine yi_G_if1 false rfl (by decide) ?_
            refine yi_G_run 3 (114, [(10, .inl (yi_iand (yi_shr x 4) 15)), (8, .inr (.inl 0)), (7, .inl ((yi_iand (yi_shr x 4) 15) + 1)), (6, .inl 1), (5, .inl 0), (4, .inl (yi_iand (yi_shr x 4) 15)), (3, .inl (yi_iand x 15)), (0, .inr (.inr (some p))), (1, .inl x), (2, .inl w)], [], (I, L, R, Y), 0, 0) (fun _ => rfl) ?_
            have pt114 : ∀ (m_ : Nat) (j : Int) (v : Int), (0 ≤ j ∧ j ≤ 16) → (16 - j).toNat = m_ → yi_G zi_Ms d zi_m305 (114, [(10, .inl j), (8, .inr (.inl v)), (7, .inl ((yi_iand (yi_shr x 4) 15) + 1)), (6, .inl 1), (5, .inl 0), (4, .inl (yi_iand (yi_shr x 4) 15)), (3, .inl (yi_iand x 15)), (0, .inr (.inr (some p))), (1, .inl x), (2, .inl w)], [], (I, L, R, Y), 0, 0) (fun r => ∃ z, r = (some (.inr (.inl z)), (I, L, R, Y), 0, 0)) := by
              intro m114
              induction m114 using Nat.strongRecOn with
              | _ m114 ih114 =>
              intro j v j0 hm114
              refine yi_G_run 2 (118, [(10, .inl j), (8, .inr (.inl v)), (7, .inl ((yi_iand (yi_shr x 4) 15) + 1)), (6, .inl 1), (5, .inl 0), (4, .inl (yi_iand (yi_shr x 4) 15)), (3, .inl (yi_iand x 15)), (0, .inr (.inr (some p))), (1, .inl x), (2, .inl w)], [.inl ((yi_iand (yi_shr x 4) 15) + 1), .inl j], (I, L, R, Y), 0, 0) (fun _ => rfl) ?_
              by_cases h18 : ((yi_iand (yi_shr x 4) 15) + 1) ≤ j
              · refine yi_G_if2 true rfl (yi_ge_t h18) ?_
                refine yi_G_run 1 (175, [(10, .inl j), (8, .inr (.inl v)), (7, .inl ((yi_iand (yi_shr x 4) 15) + 1)), (6, .inl 1), (5, .inl 0), (4, .inl (yi_iand (yi_shr x 4) 15)), (3, .inl (yi_iand x 15)), (0, .inr (.inr (some p))), (1, .inl x), (2, .inl w)], [.inr (.inl v)], (I, L, R, Y), 0, 0) (fun _ => rfl) ?_
                exact yi_G_retl rfl rfl (⟨_, rfl⟩)
              · refine yi_G_if2 false rfl (yi_ge_f h18) ?_
                refine yi_G_run 2 (123, [(10, .inl j), (8, .inr (.inl v)), (7, .inl ((yi_iand (yi_shr x 4) 15) + 1)), (6, .inl 1), (5, .inl 0), (4, .inl (yi_iand (yi_shr x 4) 15)), (3, .inl (yi_iand x 15)), (0, .inr (.inr (some p))), (1, .inl x), (2, .inl w)], [.inl 5, .inl (yi_iand x 15)], (I, L, R, Y), 0, 0) (fun _ => rfl) ?_
                by_cases h19 : (yi_iand x 15) = 5
                · refine yi_G_if2 false rfl (yi_ne_f h19) ?_
                  refine yi_G_run 4 (131, [(10, .inl j), (8, .inr (.inl v)), (7, .inl ((yi_iand (yi_shr x 4) 15) + 1)), (6, .inl 1), (5, .inl 0), (4, .inl (yi_iand (yi_shr x 4) 15)), (3, .inl (yi_iand x 15)), (0, .inr (.inr (some p))), (1, .inl x), (2, .inl w)], [.inl w, .inl j, .inl x, .inr (.inr (some p))], (I, L, R, Y), 0, 0) (fun _ => rfl) ?_
                  refine yi_G_callv rfl rfl (cl_rcv tp rfl) rfl (k_timesCell d (by omega) hP.1 tp ) ?_
                  rintro _ ⟨z20, rfl⟩
                  show yi_G zi_Ms d zi_m305 (134, [(10, .inl j), (8, .inr (.inl v)), (7, .inl ((yi_iand (yi_shr x 4) 15) + 1)), (6, .inl 1), (5, .inl 0), (4, .inl (yi_iand (yi_shr x 4) 15)), (3, .inl (yi_iand x 15)), (0, .inr (.inr (some p))), (1, .inl x), (2, .inl w)], [.inr (.inl z20)], (I, L, R, Y), 0, 0) _
                  refine yi_G_run 3 (149, [(11, .inr (.inl z20)), (10, .inl j), (8, .inr (.inl v)), (7, .inl ((yi_iand (yi_shr x 4) 15) + 1)), (6, .inl 1), (5, .inl 0), (4, .inl (yi_iand (yi_shr x 4) 15)), (3, .inl (yi_iand x 15)), (0, .inr (.inr (some p))), (1, .inl x), (2, .inl w)], [.inl 0], (I, L, R, Y), 0, 0) (fun _ => rfl) ?_
                  refine yi_G_if1 true rfl (by decide) ?_
                  refine yi_G_run 4 (167, [(8, .inr (.inl (yi_lor v z20))), (11, .inr (.inl z20)), (10, .inl j), (7, .inl ((yi_iand (yi_shr x 4) 15) + 1)), (6, .inl 1), (5, .inl 0), (4, .inl (yi_iand (yi_shr x 4) 15)), (3, .inl (yi_iand x 15)), (0, .inr (.inr (some p))), (1, .inl x), (2, .inl w)], [], (I, L, R, Y), 0, 0) (fun _ => rfl) ?_
                  refine yi_G_iinc [(10, .inl (j + 1)), (8, .inr (.inl (yi_lor v z20))), (11, .inr (.inl z20)), (7, .inl ((yi_iand (yi_shr x 4) 15) + 1)), (6, .inl 1), (5, .inl 0), (4, .inl (yi_iand (yi_shr x 4) 15)), (3, .inl (yi_iand x 15)), (0, .inr (.inr (some p))), (1, .inl x), (2, .inl w)] rfl rfl rfl (by rw [show yi_w (j + 1) = j + 1 from (yi_wn (by omega) (by omega)).trans (by omega)]; rfl) ?_
                  refine yi_G_run 1 (114, [(10, .inl (j + 1)), (8, .inr (.inl (yi_lor v z20))), (11, .inr (.inl z20)), (7, .inl ((yi_iand (yi_shr x 4) 15) + 1)), (6, .inl 1), (5, .inl 0), (4, .inl (yi_iand (yi_shr x 4) 15)), (3, .inl (yi_iand x 15)), (0, .inr (.inr (some p))), (1, .inl x), (2, .inl w)], [], (I, L, R, Y), 0, 0) (fun _ => rfl) ?_
                  refine yi_G_al (al := [(10, .inl (j + 1)), (8, .inr (.inl (yi_lor v z20))), (7, .inl ((yi_iand (yi_shr x 4) 15) + 1)), (6, .inl 1), (5, .inl 0), (4, .inl (yi_iand (yi_shr x 4) 15)), (3, .inl (yi_iand x 15)), (0, .inr (.inr (some p))), (1, .inl x), (2, .inl w)]) (show ([10, 8, 7, 6, 5, 4, 3, 0, 1, 2] : List Nat).Nodup by decide) (show ([10, 8, 11, 7, 6, 5, 4, 3, 0, 1, 2] : List Nat).Nodup by decide) (yi_mc (List.mem_of_getElem? (i := 0) rfl) (yi_mc (List.mem_of_getElem? (i := 1) rfl) (yi_mc (List.mem_of_getElem? (i := 3) rfl) (yi_mc (List.mem_of_getElem? (i := 4) rfl) (yi_mc (List.mem_of_getElem? (i := 5) rfl) (yi_mc (List.mem_of_getElem? (i := 6) rfl) (yi_mc (List.mem_of_getElem? (i := 7) rfl) (yi_mc (List.mem_of_getElem? (i := 8) rfl) (yi_mc (List.mem_of_getElem? (i := 9) rfl) (yi_mc (List.mem_of_getElem? (i := 10) rfl) yi_mn)))))))))) ?_
                  exact ih114 _ (by omega) (j + 1) (yi_lor v z20) (by omega) rfl
                · refine yi_G_if2 true rfl (yi_ne_t h19) ?_
                  refine yi_G_run 4 (142, [(10, .inl j), (8, .inr (.inl v)), (7, .inl ((yi_iand (yi_shr x 4) 15) + 1)), (6, .inl 1), (5, .inl 0), (4, .inl (yi_iand (yi_shr x 4) 15)), (3, .inl (yi_iand x 15)), (0, .inr (.inr (some p))), (1, .inl x), (2, .inl w)], [.inl w, .inl j, .inl x, .inr (.inr (some p))], (I, L, R, Y), 0, 0) (fun _ => rfl) ?_
                  refine yi_G_callv rfl rfl (cl_rcv tp rfl) rfl (k_duringCell d (by omega) hP.1 tp ) ?_
                  rintro _ ⟨z21, rfl⟩
                  show yi_G zi_Ms d zi_m305 (145, [(10, .inl j), (8, .inr (.inl v)), (7, .inl ((yi_iand (yi_shr x 4) 15) + 1)), (6, .inl 1), (5, .inl 0), (4, .inl (yi_iand (yi_shr x 4) 15)), (3, .inl (yi_iand x 15)), (0, .inr (.inr (some p))), (1, .inl x), (2, .inl w)], [.inr (.inl z21)], (I, L, R, Y), 0, 0) _
                  refine yi_G_run 2 (149, [(11, .inr (.inl z21)), (10, .inl j), (8, .inr (.inl v)), (7, .inl ((yi_iand (yi_shr x 4) 15) + 1)), (6, .inl 1), (5, .inl 0), (4, .inl (yi_iand (yi_shr x 4) 15)), (3, .inl (yi_iand x 15)), (0, .inr (.inr (some p))), (1, .inl x), (2, .inl w)], [.inl 0], (I, L, R, Y), 0, 0) (fun _ => rfl) ?_
                  refine yi_G_if1 true rfl (by decide) ?_
                  refine yi_G_run 4 (167, [(8, .inr (.inl (yi_lor v z21))), (11, .inr (.inl z21)), (10, .inl j), (7, .inl ((yi_iand (yi_shr x 4) 15) + 1)), (6, .inl 1), (5, .inl 0), (4, .inl (yi_iand (yi_shr x 4) 15)), (3, .inl (yi_iand x 15)), (0, .inr (.inr (some p))), (1, .inl x), (2, .inl w)], [], (I, L, R, Y), 0, 0) (fun _ => rfl) ?_
                  refine yi_G_iinc [(10, .inl (j + 1)), (8, .inr (.inl (yi_lor v z21))), (11, .inr (.inl z21)), (7, .inl ((yi_iand (yi_shr x 4) 15) + 1)), (6, .inl 1), (5, .inl 0), (4, .inl (yi_iand (yi_shr x 4) 15)), (3, .inl (yi_iand x 15)), (0, .inr (.inr (some p))), (1, .inl x), (2, .inl w)] rfl rfl rfl (by rw [show yi_w (j + 1) = j + 1 from (yi_wn (by omega) (by omega)).trans (by omega)]; rfl) ?_
                  refine yi_G_run 1 (114, [(10, .inl (j + 1)), (8, .inr (.inl (yi_lor v z21))), (11, .inr (.inl z21)), (7, .inl ((yi_iand (yi_shr x 4) 15) + 1)), (6, .inl 1), (5, .inl 0), (4, .inl (yi_iand (yi_shr x 4) 15)), (3, .inl (yi_iand x 15)), (0, .inr (.inr (some p))), (1, .inl x), (2, .inl w)], [], (I, L, R, Y), 0, 0) (fun _ => rfl) ?_
                  refine yi_G_al (al := [(10, .inl (j + 1)), (8, .inr (.inl (yi_lor v z21))), (7, .inl ((yi_iand (yi_shr x 4) 15) + 1)), (6, .inl 1), (5, .inl 0), (4, .inl (yi_iand (yi_shr x 4) 15)), (3, .inl (yi_iand x 15)), (0, .inr (.inr (some p))), (1, .inl x), (2, .inl w)]) (show ([10, 8, 7, 6, 5, 4, 3, 0, 1, 2] : List Nat).Nodup by decide) (show ([10, 8, 11, 7, 6, 5, 4, 3, 0, 1, 2] : List Nat).Nodup by decide) (yi_mc (List.mem_of_getElem? (i := 0) rfl) (yi_mc (List.mem_of_getElem? (i := 1) rfl) (yi_mc (List.mem_of_getElem? (i := 3) rfl) (yi_mc (List.mem_of_getElem? (i := 4) rfl) (yi_mc (List.mem_of_getElem? (i := 5) rfl) (yi_mc (List.mem_of_getElem? (i := 6) rfl) (yi_mc (List.mem_of_getElem? (i := 7) rfl) (yi_mc (List.mem_of_getElem? (i := 8) rfl) (yi_mc (List.mem_of_getElem? (i := 9) rfl) (yi_mc (List.mem_of_getElem? (i := 10) rfl) yi_mn)))))))))) ?_
                  exact ih114 _ (by omega) (j + 1) (yi_lor v z21) (by omega) rfl
            exact pt114 _ (yi_iand (yi_shr x 4) 15) 0 (by omega) rfl
theorem k_solveCell (D : Nat) (hD : 5 ≤ D) {E : List Nat} {I L : cl_I} {R : cl_Rr} {Y : cl_Y} (hC : cl_C E I L R Y) {p : Nat} (tp : cl_T E Y p 4) {a : Nat} (ta : cl_T E Y a 20) {x : Int} {y : Int} {w : Int} : yi_E zi_Ms D 310 [.inr (.inr (some p)), .inr (.inr (some a)), .inl x, .inl y, .inl w] (I, L, R, Y) (fun r => ∃ z, ∃ L', r = (some (.inr (.inl z)), (I, L', R, Y), 0, 0) ∧ cl_P E I L R Y I L' R Y) := by
  obtain ⟨d, rfl⟩ : ∃ d, D = d + 1 := ⟨D - 1, by omega⟩
  refine yi_E_of (M := zi_m310) rfl rfl ?_
  have hP : cl_P E I L R Y I L R Y := cl_P_r hC
  have na := cl_nb hP.1 ta
  show yi_G zi_Ms d zi_m310 (0, [(0, .inr (.inr (some p))), (1, .inr (.inr (some a))), (2, .inl x), (3, .inl y), (4, .inl w)], [], (I, L, R, Y), 0, 0) _
  refine yi_G_run 4 (5, [(5, .inl 0), (0, .inr (.inr (some p))), (1, .inr (.inr (some a))), (2, .inl x), (3, .inl y), (4, .inl w)], [.inl 0, .inl x], (I, L, R, Y), 0, 0) (fun _ => rfl) ?_
  refine cl_G_max rfl rfl cl_max ?_
  refine yi_G_run 1 (10, [(6, .inl (max x 0)), (5, .inl 0), (0, .inr (.inr (some p))), (1, .inr (.inr (some a))), (2, .inl x), (3, .inl y), (4, .inl w)], [], (I, L, R, Y), 0, 0) (fun _ => rfl) ?_
  have pt10 : ∀ (m_ : Nat) (j : Int) (tz : Int) (Lp10 : cl_I), (cl_P E I L R Y I Lp10 R Y) → (0 ≤ j) → (0 ≤ tz ∧ tz ≤ 64) → ((Y.2.1 a : Int) - j).toNat = m_ → yi_G zi_Ms d zi_m310 (10, [(6, .inl j), (5, .inl tz), (0, .inr (.inr (some p))), (1, .inr (.inr (some a))), (2, .inl x), (3, .inl y), (4, .inl w)], [], (I, Lp10, R, Y), 0, 0) (fun r => ∃ z, ∃ L', r = (some (.inr (.inl z)), (I, L', R, Y), 0, 0) ∧ cl_P E I L R Y I L' R Y) := by
    intro m10
    induction m10 using Nat.strongRecOn with
    | _ m10 ih10 =>
    intro j tz Lp10 hPp10 j0 tz0 hm10
    refine yi_G_run 2 (13, [(6, .inl j), (5, .inl tz), (0, .inr (.inr (some p))), (1, .inr (.inr (some a))), (2, .inl x), (3, .inl y), (4, .inl w)], [.inl y, .inl j], (I, Lp10, R, Y), 0, 0) (fun _ => rfl) ?_
    by_cases h1 : y ≤ j
    · refine yi_G_if2 true rfl (yi_ge_t h1) ?_
      refine yi_G_run 2 (182, [(6, .inl j), (5, .inl tz), (0, .inr (.inr (some p))), (1, .inr (.inr (some a))), (2, .inl x), (3, .inl y), (4, .inl w)], [.inl 1, .inl tz], (I, Lp10, R, Y), 0, 0) (fun _ => rfl) ?_
      by_cases h2 : tz < 1
      · refine yi_G_if2 true rfl (yi_lt_t h2) ?_
        refine yi_G_run 1 (198, [(6, .inl j), (5, .inl tz), (0, .inr (.inr (some p))), (1, .inr (.inr (some a))), (2, .inl x), (3, .inl y), (4, .inl w)], [.inr (.inl 0)], (I, Lp10, R, Y), 0, 0) (fun _ => rfl) ?_
        exact yi_G_retl rfl rfl (⟨_, _, rfl, hPp10⟩)
      · refine yi_G_if2 false rfl (yi_lt_f h2) ?_
        refine yi_G_run 1 (186, [(6, .inl j), (5, .inl tz), (0, .inr (.inr (some p))), (1, .inr (.inr (some a))), (2, .inl x), (3, .inl y), (4, .inl w)], [.inr (.inr (some p))], (I, Lp10, R, Y), 0, 0) (fun _ => rfl) ?_
        obtain ⟨q3, e4, t5, n6⟩ := cl_rn hPp10.1 tp (k := 6) (m := 63) rfl
        refine cl_G_gr rfl (cl_T_K tp) rfl rfl rfl e4 ?_
        refine yi_G_run 2 (192, [(6, .inl j), (5, .inl tz), (0, .inr (.inr (some p))), (1, .inr (.inr (some a))), (2, .inl x), (3, .inl y), (4, .inl w)], [.inl 1, .inl tz, .inr (.inr (some q3))], (I, Lp10, R, Y), 0, 0) (fun _ => rfl) ?_
        refine yi_G_isub rfl (tz - 1) (yi_wn (by omega) (by omega)) ?_
        refine cl_G_lald rfl t5 (by omega) (by omega) ?_
        refine yi_G_run 1 (198, [(6, .inl j), (5, .inl tz), (0, .inr (.inr (some p))), (1, .inr (.inr (some a))), (2, .inl x), (3, .inl y), (4, .inl w)], [.inr (.inl (Lp10 q3 ((tz - 1).toNat)))], (I, Lp10, R, Y), 0, 0) (fun _ => rfl) ?_
        exact yi_G_retl rfl rfl (⟨_, _, rfl, hPp10⟩)
    · refine yi_G_if2 false rfl (yi_ge_f h1) ?_
      refine yi_G_run 2 (19, [(6, .inl j), (5, .inl tz), (0, .inr (.inr (some p))), (1, .inr (.inr (some a))), (2, .inl x), (3, .inl y), (4, .inl w)], [.inr (.inr (some a)), .inl j], (I, Lp10, R, Y), 0, 0) (fun _ => rfl) ?_
      refine cl_G_len rfl ta (by omega) ?_
      by_cases h7 : ((Y.2.1 a : Int)) ≤ j
      · refine yi_G_if2 true rfl (yi_ge_t h7) ?_
        refine yi_G_run 2 (182, [(6, .inl j), (5, .inl tz), (0, .inr (.inr (some p))), (1, .inr (.inr (some a))), (2, .inl x), (3, .inl y), (4, .inl w)], [.inl 1, .inl tz], (I, Lp10, R, Y), 0, 0) (fun _ => rfl) ?_
        by_cases h8 : tz < 1
        · refine yi_G_if2 true rfl (yi_lt_t h8) ?_
          refine yi_G_run 1 (198, [(6, .inl j), (5, .inl tz), (0, .inr (.inr (some p))), (1, .inr (.inr (some a))), (2, .inl x), (3, .inl y), (4, .inl w)], [.inr (.inl 0)], (I, Lp10, R, Y), 0, 0) (fun _ => rfl) ?_
          exact yi_G_retl rfl rfl (⟨_, _, rfl, hPp10⟩)
        · refine yi_G_if2 false rfl (yi_lt_f h8) ?_
          refine yi_G_run 1 (186, [(6, .inl j), (5, .inl tz), (0, .inr (.inr (some p))), (1, .inr (.inr (some a))), (2, .inl x), (3, .inl y), (4, .inl w)], [.inr (.inr (some p))], (I, Lp10, R, Y), 0, 0) (fun _ => rfl) ?_
          obtain ⟨q9, e10, t11, n12⟩ := cl_rn hPp10.1 tp (k := 6) (m := 63) rfl
          refine cl_G_gr rfl (cl_T_K tp) rfl rfl rfl e10 ?_
          refine yi_G_run 2 (192, [(6, .inl j), (5, .inl tz), (0, .inr (.inr (some p))), (1, .inr (.inr (some a))), (2, .inl x), (3, .inl y), (4, .inl w)], [.inl 1, .inl tz, .inr (.inr (some q9))], (I, Lp10, R, Y), 0, 0) (fun _ => rfl) ?_
          refine yi_G_isub rfl (tz - 1) (yi_wn (by omega) (by omega)) ?_
          refine cl_G_lald rfl t11 (by omega) (by omega) ?_
          refine yi_G_run 1 (198, [(6, .inl j), (5, .inl tz), (0, .inr (.inr (some p))), (1, .inr (.inr (some a))), (2, .inl x), (3, .inl y), (4, .inl w)], [.inr (.inl (Lp10 q9 ((tz - 1).toNat)))], (I, Lp10, R, Y), 0, 0) (fun _ => rfl) ?_
          exact yi_G_retl rfl rfl (⟨_, _, rfl, hPp10⟩)
      · refine yi_G_if2 false rfl (yi_ge_f h7) ?_
        refine yi_G_run 2 (26, [(6, .inl j), (5, .inl tz), (0, .inr (.inr (some p))), (1, .inr (.inr (some a))), (2, .inl x), (3, .inl y), (4, .inl w)], [.inl j, .inr (.inr (some a))], (I, Lp10, R, Y), 0, 0) (fun _ => rfl) ?_
        refine cl_G_iald rfl ta (by omega) (by omega) ?_
        refine yi_G_run 5 (35, [(7, .inl (yi_iand (I a (j.toNat)) 15)), (6, .inl j), (5, .inl tz), (0, .inr (.inr (some p))), (1, .inr (.inr (some a))), (2, .inl x), (3, .inl y), (4, .inl w)], [.inl 1, .inl (yi_iand (I a (j.toNat)) 15)], (I, Lp10, R, Y), 0, 0) (fun _ => rfl) ?_
        by_cases h13 : (yi_iand (I a (j.toNat)) 15) = 1
        · refine yi_G_if2 false rfl (yi_ne_f h13) ?_
          refine yi_G_run 2 (41, [(7, .inl (yi_iand (I a (j.toNat)) 15)), (6, .inl j), (5, .inl tz), (0, .inr (.inr (some p))), (1, .inr (.inr (some a))), (2, .inl x), (3, .inl y), (4, .inl w)], [.inl 1, .inl tz], (I, Lp10, R, Y), 0, 0) (fun _ => rfl) ?_
          by_cases h14 : tz < 1
          · refine yi_G_if2 true rfl (yi_lt_t h14) ?_
            refine yi_G_iinc [(6, .inl (j + 1)), (7, .inl (yi_iand (I a (j.toNat)) 15)), (5, .inl tz), (0, .inr (.inr (some p))), (1, .inr (.inr (some a))), (2, .inl x), (3, .inl y), (4, .inl w)] rfl rfl rfl (by rw [show yi_w (j + 1) = j + 1 from (yi_wn (by omega) (by omega)).trans (by omega)]; rfl) ?_
            refine yi_G_run 1 (10, [(6, .inl (j + 1)), (7, .inl (yi_iand (I a (j.toNat)) 15)), (5, .inl tz), (0, .inr (.inr (some p))), (1, .inr (.inr (some a))), (2, .inl x), (3, .inl y), (4, .inl w)], [], (I, Lp10, R, Y), 0, 0) (fun _ => rfl) ?_
            refine yi_G_al (al := [(6, .inl (j + 1)), (5, .inl tz), (0, .inr (.inr (some p))), (1, .inr (.inr (some a))), (2, .inl x), (3, .inl y), (4, .inl w)]) (show ([6, 5, 0, 1, 2, 3, 4] : List Nat).Nodup by decide) (show ([6, 7, 5, 0, 1, 2, 3, 4] : List Nat).Nodup by decide) (yi_mc (List.mem_of_getElem? (i := 0) rfl) (yi_mc (List.mem_of_getElem? (i := 2) rfl) (yi_mc (List.mem_of_getElem? (i := 3) rfl) (yi_mc (List.mem_of_getElem? (i := 4) rfl) (yi_mc (List.mem_of_getElem? (i := 5) rfl) (yi_mc (List.mem_of_getElem? (i := 6) rfl) (yi_mc (List.mem_of_getElem? (i := 7) rfl) yi_mn))))))) ?_
            exact ih10 _ (by omega) (j + 1) tz Lp10 hPp10 (by omega) (by omega) rfl
          · refine yi_G_if2 false rfl (yi_lt_f h14) ?_
            refine yi_G_run 1 (45, [(7, .inl (yi_iand (I a (j.toNat)) 15)), (6, .inl j), (5, .inl tz), (0, .inr (.inr (some p))), (1, .inr (.inr (some a))), (2, .inl x), (3, .inl y), (4, .inl w)], [.inr (.inr (some p))], (I, Lp10, R, Y), 0, 0) (fun _ => rfl) ?_
            obtain ⟨q15, e16, t17, n18⟩ := cl_rn hPp10.1 tp (k := 6) (m := 63) rfl
            refine cl_G_gr rfl (cl_T_K tp) rfl rfl rfl e16 ?_
            refine yi_G_run 2 (51, [(7, .inl (yi_iand (I a (j.toNat)) 15)), (6, .inl j), (5, .inl tz), (0, .inr (.inr (some p))), (1, .inr (.inr (some a))), (2, .inl x), (3, .inl y), (4, .inl w)], [.inl 1, .inl tz, .inr (.inr (some q15))], (I, Lp10, R, Y), 0, 0) (fun _ => rfl) ?_
            refine yi_G_isub rfl (tz - 1) (yi_wn (by omega) (by omega)) ?_
            refine yi_G_run 1 (53, [(7, .inl (yi_iand (I a (j.toNat)) 15)), (6, .inl j), (5, .inl tz), (0, .inr (.inr (some p))), (1, .inr (.inr (some a))), (2, .inl x), (3, .inl y), (4, .inl w)], [.inr (.inr (some p)), .inl (tz - 1), .inr (.inr (some q15))], (I, Lp10, R, Y), 0, 0) (fun _ => rfl) ?_
            refine cl_G_gr rfl (cl_T_K tp) rfl rfl rfl e16 ?_
            refine yi_G_run 2 (59, [(7, .inl (yi_iand (I a (j.toNat)) 15)), (6, .inl j), (5, .inl tz), (0, .inr (.inr (some p))), (1, .inr (.inr (some a))), (2, .inl x), (3, .inl y), (4, .inl w)], [.inl 1, .inl tz, .inr (.inr (some q15)), .inl (tz - 1), .inr (.inr (some q15))], (I, Lp10, R, Y), 0, 0) (fun _ => rfl) ?_
            refine yi_G_isub rfl (tz - 1) (yi_wn (by omega) (by omega)) ?_
            refine cl_G_lald rfl t17 (by omega) (by omega) ?_
            refine yi_G_ldc2 ((-1)) rfl (by decide +kernel) ?_
            refine yi_G_run 1 (65, [(7, .inl (yi_iand (I a (j.toNat)) 15)), (6, .inl j), (5, .inl tz), (0, .inr (.inr (some p))), (1, .inr (.inr (some a))), (2, .inl x), (3, .inl y), (4, .inl w)], [.inr (.inl (yi_lxor (Lp10 q15 ((tz - 1).toNat)) (-1))), .inl (tz - 1), .inr (.inr (some q15))], (I, Lp10, R, Y), 0, 0) (fun _ => rfl) ?_
            refine cl_G_last rfl t17 (by omega) (by omega) ?_
            have hP19 := cl_P_uL (k := ((tz - 1).toNat)) (v := yi_lxor (Lp10 q15 ((tz - 1).toNat)) (-1)) hPp10 t17 (by omega)
            generalize w20 : yi_u Lp10 q15 ((tz - 1).toNat) (yi_lxor (Lp10 q15 ((tz - 1).toNat)) (-1)) = L21 at hP19 ⊢
            refine yi_G_run 1 (173, [(7, .inl (yi_iand (I a (j.toNat)) 15)), (6, .inl j), (5, .inl tz), (0, .inr (.inr (some p))), (1, .inr (.inr (some a))), (2, .inl x), (3, .inl y), (4, .inl w)], [], (I, L21, R, Y), 0, 0) (fun _ => rfl) ?_
            refine yi_G_iinc [(6, .inl (j + 1)), (7, .inl (yi_iand (I a (j.toNat)) 15)), (5, .inl tz), (0, .inr (.inr (some p))), (1, .inr (.inr (some a))), (2, .inl x), (3, .inl y), (4, .inl w)] rfl rfl rfl (by rw [show yi_w (j + 1) = j + 1 from (yi_wn (by omega) (by omega)).trans (by omega)]; rfl) ?_
            refine yi_G_run 1 (10, [(6, .inl (j + 1)), (7, .inl (yi_iand (I a (j.toNat)) 15)), (5, .inl tz), (0, .inr (.inr (some p))), (1, .inr (.inr (some a))), (2, .inl x), (3, .inl y), (4, .inl w)], [], (I, L21, R, Y), 0, 0) (fun _ => rfl) ?_
            refine yi_G_al (al := [(6, .inl (j + 1)), (5, .inl tz), (0, .inr (.inr (some p))), (1, .inr (.inr (some a))), (2, .inl x), (3, .inl y), (4, .inl w)]) (show ([6, 5, 0, 1, 2, 3, 4] : List Nat).Nodup by decide) (show ([6, 7, 5, 0, 1, 2, 3, 4] : List Nat).Nodup by decide) (yi_mc (List.mem_of_getElem? (i := 0) rfl) (yi_mc (List.mem_of_getElem? (i := 2) rfl) (yi_mc (List.mem_of_getElem? (i := 3) rfl) (yi_mc (List.mem_of_getElem? (i := 4) rfl) (yi_mc (List.mem_of_getElem? (i := 5) rfl) (yi_mc (List.mem_of_getElem? (i := 6) rfl) (yi_mc (List.mem_of_getElem? (i := 7) rfl) yi_mn))))))) ?_
            exact ih10 _ (by omega) (j + 1) tz L21 hP19 (by omega) (by omega) rfl
        · refine yi_G_if2 true rfl (yi_ne_t h13) ?_
          refine yi_G_run 2 (72, [(7, .inl (yi_iand (I a (j.toNat)) 15)), (6, .inl j), (5, .inl tz), (0, .inr (.inr (some p))), (1, .inr (.inr (some a))), (2, .inl x), (3, .inl y), (4, .inl w)], [.inl 2, .inl (yi_iand (I a (j.toNat)) 15)], (I, Lp10, R, Y), 0, 0) (fun _ => rfl) ?_
          by_cases h22 : (yi_iand (I a (j.toNat)) 15) = 2
          · refine yi_G_if2 true rfl (yi_eq_t h22) ?_
            refine yi_G_run 2 (84, [(7, .inl (yi_iand (I a (j.toNat)) 15)), (6, .inl j), (5, .inl tz), (0, .inr (.inr (some p))), (1, .inr (.inr (some a))), (2, .inl x), (3, .inl y), (4, .inl w)], [.inl 2, .inl tz], (I, Lp10, R, Y), 0, 0) (fun _ => rfl) ?_
            by_cases h23 : tz < 2
            · refine yi_G_if2 true rfl (yi_lt_t h23) ?_
              refine yi_G_iinc [(6, .inl (j + 1)), (7, .inl (yi_iand (I a (j.toNat)) 15)), (5, .inl tz), (0, .inr (.inr (some p))), (1, .inr (.inr (some a))), (2, .inl x), (3, .inl y), (4, .inl w)] rfl rfl rfl (by rw [show yi_w (j + 1) = j + 1 from (yi_wn (by omega) (by omega)).trans (by omega)]; rfl) ?_
              refine yi_G_run 1 (10, [(6, .inl (j + 1)), (7, .inl (yi_iand (I a (j.toNat)) 15)), (5, .inl tz), (0, .inr (.inr (some p))), (1, .inr (.inr (some a))), (2, .inl x), (3, .inl y), (4, .inl w)], [], (I, Lp10, R, Y), 0, 0) (fun _ => rfl) ?_
              refine yi_G_al (al := [(6, .inl (j + 1)), (5, .inl tz), (0, .inr (.inr (some p))), (1, .inr (.inr (some a))), (2, .inl x), (3, .inl y), (4, .inl w)]) (show ([6, 5, 0, 1, 2, 3, 4] : List Nat).Nodup by decide) (show ([6, 7, 5, 0, 1, 2, 3, 4] : List Nat).Nodup by decide) (yi_mc (List.mem_of_getElem? (i := 0) rfl) (yi_mc (List.mem_of_getElem? (i := 2) rfl) (yi_mc (List.mem_of_getElem? (i := 3) rfl) (yi_mc (List.mem_of_getElem? (i := 4) rfl) (yi_mc (List.mem_of_getElem? (i := 5) rfl) (yi_mc (List.mem_of_getElem? (i := 6) rfl) (yi_mc (List.mem_of_getElem? (i := 7) rfl) yi_mn))))))) ?_
              exact ih10 _ (by omega) (j + 1) tz Lp10 hPp10 (by omega) (by omega) rfl
            · refine yi_G_if2 false rfl (yi_lt_f h23) ?_
              refine yi_G_run 1 (88, [(7, .inl (yi_iand (I a (j.toNat)) 15)), (6, .inl j), (5, .inl tz), (0, .inr (.inr (some p))), (1, .inr (.inr (some a))), (2, .inl x), (3, .inl y), (4, .inl w)], [.inr (.inr (some p))], (I, Lp10, R, Y), 0, 0) (fun _ => rfl) ?_
              obtain ⟨q24, e25, t26, n27⟩ := cl_rn hPp10.1 tp (k := 6) (m := 63) rfl
              refine cl_G_gr rfl (cl_T_K tp) rfl rfl rfl e25 ?_
              refine yi_G_run 2 (94, [(7, .inl (yi_iand (I a (j.toNat)) 15)), (6, .inl j), (5, .inl tz), (0, .inr (.inr (some p))), (1, .inr (.inr (some a))), (2, .inl x), (3, .inl y), (4, .inl w)], [.inl 1, .inl tz, .inr (.inr (some q24))], (I, Lp10, R, Y), 0, 0) (fun _ => rfl) ?_
              refine yi_G_isub rfl (tz - 1) (yi_wn (by omega) (by omega)) ?_
              refine cl_G_lald rfl t26 (by omega) (by omega) ?_
              refine yi_G_run 2 (99, [(8, .inr (.inl (Lp10 q24 ((tz - 1).toNat)))), (7, .inl (yi_iand (I a (j.toNat)) 15)), (6, .inl j), (5, .inl tz), (0, .inr (.inr (some p))), (1, .inr (.inr (some a))), (2, .inl x), (3, .inl y), (4, .inl w)], [.inr (.inr (some p))], (I, Lp10, R, Y), 0, 0) (fun _ => rfl) ?_
              refine cl_G_gr rfl (cl_T_K tp) rfl rfl rfl e25 ?_
              refine yi_G_run 2 (105, [(8, .inr (.inl (Lp10 q24 ((tz - 1).toNat)))), (7, .inl (yi_iand (I a (j.toNat)) 15)), (6, .inl j), (5, .inl tz), (0, .inr (.inr (some p))), (1, .inr (.inr (some a))), (2, .inl x), (3, .inl y), (4, .inl w)], [.inl 2, .inl tz, .inr (.inr (some q24))], (I, Lp10, R, Y), 0, 0) (fun _ => rfl) ?_
              refine yi_G_isub rfl (tz - 2) (yi_wn (by omega) (by omega)) ?_
              refine cl_G_lald rfl t26 (by omega) (by omega) ?_
              refine yi_G_run 2 (110, [(10, .inr (.inl (Lp10 q24 ((tz - 2).toNat)))), (8, .inr (.inl (Lp10 q24 ((tz - 1).toNat)))), (7, .inl (yi_iand (I a (j.toNat)) 15)), (6, .inl j), (5, .inl tz), (0, .inr (.inr (some p))), (1, .inr (.inr (some a))), (2, .inl x), (3, .inl y), (4, .inl w)], [.inr (.inr (some p))], (I, Lp10, R, Y), 0, 0) (fun _ => rfl) ?_
              refine cl_G_gr rfl (cl_T_K tp) rfl rfl rfl e25 ?_
              refine yi_G_run 2 (116, [(10, .inr (.inl (Lp10 q24 ((tz - 2).toNat)))), (8, .inr (.inl (Lp10 q24 ((tz - 1).toNat)))), (7, .inl (yi_iand (I a (j.toNat)) 15)), (6, .inl j), (5, .inl tz), (0, .inr (.inr (some p))), (1, .inr (.inr (some a))), (2, .inl x), (3, .inl y), (4, .inl w)], [.inl 2, .inl tz, .inr (.inr (some q24))], (I, Lp10, R, Y), 0, 0) (fun _ => rfl) ?_
              refine yi_G_isub rfl (tz - 2) (yi_wn (by omega) (by omega)) ?_
              refine yi_G_run 2 (120, [(10, .inr (.inl (Lp10 q24 ((tz - 2).toNat)))), (8, .inr (.inl (Lp10 q24 ((tz - 1).toNat)))), (7, .inl (yi_iand (I a (j.toNat)) 15)), (6, .inl j), (5, .inl tz), (0, .inr (.inr (some p))), (1, .inr (.inr (some a))), (2, .inl x), (3, .inl y), (4, .inl w)], [.inl 2, .inl (yi_iand (I a (j.toNat)) 15), .inl (tz - 2), .inr (.inr (some q24))], (I, Lp10, R, Y), 0, 0) (fun _ => rfl) ?_
              by_cases h28 : (yi_iand (I a (j.toNat)) 15) = 2
              · refine yi_G_if2 false rfl (yi_ne_f h28) ?_
                refine yi_G_run 4 (136, [(10, .inr (.inl (Lp10 q24 ((tz - 2).toNat)))), (8, .inr (.inl (Lp10 q24 ((tz - 1).toNat)))), (7, .inl (yi_iand (I a (j.toNat)) 15)), (6, .inl j), (5, .inl tz), (0, .inr (.inr (some p))), (1, .inr (.inr (some a))), (2, .inl x), (3, .inl y), (4, .inl w)], [.inr (.inl (yi_land (Lp10 q24 ((tz - 2).toNat)) (Lp10 q24 ((tz - 1).toNat)))), .inl (tz - 2), .inr (.inr (some q24))], (I, Lp10, R, Y), 0, 0) (fun _ => rfl) ?_
                refine cl_G_last rfl t26 (by omega) (by omega) ?_
                have hP29 := cl_P_uL (k := ((tz - 2).toNat)) (v := yi_land (Lp10 q24 ((tz - 2).toNat)) (Lp10 q24 ((tz - 1).toNat))) hPp10 t26 (by omega)
                generalize w30 : yi_u Lp10 q24 ((tz - 2).toNat) (yi_land (Lp10 q24 ((tz - 2).toNat)) (Lp10 q24 ((tz - 1).toNat))) = L31 at hP29 ⊢
                refine yi_G_iinc [(5, .inl (tz - 1)), (10, .inr (.inl (Lp10 q24 ((tz - 2).toNat)))), (8, .inr (.inl (Lp10 q24 ((tz - 1).toNat)))), (7, .inl (yi_iand (I a (j.toNat)) 15)), (6, .inl j), (0, .inr (.inr (some p))), (1, .inr (.inr (some a))), (2, .inl x), (3, .inl y), (4, .inl w)] rfl rfl rfl (by rw [show yi_w (tz + (-1)) = tz - 1 from (yi_wn (by omega) (by omega)).trans (by omega)]; rfl) ?_
                refine yi_G_run 1 (173, [(5, .inl (tz - 1)), (10, .inr (.inl (Lp10 q24 ((tz - 2).toNat)))), (8, .inr (.inl (Lp10 q24 ((tz - 1).toNat)))), (7, .inl (yi_iand (I a (j.toNat)) 15)), (6, .inl j), (0, .inr (.inr (some p))), (1, .inr (.inr (some a))), (2, .inl x), (3, .inl y), (4, .inl w)], [], (I, L31, R, Y), 0, 0) (fun _ => rfl) ?_
                refine yi_G_iinc [(6, .inl (j + 1)), (5, .inl (tz - 1)), (10, .inr (.inl (Lp10 q24 ((tz - 2).toNat)))), (8, .inr (.inl (Lp10 q24 ((tz - 1).toNat)))), (7, .inl (yi_iand (I a (j.toNat)) 15)), (0, .inr (.inr (some p))), (1, .inr (.inr (some a))), (2, .inl x), (3, .inl y), (4, .inl w)] rfl rfl rfl (by rw [show yi_w (j + 1) = j + 1 from (yi_wn (by omega) (by omega)).trans (by omega)]; rfl) ?_
                refine yi_G_run 1 (10, [(6, .inl (j + 1)), (5, .inl (tz - 1)), (10, .inr (.inl (Lp10 q24 ((tz - 2).toNat)))), (8, .inr (.inl (Lp10 q24 ((tz - 1).toNat)))), (7, .inl (yi_iand (I a (j.toNat)) 15)), (0, .inr (.inr (some p))), (1, .inr (.inr (some a))), (2, .inl x), (3, .inl y), (4, .inl w)], [], (I, L31, R, Y), 0, 0) (fun _ => rfl) ?_
                refine yi_G_al (al := [(6, .inl (j + 1)), (5, .inl (tz - 1)), (0, .inr (.inr (some p))), (1, .inr (.inr (some a))), (2, .inl x), (3, .inl y), (4, .inl w)]) (show ([6, 5, 0, 1, 2, 3, 4] : List Nat).Nodup by decide) (show ([6, 5, 10, 8, 7, 0, 1, 2, 3, 4] : List Nat).Nodup by decide) (yi_mc (List.mem_of_getElem? (i := 0) rfl) (yi_mc (List.mem_of_getElem? (i := 1) rfl) (yi_mc (List.mem_of_getElem? (i := 5) rfl) (yi_mc (List.mem_of_getElem? (i := 6) rfl) (yi_mc (List.mem_of_getElem? (i := 7) rfl) (yi_mc (List.mem_of_getElem? (i := 8) rfl) (yi_mc (List.mem_of_getElem? (i := 9) rfl) yi_mn))))))) ?_
                exact ih10 _ (by omega) (j + 1) (tz - 1) L31 hP29 (by omega) (by omega) rfl
              · refine yi_G_if2 true rfl (yi_ne_t h28) ?_
                refine yi_G_run 3 (136, [(10, .inr (.inl (Lp10 q24 ((tz - 2).toNat)))), (8, .inr (.inl (Lp10 q24 ((tz - 1).toNat)))), (7, .inl (yi_iand (I a (j.toNat)) 15)), (6, .inl j), (5, .inl tz), (0, .inr (.inr (some p))), (1, .inr (.inr (some a))), (2, .inl x), (3, .inl y), (4, .inl w)], [.inr (.inl (yi_lor (Lp10 q24 ((tz - 2).toNat)) (Lp10 q24 ((tz - 1).toNat)))), .inl (tz - 2), .inr (.inr (some q24))], (I, Lp10, R, Y), 0, 0) (fun _ => rfl) ?_
                refine cl_G_last rfl t26 (by omega) (by omega) ?_
                have hP32 := cl_P_uL (k := ((tz - 2).toNat)) (v := yi_lor (Lp10 q24 ((tz - 2).toNat)) (Lp10 q24 ((tz - 1).toNat))) hPp10 t26 (by omega)
                generalize w33 : yi_u Lp10 q24 ((tz - 2).toNat) (yi_lor (Lp10 q24 ((tz - 2).toNat)) (Lp10 q24 ((tz - 1).toNat))) = L34 at hP32 ⊢
                refine yi_G_iinc [(5, .inl (tz - 1)), (10, .inr (.inl (Lp10 q24 ((tz - 2).toNat)))), (8, .inr (.inl (Lp10 q24 ((tz - 1).toNat)))), (7, .inl (yi_iand (I a (j.toNat)) 15)), (6, .inl j), (0, .inr (.inr (some p))), (1, .inr (.inr (some a))), (2, .inl x), (3, .inl y), (4, .inl w)] rfl rfl rfl (by rw [show yi_w (tz + (-1)) = tz - 1 from (yi_wn (by omega) (by omega)).trans (by omega)]; rfl) ?_
                refine yi_G_run 1 (173, [(5, .inl (tz - 1)), (10, .inr (.inl (Lp10 q24 ((tz - 2).toNat)))), (8, .inr (.inl (Lp10 q24 ((tz - 1).toNat)))), (7, .inl (yi_iand (I a (j.toNat)) 15)), (6, .inl j), (0, .inr (.inr (some p))), (1, .inr (.inr (some a))), (2, .inl x), (3, .inl y), (4, .inl w)], [], (I, L34, R, Y), 0, 0) (fun _ => rfl) ?_
                refine yi_G_iinc [(6, .inl (j + 1)), (5, .inl (tz - 1)), (10, .inr (.inl (Lp10 q24 ((tz - 2).toNat)))), (8, .inr (.inl (Lp10 q24 ((tz - 1).toNat)))), (7, .inl (yi_iand (I a (j.toNat)) 15)), (0, .inr (.inr (some p))), (1, .inr (.inr (some a))), (2, .inl x), (3, .inl y), (4, .inl w)] rfl rfl rfl (by rw [show yi_w (j + 1) = j + 1 from (yi_wn (by omega) (by omega)).trans (by omega)]; rfl) ?_
                refine yi_G_run 1 (10, [(6, .inl (j + 1)), (5, .inl (tz - 1)), (10, .inr (.inl (Lp10 q24 ((tz - 2).toNat)))), (8, .inr (.inl (Lp10 q24 ((tz - 1).toNat)))), (7, .inl (yi_iand (I a (j.toNat)) 15)), (0, .inr (.inr (some p))), (1, .inr (.inr (some a))), (2, .inl x), (3, .inl y), (4, .inl w)], [], (I, L34, R, Y), 0, 0) (fun _ => rfl) ?_
                refine yi_G_al (al := [(6, .inl (j + 1)), (5, .inl (tz - 1)), (0, .inr (.inr (some p))), (1, .inr (.inr (some a))), (2, .inl x), (3, .inl y), (4, .inl w)]) (show ([6, 5, 0, 1, 2, 3, 4] : List Nat).Nodup by decide) (show ([6, 5, 10, 8, 7, 0, 1, 2, 3, 4] : List Nat).Nodup by decide) (yi_mc (List.mem_of_getElem? (i := 0) rfl) (yi_mc (List.mem_of_getElem? (i := 1) rfl) (yi_mc (List.mem_of_getElem? (i := 5) rfl) (yi_mc (List.mem_of_getElem? (i := 6) rfl) (yi_mc (List.mem_of_getElem? (i := 7) rfl) (yi_mc (List.mem_of_getElem? (i := 8) rfl) (yi_mc (List.mem_of_getElem? (i := 9) rfl) yi_mn))))))) ?_
                exact ih10 _ (by omega) (j + 1) (tz - 1) L34 hP32 (by omega) (by omega) rfl
          · refine yi_G_if2 false rfl (yi_eq_f h22) ?_
            refine yi_G_run 2 (78, [(7, .inl (yi_iand (I a (j.toNat)) 15)), (6, .inl j), (5, .inl tz), (0, .inr (.inr (some p))), (1, .inr (.inr (some a))), (2, .inl x), (3, .inl y), (4, .inl w)], [.inl 3, .inl (yi_iand (I a (j.toNat)) 15)], (I, Lp10, R, Y), 0, 0) (fun _ => rfl) ?_
            by_cases h35 : (yi_iand (I a (j.toNat)) 15) = 3
            · refine yi_G_if2 false rfl (yi_ne_f h35) ?_
              refine yi_G_run 2 (84, [(7, .inl (yi_iand (I a (j.toNat)) 15)), (6, .inl j), (5, .inl tz), (0, .inr (.inr (some p))), (1, .inr (.inr (some a))), (2, .inl x), (3, .inl y), (4, .inl w)], [.inl 2, .inl tz], (I, Lp10, R, Y), 0, 0) (fun _ => rfl) ?_
              by_cases h36 : tz < 2
              · refine yi_G_if2 true rfl (yi_lt_t h36) ?_
                refine yi_G_iinc [(6, .inl (j + 1)), (7, .inl (yi_iand (I a (j.toNat)) 15)), (5, .inl tz), (0, .inr (.inr (some p))), (1, .inr (.inr (some a))), (2, .inl x), (3, .inl y), (4, .inl w)] rfl rfl rfl (by rw [show yi_w (j + 1) = j + 1 from (yi_wn (by omega) (by omega)).trans (by omega)]; rfl) ?_
                refine yi_G_run 1 (10, [(6, .inl (j + 1)), (7, .inl (yi_iand (I a (j.toNat)) 15)), (5, .inl tz), (0, .inr (.inr (some p))), (1, .inr (.inr (some a))), (2, .inl x), (3, .inl y), (4, .inl w)], [], (I, Lp10, R, Y), 0, 0) (fun _ => rfl) ?_
                refine yi_G_al (al := [(6, .inl (j + 1)), (5, .inl tz), (0, .inr (.inr (some p))), (1, .inr (.inr (some a))), (2, .inl x), (3, .inl y), (4, .inl w)]) (show ([6, 5, 0, 1, 2, 3, 4] : List Nat).Nodup by decide) (show ([6, 7, 5, 0, 1, 2, 3, 4] : List Nat).Nodup by decide) (yi_mc (List.mem_of_getElem? (i := 0) rfl) (yi_mc (List.mem_of_getElem? (i := 2) rfl) (yi_mc (List.mem_of_getElem? (i := 3) rfl) (yi_mc (List.mem_of_getElem? (i := 4) rfl) (yi_mc (List.mem_of_getElem? (i := 5) rfl) (yi_mc (List.mem_of_getElem? (i := 6) rfl) (yi_mc (List.mem_of_getElem? (i := 7) rfl) yi_mn))))))) ?_
                exact ih10 _ (by omega) (j + 1) tz Lp10 hPp10 (by omega) (by omega) rfl
              · refine yi_G_if2 false rfl (yi_lt_f h36) ?_
                refine yi_G_run 1 (88, [(7, .inl (yi_iand (I a (j.toNat)) 15)), (6, .inl j), (5, .inl tz), (0, .inr (.inr (some p))), (1, .inr (.inr (some a))), (2, .inl x), (3, .inl y), (4, .inl w)], [.inr (.inr (some p))], (I, Lp10, R, Y), 0, 0) (fun _ => rfl) ?_
                obtain ⟨q37, e38, t39, n40⟩ := cl_rn hPp10.1 tp (k := 6) (m := 63) rfl
                refine cl_G_gr rfl (cl_T_K tp) rfl rfl rfl e38 ?_
                refine yi_G_run 2 (94, [(7, .inl (yi_iand (I a (j.toNat)) 15)), (6, .inl j), (5, .inl tz), (0, .inr (.inr (some p))), (1, .inr (.inr (some a))), (2, .inl x), (3, .inl y), (4, .inl w)], [.inl 1, .inl tz, .inr (.inr (some q37))], (I, Lp10, R, Y), 0, 0) (fun _ => rfl) ?_
                refine yi_G_isub rfl (tz - 1) (yi_wn (by omega) (by omega)) ?_
                refine cl_G_lald rfl t39 (by omega) (by omega) ?_
                refine yi_G_run 2 (99, [(8, .inr (.inl (Lp10 q37 ((tz - 1).toNat)))), (7, .inl (yi_iand (I a (j.toNat)) 15)), (6, .inl j), (5, .inl tz), (0, .inr (.inr (some p))), (1, .inr (.inr (some a))), (2, .inl x), (3, .inl y), (4, .inl w)], [.inr (.inr (some p))], (I, Lp10, R, Y), 0, 0) (fun _ => rfl) ?_
                refine cl_G_gr rfl (cl_T_K tp) rfl rfl rfl e38 ?_
                refine yi_G_run 2 (105, [(8, .inr (.inl (Lp10 q37 ((tz - 1).toNat)))), (7, .inl (yi_iand (I a (j.toNat)) 15)), (6, .inl j), (5, .inl tz), (0, .inr (.inr (some p))), (1, .inr (.inr (some a))), (2, .inl x), (3, .inl y), (4, .inl w)], [.inl 2, .inl tz, .inr (.inr (some q37))], (I, Lp10, R, Y), 0, 0) (fun _ => rfl) ?_
                refine yi_G_isub rfl (tz - 2) (yi_wn (by omega) (by omega)) ?_
                refine cl_G_lald rfl t39 (by omega) (by omega) ?_
                refine yi_G_run 2 (110, [(10, .inr (.inl (Lp10 q37 ((tz - 2).toNat)))), (8, .inr (.inl (Lp10 q37 ((tz - 1).toNat)))), (7, .inl (yi_iand (I a (j.toNat)) 15)), (6, .inl j), (5, .inl tz), (0, .inr (.inr (some p))), (1, .inr (.inr (some a))), (2, .inl x), (3, .inl y), (4, .inl w)], [.inr (.inr (some p))], (I, Lp10, R, Y), 0, 0) (fun _ => rfl) ?_
                refine cl_G_gr rfl (cl_T_K tp) rfl rfl rfl e38 ?_
                refine yi_G_run 2 (116, [(10, .inr (.inl (Lp10 q37 ((tz - 2).toNat)))), (8, .inr (.inl (Lp10 q37 ((tz - 1).toNat)))), (7, .inl (yi_iand (I a (j.toNat)) 15)), (6, .inl j), (5, .inl tz), (0, .inr (.inr (some p))), (1, .inr (.inr (some a))), (2, .inl x), (3, .inl y), (4, .inl w)], [.inl 2, .inl tz, .inr (.inr (some q37))], (I, Lp10, R, Y), 0, 0) (fun _ => rfl) ?_
                refine yi_G_isub rfl (tz - 2) (yi_wn (by omega) (by omega)) ?_
                refine yi_G_run 2 (120, [(10, .inr (.inl (Lp10 q37 ((tz - 2).toNat)))), (8, .inr (.inl (Lp10 q37 ((tz - 1).toNat)))), (7, .inl (yi_iand (I a (j.toNat)) 15)), (6, .inl j), (5, .inl tz), (0, .inr (.inr (some p))), (1, .inr (.inr (some a))), (2, .inl x), (3, .inl y), (4, .inl w)], [.inl 2, .inl (yi_iand (I a (j.toNat)) 15), .inl (tz - 2), .inr (.inr (some q37))], (I, Lp10, R, Y), 0, 0) (fun _ => rfl) ?_
                by_cases h41 : (yi_iand (I a (j.toNat)) 15) = 2
                · refine yi_G_if2 false rfl (yi_ne_f h41) ?_
                  refine yi_G_run 4 (136, [(10, .inr (.inl (Lp10 q37 ((tz - 2).toNat)))), (8, .inr (.inl (Lp10 q37 ((tz - 1).toNat)))), (7, .inl (yi_iand (I a (j.toNat)) 15)), (6, .inl j), (5, .inl tz), (0, .inr (.inr (some p))), (1, .inr (.inr (some a))), (2, .inl x), (3, .inl y), (4, .inl w)], [.inr (.inl (yi_land (Lp10 q37 ((tz - 2).toNat)) (Lp10 q37 ((tz - 1).toNat)))), .inl (tz - 2), .inr (.inr (some q37))], (I, Lp10, R, Y), 0, 0) (fun _ => rfl) ?_
                  refine cl_G_last rfl t39 (by omega) (by omega) ?_
                  have hP42 := cl_P_uL (k := ((tz - 2).toNat)) (v := yi_land (Lp10 q37 ((tz - 2).toNat)) (Lp10 q37 ((tz - 1).toNat))) hPp10 t39 (by omega)
                  generalize w43 : yi_u Lp10 q37 ((tz - 2).toNat) (yi_land (Lp10 q37 ((tz - 2).toNat)) (Lp10 q37 ((tz - 1).toNat))) = L44 at hP42 ⊢
                  refine yi_G_iinc [(5, .inl (tz - 1)), (10, .inr (.inl (Lp10 q37 ((tz - 2).toNat)))), (8, .inr (.inl (Lp10 q37 ((tz - 1).toNat)))), (7, .inl (yi_iand (I a (j.toNat)) 15)), (6, .inl j), (0, .inr (.inr (some p))), (1, .inr (.inr (some a))), (2, .inl x), (3, .inl y), (4, .inl w)] rfl rfl rfl (by rw [show yi_w (tz + (-1)) = tz - 1 from (yi_wn (by omega) (by omega)).trans (by omega)]; rfl) ?_
                  refine yi_G_run 1 (173, [(5, .inl (tz - 1)), (10, .inr (.inl (Lp10 q37 ((tz - 2).toNat)))), (8, .inr (.inl (Lp10 q37 ((tz - 1).toNat)))), (7, .inl (yi_iand (I a (j.toNat)) 15)), (6, .inl j), (0, .inr (.inr (some p))), (1, .inr (.inr (some a))), (2, .inl x), (3, .inl y), (4, .inl w)], [], (I, L44, R, Y), 0, 0) (fun _ => rfl) ?_
                  refine yi_G_iinc [(6, .inl (j + 1)), (5, .inl (tz - 1)), (10, .inr (.inl (Lp10 q37 ((tz - 2).toNat)))), (8, .inr (.inl (Lp10 q37 ((tz - 1).toNat)))), (7, .inl (yi_iand (I a (j.toNat)) 15)), (0, .inr (.inr (some p))), (1, .inr (.inr (some a))), (2, .inl x), (3, .inl y), (4, .inl w)] rfl rfl rfl (by rw [show yi_w (j + 1) = j + 1 from (yi_wn (by omega) (by omega)).trans (by omega)]; rfl) ?_
                  refine yi_G_run 1 (10, [(6, .inl (j + 1)), (5, .inl (tz - 1)), (10, .inr (.inl (Lp10 q37 ((tz - 2).toNat)))), (8, .inr (.inl (Lp10 q37 ((tz - 1).toNat)))), (7, .inl (yi_iand (I a (j.toNat)) 15)), (0, .inr (.inr (some p))), (1, .inr (.inr (some a))), (2, .inl x), (3, .inl y), (4, .inl w)], [], (I, L44, R, Y), 0, 0) (fun _ => rfl) ?_
                  refine yi_G_al (al := [(6, .inl (j + 1)), (5, .inl (tz - 1)), (0, .inr (.inr (some p))), (1, .inr (.inr (some a))), (2, .inl x), (3, .inl y), (4, .inl w)]) (show ([6, 5, 0, 1, 2, 3, 4] : List Nat).Nodup by decide) (show ([6, 5, 10, 8, 7, 0, 1, 2, 3, 4] : List Nat).Nodup by decide) (yi_mc (List.mem_of_getElem? (i := 0) rfl) (yi_mc (List.mem_of_getElem? (i := 1) rfl) (yi_mc (List.mem_of_getElem? (i := 5) rfl) (yi_mc (List.mem_of_getElem? (i := 6) rfl) (yi_mc (List.mem_of_getElem? (i := 7) rfl) (yi_mc (List.mem_of_getElem? (i := 8) rfl) (yi_mc (List.mem_of_getElem? (i := 9) rfl) yi_mn))))))) ?_
                  exact ih10 _ (by omega) (j + 1) (tz - 1) L44 hP42 (by omega) (by omega) rfl
                · refine yi_G_if2 true rfl (yi_ne_t h41) ?_
                  refine yi_G_run 3 (136, [(10, .inr (.inl (Lp10 q37 ((tz - 2).toNat)))), (8, .inr (.inl (Lp10 q37 ((tz - 1).toNat)))), (7, .inl (yi_iand (I a (j.toNat)) 15)), (6, .inl j), (5, .inl tz), (0, .inr (.inr (some p))), (1, .inr (.inr (some a))), (2, .inl x), (3, .inl y), (4, .inl w)], [.inr (.inl (yi_lor (Lp10 q37 ((tz - 2).toNat)) (Lp10 q37 ((tz - 1).toNat)))), .inl (tz - 2), .inr (.inr (some q37))], (I, Lp10, R, Y), 0, 0) (fun _ => rfl) ?_
                  refine cl_G_last rfl t39 (by omega) (by omega) ?_
                  have hP45 := cl_P_uL (k := ((tz - 2).toNat)) (v := yi_lor (Lp10 q37 ((tz - 2).toNat)) (Lp10 q37 ((tz - 1).toNat))) hPp10 t39 (by omega)
                  generalize w46 : yi_u Lp10 q37 ((tz - 2).toNat) (yi_lor (Lp10 q37 ((tz - 2).toNat)) (Lp10 q37 ((tz - 1).toNat))) = L47 at hP45 ⊢
                  refine yi_G_iinc [(5, .inl (tz - 1)), (10, .inr (.inl (Lp10 q37 ((tz - 2).toNat)))), (8, .inr (.inl (Lp10 q37 ((tz - 1).toNat)))), (7, .inl (yi_iand (I a (j.toNat)) 15)), (6, .inl j), (0, .inr (.inr (some p))), (1, .inr (.inr (some a))), (2, .inl x), (3, .inl y), (4, .inl w)] rfl rfl rfl (by rw [show yi_w (tz + (-1)) = tz - 1 from (yi_wn (by omega) (by omega)).trans (by omega)]; rfl) ?_
                  refine yi_G_run 1 (173, [(5, .inl (tz - 1)), (10, .inr (.inl (Lp10 q37 ((tz - 2).toNat)))), (8, .inr (.inl (Lp10 q37 ((tz - 1).toNat)))), (7, .inl (yi_iand (I a (j.toNat)) 15)), (6, .inl j), (0, .inr (.inr (some p))), (1, .inr (.inr (some a))), (2, .inl x), (3, .inl y), (4, .inl w)], [], (I, L47, R, Y), 0, 0) (fun _ => rfl) ?_
                  refine yi_G_iinc [(6, .inl (j + 1)), (5, .inl (tz - 1)), (10, .inr (.inl (Lp10 q37 ((tz - 2).toNat)))), (8, .inr (.inl (Lp10 q37 ((tz - 1).toNat)))), (7, .inl (yi_iand (I a (j.toNat)) 15)), (0, .inr (.inr (some p))), (1, .inr (.inr (some a))), (2, .inl x), (3, .inl y), (4, .inl w)] rfl rfl rfl (by rw [show yi_w (j + 1) = j + 1 from (yi_wn (by omega) (by omega)).trans (by omega)]; rfl) ?_
                  refine yi_G_run 1 (10, [(6, .inl (j + 1)), (5, .inl (tz - 1)), (10, .inr (.inl (Lp10 q37 ((tz - 2).toNat)))), (8, .inr (.inl (Lp10 q37 ((tz - 1).toNat)))), (7, .inl (yi_iand (I a (j.toNat)) 15)), (0, .inr (.inr (some p))), (1, .inr (.inr (some a))), (2, .inl x), (3, .inl y), (4, .inl w)], [], (I, L47, R, Y), 0, 0) (fun _ => rfl) ?_
                  refine yi_G_al (al := [(6, .inl (j + 1)), (5, .inl (tz - 1)), (0, .inr (.inr (some p))), (1, .inr (.inr (some a))), (2, .inl x), (3, .inl y), (4, .inl w)]) (show ([6, 5, 0, 1, 2, 3, 4] : List Nat).Nodup by decide) (show ([6, 5, 10, 8, 7, 0, 1, 2, 3, 4] : List Nat).Nodup by decide) (yi_mc (List.mem_of_getElem? (i := 0) rfl) (yi_mc (List.mem_of_getElem? (i := 1) rfl) (yi_mc (List.mem_of_getElem? (i := 5) rfl) (yi_mc (List.mem_of_getElem? (i := 6) rfl) (yi_mc (List.mem_of_getElem? (i := 7) rfl) (yi_mc (List.mem_of_getElem? (i := 8) rfl) (yi_mc (List.mem_of_getElem? (i := 9) rfl) yi_mn))))))) ?_
                  exact ih10 _ (by omega) (j + 1) (tz - 1) L47 hP45 (by omega) (by omega) rfl
            · refine yi_G_if2 true rfl (yi_ne_t h35) ?_
              refine yi_G_run 2 (146, [(7, .inl (yi_iand (I a (j.toNat)) 15)), (6, .inl j), (5, .inl tz), (0, .inr (.inr (some p))), (1, .inr (.inr (some a))), (2, .inl x), (3, .inl y), (4, .inl w)], [.inr (.inr (some p)), .inl tz], (I, Lp10, R, Y), 0, 0) (fun _ => rfl) ?_
              obtain ⟨q48, e49, t50, n51⟩ := cl_rn hPp10.1 tp (k := 6) (m := 63) rfl
              refine cl_G_gr rfl (cl_T_K tp) rfl rfl rfl e49 ?_
              refine cl_G_len rfl t50 (by omega) ?_
              by_cases h52 : ((Y.2.1 q48 : Int)) ≤ tz
              · refine yi_G_if2 true rfl (yi_ge_t h52) ?_
                refine yi_G_iinc [(6, .inl (j + 1)), (7, .inl (yi_iand (I a (j.toNat)) 15)), (5, .inl tz), (0, .inr (.inr (some p))), (1, .inr (.inr (some a))), (2, .inl x), (3, .inl y), (4, .inl w)] rfl rfl rfl (by rw [show yi_w (j + 1) = j + 1 from (yi_wn (by omega) (by omega)).trans (by omega)]; rfl) ?_
                refine yi_G_run 1 (10, [(6, .inl (j + 1)), (7, .inl (yi_iand (I a (j.toNat)) 15)), (5, .inl tz), (0, .inr (.inr (some p))), (1, .inr (.inr (some a))), (2, .inl x), (3, .inl y), (4, .inl w)], [], (I, Lp10, R, Y), 0, 0) (fun _ => rfl) ?_
                refine yi_G_al (al := [(6, .inl (j + 1)), (5, .inl tz), (0, .inr (.inr (some p))), (1, .inr (.inr (some a))), (2, .inl x), (3, .inl y), (4, .inl w)]) (show ([6, 5, 0, 1, 2, 3, 4] : List Nat).Nodup by decide) (show ([6, 7, 5, 0, 1, 2, 3, 4] : List Nat).Nodup by decide) (yi_mc (List.mem_of_getElem? (i := 0) rfl) (yi_mc (List.mem_of_getElem? (i := 2) rfl) (yi_mc (List.mem_of_getElem? (i := 3) rfl) (yi_mc (List.mem_of_getElem? (i := 4) rfl) (yi_mc (List.mem_of_getElem? (i := 5) rfl) (yi_mc (List.mem_of_getElem? (i := 6) rfl) (yi_mc (List.mem_of_getElem? (i := 7) rfl) yi_mn))))))) ?_
                exact ih10 _ (by omega) (j + 1) tz Lp10 hPp10 (by omega) (by omega) rfl
              · refine yi_G_if2 false rfl (yi_ge_f h52) ?_
                refine yi_G_run 1 (154, [(7, .inl (yi_iand (I a (j.toNat)) 15)), (6, .inl j), (5, .inl tz), (0, .inr (.inr (some p))), (1, .inr (.inr (some a))), (2, .inl x), (3, .inl y), (4, .inl w)], [.inr (.inr (some p))], (I, Lp10, R, Y), 0, 0) (fun _ => rfl) ?_
                refine cl_G_gr rfl (cl_T_K tp) rfl rfl rfl e49 ?_
                refine yi_G_run 4 (163, [(7, .inl (yi_iand (I a (j.toNat)) 15)), (6, .inl j), (5, .inl tz), (0, .inr (.inr (some p))), (1, .inr (.inr (some a))), (2, .inl x), (3, .inl y), (4, .inl w)], [.inl j, .inr (.inr (some a)), .inr (.inr (some p)), .inl tz, .inr (.inr (some q48))], (I, Lp10, R, Y), 0, 0) (fun _ => rfl) ?_
                refine cl_G_iald rfl ta (by omega) (by omega) ?_
                refine yi_G_run 1 (166, [(7, .inl (yi_iand (I a (j.toNat)) 15)), (6, .inl j), (5, .inl tz), (0, .inr (.inr (some p))), (1, .inr (.inr (some a))), (2, .inl x), (3, .inl y), (4, .inl w)], [.inl w, .inl (I a (j.toNat)), .inr (.inr (some p)), .inl tz, .inr (.inr (some q48))], (I, Lp10, R, Y), 0, 0) (fun _ => rfl) ?_
                refine yi_G_callv rfl rfl (cl_rcv tp rfl) rfl (k_clauseCell d (by omega) hPp10.1 tp ) ?_
                rintro _ ⟨z53, rfl⟩
                show yi_G zi_Ms d zi_m310 (169, [(7, .inl (yi_iand (I a (j.toNat)) 15)), (6, .inl j), (5, .inl tz), (0, .inr (.inr (some p))), (1, .inr (.inr (some a))), (2, .inl x), (3, .inl y), (4, .inl w)], [.inr (.inl z53), .inl tz, .inr (.inr (some q48))], (I, Lp10, R, Y), 0, 0) _
                refine cl_G_last rfl t50 (by omega) (by omega) ?_
                have hP54 := cl_P_uL (k := (tz.toNat)) (v := z53) hPp10 t50 (by omega)
                generalize w55 : yi_u Lp10 q48 (tz.toNat) z53 = L56 at hP54 ⊢
                refine yi_G_iinc [(5, .inl (tz + 1)), (7, .inl (yi_iand (I a (j.toNat)) 15)), (6, .inl j), (0, .inr (.inr (some p))), (1, .inr (.inr (some a))), (2, .inl x), (3, .inl y), (4, .inl w)] rfl rfl rfl (by rw [show yi_w (tz + 1) = tz + 1 from (yi_wn (by omega) (by omega)).trans (by omega)]; rfl) ?_
                refine yi_G_iinc [(6, .inl (j + 1)), (5, .inl (tz + 1)), (7, .inl (yi_iand (I a (j.toNat)) 15)), (0, .inr (.inr (some p))), (1, .inr (.inr (some a))), (2, .inl x), (3, .inl y), (4, .inl w)] rfl rfl rfl (by rw [show yi_w (j + 1) = j + 1 from (yi_wn (by omega) (by omega)).trans (by omega)]; rfl) ?_
                refine yi_G_run 1 (10, [(6, .inl (j + 1)), (5, .inl (tz + 1)), (7, .inl (yi_iand (I a (j.toNat)) 15)), (0, .inr (.inr (some p))), (1, .inr (.inr (some a))), (2, .inl x), (3, .inl y), (4, .inl w)], [], (I, L56, R, Y), 0, 0) (fun _ => rfl) ?_
                refine yi_G_al (al := [(6, .inl (j + 1)), (5, .inl (tz + 1)), (0, .inr (.inr (some p))), (1, .inr (.inr (some a))), (2, .inl x), (3, .inl y), (4, .inl w)]) (show ([6, 5, 0, 1, 2, 3, 4] : List Nat).Nodup by decide) (show ([6, 5, 7, 0, 1, 2, 3, 4] : List Nat).Nodup by decide) (yi_mc (List.mem_of_getElem? (i := 0) rfl) (yi_mc (List.mem_of_getElem? (i := 1) rfl) (yi_mc (List.mem_of_getElem? (i := 3) rfl) (yi_mc (List.mem_of_getElem? (i := 4) rfl) (yi_mc (List.mem_of_getElem? (i := 5) rfl) (yi_mc (List.mem_of_getElem? (i := 6) rfl) (yi_mc (List.mem_of_getElem? (i := 7) rfl) yi_mn))))))) ?_
                exact ih10 _ (by omega) (j + 1) (tz + 1) L56 hP54 (by omega) (by omega) rfl
  exact pt10 _ (max x 0) 0 L hP (by omega) (by omega) rfl
theorem k_solve (D : Nat) (hD : 6 ≤ D) {E : List Nat} {I L : cl_I} {R : cl_Rr} {Y : cl_Y} (hC : cl_C E I L R Y) {p : Nat} (tp : cl_T E Y p 4) {a : Nat} (ta : cl_T E Y a 20) {x : Int} {y : Int} {u : Nat} (tu : cl_T E Y u 5) : yi_E zi_Ms D 309 [.inr (.inr (some p)), .inr (.inr (some a)), .inl x, .inl y, .inr (.inr (some u))] (I, L, R, Y) (fun r => ∃ I', ∃ L', ∃ R', ∃ Y', ∃ nc ns, r = (none, (I', L', R', Y'), nc, ns) ∧ cl_P E I L R Y I' L' R' Y' ∧ nc ≤ 1 ∧ ns ≤ 513 ∧ (∀ q, R u 0 = some q → max (I p 9) 1 ≤ (Y.2.1 q : Int) → nc = 0 ∧ ns = 0) ∧ (cl_F R' Y' u (max (I p 9) 1)) ∧ (∀ q k, q < Y.2.2 → q ≠ u → I' q k = I q k ∧ R' q k = R q k)) := by
  obtain ⟨d, rfl⟩ : ∃ d, D = d + 1 := ⟨D - 1, by omega⟩
  refine yi_E_of (M := zi_m309) rfl rfl ?_
  have hP : cl_P E I L R Y I L R Y := cl_P_r hC
  show yi_G zi_Ms d zi_m309 (0, [(0, .inr (.inr (some p))), (1, .inr (.inr (some a))), (2, .inl x), (3, .inl y), (4, .inr (.inr (some u)))], [], (I, L, R, Y), 0, 0) _
  refine yi_G_run 2 (3, [(0, .inr (.inr (some p))), (1, .inr (.inr (some a))), (2, .inl x), (3, .inl y), (4, .inr (.inr (some u)))], [.inr (.inr (some p)), .inr (.inr (some u))], (I, L, R, Y), 0, 0) (fun _ => rfl) ?_
  have b1 := cl_rd hP.1 tp (k := 9) (lo := 1) (hi := 513) rfl
  refine cl_G_gi rfl (cl_T_K tp) rfl rfl rfl ?_
  refine yi_G_callv rfl rfl (cl_rcv tu rfl) rfl (k_resize d (by omega) hP.1 tu (by omega)) ?_
  rintro _ ⟨I2, L2, R2, Y2, nc2, ns2, rfl, hQ2, ca2, cb2, x2a, x2b, x2c, x2d⟩
  have hP2 := cl_P_t hP hQ2
  have t3 := cl_T_x tp hQ2.2.1
  have t4 := cl_T_x ta hQ2.2.1
  have n5 := cl_T_n ta hQ2.2.1
  have t6 := cl_T_x tu hQ2.2.1
  show yi_G zi_Ms d zi_m309 (9, [(0, .inr (.inr (some p))), (1, .inr (.inr (some a))), (2, .inl x), (3, .inl y), (4, .inr (.inr (some u)))], [], (I2, L2, R2, Y2), 0 + nc2, 0 + ns2) _
  refine yi_G_run 2 (12, [(5, .inl 0), (0, .inr (.inr (some p))), (1, .inr (.inr (some a))), (2, .inl x), (3, .inl y), (4, .inr (.inr (some u)))], [], (I2, L2, R2, Y2), 0 + nc2, 0 + ns2) (fun _ => rfl) ?_
  have pt12 : ∀ (m_ : Nat) (j : Int) (Lp12 : cl_I), (cl_P E I L R Y I2 Lp12 R2 Y2) → (0 ≤ j ∧ j ≤ 513) → (513 - j).toNat = m_ → yi_G zi_Ms d zi_m309 (12, [(5, .inl j), (0, .inr (.inr (some p))), (1, .inr (.inr (some a))), (2, .inl x), (3, .inl y), (4, .inr (.inr (some u)))], [], (I2, Lp12, R2, Y2), 0 + nc2, 0 + ns2) (fun r => ∃ I', ∃ L', ∃ R', ∃ Y', ∃ nc ns, r = (none, (I', L', R', Y'), nc, ns) ∧ cl_P E I L R Y I' L' R' Y' ∧ nc ≤ 1 ∧ ns ≤ 513 ∧ (∀ q, R u 0 = some q → max (I p 9) 1 ≤ (Y.2.1 q : Int) → nc = 0 ∧ ns = 0) ∧ (cl_F R' Y' u (max (I p 9) 1)) ∧ (∀ q k, q < Y.2.2 → q ≠ u → I' q k = I q k ∧ R' q k = R q k)) := by
    intro m12
    induction m12 using Nat.strongRecOn with
    | _ m12 ih12 =>
    intro j Lp12 hPp12 j0 hm12
    refine yi_G_run 2 (15, [(5, .inl j), (0, .inr (.inr (some p))), (1, .inr (.inr (some a))), (2, .inl x), (3, .inl y), (4, .inr (.inr (some u)))], [.inr (.inr (some p)), .inl j], (I2, Lp12, R2, Y2), 0 + nc2, 0 + ns2) (fun _ => rfl) ?_
    skip
    have b7 := cl_rd hPp12.1 t3 (k := 9) (lo := 1) (hi := 513) rfl
    have r8 : I2 p 9 = I p 9 := by rw [(x2c p 9 (cl_T_x tp hP.2.1).2.1 (cl_ne (cl_T_x tp hP.2.1) tu (by decide))).1]
    refine cl_G_gi rfl (cl_T_K t3) rfl rfl rfl ?_
    by_cases h9 : (I2 p 9) ≤ j
    · refine yi_G_if2 true rfl (yi_ge_t h9) ?_
      refine yi_G_run 1 (56, [(5, .inl j), (0, .inr (.inr (some p))), (1, .inr (.inr (some a))), (2, .inl x), (3, .inl y), (4, .inr (.inr (some u)))], [.inr (.inr (some p))], (I2, Lp12, R2, Y2), 0 + nc2, 0 + ns2) (fun _ => rfl) ?_
      have b10 := cl_rd hPp12.1 t3 (k := 2) (lo := 1) (hi := 32769) rfl
      have r11 : I2 p 2 = I p 2 := by rw [(x2c p 2 (cl_T_x tp hP.2.1).2.1 (cl_ne (cl_T_x tp hP.2.1) tu (by decide))).1]
      refine cl_G_gi rfl (cl_T_K t3) rfl rfl rfl ?_
      refine yi_G_run 1 (61, [(5, .inl j), (0, .inr (.inr (some p))), (1, .inr (.inr (some a))), (2, .inl x), (3, .inl y), (4, .inr (.inr (some u)))], [.inl 64, .inl (I2 p 2)], (I2, Lp12, R2, Y2), 0 + nc2, 0 + ns2) (fun _ => rfl) ?_
      refine yi_G_irem rfl (by decide) ((I2 p 2) % 64) (yi_md (by omega) rfl) ?_
      refine yi_G_run 2 (65, [(5, .inl ((I2 p 2) % 64)), (0, .inr (.inr (some p))), (1, .inr (.inr (some a))), (2, .inl x), (3, .inl y), (4, .inr (.inr (some u)))], [.inr (.inr (some p))], (I2, Lp12, R2, Y2), 0 + nc2, 0 + ns2) (fun _ => rfl) ?_
      have b12 := cl_rd hPp12.1 t3 (k := 9) (lo := 1) (hi := 513) rfl
      have r13 : I2 p 9 = I p 9 := by rw [(x2c p 9 (cl_T_x tp hP.2.1).2.1 (cl_ne (cl_T_x tp hP.2.1) tu (by decide))).1]
      refine cl_G_gi rfl (cl_T_K t3) rfl rfl rfl ?_
      refine yi_G_run 1 (69, [(5, .inl ((I2 p 2) % 64)), (0, .inr (.inr (some p))), (1, .inr (.inr (some a))), (2, .inl x), (3, .inl y), (4, .inr (.inr (some u)))], [.inl 1, .inl (I2 p 9)], (I2, Lp12, R2, Y2), 0 + nc2, 0 + ns2) (fun _ => rfl) ?_
      refine yi_G_isub rfl ((I2 p 9) - 1) (yi_wn (by omega) (by omega)) ?_
      refine yi_G_run 2 (74, [(6, .inl ((I2 p 9) - 1)), (5, .inl ((I2 p 2) % 64)), (0, .inr (.inr (some p))), (1, .inr (.inr (some a))), (2, .inl x), (3, .inl y), (4, .inr (.inr (some u)))], [.inl ((I2 p 2) % 64)], (I2, Lp12, R2, Y2), 0 + nc2, 0 + ns2) (fun _ => rfl) ?_
      by_cases h14 : ((I2 p 2) % 64) = 0
      · refine yi_G_if1 true rfl (yi_eq_t h14) ?_
        exact yi_G_retv rfl rfl (⟨_, _, _, _, _, _, rfl, hPp12, by omega, by omega, (fun q a b => by have := x2a q a b; omega), x2b, (fun q k hq hn => ⟨by rw [(x2c q k (Nat.lt_of_lt_of_le hq hP.2.1.1) hn).1], by rw [(x2c q k (Nat.lt_of_lt_of_le hq hP.2.1.1) hn).2]⟩)⟩)
      · refine yi_G_if1 false rfl (yi_eq_f h14) ?_
        refine yi_G_run 1 (79, [(6, .inl ((I2 p 9) - 1)), (5, .inl ((I2 p 2) % 64)), (0, .inr (.inr (some p))), (1, .inr (.inr (some a))), (2, .inl x), (3, .inl y), (4, .inr (.inr (some u)))], [.inl ((I2 p 9) - 1)], (I2, Lp12, R2, Y2), 0 + nc2, 0 + ns2) (fun _ => rfl) ?_
        by_cases h15 : ((I2 p 9) - 1) < 0
        · refine yi_G_if1 true rfl (yi_lt_t h15) ?_
          exact yi_G_retv rfl rfl (⟨_, _, _, _, _, _, rfl, hPp12, by omega, by omega, (fun q a b => by have := x2a q a b; omega), x2b, (fun q k hq hn => ⟨by rw [(x2c q k (Nat.lt_of_lt_of_le hq hP.2.1.1) hn).1], by rw [(x2c q k (Nat.lt_of_lt_of_le hq hP.2.1.1) hn).2]⟩)⟩)
        · refine yi_G_if1 false rfl (yi_lt_f h15) ?_
          refine yi_G_run 2 (86, [(6, .inl ((I2 p 9) - 1)), (5, .inl ((I2 p 2) % 64)), (0, .inr (.inr (some p))), (1, .inr (.inr (some a))), (2, .inl x), (3, .inl y), (4, .inr (.inr (some u)))], [.inr (.inr (some u)), .inl ((I2 p 9) - 1)], (I2, Lp12, R2, Y2), 0 + nc2, 0 + ns2) (fun _ => rfl) ?_
          obtain ⟨q16, e17, t18⟩ := cl_rf hPp12.1 t6 (k := 0) rfl
          have n19 := cl_nb hPp12.1 t18
          refine cl_G_gr rfl (cl_T_K t6) rfl rfl rfl e17 ?_
          refine cl_G_len rfl t18 (by omega) ?_
          by_cases h20 : ((Y2.2.1 q16 : Int)) ≤ ((I2 p 9) - 1)
          · refine yi_G_if2 true rfl (yi_ge_t h20) ?_
            exact yi_G_retv rfl rfl (⟨_, _, _, _, _, _, rfl, hPp12, by omega, by omega, (fun q a b => by have := x2a q a b; omega), x2b, (fun q k hq hn => ⟨by rw [(x2c q k (Nat.lt_of_lt_of_le hq hP.2.1.1) hn).1], by rw [(x2c q k (Nat.lt_of_lt_of_le hq hP.2.1.1) hn).2]⟩)⟩)
          · refine yi_G_if2 false rfl (yi_ge_f h20) ?_
            refine yi_G_run 1 (95, [(6, .inl ((I2 p 9) - 1)), (5, .inl ((I2 p 2) % 64)), (0, .inr (.inr (some p))), (1, .inr (.inr (some a))), (2, .inl x), (3, .inl y), (4, .inr (.inr (some u)))], [.inr (.inr (some u))], (I2, Lp12, R2, Y2), 0 + nc2, 0 + ns2) (fun _ => rfl) ?_
            refine cl_G_gr rfl (cl_T_K t6) rfl rfl rfl e17 ?_
            refine yi_G_run 2 (101, [(6, .inl ((I2 p 9) - 1)), (5, .inl ((I2 p 2) % 64)), (0, .inr (.inr (some p))), (1, .inr (.inr (some a))), (2, .inl x), (3, .inl y), (4, .inr (.inr (some u)))], [.inl ((I2 p 9) - 1), .inr (.inr (some q16)), .inl ((I2 p 9) - 1), .inr (.inr (some q16))], (I2, Lp12, R2, Y2), 0 + nc2, 0 + ns2) (fun _ => rfl) ?_
            refine cl_G_lald rfl t18 (by omega) (by omega) ?_
            refine yi_G_run 6 (109, [(6, .inl ((I2 p 9) - 1)), (5, .inl ((I2 p 2) % 64)), (0, .inr (.inr (some p))), (1, .inr (.inr (some a))), (2, .inl x), (3, .inl y), (4, .inr (.inr (some u)))], [.inr (.inl (yi_land (Lp12 q16 (((I2 p 9) - 1).toNat)) (yi_W ((yi_lshl 1 ((I2 p 2) % 64)) - 1)))), .inl ((I2 p 9) - 1), .inr (.inr (some q16))], (I2, Lp12, R2, Y2), 0 + nc2, 0 + ns2) (fun _ => rfl) ?_
            refine cl_G_last rfl t18 (by omega) (by omega) ?_
            have hP21 := cl_P_uL (k := (((I2 p 9) - 1).toNat)) (v := yi_land (Lp12 q16 (((I2 p 9) - 1).toNat)) (yi_W ((yi_lshl 1 ((I2 p 2) % 64)) - 1))) hPp12 t18 (by omega)
            generalize w22 : yi_u Lp12 q16 (((I2 p 9) - 1).toNat) (yi_land (Lp12 q16 (((I2 p 9) - 1).toNat)) (yi_W ((yi_lshl 1 ((I2 p 2) % 64)) - 1))) = L23 at hP21 ⊢
            exact yi_G_retv rfl rfl (⟨_, _, _, _, _, _, rfl, hP21, by omega, by omega, (fun q a b => by have := x2a q a b; omega), x2b, (fun q k hq hn => ⟨by rw [(x2c q k (Nat.lt_of_lt_of_le hq hP.2.1.1) hn).1], by rw [(x2c q k (Nat.lt_of_lt_of_le hq hP.2.1.1) hn).2]⟩)⟩)
    · refine yi_G_if2 false rfl (yi_ge_f h9) ?_
      refine yi_G_run 2 (25, [(5, .inl j), (0, .inr (.inr (some p))), (1, .inr (.inr (some a))), (2, .inl x), (3, .inl y), (4, .inr (.inr (some u)))], [.inr (.inr (some u)), .inl j], (I2, Lp12, R2, Y2), 0 + nc2, 0 + ns2) (fun _ => rfl) ?_
      obtain ⟨q24, e25, t26⟩ := cl_rf hPp12.1 t6 (k := 0) rfl
      have n27 := cl_nb hPp12.1 t26
      refine cl_G_gr rfl (cl_T_K t6) rfl rfl rfl e25 ?_
      refine cl_G_len rfl t26 (by omega) ?_
      by_cases h28 : ((Y2.2.1 q24 : Int)) ≤ j
      · refine yi_G_if2 true rfl (yi_ge_t h28) ?_
        refine yi_G_run 1 (56, [(5, .inl j), (0, .inr (.inr (some p))), (1, .inr (.inr (some a))), (2, .inl x), (3, .inl y), (4, .inr (.inr (some u)))], [.inr (.inr (some p))], (I2, Lp12, R2, Y2), 0 + nc2, 0 + ns2) (fun _ => rfl) ?_
        have b29 := cl_rd hPp12.1 t3 (k := 2) (lo := 1) (hi := 32769) rfl
        have r30 : I2 p 2 = I p 2 := by rw [(x2c p 2 (cl_T_x tp hP.2.1).2.1 (cl_ne (cl_T_x tp hP.2.1) tu (by decide))).1]
        refine cl_G_gi rfl (cl_T_K t3) rfl rfl rfl ?_
        refine yi_G_run 1 (61, [(5, .inl j), (0, .inr (.inr (some p))), (1, .inr (.inr (some a))), (2, .inl x), (3, .inl y), (4, .inr (.inr (some u)))], [.inl 64, .inl (I2 p 2)], (I2, Lp12, R2, Y2), 0 + nc2, 0 + ns2) (fun _ => rfl) ?_
        refine yi_G_irem rfl (by decide) ((I2 p 2) % 64) (yi_md (by omega) rfl) ?_
        refine yi_G_run 2 (65, [(5, .inl ((I2 p 2) % 64)), (0, .inr (.inr (some p))), (1, .inr (.inr (some a))), (2, .inl x), (3, .inl y), (4, .inr (.inr (some u)))], [.inr (.inr (some p))], (I2, Lp12, R2, Y2), 0 + nc2, 0 + ns2) (fun _ => rfl) ?_
        have b31 := cl_rd hPp12.1 t3 (k := 9) (lo := 1) (hi := 513) rfl
        have r32 : I2 p 9 = I p 9 := by rw [(x2c p 9 (cl_T_x tp hP.2.1).2.1 (cl_ne (cl_T_x tp hP.2.1) tu (by decide))).1]
        refine cl_G_gi rfl (cl_T_K t3) rfl rfl rfl ?_
        refine yi_G_run 1 (69, [(5, .inl ((I2 p 2) % 64)), (0, .inr (.inr (some p))), (1, .inr (.inr (some a))), (2, .inl x), (3, .inl y), (4, .inr (.inr (some u)))], [.inl 1, .inl (I2 p 9)], (I2, Lp12, R2, Y2), 0 + nc2, 0 + ns2) (fun _ => rfl) ?_
        refine yi_G_isub rfl ((I2 p 9) - 1) (yi_wn (by omega) (by omega)) ?_
        refine yi_G_run 2 (74, [(6, .inl ((I2 p 9) - 1)), (5, .inl ((I2 p 2) % 64)), (0, .inr (.inr (some p))), (1, .inr (.inr (some a))), (2, .inl x), (3, .inl y), (4, .inr (.inr (some u)))], [.inl ((I2 p 2) % 64)], (I2, Lp12, R2, Y2), 0 + nc2, 0 + ns2) (fun _ => rfl) ?_
        by_cases h33 : ((I2 p 2) % 64) = 0
        · refine yi_G_if1 true rfl (yi_eq_t h33) ?_
          exact yi_G_retv rfl rfl (⟨_, _, _, _, _, _, rfl, hPp12, by omega, by omega, (fun q a b => by have := x2a q a b; omega), x2b, (fun q k hq hn => ⟨by rw [(x2c q k (Nat.lt_of_lt_of_le hq hP.2.1.1) hn).1], by rw [(x2c q k (Nat.lt_of_lt_of_le hq hP.2.1.1) hn).2]⟩)⟩)
        · refine yi_G_if1 false rfl (yi_eq_f h33) ?_
          refine yi_G_run 1 (79, [(6, .inl ((I2 p 9) - 1)), (5, .inl ((I2 p 2) % 64)), (0, .inr (.inr (some p))), (1, .inr (.inr (some a))), (2, .inl x), (3, .inl y), (4, .inr (.inr (some u)))], [.inl ((I2 p 9) - 1)], (I2, Lp12, R2, Y2), 0 + nc2, 0 + ns2) (fun _ => rfl) ?_
          by_cases h34 : ((I2 p 9) - 1) < 0
          · refine yi_G_if1 true rfl (yi_lt_t h34) ?_
            exact yi_G_retv rfl rfl (⟨_, _, _, _, _, _, rfl, hPp12, by omega, by omega, (fun q a b => by have := x2a q a b; omega), x2b, (fun q k hq hn => ⟨by rw [(x2c q k (Nat.lt_of_lt_of_le hq hP.2.1.1) hn).1], by rw [(x2c q k (Nat.lt_of_lt_of_le hq hP.2.1.1) hn).2]⟩)⟩)
          · refine yi_G_if1 false rfl (yi_lt_f h34) ?_
            refine yi_G_run 2 (86, [(6, .inl ((I2 p 9) - 1)), (5, .inl ((I2 p 2) % 64)), (0, .inr (.inr (some p))), (1, .inr (.inr (some a))), (2, .inl x), (3, .inl y), (4, .inr (.inr (some u)))], [.inr (.inr (some u)), .inl ((I2 p 9) - 1)], (I2, Lp12, R2, Y2), 0 + nc2, 0 + ns2) (fun _ => rfl) ?_
            refine cl_G_gr rfl (cl_T_K t6) rfl rfl rfl e25 ?_
            refine cl_G_len rfl t26 (by omega) ?_
            by_cases h35 : ((Y2.2.1 q24 : Int)) ≤ ((I2 p 9) - 1)
            · refine yi_G_if2 true rfl (yi_ge_t h35) ?_
              exact yi_G_retv rfl rfl (⟨_, _, _, _, _, _, rfl, hPp12, by omega, by omega, (fun q a b => by have := x2a q a b; omega), x2b, (fun q k hq hn => ⟨by rw [(x2c q k (Nat.lt_of_lt_of_le hq hP.2.1.1) hn).1], by rw [(x2c q k (Nat.lt_of_lt_of_le hq hP.2.1.1) hn).2]⟩)⟩)
            · refine yi_G_if2 false rfl (yi_ge_f h35) ?_
              refine yi_G_run 1 (95, [(6, .inl ((I2 p 9) - 1)), (5, .inl ((I2 p 2) % 64)), (0, .inr (.inr (some p))), (1, .inr (.inr (some a))), (2, .inl x), (3, .inl y), (4, .inr (.inr (some u)))], [.inr (.inr (some u))], (I2, Lp12, R2, Y2), 0 + nc2, 0 + ns2) (fun _ => rfl) ?_
              refine cl_G_gr rfl (cl_T_K t6) rfl rfl rfl e25 ?_
              refine yi_G_run 2 (101, [(6, .inl ((I2 p 9) - 1)), (5, .inl ((I2 p 2) % 64)), (0, .inr (.inr (some p))), (1, .inr (.inr (some a))), (2, .inl x), (3, .inl y), (4, .inr (.inr (some u)))], [.inl ((I2 p 9) - 1), .inr (.inr (some q24)), .inl ((I2 p 9) - 1), .inr (.inr (some q24))], (I2, Lp12, R2, Y2), 0 + nc2, 0 + ns2) (fun _ => rfl) ?_
              refine cl_G_lald rfl t26 (by omega) (by omega) ?_
              refine yi_G_run 6 (109, [(6, .inl ((I2 p 9) - 1)), (5, .inl ((I2 p 2) % 64)), (0, .inr (.inr (some p))), (1, .inr (.inr (some a))), (2, .inl x), (3, .inl y), (4, .inr (.inr (some u)))], [.inr (.inl (yi_land (Lp12 q24 (((I2 p 9) - 1).toNat)) (yi_W ((yi_lshl 1 ((I2 p 2) % 64)) - 1)))), .inl ((I2 p 9) - 1), .inr (.inr (some q24))], (I2, Lp12, R2, Y2), 0 + nc2, 0 + ns2) (fun _ => rfl) ?_
              refine cl_G_last rfl t26 (by omega) (by omega) ?_
              have hP36 := cl_P_uL (k := (((I2 p 9) - 1).toNat)) (v := yi_land (Lp12 q24 (((I2 p 9) - 1).toNat)) (yi_W ((yi_lshl 1 ((I2 p 2) % 64)) - 1))) hPp12 t26 (by omega)
              generalize w37 : yi_u Lp12 q24 (((I2 p 9) - 1).toNat) (yi_land (Lp12 q24 (((I2 p 9) - 1).toNat)) (yi_W ((yi_lshl 1 ((I2 p 2) % 64)) - 1))) = L38 at hP36 ⊢
              exact yi_G_retv rfl rfl (⟨_, _, _, _, _, _, rfl, hP36, by omega, by omega, (fun q a b => by have := x2a q a b; omega), x2b, (fun q k hq hn => ⟨by rw [(x2c q k (Nat.lt_of_lt_of_le hq hP.2.1.1) hn).1], by rw [(x2c q k (Nat.lt_of_lt_of_le hq hP.2.1.1) hn).2]⟩)⟩)
      · refine yi_G_if2 false rfl (yi_ge_f h28) ?_
        refine yi_G_run 1 (34, [(5, .inl j), (0, .inr (.inr (some p))), (1, .inr (.inr (some a))), (2, .inl x), (3, .inl y), (4, .inr (.inr (some u)))], [.inr (.inr (some u))], (I2, Lp12, R2, Y2), 0 + nc2, 0 + ns2) (fun _ => rfl) ?_
        refine cl_G_gr rfl (cl_T_K t6) rfl rfl rfl e25 ?_
        refine yi_G_run 6 (45, [(5, .inl j), (0, .inr (.inr (some p))), (1, .inr (.inr (some a))), (2, .inl x), (3, .inl y), (4, .inr (.inr (some u)))], [.inl j, .inl y, .inl x, .inr (.inr (some a)), .inr (.inr (some p)), .inl j, .inr (.inr (some q24))], (I2, Lp12, R2, Y2), 0 + nc2, 0 + ns2) (fun _ => rfl) ?_
        refine yi_G_callv rfl rfl (cl_rcv t3 rfl) rfl (k_solveCell d (by omega) hPp12.1 t3 t4 ) ?_
        rintro _ ⟨z39, L39, rfl, hQ39⟩
        have hP39 := cl_P_t hPp12 hQ39
        show yi_G zi_Ms d zi_m309 (48, [(5, .inl j), (0, .inr (.inr (some p))), (1, .inr (.inr (some a))), (2, .inl x), (3, .inl y), (4, .inr (.inr (some u)))], [.inr (.inl z39), .inl j, .inr (.inr (some q24))], (I2, L39, R2, Y2), 0 + nc2, 0 + ns2) _
        refine cl_G_last rfl t26 (by omega) (by omega) ?_
        have hP40 := cl_P_uL (k := (j.toNat)) (v := z39) hP39 t26 (by omega)
        generalize w41 : yi_u L39 q24 (j.toNat) z39 = L42 at hP40 ⊢
        refine yi_G_iinc [(5, .inl (j + 1)), (0, .inr (.inr (some p))), (1, .inr (.inr (some a))), (2, .inl x), (3, .inl y), (4, .inr (.inr (some u)))] rfl rfl rfl (by rw [show yi_w (j + 1) = j + 1 from (yi_wn (by omega) (by omega)).trans (by omega)]; rfl) ?_
        refine yi_G_run 1 (12, [(5, .inl (j + 1)), (0, .inr (.inr (some p))), (1, .inr (.inr (some a))), (2, .inl x), (3, .inl y), (4, .inr (.inr (some u)))], [], (I2, L42, R2, Y2), 0 + nc2, 0 + ns2) (fun _ => rfl) ?_
        exact ih12 _ (by omega) (j + 1) L42 hP40 (by omega) rfl
  exact pt12 _ 0 L2 hP2 (by omega) rfl
