/-! Lands, stories. -/
theorem k_isPerson (D : Nat) (hD : 1 ≤ D) {E : List Nat} {I L : cl_I} {R : cl_Rr} {Y : cl_Y} (hC : cl_C E I L R Y) {p : Nat} (tp : cl_T E Y p 3) {x : Int} : yi_E zi_Ms D 230 [.inr (.inr (some p)), .inl x] (I, L, R, Y) (fun r => ∃ z, r = (some (.inl z), (I, L, R, Y), 0, 0) ∧ (z = 0 ∨ z = 1) ∧ (z = 1 → 0 ≤ x ∧ x ≤ 3)) := by
  obtain ⟨d, rfl⟩ : ∃ d, D = d + 1 := ⟨D - 1, by omega⟩
  refine yi_E_of (M := zi_m230) rfl rfl ?_
  have hP : cl_P E I L R Y I L R Y := cl_P_r hC
  show yi_G zi_Ms d zi_m230 (0, [(0, .inr (.inr (some p))), (1, .inl x)], [], (I, L, R, Y), 0, 0) _
  refine yi_G_run 1 (1, [(0, .inr (.inr (some p))), (1, .inl x)], [.inl x], (I, L, R, Y), 0, 0) (fun _ => rfl) ?_
  by_cases h1 : x < 0
  · refine yi_G_if1 true rfl (yi_lt_t h1) ?_
    refine yi_G_run 1 (22, [(0, .inr (.inr (some p))), (1, .inl x)], [.inl 0], (I, L, R, Y), 0, 0) (fun _ => rfl) ?_
    exact yi_G_retb rfl rfl (by decide) (⟨_, rfl, by decide, by omega⟩)
  · refine yi_G_if1 false rfl (yi_lt_f h1) ?_
    refine yi_G_run 2 (6, [(0, .inr (.inr (some p))), (1, .inl x)], [.inr (.inr (some p)), .inl x], (I, L, R, Y), 0, 0) (fun _ => rfl) ?_
    have b2 := cl_rd hP.1 tp (k := 15) (lo := 0) (hi := 4) rfl
    refine cl_G_gi rfl (cl_T_K tp) rfl rfl rfl ?_
    by_cases h3 : (I p 15) ≤ x
    · refine yi_G_if2 true rfl (yi_ge_t h3) ?_
      refine yi_G_run 1 (22, [(0, .inr (.inr (some p))), (1, .inl x)], [.inl 0], (I, L, R, Y), 0, 0) (fun _ => rfl) ?_
      exact yi_G_retb rfl rfl (by decide) (⟨_, rfl, by decide, by omega⟩)
    · refine yi_G_if2 false rfl (yi_ge_f h3) ?_
      refine yi_G_run 2 (14, [(0, .inr (.inr (some p))), (1, .inl x)], [.inl 4, .inl x], (I, L, R, Y), 0, 0) (fun _ => rfl) ?_
      by_cases h4 : 4 ≤ x
      · refine yi_G_if2 true rfl (yi_ge_t h4) ?_
        refine yi_G_run 1 (22, [(0, .inr (.inr (some p))), (1, .inl x)], [.inl 0], (I, L, R, Y), 0, 0) (fun _ => rfl) ?_
        exact yi_G_retb rfl rfl (by decide) (⟨_, rfl, by decide, by omega⟩)
      · refine yi_G_if2 false rfl (yi_ge_f h4) ?_
        refine yi_G_run 2 (22, [(0, .inr (.inr (some p))), (1, .inl x)], [.inl 1], (I, L, R, Y), 0, 0) (fun _ => rfl) ?_
        exact yi_G_retb rfl rfl (by decide) (⟨_, rfl, by decide, by omega⟩)
theorem k_isEvent (D : Nat) (hD : 1 ≤ D) {E : List Nat} {I L : cl_I} {R : cl_Rr} {Y : cl_Y} (hC : cl_C E I L R Y) {p : Nat} (tp : cl_T E Y p 3) {x : Int} : yi_E zi_Ms D 228 [.inr (.inr (some p)), .inl x] (I, L, R, Y) (fun r => ∃ z, r = (some (.inl z), (I, L, R, Y), 0, 0) ∧ (z = 0 ∨ z = 1) ∧ (z = 1 → 0 ≤ x ∧ x ≤ 3)) := by
  obtain ⟨d, rfl⟩ : ∃ d, D = d + 1 := ⟨D - 1, by omega⟩
  refine yi_E_of (M := zi_m228) rfl rfl ?_
  have hP : cl_P E I L R Y I L R Y := cl_P_r hC
  show yi_G zi_Ms d zi_m228 (0, [(0, .inr (.inr (some p))), (1, .inl x)], [], (I, L, R, Y), 0, 0) _
  refine yi_G_run 1 (1, [(0, .inr (.inr (some p))), (1, .inl x)], [.inl x], (I, L, R, Y), 0, 0) (fun _ => rfl) ?_
  by_cases h1 : x < 0
  · refine yi_G_if1 true rfl (yi_lt_t h1) ?_
    refine yi_G_run 1 (22, [(0, .inr (.inr (some p))), (1, .inl x)], [.inl 0], (I, L, R, Y), 0, 0) (fun _ => rfl) ?_
    exact yi_G_retb rfl rfl (by decide) (⟨_, rfl, by decide, by omega⟩)
  · refine yi_G_if1 false rfl (yi_lt_f h1) ?_
    refine yi_G_run 2 (6, [(0, .inr (.inr (some p))), (1, .inl x)], [.inr (.inr (some p)), .inl x], (I, L, R, Y), 0, 0) (fun _ => rfl) ?_
    have b2 := cl_rd hP.1 tp (k := 16) (lo := 0) (hi := 4) rfl
    refine cl_G_gi rfl (cl_T_K tp) rfl rfl rfl ?_
    by_cases h3 : (I p 16) ≤ x
    · refine yi_G_if2 true rfl (yi_ge_t h3) ?_
      refine yi_G_run 1 (22, [(0, .inr (.inr (some p))), (1, .inl x)], [.inl 0], (I, L, R, Y), 0, 0) (fun _ => rfl) ?_
      exact yi_G_retb rfl rfl (by decide) (⟨_, rfl, by decide, by omega⟩)
    · refine yi_G_if2 false rfl (yi_ge_f h3) ?_
      refine yi_G_run 2 (14, [(0, .inr (.inr (some p))), (1, .inl x)], [.inl 4, .inl x], (I, L, R, Y), 0, 0) (fun _ => rfl) ?_
      by_cases h4 : 4 ≤ x
      · refine yi_G_if2 true rfl (yi_ge_t h4) ?_
        refine yi_G_run 1 (22, [(0, .inr (.inr (some p))), (1, .inl x)], [.inl 0], (I, L, R, Y), 0, 0) (fun _ => rfl) ?_
        exact yi_G_retb rfl rfl (by decide) (⟨_, rfl, by decide, by omega⟩)
      · refine yi_G_if2 false rfl (yi_ge_f h4) ?_
        refine yi_G_run 2 (22, [(0, .inr (.inr (some p))), (1, .inl x)], [.inl 1], (I, L, R, Y), 0, 0) (fun _ => rfl) ?_
        exact yi_G_retb rfl rfl (by decide) (⟨_, rfl, by decide, by omega⟩)
theorem k_isDay (D : Nat) (hD : 1 ≤ D) {E : List Nat} {I L : cl_I} {R : cl_Rr} {Y : cl_Y} (hC : cl_C E I L R Y) {p : Nat} (tp : cl_T E Y p 3) {x : Int} : yi_E zi_Ms D 227 [.inr (.inr (some p)), .inl x] (I, L, R, Y) (fun r => ∃ z, r = (some (.inl z), (I, L, R, Y), 0, 0) ∧ (z = 0 ∨ z = 1) ∧ (z = 1 → 1 ≤ x ∧ x ≤ 6)) := by
  obtain ⟨d, rfl⟩ : ∃ d, D = d + 1 := ⟨D - 1, by omega⟩
  refine yi_E_of (M := zi_m227) rfl rfl ?_
  have hP : cl_P E I L R Y I L R Y := cl_P_r hC
  show yi_G zi_Ms d zi_m227 (0, [(0, .inr (.inr (some p))), (1, .inl x)], [], (I, L, R, Y), 0, 0) _
  refine yi_G_run 2 (2, [(0, .inr (.inr (some p))), (1, .inl x)], [.inl 1, .inl x], (I, L, R, Y), 0, 0) (fun _ => rfl) ?_
  by_cases h1 : x < 1
  · refine yi_G_if2 true rfl (yi_lt_t h1) ?_
    refine yi_G_run 1 (24, [(0, .inr (.inr (some p))), (1, .inl x)], [.inl 0], (I, L, R, Y), 0, 0) (fun _ => rfl) ?_
    exact yi_G_retb rfl rfl (by decide) (⟨_, rfl, by decide, by omega⟩)
  · refine yi_G_if2 false rfl (yi_lt_f h1) ?_
    refine yi_G_run 2 (7, [(0, .inr (.inr (some p))), (1, .inl x)], [.inr (.inr (some p)), .inl x], (I, L, R, Y), 0, 0) (fun _ => rfl) ?_
    have b2 := cl_rd hP.1 tp (k := 14) (lo := 1) (hi := 6) rfl
    refine cl_G_gi rfl (cl_T_K tp) rfl rfl rfl ?_
    by_cases h3 : (I p 14) < x
    · refine yi_G_if2 true rfl (yi_gt_t h3) ?_
      refine yi_G_run 1 (24, [(0, .inr (.inr (some p))), (1, .inl x)], [.inl 0], (I, L, R, Y), 0, 0) (fun _ => rfl) ?_
      exact yi_G_retb rfl rfl (by decide) (⟨_, rfl, by decide, by omega⟩)
    · refine yi_G_if2 false rfl (yi_gt_f h3) ?_
      refine yi_G_run 2 (16, [(0, .inr (.inr (some p))), (1, .inl x)], [.inl 6, .inl x], (I, L, R, Y), 0, 0) (fun _ => rfl) ?_
      by_cases h4 : 6 < x
      · refine yi_G_if2 true rfl (yi_gt_t h4) ?_
        refine yi_G_run 1 (24, [(0, .inr (.inr (some p))), (1, .inl x)], [.inl 0], (I, L, R, Y), 0, 0) (fun _ => rfl) ?_
        exact yi_G_retb rfl rfl (by decide) (⟨_, rfl, by decide, by omega⟩)
      · refine yi_G_if2 false rfl (yi_gt_f h4) ?_
        refine yi_G_run 2 (24, [(0, .inr (.inr (some p))), (1, .inl x)], [.inl 1], (I, L, R, Y), 0, 0) (fun _ => rfl) ?_
        exact yi_G_retb rfl rfl (by decide) (⟨_, rfl, by decide, by omega⟩)
theorem k_isProphet (D : Nat) (hD : 1 ≤ D) {E : List Nat} {I L : cl_I} {R : cl_Rr} {Y : cl_Y} (hC : cl_C E I L R Y) {p : Nat} (tp : cl_T E Y p 3) {x : Int} : yi_E zi_Ms D 231 [.inr (.inr (some p)), .inl x] (I, L, R, Y) (fun r => ∃ z, r = (some (.inl z), (I, L, R, Y), 0, 0) ∧ (z = 0 ∨ z = 1) ∧ (z = 1 → 0 ≤ x ∧ x ≤ 4)) := by
  obtain ⟨d, rfl⟩ : ∃ d, D = d + 1 := ⟨D - 1, by omega⟩
  refine yi_E_of (M := zi_m231) rfl rfl ?_
  have hP : cl_P E I L R Y I L R Y := cl_P_r hC
  show yi_G zi_Ms d zi_m231 (0, [(0, .inr (.inr (some p))), (1, .inl x)], [], (I, L, R, Y), 0, 0) _
  refine yi_G_run 1 (1, [(0, .inr (.inr (some p))), (1, .inl x)], [.inl x], (I, L, R, Y), 0, 0) (fun _ => rfl) ?_
  by_cases h1 : x < 0
  · refine yi_G_if1 true rfl (yi_lt_t h1) ?_
    refine yi_G_run 1 (22, [(0, .inr (.inr (some p))), (1, .inl x)], [.inl 0], (I, L, R, Y), 0, 0) (fun _ => rfl) ?_
    exact yi_G_retb rfl rfl (by decide) (⟨_, rfl, by decide, by omega⟩)
  · refine yi_G_if1 false rfl (yi_lt_f h1) ?_
    refine yi_G_run 2 (6, [(0, .inr (.inr (some p))), (1, .inl x)], [.inr (.inr (some p)), .inl x], (I, L, R, Y), 0, 0) (fun _ => rfl) ?_
    have b2 := cl_rd hP.1 tp (k := 17) (lo := 0) (hi := 5) rfl
    refine cl_G_gi rfl (cl_T_K tp) rfl rfl rfl ?_
    by_cases h3 : (I p 17) ≤ x
    · refine yi_G_if2 true rfl (yi_ge_t h3) ?_
      refine yi_G_run 1 (22, [(0, .inr (.inr (some p))), (1, .inl x)], [.inl 0], (I, L, R, Y), 0, 0) (fun _ => rfl) ?_
      exact yi_G_retb rfl rfl (by decide) (⟨_, rfl, by decide, by omega⟩)
    · refine yi_G_if2 false rfl (yi_ge_f h3) ?_
      refine yi_G_run 2 (14, [(0, .inr (.inr (some p))), (1, .inl x)], [.inl 5, .inl x], (I, L, R, Y), 0, 0) (fun _ => rfl) ?_
      by_cases h4 : 5 ≤ x
      · refine yi_G_if2 true rfl (yi_ge_t h4) ?_
        refine yi_G_run 1 (22, [(0, .inr (.inr (some p))), (1, .inl x)], [.inl 0], (I, L, R, Y), 0, 0) (fun _ => rfl) ?_
        exact yi_G_retb rfl rfl (by decide) (⟨_, rfl, by decide, by omega⟩)
      · refine yi_G_if2 false rfl (yi_ge_f h4) ?_
        refine yi_G_run 2 (22, [(0, .inr (.inr (some p))), (1, .inl x)], [.inl 1], (I, L, R, Y), 0, 0) (fun _ => rfl) ?_
        exact yi_G_retb rfl rfl (by decide) (⟨_, rfl, by decide, by omega⟩)
theorem k_isWish (D : Nat) (hD : 1 ≤ D) {E : List Nat} {I L : cl_I} {R : cl_Rr} {Y : cl_Y} (hC : cl_C E I L R Y) {p : Nat} (tp : cl_T E Y p 3) {x : Int} : yi_E zi_Ms D 232 [.inr (.inr (some p)), .inl x] (I, L, R, Y) (fun r => ∃ z, r = (some (.inl z), (I, L, R, Y), 0, 0) ∧ (z = 0 ∨ z = 1) ∧ (z = 1 → 0 ≤ x ∧ x ≤ 5)) := by
  obtain ⟨d, rfl⟩ : ∃ d, D = d + 1 := ⟨D - 1, by omega⟩
  refine yi_E_of (M := zi_m232) rfl rfl ?_
  have hP : cl_P E I L R Y I L R Y := cl_P_r hC
  show yi_G zi_Ms d zi_m232 (0, [(0, .inr (.inr (some p))), (1, .inl x)], [], (I, L, R, Y), 0, 0) _
  refine yi_G_run 1 (1, [(0, .inr (.inr (some p))), (1, .inl x)], [.inl x], (I, L, R, Y), 0, 0) (fun _ => rfl) ?_
  by_cases h1 : x < 0
  · refine yi_G_if1 true rfl (yi_lt_t h1) ?_
    refine yi_G_run 1 (23, [(0, .inr (.inr (some p))), (1, .inl x)], [.inl 0], (I, L, R, Y), 0, 0) (fun _ => rfl) ?_
    exact yi_G_retb rfl rfl (by decide) (⟨_, rfl, by decide, by omega⟩)
  · refine yi_G_if1 false rfl (yi_lt_f h1) ?_
    refine yi_G_run 2 (6, [(0, .inr (.inr (some p))), (1, .inl x)], [.inr (.inr (some p)), .inl x], (I, L, R, Y), 0, 0) (fun _ => rfl) ?_
    have b2 := cl_rd hP.1 tp (k := 19) (lo := 0) (hi := 6) rfl
    refine cl_G_gi rfl (cl_T_K tp) rfl rfl rfl ?_
    by_cases h3 : (I p 19) ≤ x
    · refine yi_G_if2 true rfl (yi_ge_t h3) ?_
      refine yi_G_run 1 (23, [(0, .inr (.inr (some p))), (1, .inl x)], [.inl 0], (I, L, R, Y), 0, 0) (fun _ => rfl) ?_
      exact yi_G_retb rfl rfl (by decide) (⟨_, rfl, by decide, by omega⟩)
    · refine yi_G_if2 false rfl (yi_ge_f h3) ?_
      refine yi_G_run 2 (15, [(0, .inr (.inr (some p))), (1, .inl x)], [.inl 6, .inl x], (I, L, R, Y), 0, 0) (fun _ => rfl) ?_
      by_cases h4 : 6 ≤ x
      · refine yi_G_if2 true rfl (yi_ge_t h4) ?_
        refine yi_G_run 1 (23, [(0, .inr (.inr (some p))), (1, .inl x)], [.inl 0], (I, L, R, Y), 0, 0) (fun _ => rfl) ?_
        exact yi_G_retb rfl rfl (by decide) (⟨_, rfl, by decide, by omega⟩)
      · refine yi_G_if2 false rfl (yi_ge_f h4) ?_
        refine yi_G_run 2 (23, [(0, .inr (.inr (some p))), (1, .inl x)], [.inl 1], (I, L, R, Y), 0, 0) (fun _ => rfl) ?_
        exact yi_G_retb rfl rfl (by decide) (⟨_, rfl, by decide, by omega⟩)
theorem k_isWord (D : Nat) (hD : 2 ≤ D) {E : List Nat} {I L : cl_I} {R : cl_Rr} {Y : cl_Y} (hC : cl_C E I L R Y) {p : Nat} (tp : cl_T E Y p 3) {x : Int} {y : Int} {w : Int} : yi_E zi_Ms D 233 [.inr (.inr (some p)), .inl x, .inl y, .inl w] (I, L, R, Y) (fun r => ∃ z, r = (some (.inl z), (I, L, R, Y), 0, 0) ∧ (z = 0 ∨ z = 1) ∧ (z = 1 → (0 ≤ x ∧ x ≤ 3) ∧ (1 ≤ y ∧ y ≤ 6) ∧ (0 ≤ w ∧ w ≤ 3))) := by
  obtain ⟨d, rfl⟩ : ∃ d, D = d + 1 := ⟨D - 1, by omega⟩
  refine yi_E_of (M := zi_m233) rfl rfl ?_
  have hP : cl_P E I L R Y I L R Y := cl_P_r hC
  show yi_G zi_Ms d zi_m233 (0, [(0, .inr (.inr (some p))), (1, .inl x), (2, .inl y), (3, .inl w)], [], (I, L, R, Y), 0, 0) _
  refine yi_G_run 2 (2, [(0, .inr (.inr (some p))), (1, .inl x), (2, .inl y), (3, .inl w)], [.inl x, .inr (.inr (some p))], (I, L, R, Y), 0, 0) (fun _ => rfl) ?_
  refine yi_G_callv rfl rfl (cl_rcv tp rfl) rfl (k_isPerson d (by omega) hP.1 tp ) ?_
  rintro _ ⟨z1, rfl, hz1, x1a⟩
  show yi_G zi_Ms d zi_m233 (5, [(0, .inr (.inr (some p))), (1, .inl x), (2, .inl y), (3, .inl w)], [.inl z1], (I, L, R, Y), 0, 0) _
  by_cases h2 : z1 = 0
  · refine yi_G_if1 true rfl (yi_eq_t h2) ?_
    refine yi_G_run 1 (29, [(0, .inr (.inr (some p))), (1, .inl x), (2, .inl y), (3, .inl w)], [.inl 0], (I, L, R, Y), 0, 0) (fun _ => rfl) ?_
    exact yi_G_retb rfl rfl (by decide) (⟨_, rfl, by decide, by omega⟩)
  · refine yi_G_if1 false rfl (yi_eq_f h2) ?_
    refine yi_G_run 2 (10, [(0, .inr (.inr (some p))), (1, .inl x), (2, .inl y), (3, .inl w)], [.inl y, .inr (.inr (some p))], (I, L, R, Y), 0, 0) (fun _ => rfl) ?_
    refine yi_G_callv rfl rfl (cl_rcv tp rfl) rfl (k_isDay d (by omega) hP.1 tp ) ?_
    rintro _ ⟨z3, rfl, hz3, x3a⟩
    show yi_G zi_Ms d zi_m233 (13, [(0, .inr (.inr (some p))), (1, .inl x), (2, .inl y), (3, .inl w)], [.inl z3], (I, L, R, Y), 0, 0) _
    by_cases h4 : z3 = 0
    · refine yi_G_if1 true rfl (yi_eq_t h4) ?_
      refine yi_G_run 1 (29, [(0, .inr (.inr (some p))), (1, .inl x), (2, .inl y), (3, .inl w)], [.inl 0], (I, L, R, Y), 0, 0) (fun _ => rfl) ?_
      exact yi_G_retb rfl rfl (by decide) (⟨_, rfl, by decide, by omega⟩)
    · refine yi_G_if1 false rfl (yi_eq_f h4) ?_
      refine yi_G_run 2 (18, [(0, .inr (.inr (some p))), (1, .inl x), (2, .inl y), (3, .inl w)], [.inl w, .inr (.inr (some p))], (I, L, R, Y), 0, 0) (fun _ => rfl) ?_
      refine yi_G_callv rfl rfl (cl_rcv tp rfl) rfl (k_isEvent d (by omega) hP.1 tp ) ?_
      rintro _ ⟨z5, rfl, hz5, x5a⟩
      show yi_G zi_Ms d zi_m233 (21, [(0, .inr (.inr (some p))), (1, .inl x), (2, .inl y), (3, .inl w)], [.inl z5], (I, L, R, Y), 0, 0) _
      by_cases h6 : z5 = 0
      · refine yi_G_if1 true rfl (yi_eq_t h6) ?_
        refine yi_G_run 1 (29, [(0, .inr (.inr (some p))), (1, .inl x), (2, .inl y), (3, .inl w)], [.inl 0], (I, L, R, Y), 0, 0) (fun _ => rfl) ?_
        exact yi_G_retb rfl rfl (by decide) (⟨_, rfl, by decide, by omega⟩)
      · refine yi_G_if1 false rfl (yi_eq_f h6) ?_
        refine yi_G_run 2 (29, [(0, .inr (.inr (some p))), (1, .inl x), (2, .inl y), (3, .inl w)], [.inl 1], (I, L, R, Y), 0, 0) (fun _ => rfl) ?_
        exact yi_G_retb rfl rfl (by decide) (⟨_, rfl, by decide, by omega⟩)
theorem k_tallOf (D : Nat) (hD : 2 ≤ D) {E : List Nat} {I L : cl_I} {R : cl_Rr} {Y : cl_Y} (hC : cl_C E I L R Y) {p : Nat} (tp : cl_T E Y p 3) {x : Int} : yi_E zi_Ms D 238 [.inr (.inr (some p)), .inl x] (I, L, R, Y) (fun r => ∃ z, r = (some (.inl z), (I, L, R, Y), 0, 0)) := by
  obtain ⟨d, rfl⟩ : ∃ d, D = d + 1 := ⟨D - 1, by omega⟩
  refine yi_E_of (M := zi_m238) rfl rfl ?_
  have hP : cl_P E I L R Y I L R Y := cl_P_r hC
  show yi_G zi_Ms d zi_m238 (0, [(0, .inr (.inr (some p))), (1, .inl x)], [], (I, L, R, Y), 0, 0) _
  refine yi_G_run 2 (2, [(0, .inr (.inr (some p))), (1, .inl x)], [.inl x, .inr (.inr (some p))], (I, L, R, Y), 0, 0) (fun _ => rfl) ?_
  refine yi_G_callv rfl rfl (cl_rcv tp rfl) rfl (k_isPerson d (by omega) hP.1 tp ) ?_
  rintro _ ⟨z1, rfl, hz1, x1a⟩
  show yi_G zi_Ms d zi_m238 (5, [(0, .inr (.inr (some p))), (1, .inl x)], [.inl z1], (I, L, R, Y), 0, 0) _
  by_cases h2 : z1 = 0
  · refine yi_G_if1 true rfl (yi_eq_t h2) ?_
    refine yi_G_run 1 (18, [(0, .inr (.inr (some p))), (1, .inl x)], [.inl (-1)], (I, L, R, Y), 0, 0) (fun _ => rfl) ?_
    exact yi_G_reti rfl rfl (⟨_, rfl⟩)
  · refine yi_G_if1 false rfl (yi_eq_f h2) ?_
    refine yi_G_run 1 (9, [(0, .inr (.inr (some p))), (1, .inl x)], [.inr (.inr (some p))], (I, L, R, Y), 0, 0) (fun _ => rfl) ?_
    obtain ⟨q3, e4, t5, n6⟩ := cl_rn hP.1 tp (k := 3) (m := 3) rfl
    refine cl_G_gr rfl (cl_T_K tp) rfl rfl rfl e4 ?_
    refine yi_G_run 1 (13, [(0, .inr (.inr (some p))), (1, .inl x)], [.inl x, .inr (.inr (some q3))], (I, L, R, Y), 0, 0) (fun _ => rfl) ?_
    refine cl_G_iald rfl t5 (by omega) (by omega) ?_
    refine yi_G_run 1 (18, [(0, .inr (.inr (some p))), (1, .inl x)], [.inl (I q3 (x.toNat))], (I, L, R, Y), 0, 0) (fun _ => rfl) ?_
    exact yi_G_reti rfl rfl (⟨_, rfl⟩)
theorem k_kindOf (D : Nat) (hD : 2 ≤ D) {E : List Nat} {I L : cl_I} {R : cl_Rr} {Y : cl_Y} (hC : cl_C E I L R Y) {p : Nat} (tp : cl_T E Y p 3) {x : Int} : yi_E zi_Ms D 234 [.inr (.inr (some p)), .inl x] (I, L, R, Y) (fun r => ∃ z, r = (some (.inl z), (I, L, R, Y), 0, 0)) := by
  obtain ⟨d, rfl⟩ : ∃ d, D = d + 1 := ⟨D - 1, by omega⟩
  refine yi_E_of (M := zi_m234) rfl rfl ?_
  have hP : cl_P E I L R Y I L R Y := cl_P_r hC
  show yi_G zi_Ms d zi_m234 (0, [(0, .inr (.inr (some p))), (1, .inl x)], [], (I, L, R, Y), 0, 0) _
  refine yi_G_run 2 (2, [(0, .inr (.inr (some p))), (1, .inl x)], [.inl x, .inr (.inr (some p))], (I, L, R, Y), 0, 0) (fun _ => rfl) ?_
  refine yi_G_callv rfl rfl (cl_rcv tp rfl) rfl (k_isProphet d (by omega) hP.1 tp ) ?_
  rintro _ ⟨z1, rfl, hz1, x1a⟩
  show yi_G zi_Ms d zi_m234 (5, [(0, .inr (.inr (some p))), (1, .inl x)], [.inl z1], (I, L, R, Y), 0, 0) _
  by_cases h2 : z1 = 0
  · refine yi_G_if1 true rfl (yi_eq_t h2) ?_
    refine yi_G_run 1 (18, [(0, .inr (.inr (some p))), (1, .inl x)], [.inl (-1)], (I, L, R, Y), 0, 0) (fun _ => rfl) ?_
    exact yi_G_reti rfl rfl (⟨_, rfl⟩)
  · refine yi_G_if1 false rfl (yi_eq_f h2) ?_
    refine yi_G_run 1 (9, [(0, .inr (.inr (some p))), (1, .inl x)], [.inr (.inr (some p))], (I, L, R, Y), 0, 0) (fun _ => rfl) ?_
    obtain ⟨q3, e4, t5, n6⟩ := cl_rn hP.1 tp (k := 4) (m := 4) rfl
    refine cl_G_gr rfl (cl_T_K tp) rfl rfl rfl e4 ?_
    refine yi_G_run 1 (13, [(0, .inr (.inr (some p))), (1, .inl x)], [.inl x, .inr (.inr (some q3))], (I, L, R, Y), 0, 0) (fun _ => rfl) ?_
    refine cl_G_iald rfl t5 (by omega) (by omega) ?_
    refine yi_G_run 1 (18, [(0, .inr (.inr (some p))), (1, .inl x)], [.inl (I q3 (x.toNat))], (I, L, R, Y), 0, 0) (fun _ => rfl) ?_
    exact yi_G_reti rfl rfl (⟨_, rfl⟩)
theorem k_purseOf (D : Nat) (hD : 2 ≤ D) {E : List Nat} {I L : cl_I} {R : cl_Rr} {Y : cl_Y} (hC : cl_C E I L R Y) {p : Nat} (tp : cl_T E Y p 3) {x : Int} : yi_E zi_Ms D 236 [.inr (.inr (some p)), .inl x] (I, L, R, Y) (fun r => ∃ z, r = (some (.inl z), (I, L, R, Y), 0, 0)) := by
  obtain ⟨d, rfl⟩ : ∃ d, D = d + 1 := ⟨D - 1, by omega⟩
  refine yi_E_of (M := zi_m236) rfl rfl ?_
  have hP : cl_P E I L R Y I L R Y := cl_P_r hC
  show yi_G zi_Ms d zi_m236 (0, [(0, .inr (.inr (some p))), (1, .inl x)], [], (I, L, R, Y), 0, 0) _
  refine yi_G_run 2 (2, [(0, .inr (.inr (some p))), (1, .inl x)], [.inl x, .inr (.inr (some p))], (I, L, R, Y), 0, 0) (fun _ => rfl) ?_
  refine yi_G_callv rfl rfl (cl_rcv tp rfl) rfl (k_isProphet d (by omega) hP.1 tp ) ?_
  rintro _ ⟨z1, rfl, hz1, x1a⟩
  show yi_G zi_Ms d zi_m236 (5, [(0, .inr (.inr (some p))), (1, .inl x)], [.inl z1], (I, L, R, Y), 0, 0) _
  by_cases h2 : z1 = 0
  · refine yi_G_if1 true rfl (yi_eq_t h2) ?_
    refine yi_G_run 1 (18, [(0, .inr (.inr (some p))), (1, .inl x)], [.inl (-1)], (I, L, R, Y), 0, 0) (fun _ => rfl) ?_
    exact yi_G_reti rfl rfl (⟨_, rfl⟩)
  · refine yi_G_if1 false rfl (yi_eq_f h2) ?_
    refine yi_G_run 1 (9, [(0, .inr (.inr (some p))), (1, .inl x)], [.inr (.inr (some p))], (I, L, R, Y), 0, 0) (fun _ => rfl) ?_
    obtain ⟨q3, e4, t5, n6⟩ := cl_rn hP.1 tp (k := 5) (m := 4) rfl
    refine cl_G_gr rfl (cl_T_K tp) rfl rfl rfl e4 ?_
    refine yi_G_run 1 (13, [(0, .inr (.inr (some p))), (1, .inl x)], [.inl x, .inr (.inr (some q3))], (I, L, R, Y), 0, 0) (fun _ => rfl) ?_
    refine cl_G_iald rfl t5 (by omega) (by omega) ?_
    refine yi_G_run 1 (18, [(0, .inr (.inr (some p))), (1, .inl x)], [.inl (I q3 (x.toNat))], (I, L, R, Y), 0, 0) (fun _ => rfl) ?_
    exact yi_G_reti rfl rfl (⟨_, rfl⟩)
theorem k_wishOwner (D : Nat) (hD : 2 ≤ D) {E : List Nat} {I L : cl_I} {R : cl_Rr} {Y : cl_Y} (hC : cl_C E I L R Y) {p : Nat} (tp : cl_T E Y p 3) {x : Int} : yi_E zi_Ms D 240 [.inr (.inr (some p)), .inl x] (I, L, R, Y) (fun r => ∃ z, r = (some (.inl z), (I, L, R, Y), 0, 0)) := by
  obtain ⟨d, rfl⟩ : ∃ d, D = d + 1 := ⟨D - 1, by omega⟩
  refine yi_E_of (M := zi_m240) rfl rfl ?_
  have hP : cl_P E I L R Y I L R Y := cl_P_r hC
  show yi_G zi_Ms d zi_m240 (0, [(0, .inr (.inr (some p))), (1, .inl x)], [], (I, L, R, Y), 0, 0) _
  refine yi_G_run 2 (2, [(0, .inr (.inr (some p))), (1, .inl x)], [.inl x, .inr (.inr (some p))], (I, L, R, Y), 0, 0) (fun _ => rfl) ?_
  refine yi_G_callv rfl rfl (cl_rcv tp rfl) rfl (k_isWish d (by omega) hP.1 tp ) ?_
  rintro _ ⟨z1, rfl, hz1, x1a⟩
  show yi_G zi_Ms d zi_m240 (5, [(0, .inr (.inr (some p))), (1, .inl x)], [.inl z1], (I, L, R, Y), 0, 0) _
  by_cases h2 : z1 = 0
  · refine yi_G_if1 true rfl (yi_eq_t h2) ?_
    refine yi_G_run 1 (18, [(0, .inr (.inr (some p))), (1, .inl x)], [.inl (-1)], (I, L, R, Y), 0, 0) (fun _ => rfl) ?_
    exact yi_G_reti rfl rfl (⟨_, rfl⟩)
  · refine yi_G_if1 false rfl (yi_eq_f h2) ?_
    refine yi_G_run 1 (9, [(0, .inr (.inr (some p))), (1, .inl x)], [.inr (.inr (some p))], (I, L, R, Y), 0, 0) (fun _ => rfl) ?_
    obtain ⟨q3, e4, t5, n6⟩ := cl_rn hP.1 tp (k := 6) (m := 5) rfl
    refine cl_G_gr rfl (cl_T_K tp) rfl rfl rfl e4 ?_
    refine yi_G_run 1 (13, [(0, .inr (.inr (some p))), (1, .inl x)], [.inl x, .inr (.inr (some q3))], (I, L, R, Y), 0, 0) (fun _ => rfl) ?_
    refine cl_G_iald rfl t5 (by omega) (by omega) ?_
    refine yi_G_run 1 (18, [(0, .inr (.inr (some p))), (1, .inl x)], [.inl (I q3 (x.toNat))], (I, L, R, Y), 0, 0) (fun _ => rfl) ?_
    exact yi_G_reti rfl rfl (⟨_, rfl⟩)
theorem k_wishCoins (D : Nat) (hD : 2 ≤ D) {E : List Nat} {I L : cl_I} {R : cl_Rr} {Y : cl_Y} (hC : cl_C E I L R Y) {p : Nat} (tp : cl_T E Y p 3) {x : Int} : yi_E zi_Ms D 239 [.inr (.inr (some p)), .inl x] (I, L, R, Y) (fun r => ∃ z, r = (some (.inl z), (I, L, R, Y), 0, 0)) := by
  obtain ⟨d, rfl⟩ : ∃ d, D = d + 1 := ⟨D - 1, by omega⟩
  refine yi_E_of (M := zi_m239) rfl rfl ?_
  have hP : cl_P E I L R Y I L R Y := cl_P_r hC
  show yi_G zi_Ms d zi_m239 (0, [(0, .inr (.inr (some p))), (1, .inl x)], [], (I, L, R, Y), 0, 0) _
  refine yi_G_run 2 (2, [(0, .inr (.inr (some p))), (1, .inl x)], [.inl x, .inr (.inr (some p))], (I, L, R, Y), 0, 0) (fun _ => rfl) ?_
  refine yi_G_callv rfl rfl (cl_rcv tp rfl) rfl (k_isWish d (by omega) hP.1 tp ) ?_
  rintro _ ⟨z1, rfl, hz1, x1a⟩
  show yi_G zi_Ms d zi_m239 (5, [(0, .inr (.inr (some p))), (1, .inl x)], [.inl z1], (I, L, R, Y), 0, 0) _
  by_cases h2 : z1 = 0
  · refine yi_G_if1 true rfl (yi_eq_t h2) ?_
    refine yi_G_run 1 (18, [(0, .inr (.inr (some p))), (1, .inl x)], [.inl 0], (I, L, R, Y), 0, 0) (fun _ => rfl) ?_
    exact yi_G_reti rfl rfl (⟨_, rfl⟩)
  · refine yi_G_if1 false rfl (yi_eq_f h2) ?_
    refine yi_G_run 1 (9, [(0, .inr (.inr (some p))), (1, .inl x)], [.inr (.inr (some p))], (I, L, R, Y), 0, 0) (fun _ => rfl) ?_
    obtain ⟨q3, e4, t5, n6⟩ := cl_rn hP.1 tp (k := 7) (m := 5) rfl
    refine cl_G_gr rfl (cl_T_K tp) rfl rfl rfl e4 ?_
    refine yi_G_run 1 (13, [(0, .inr (.inr (some p))), (1, .inl x)], [.inl x, .inr (.inr (some q3))], (I, L, R, Y), 0, 0) (fun _ => rfl) ?_
    refine cl_G_iald rfl t5 (by omega) (by omega) ?_
    refine yi_G_run 1 (18, [(0, .inr (.inr (some p))), (1, .inl x)], [.inl (I q3 (x.toNat))], (I, L, R, Y), 0, 0) (fun _ => rfl) ?_
    exact yi_G_reti rfl rfl (⟨_, rfl⟩)
theorem k_find (D : Nat) (hD : 1 ≤ D) {E : List Nat} {I L : cl_I} {R : cl_Rr} {Y : cl_Y} (hC : cl_C E I L R Y) {a : Nat} (ta : cl_T E Y a 21) {m : Int} {v : Int} : yi_E zi_Ms D 225 [.inr (.inr (some a)), .inl m, .inr (.inl v)] (I, L, R, Y) (fun r => ∃ z, r = (some (.inl z), (I, L, R, Y), 0, 0)) := by
  obtain ⟨d, rfl⟩ : ∃ d, D = d + 1 := ⟨D - 1, by omega⟩
  refine yi_E_of (M := zi_m225) rfl rfl ?_
  have hP : cl_P E I L R Y I L R Y := cl_P_r hC
  have na := cl_nb hP.1 ta
  show yi_G zi_Ms d zi_m225 (0, [(0, .inr (.inr (some a))), (1, .inl m), (2, .inr (.inl v))], [], (I, L, R, Y), 0, 0) _
  refine yi_G_run 2 (3, [(4, .inl 0), (0, .inr (.inr (some a))), (1, .inl m), (2, .inr (.inl v))], [], (I, L, R, Y), 0, 0) (fun _ => rfl) ?_
  have pt3 : ∀ (m_ : Nat) (j : Int), (0 ≤ j ∧ j ≤ (Y.2.1 a : Int)) → ((Y.2.1 a : Int) - j).toNat = m_ → yi_G zi_Ms d zi_m225 (3, [(4, .inl j), (0, .inr (.inr (some a))), (1, .inl m), (2, .inr (.inl v))], [], (I, L, R, Y), 0, 0) (fun r => ∃ z, r = (some (.inl z), (I, L, R, Y), 0, 0)) := by
    intro m3
    induction m3 using Nat.strongRecOn with
    | _ m3 ih3 =>
    intro j j0 hm3
    refine yi_G_run 2 (6, [(4, .inl j), (0, .inr (.inr (some a))), (1, .inl m), (2, .inr (.inl v))], [.inl m, .inl j], (I, L, R, Y), 0, 0) (fun _ => rfl) ?_
    by_cases h1 : m ≤ j
    · refine yi_G_if2 true rfl (yi_ge_t h1) ?_
      refine yi_G_run 1 (35, [(4, .inl j), (0, .inr (.inr (some a))), (1, .inl m), (2, .inr (.inl v))], [.inl (-1)], (I, L, R, Y), 0, 0) (fun _ => rfl) ?_
      exact yi_G_reti rfl rfl (⟨_, rfl⟩)
    · refine yi_G_if2 false rfl (yi_ge_f h1) ?_
      refine yi_G_run 2 (12, [(4, .inl j), (0, .inr (.inr (some a))), (1, .inl m), (2, .inr (.inl v))], [.inr (.inr (some a)), .inl j], (I, L, R, Y), 0, 0) (fun _ => rfl) ?_
      refine cl_G_len rfl ta (by omega) ?_
      by_cases h2 : ((Y.2.1 a : Int)) ≤ j
      · refine yi_G_if2 true rfl (yi_ge_t h2) ?_
        refine yi_G_run 1 (35, [(4, .inl j), (0, .inr (.inr (some a))), (1, .inl m), (2, .inr (.inl v))], [.inl (-1)], (I, L, R, Y), 0, 0) (fun _ => rfl) ?_
        exact yi_G_reti rfl rfl (⟨_, rfl⟩)
      · refine yi_G_if2 false rfl (yi_ge_f h2) ?_
        refine yi_G_run 2 (19, [(4, .inl j), (0, .inr (.inr (some a))), (1, .inl m), (2, .inr (.inl v))], [.inl j, .inr (.inr (some a))], (I, L, R, Y), 0, 0) (fun _ => rfl) ?_
        refine cl_G_lald rfl ta (by omega) (by omega) ?_
        refine yi_G_run 2 (22, [(4, .inl j), (0, .inr (.inr (some a))), (1, .inl m), (2, .inr (.inl v))], [.inl (yi_lcmp (L a (j.toNat)) v)], (I, L, R, Y), 0, 0) (fun _ => rfl) ?_
        by_cases h3 : ((L a (j.toNat))) = v
        · refine yi_G_if1 false rfl (yi_Lne_f h3) ?_
          refine yi_G_run 1 (27, [(4, .inl j), (0, .inr (.inr (some a))), (1, .inl m), (2, .inr (.inl v))], [.inl j], (I, L, R, Y), 0, 0) (fun _ => rfl) ?_
          exact yi_G_reti rfl rfl (⟨_, rfl⟩)
        · refine yi_G_if1 true rfl (yi_Lne_t h3) ?_
          refine yi_G_iinc [(4, .inl (j + 1)), (0, .inr (.inr (some a))), (1, .inl m), (2, .inr (.inl v))] rfl rfl rfl (by rw [show yi_w (j + 1) = j + 1 from (yi_wn (by omega) (by omega)).trans (by omega)]; rfl) ?_
          refine yi_G_run 1 (3, [(4, .inl (j + 1)), (0, .inr (.inr (some a))), (1, .inl m), (2, .inr (.inl v))], [], (I, L, R, Y), 0, 0) (fun _ => rfl) ?_
          exact ih3 _ (by omega) (j + 1) (by omega) rfl
  exact pt3 _ 0 (by omega) rfl
theorem k_isNamed (D : Nat) (hD : 2 ≤ D) {E : List Nat} {I L : cl_I} {R : cl_Rr} {Y : cl_Y} (hC : cl_C E I L R Y) {p : Nat} (tp : cl_T E Y p 3) {v : Int} : yi_E zi_Ms D 229 [.inr (.inr (some p)), .inr (.inl v)] (I, L, R, Y) (fun r => ∃ z, r = (some (.inl z), (I, L, R, Y), 0, 0) ∧ (z = 0 ∨ z = 1)) := by
  obtain ⟨d, rfl⟩ : ∃ d, D = d + 1 := ⟨D - 1, by omega⟩
  refine yi_E_of (M := zi_m229) rfl rfl ?_
  have hP : cl_P E I L R Y I L R Y := cl_P_r hC
  show yi_G zi_Ms d zi_m229 (0, [(0, .inr (.inr (some p))), (1, .inr (.inl v))], [], (I, L, R, Y), 0, 0) _
  refine yi_G_run 1 (1, [(0, .inr (.inr (some p))), (1, .inr (.inl v))], [.inr (.inr (some p))], (I, L, R, Y), 0, 0) (fun _ => rfl) ?_
  obtain ⟨q1, e2, t3, n4⟩ := cl_rn hP.1 tp (k := 0) (m := 3) rfl
  refine cl_G_gr rfl (cl_T_K tp) rfl rfl rfl e2 ?_
  refine yi_G_run 1 (5, [(0, .inr (.inr (some p))), (1, .inr (.inl v))], [.inr (.inr (some p)), .inr (.inr (some q1))], (I, L, R, Y), 0, 0) (fun _ => rfl) ?_
  have b5 := cl_rd hP.1 tp (k := 15) (lo := 0) (hi := 4) rfl
  refine cl_G_gi rfl (cl_T_K tp) rfl rfl rfl ?_
  refine yi_G_run 1 (9, [(0, .inr (.inr (some p))), (1, .inr (.inl v))], [.inr (.inl v), .inl (I p 15), .inr (.inr (some q1))], (I, L, R, Y), 0, 0) (fun _ => rfl) ?_
  refine yi_G_calls rfl rfl (k_find d (by omega) hP.1 t3 ) ?_
  rintro _ ⟨z6, rfl⟩
  show yi_G zi_Ms d zi_m229 (12, [(0, .inr (.inr (some p))), (1, .inr (.inl v))], [.inl z6], (I, L, R, Y), 0, 0) _
  refine yi_G_run 1 (13, [(0, .inr (.inr (some p))), (1, .inr (.inl v))], [.inl (-1), .inl z6], (I, L, R, Y), 0, 0) (fun _ => rfl) ?_
  by_cases h7 : z6 = (-1)
  · refine yi_G_if2 false rfl (yi_ne_f h7) ?_
    refine yi_G_run 1 (17, [(0, .inr (.inr (some p))), (1, .inr (.inl v))], [.inr (.inr (some p))], (I, L, R, Y), 0, 0) (fun _ => rfl) ?_
    obtain ⟨q8, e9, t10, n11⟩ := cl_rn hP.1 tp (k := 1) (m := 3) rfl
    refine cl_G_gr rfl (cl_T_K tp) rfl rfl rfl e9 ?_
    refine yi_G_run 1 (21, [(0, .inr (.inr (some p))), (1, .inr (.inl v))], [.inr (.inr (some p)), .inr (.inr (some q8))], (I, L, R, Y), 0, 0) (fun _ => rfl) ?_
    have b12 := cl_rd hP.1 tp (k := 16) (lo := 0) (hi := 4) rfl
    refine cl_G_gi rfl (cl_T_K tp) rfl rfl rfl ?_
    refine yi_G_run 1 (25, [(0, .inr (.inr (some p))), (1, .inr (.inl v))], [.inr (.inl v), .inl (I p 16), .inr (.inr (some q8))], (I, L, R, Y), 0, 0) (fun _ => rfl) ?_
    refine yi_G_calls rfl rfl (k_find d (by omega) hP.1 t10 ) ?_
    rintro _ ⟨z13, rfl⟩
    show yi_G zi_Ms d zi_m229 (28, [(0, .inr (.inr (some p))), (1, .inr (.inl v))], [.inl z13], (I, L, R, Y), 0, 0) _
    refine yi_G_run 1 (29, [(0, .inr (.inr (some p))), (1, .inr (.inl v))], [.inl (-1), .inl z13], (I, L, R, Y), 0, 0) (fun _ => rfl) ?_
    by_cases h14 : z13 = (-1)
    · refine yi_G_if2 false rfl (yi_ne_f h14) ?_
      refine yi_G_run 1 (33, [(0, .inr (.inr (some p))), (1, .inr (.inl v))], [.inr (.inr (some p))], (I, L, R, Y), 0, 0) (fun _ => rfl) ?_
      obtain ⟨q15, e16, t17, n18⟩ := cl_rn hP.1 tp (k := 2) (m := 4) rfl
      refine cl_G_gr rfl (cl_T_K tp) rfl rfl rfl e16 ?_
      refine yi_G_run 1 (37, [(0, .inr (.inr (some p))), (1, .inr (.inl v))], [.inr (.inr (some p)), .inr (.inr (some q15))], (I, L, R, Y), 0, 0) (fun _ => rfl) ?_
      have b19 := cl_rd hP.1 tp (k := 17) (lo := 0) (hi := 5) rfl
      refine cl_G_gi rfl (cl_T_K tp) rfl rfl rfl ?_
      refine yi_G_run 1 (41, [(0, .inr (.inr (some p))), (1, .inr (.inl v))], [.inr (.inl v), .inl (I p 17), .inr (.inr (some q15))], (I, L, R, Y), 0, 0) (fun _ => rfl) ?_
      refine yi_G_calls rfl rfl (k_find d (by omega) hP.1 t17 ) ?_
      rintro _ ⟨z20, rfl⟩
      show yi_G zi_Ms d zi_m229 (44, [(0, .inr (.inr (some p))), (1, .inr (.inl v))], [.inl z20], (I, L, R, Y), 0, 0) _
      refine yi_G_run 1 (45, [(0, .inr (.inr (some p))), (1, .inr (.inl v))], [.inl (-1), .inl z20], (I, L, R, Y), 0, 0) (fun _ => rfl) ?_
      by_cases h21 : z20 = (-1)
      · refine yi_G_if2 true rfl (yi_eq_t h21) ?_
        refine yi_G_run 1 (53, [(0, .inr (.inr (some p))), (1, .inr (.inl v))], [.inl 0], (I, L, R, Y), 0, 0) (fun _ => rfl) ?_
        exact yi_G_retb rfl rfl (by decide) (⟨_, rfl, by decide⟩)
      · refine yi_G_if2 false rfl (yi_eq_f h21) ?_
        refine yi_G_run 2 (53, [(0, .inr (.inr (some p))), (1, .inr (.inl v))], [.inl 1], (I, L, R, Y), 0, 0) (fun _ => rfl) ?_
        exact yi_G_retb rfl rfl (by decide) (⟨_, rfl, by decide⟩)
    · refine yi_G_if2 true rfl (yi_ne_t h14) ?_
      refine yi_G_run 2 (53, [(0, .inr (.inr (some p))), (1, .inr (.inl v))], [.inl 1], (I, L, R, Y), 0, 0) (fun _ => rfl) ?_
      exact yi_G_retb rfl rfl (by decide) (⟨_, rfl, by decide⟩)
  · refine yi_G_if2 true rfl (yi_ne_t h7) ?_
    refine yi_G_run 2 (53, [(0, .inr (.inr (some p))), (1, .inr (.inl v))], [.inl 1], (I, L, R, Y), 0, 0) (fun _ => rfl) ?_
    exact yi_G_retb rfl rfl (by decide) (⟨_, rfl, by decide⟩)
theorem k_futuresWith (D : Nat) (hD : 1 ≤ D) {E : List Nat} {I L : cl_I} {R : cl_Rr} {Y : cl_Y} (hC : cl_C E I L R Y) {p : Nat} (tp : cl_T E Y p 3) {x : Int} {y : Int} (hx : x ≤ 5) (hy : y ≤ 5) : yi_E zi_Ms D 226 [.inr (.inr (some p)), .inl x, .inl y] (I, L, R, Y) (fun r => ∃ z, r = (some (.inl z), (I, L, R, Y), 0, 0) ∧ (1 ≤ z ∧ z ≤ 32769) ∧ (y = 1 → z = 1)) := by
  obtain ⟨d, rfl⟩ : ∃ d, D = d + 1 := ⟨D - 1, by omega⟩
  refine yi_E_of (M := zi_m226) rfl rfl ?_
  have hP : cl_P E I L R Y I L R Y := cl_P_r hC
  show yi_G zi_Ms d zi_m226 (0, [(0, .inr (.inr (some p))), (1, .inl x), (2, .inl y)], [], (I, L, R, Y), 0, 0) _
  refine yi_G_run 1 (1, [(0, .inr (.inr (some p))), (1, .inl x), (2, .inl y)], [.inl x], (I, L, R, Y), 0, 0) (fun _ => rfl) ?_
  by_cases h1 : x ≤ 0
  · refine yi_G_if1 true rfl (yi_le_t h1) ?_
    refine yi_G_run 1 (9, [(0, .inr (.inr (some p))), (1, .inl x), (2, .inl y)], [.inl 1], (I, L, R, Y), 0, 0) (fun _ => rfl) ?_
    exact yi_G_reti rfl rfl (⟨_, rfl, by omega, by omega⟩)
  · refine yi_G_if1 false rfl (yi_le_f h1) ?_
    refine yi_G_run 1 (5, [(0, .inr (.inr (some p))), (1, .inl x), (2, .inl y)], [.inl y], (I, L, R, Y), 0, 0) (fun _ => rfl) ?_
    by_cases h2 : 0 < y
    · refine yi_G_if1 true rfl (yi_gt_t h2) ?_
      refine yi_G_run 4 (15, [(4, .inl 0), (3, .inl 1), (0, .inr (.inr (some p))), (1, .inl x), (2, .inl y)], [], (I, L, R, Y), 0, 0) (fun _ => rfl) ?_
      have pt15 : ∀ (m_ : Nat) (j : Int) (f : Int), (0 ≤ j ∧ j ≤ 30) → (1 ≤ f ∧ f ≤ 163840) → (y = 1 → f = 1) → (30 - j).toNat = m_ → yi_G zi_Ms d zi_m226 (15, [(4, .inl j), (3, .inl f), (0, .inr (.inr (some p))), (1, .inl x), (2, .inl y)], [], (I, L, R, Y), 0, 0) (fun r => ∃ z, r = (some (.inl z), (I, L, R, Y), 0, 0) ∧ (1 ≤ z ∧ z ≤ 32769) ∧ (y = 1 → z = 1)) := by
        intro m15
        induction m15 using Nat.strongRecOn with
        | _ m15 ih15 =>
        intro j f j0 f0 f1 hm15
        refine yi_G_run 3 (19, [(4, .inl j), (3, .inl f), (0, .inr (.inr (some p))), (1, .inl x), (2, .inl y)], [.inr (.inr (some p)), .inl x, .inl j], (I, L, R, Y), 0, 0) (fun _ => rfl) ?_
        have b3 := cl_rd hP.1 tp (k := 14) (lo := 1) (hi := 6) rfl
        refine cl_G_gi rfl (cl_T_K tp) rfl rfl rfl ?_
        have mb4 := yi_mb (a := x) (b := I p 14) (A := 5) (B := 6) (by omega) (by omega) (by omega) (by omega)
        refine yi_G_imul rfl (x * (I p 14)) (yi_wn (by omega) (by omega)) ?_
        by_cases h5 : (x * (I p 14)) ≤ j
        · refine yi_G_if2 true rfl (yi_ge_t h5) ?_
          refine yi_G_run 1 (43, [(4, .inl j), (3, .inl f), (0, .inr (.inr (some p))), (1, .inl x), (2, .inl y)], [.inl f], (I, L, R, Y), 0, 0) (fun _ => rfl) ?_
          refine yi_G_ldc (32769) rfl (by decide +kernel) ?_
          refine cl_G_min rfl rfl cl_min ?_
          exact yi_G_reti rfl rfl (⟨_, rfl, by omega, by omega⟩)
        · refine yi_G_if2 false rfl (yi_ge_f h5) ?_
          refine yi_G_run 1 (27, [(4, .inl j), (3, .inl f), (0, .inr (.inr (some p))), (1, .inl x), (2, .inl y)], [.inl f], (I, L, R, Y), 0, 0) (fun _ => rfl) ?_
          refine yi_G_ldc (32768) rfl (by decide +kernel) ?_
          by_cases h6 : 32768 < f
          · refine yi_G_if2 true rfl (yi_gt_t h6) ?_
            refine yi_G_run 1 (43, [(4, .inl j), (3, .inl f), (0, .inr (.inr (some p))), (1, .inl x), (2, .inl y)], [.inl f], (I, L, R, Y), 0, 0) (fun _ => rfl) ?_
            refine yi_G_ldc (32769) rfl (by decide +kernel) ?_
            refine cl_G_min rfl rfl cl_min ?_
            exact yi_G_reti rfl rfl (⟨_, rfl, by omega, by omega⟩)
          · refine yi_G_if2 false rfl (yi_gt_f h6) ?_
            refine yi_G_run 2 (34, [(4, .inl j), (3, .inl f), (0, .inr (.inr (some p))), (1, .inl x), (2, .inl y)], [.inl y, .inl f], (I, L, R, Y), 0, 0) (fun _ => rfl) ?_
            have mc := cl_m1 (a := f) (b := y) (by omega) (by omega)
            have mb7 := yi_mb (a := f) (b := y) (A := 32768) (B := 5) (by omega) (by omega) (by omega) (by omega)
            refine yi_G_imul rfl (f * y) (yi_wn (by omega) (by omega)) ?_
            refine yi_G_run 1 (36, [(3, .inl (f * y)), (4, .inl j), (0, .inr (.inr (some p))), (1, .inl x), (2, .inl y)], [], (I, L, R, Y), 0, 0) (fun _ => rfl) ?_
            refine yi_G_iinc [(4, .inl (j + 1)), (3, .inl (f * y)), (0, .inr (.inr (some p))), (1, .inl x), (2, .inl y)] rfl rfl rfl (by rw [show yi_w (j + 1) = j + 1 from (yi_wn (by omega) (by omega)).trans (by omega)]; rfl) ?_
            refine yi_G_run 1 (15, [(4, .inl (j + 1)), (3, .inl (f * y)), (0, .inr (.inr (some p))), (1, .inl x), (2, .inl y)], [], (I, L, R, Y), 0, 0) (fun _ => rfl) ?_
            exact ih15 _ (by omega) (j + 1) (f * y) (by omega) (by omega) (fun h => by rw [h, Int.mul_one]; exact f1 h) rfl
      exact pt15 _ 0 1 (by omega) (by omega) (fun _ => rfl) rfl
    · refine yi_G_if1 false rfl (yi_gt_f h2) ?_
      refine yi_G_run 1 (9, [(0, .inr (.inr (some p))), (1, .inl x), (2, .inl y)], [.inl 1], (I, L, R, Y), 0, 0) (fun _ => rfl) ?_
      exact yi_G_reti rfl rfl (⟨_, rfl, by omega, by omega⟩)
theorem k_wishesOf (D : Nat) (hD : 3 ≤ D) {E : List Nat} {I L : cl_I} {R : cl_Rr} {Y : cl_Y} (hC : cl_C E I L R Y) {p : Nat} (tp : cl_T E Y p 3) {x : Int} : yi_E zi_Ms D 241 [.inr (.inr (some p)), .inl x] (I, L, R, Y) (fun r => ∃ z, r = (some (.inl z), (I, L, R, Y), 0, 0)) := by
  obtain ⟨d, rfl⟩ : ∃ d, D = d + 1 := ⟨D - 1, by omega⟩
  refine yi_E_of (M := zi_m241) rfl rfl ?_
  have hP : cl_P E I L R Y I L R Y := cl_P_r hC
  show yi_G zi_Ms d zi_m241 (0, [(0, .inr (.inr (some p))), (1, .inl x)], [], (I, L, R, Y), 0, 0) _
  refine yi_G_run 4 (4, [(3, .inl 0), (2, .inl 0), (0, .inr (.inr (some p))), (1, .inl x)], [], (I, L, R, Y), 0, 0) (fun _ => rfl) ?_
  have pt4 : ∀ (m_ : Nat) (j : Int) (y : Int), (0 ≤ j ∧ j ≤ 6) → (6 - j).toNat = m_ → yi_G zi_Ms d zi_m241 (4, [(3, .inl j), (2, .inl y), (0, .inr (.inr (some p))), (1, .inl x)], [], (I, L, R, Y), 0, 0) (fun r => ∃ z, r = (some (.inl z), (I, L, R, Y), 0, 0)) := by
    intro m4
    induction m4 using Nat.strongRecOn with
    | _ m4 ih4 =>
    intro j y j0 hm4
    refine yi_G_run 2 (6, [(3, .inl j), (2, .inl y), (0, .inr (.inr (some p))), (1, .inl x)], [.inr (.inr (some p)), .inl j], (I, L, R, Y), 0, 0) (fun _ => rfl) ?_
    have b1 := cl_rd hP.1 tp (k := 19) (lo := 0) (hi := 6) rfl
    refine cl_G_gi rfl (cl_T_K tp) rfl rfl rfl ?_
    by_cases h2 : (I p 19) ≤ j
    · refine yi_G_if2 true rfl (yi_ge_t h2) ?_
      refine yi_G_run 1 (34, [(3, .inl j), (2, .inl y), (0, .inr (.inr (some p))), (1, .inl x)], [.inl y], (I, L, R, Y), 0, 0) (fun _ => rfl) ?_
      exact yi_G_reti rfl rfl (⟨_, rfl⟩)
    · refine yi_G_if2 false rfl (yi_ge_f h2) ?_
      refine yi_G_run 2 (14, [(3, .inl j), (2, .inl y), (0, .inr (.inr (some p))), (1, .inl x)], [.inl j, .inr (.inr (some p))], (I, L, R, Y), 0, 0) (fun _ => rfl) ?_
      refine yi_G_callv rfl rfl (cl_rcv tp rfl) rfl (k_wishOwner d (by omega) hP.1 tp ) ?_
      rintro _ ⟨z3, rfl⟩
      show yi_G zi_Ms d zi_m241 (17, [(3, .inl j), (2, .inl y), (0, .inr (.inr (some p))), (1, .inl x)], [.inl z3], (I, L, R, Y), 0, 0) _
      refine yi_G_run 1 (18, [(3, .inl j), (2, .inl y), (0, .inr (.inr (some p))), (1, .inl x)], [.inl x, .inl z3], (I, L, R, Y), 0, 0) (fun _ => rfl) ?_
      by_cases h4 : z3 = x
      · refine yi_G_if2 false rfl (yi_ne_f h4) ?_
        refine yi_G_run 6 (27, [(2, .inl (yi_ior y (yi_shl 1 j))), (3, .inl j), (0, .inr (.inr (some p))), (1, .inl x)], [], (I, L, R, Y), 0, 0) (fun _ => rfl) ?_
        refine yi_G_iinc [(3, .inl (j + 1)), (2, .inl (yi_ior y (yi_shl 1 j))), (0, .inr (.inr (some p))), (1, .inl x)] rfl rfl rfl (by rw [show yi_w (j + 1) = j + 1 from (yi_wn (by omega) (by omega)).trans (by omega)]; rfl) ?_
        refine yi_G_run 1 (4, [(3, .inl (j + 1)), (2, .inl (yi_ior y (yi_shl 1 j))), (0, .inr (.inr (some p))), (1, .inl x)], [], (I, L, R, Y), 0, 0) (fun _ => rfl) ?_
        exact ih4 _ (by omega) (j + 1) (yi_ior y (yi_shl 1 j)) (by omega) rfl
      · refine yi_G_if2 true rfl (yi_ne_t h4) ?_
        refine yi_G_iinc [(3, .inl (j + 1)), (2, .inl y), (0, .inr (.inr (some p))), (1, .inl x)] rfl rfl rfl (by rw [show yi_w (j + 1) = j + 1 from (yi_wn (by omega) (by omega)).trans (by omega)]; rfl) ?_
        refine yi_G_run 1 (4, [(3, .inl (j + 1)), (2, .inl y), (0, .inr (.inr (some p))), (1, .inl x)], [], (I, L, R, Y), 0, 0) (fun _ => rfl) ?_
        exact ih4 _ (by omega) (j + 1) y (by omega) rfl
  exact pt4 _ 0 0 (by omega) rfl
theorem k_peopleFrom (D : Nat) (hD : 3 ≤ D) {E : List Nat} {I L : cl_I} {R : cl_Rr} {Y : cl_Y} (hC : cl_C E I L R Y) {p : Nat} (tp : cl_T E Y p 3) {x : Int} : yi_E zi_Ms D 235 [.inr (.inr (some p)), .inl x] (I, L, R, Y) (fun r => ∃ z, r = (some (.inl z), (I, L, R, Y), 0, 0)) := by
  obtain ⟨d, rfl⟩ : ∃ d, D = d + 1 := ⟨D - 1, by omega⟩
  refine yi_E_of (M := zi_m235) rfl rfl ?_
  have hP : cl_P E I L R Y I L R Y := cl_P_r hC
  show yi_G zi_Ms d zi_m235 (0, [(0, .inr (.inr (some p))), (1, .inl x)], [], (I, L, R, Y), 0, 0) _
  refine yi_G_run 4 (4, [(3, .inl 0), (2, .inl 0), (0, .inr (.inr (some p))), (1, .inl x)], [], (I, L, R, Y), 0, 0) (fun _ => rfl) ?_
  have pt4 : ∀ (m_ : Nat) (j : Int) (y : Int), (0 ≤ j ∧ j ≤ 4) → (0 ≤ y ∧ y ≤ j) → (4 - j).toNat = m_ → yi_G zi_Ms d zi_m235 (4, [(3, .inl j), (2, .inl y), (0, .inr (.inr (some p))), (1, .inl x)], [], (I, L, R, Y), 0, 0) (fun r => ∃ z, r = (some (.inl z), (I, L, R, Y), 0, 0)) := by
    intro m4
    induction m4 using Nat.strongRecOn with
    | _ m4 ih4 =>
    intro j y j0 y0 hm4
    refine yi_G_run 2 (6, [(3, .inl j), (2, .inl y), (0, .inr (.inr (some p))), (1, .inl x)], [.inr (.inr (some p)), .inl j], (I, L, R, Y), 0, 0) (fun _ => rfl) ?_
    have b1 := cl_rd hP.1 tp (k := 15) (lo := 0) (hi := 4) rfl
    refine cl_G_gi rfl (cl_T_K tp) rfl rfl rfl ?_
    by_cases h2 : (I p 15) ≤ j
    · refine yi_G_if2 true rfl (yi_ge_t h2) ?_
      refine yi_G_run 1 (31, [(3, .inl j), (2, .inl y), (0, .inr (.inr (some p))), (1, .inl x)], [.inl y], (I, L, R, Y), 0, 0) (fun _ => rfl) ?_
      exact yi_G_reti rfl rfl (⟨_, rfl⟩)
    · refine yi_G_if2 false rfl (yi_ge_f h2) ?_
      refine yi_G_run 2 (14, [(3, .inl j), (2, .inl y), (0, .inr (.inr (some p))), (1, .inl x)], [.inl j, .inr (.inr (some p))], (I, L, R, Y), 0, 0) (fun _ => rfl) ?_
      refine yi_G_callv rfl rfl (cl_rcv tp rfl) rfl (k_tallOf d (by omega) hP.1 tp ) ?_
      rintro _ ⟨z3, rfl⟩
      show yi_G zi_Ms d zi_m235 (17, [(3, .inl j), (2, .inl y), (0, .inr (.inr (some p))), (1, .inl x)], [.inl z3], (I, L, R, Y), 0, 0) _
      refine yi_G_run 1 (18, [(3, .inl j), (2, .inl y), (0, .inr (.inr (some p))), (1, .inl x)], [.inl x, .inl z3], (I, L, R, Y), 0, 0) (fun _ => rfl) ?_
      by_cases h4 : z3 < x
      · refine yi_G_if2 true rfl (yi_lt_t h4) ?_
        refine yi_G_iinc [(3, .inl (j + 1)), (2, .inl y), (0, .inr (.inr (some p))), (1, .inl x)] rfl rfl rfl (by rw [show yi_w (j + 1) = j + 1 from (yi_wn (by omega) (by omega)).trans (by omega)]; rfl) ?_
        refine yi_G_run 1 (4, [(3, .inl (j + 1)), (2, .inl y), (0, .inr (.inr (some p))), (1, .inl x)], [], (I, L, R, Y), 0, 0) (fun _ => rfl) ?_
        exact ih4 _ (by omega) (j + 1) y (by omega) (by omega) rfl
      · refine yi_G_if2 false rfl (yi_lt_f h4) ?_
        refine yi_G_iinc [(2, .inl (y + 1)), (3, .inl j), (0, .inr (.inr (some p))), (1, .inl x)] rfl rfl rfl (by rw [show yi_w (y + 1) = y + 1 from (yi_wn (by omega) (by omega)).trans (by omega)]; rfl) ?_
        refine yi_G_iinc [(3, .inl (j + 1)), (2, .inl (y + 1)), (0, .inr (.inr (some p))), (1, .inl x)] rfl rfl rfl (by rw [show yi_w (j + 1) = j + 1 from (yi_wn (by omega) (by omega)).trans (by omega)]; rfl) ?_
        refine yi_G_run 1 (4, [(3, .inl (j + 1)), (2, .inl (y + 1)), (0, .inr (.inr (some p))), (1, .inl x)], [], (I, L, R, Y), 0, 0) (fun _ => rfl) ?_
        exact ih4 _ (by omega) (j + 1) (y + 1) (by omega) (by omega) rfl
  exact pt4 _ 0 0 (by omega) (by omega) rfl
theorem k_addPerson (D : Nat) (hD : 1 ≤ D) {E : List Nat} {I L : cl_I} {R : cl_Rr} {Y : cl_Y} (hC : cl_C E I L R Y) {p : Nat} (tp : cl_T E Y p 3) {v : Int} {x : Int} : yi_E zi_Ms D 222 [.inr (.inr (some p)), .inr (.inl v), .inl x] (I, L, R, Y) (fun r => ∃ I', ∃ L', r = (none, (I', L', R, Y), 0, 0) ∧ cl_P E I L R Y I' L' R Y ∧ (∀ q k, cl_T E Y q 1 → I' q k = I q k)) := by
  obtain ⟨d, rfl⟩ : ∃ d, D = d + 1 := ⟨D - 1, by omega⟩
  refine yi_E_of (M := zi_m222) rfl rfl ?_
  have hP : cl_P E I L R Y I L R Y := cl_P_r hC
  show yi_G zi_Ms d zi_m222 (0, [(0, .inr (.inr (some p))), (1, .inr (.inl v)), (3, .inl x)], [], (I, L, R, Y), 0, 0) _
  refine yi_G_run 1 (1, [(0, .inr (.inr (some p))), (1, .inr (.inl v)), (3, .inl x)], [.inr (.inr (some p))], (I, L, R, Y), 0, 0) (fun _ => rfl) ?_
  have b1 := cl_rd hP.1 tp (k := 15) (lo := 0) (hi := 4) rfl
  refine cl_G_gi rfl (cl_T_K tp) rfl rfl rfl ?_
  refine yi_G_run 1 (5, [(0, .inr (.inr (some p))), (1, .inr (.inl v)), (3, .inl x)], [.inl 4, .inl (I p 15)], (I, L, R, Y), 0, 0) (fun _ => rfl) ?_
  by_cases h2 : 4 ≤ (I p 15)
  · refine yi_G_if2 true rfl (yi_ge_t h2) ?_
    exact yi_G_retv rfl rfl (⟨_, _, rfl, hP, (fun _ _ _ => rfl)⟩)
  · refine yi_G_if2 false rfl (yi_ge_f h2) ?_
    refine yi_G_run 1 (9, [(0, .inr (.inr (some p))), (1, .inr (.inl v)), (3, .inl x)], [.inr (.inr (some p))], (I, L, R, Y), 0, 0) (fun _ => rfl) ?_
    obtain ⟨q3, e4, t5, n6⟩ := cl_rn hP.1 tp (k := 0) (m := 3) rfl
    refine cl_G_gr rfl (cl_T_K tp) rfl rfl rfl e4 ?_
    refine yi_G_run 1 (13, [(0, .inr (.inr (some p))), (1, .inr (.inl v)), (3, .inl x)], [.inr (.inr (some p)), .inr (.inr (some q3))], (I, L, R, Y), 0, 0) (fun _ => rfl) ?_
    have b7 := cl_rd hP.1 tp (k := 15) (lo := 0) (hi := 4) rfl
    refine cl_G_gi rfl (cl_T_K tp) rfl rfl rfl ?_
    refine yi_G_run 1 (17, [(0, .inr (.inr (some p))), (1, .inr (.inl v)), (3, .inl x)], [.inr (.inl v), .inl (I p 15), .inr (.inr (some q3))], (I, L, R, Y), 0, 0) (fun _ => rfl) ?_
    refine cl_G_last rfl t5 (by omega) (by omega) ?_
    have hP8 := cl_P_uL (k := ((I p 15).toNat)) (v := v) hP t5 (by omega)
    generalize w9 : yi_u L q3 ((I p 15).toNat) v = L10 at hP8 ⊢
    refine yi_G_run 1 (19, [(0, .inr (.inr (some p))), (1, .inr (.inl v)), (3, .inl x)], [.inr (.inr (some p))], (I, L10, R, Y), 0, 0) (fun _ => rfl) ?_
    obtain ⟨q11, e12, t13, n14⟩ := cl_rn hP8.1 tp (k := 3) (m := 3) rfl
    refine cl_G_gr rfl (cl_T_K tp) rfl rfl rfl e12 ?_
    refine yi_G_run 1 (23, [(0, .inr (.inr (some p))), (1, .inr (.inl v)), (3, .inl x)], [.inr (.inr (some p)), .inr (.inr (some q11))], (I, L10, R, Y), 0, 0) (fun _ => rfl) ?_
    have b15 := cl_rd hP8.1 tp (k := 15) (lo := 0) (hi := 4) rfl
    refine cl_G_gi rfl (cl_T_K tp) rfl rfl rfl ?_
    refine yi_G_run 1 (27, [(0, .inr (.inr (some p))), (1, .inr (.inl v)), (3, .inl x)], [.inl x, .inl (I p 15), .inr (.inr (some q11))], (I, L10, R, Y), 0, 0) (fun _ => rfl) ?_
    refine cl_G_iast rfl t13 (by omega) (by omega) ?_
    have hP16 := cl_P_uI (k := ((I p 15).toNat)) (v := x) hP8 t13 (by omega) (cl_hv0 rfl)
    generalize w17 : yi_u I q11 ((I p 15).toNat) x = I18 at hP16 ⊢
    refine yi_G_run 2 (30, [(0, .inr (.inr (some p))), (1, .inr (.inl v)), (3, .inl x)], [.inr (.inr (some p)), .inr (.inr (some p))], (I18, L10, R, Y), 0, 0) (fun _ => rfl) ?_
    have b19 := cl_rd hP16.1 tp (k := 15) (lo := 0) (hi := 4) rfl
    have r20 : I18 p 15 = I p 15 := by rw [← w17, yi_u_ne _ _ (fun z => cl_ne tp t13 (by decide) z.1)]
    refine cl_G_gi rfl (cl_T_K tp) rfl rfl rfl ?_
    refine yi_G_run 1 (34, [(0, .inr (.inr (some p))), (1, .inr (.inl v)), (3, .inl x)], [.inl 1, .inl (I18 p 15), .inr (.inr (some p))], (I18, L10, R, Y), 0, 0) (fun _ => rfl) ?_
    refine yi_G_iadd rfl ((I18 p 15) + 1) (yi_wn (by omega) (by omega)) ?_
    refine cl_G_pi rfl (cl_T_K tp) rfl rfl rfl ?_
    have hP21 := cl_P_uI (k := 15) (v := (I18 p 15) + 1) hP16 tp (by decide) (cl_hv rfl (by omega) (by omega))
    generalize w22 : yi_u I18 p 15 ((I18 p 15) + 1) = I23 at hP21 ⊢
    exact yi_G_retv rfl rfl (⟨_, _, rfl, hP21, (fun q k tq => by rw [← w22, yi_u_ne _ _ (fun z => cl_ne (cl_T_x tq hP21.2.1) tp (by decide) z.1), ← w17, yi_u_ne _ _ (fun z => cl_ne (cl_T_x tq hP21.2.1) t13 (by decide) z.1)])⟩)
theorem k_addEvent (D : Nat) (hD : 1 ≤ D) {E : List Nat} {I L : cl_I} {R : cl_Rr} {Y : cl_Y} (hC : cl_C E I L R Y) {p : Nat} (tp : cl_T E Y p 3) {v : Int} : yi_E zi_Ms D 220 [.inr (.inr (some p)), .inr (.inl v)] (I, L, R, Y) (fun r => ∃ I', ∃ L', r = (none, (I', L', R, Y), 0, 0) ∧ cl_P E I L R Y I' L' R Y ∧ (∀ q k, cl_T E Y q 1 → I' q k = I q k)) := by
  obtain ⟨d, rfl⟩ : ∃ d, D = d + 1 := ⟨D - 1, by omega⟩
  refine yi_E_of (M := zi_m220) rfl rfl ?_
  have hP : cl_P E I L R Y I L R Y := cl_P_r hC
  show yi_G zi_Ms d zi_m220 (0, [(0, .inr (.inr (some p))), (1, .inr (.inl v))], [], (I, L, R, Y), 0, 0) _
  refine yi_G_run 1 (1, [(0, .inr (.inr (some p))), (1, .inr (.inl v))], [.inr (.inr (some p))], (I, L, R, Y), 0, 0) (fun _ => rfl) ?_
  have b1 := cl_rd hP.1 tp (k := 16) (lo := 0) (hi := 4) rfl
  refine cl_G_gi rfl (cl_T_K tp) rfl rfl rfl ?_
  refine yi_G_run 1 (5, [(0, .inr (.inr (some p))), (1, .inr (.inl v))], [.inl 4, .inl (I p 16)], (I, L, R, Y), 0, 0) (fun _ => rfl) ?_
  by_cases h2 : 4 ≤ (I p 16)
  · refine yi_G_if2 true rfl (yi_ge_t h2) ?_
    exact yi_G_retv rfl rfl (⟨_, _, rfl, hP, (fun _ _ _ => rfl)⟩)
  · refine yi_G_if2 false rfl (yi_ge_f h2) ?_
    refine yi_G_run 1 (9, [(0, .inr (.inr (some p))), (1, .inr (.inl v))], [.inr (.inr (some p))], (I, L, R, Y), 0, 0) (fun _ => rfl) ?_
    obtain ⟨q3, e4, t5, n6⟩ := cl_rn hP.1 tp (k := 1) (m := 3) rfl
    refine cl_G_gr rfl (cl_T_K tp) rfl rfl rfl e4 ?_
    refine yi_G_run 1 (13, [(0, .inr (.inr (some p))), (1, .inr (.inl v))], [.inr (.inr (some p)), .inr (.inr (some q3))], (I, L, R, Y), 0, 0) (fun _ => rfl) ?_
    have b7 := cl_rd hP.1 tp (k := 16) (lo := 0) (hi := 4) rfl
    refine cl_G_gi rfl (cl_T_K tp) rfl rfl rfl ?_
    refine yi_G_run 1 (17, [(0, .inr (.inr (some p))), (1, .inr (.inl v))], [.inr (.inl v), .inl (I p 16), .inr (.inr (some q3))], (I, L, R, Y), 0, 0) (fun _ => rfl) ?_
    refine cl_G_last rfl t5 (by omega) (by omega) ?_
    have hP8 := cl_P_uL (k := ((I p 16).toNat)) (v := v) hP t5 (by omega)
    generalize w9 : yi_u L q3 ((I p 16).toNat) v = L10 at hP8 ⊢
    refine yi_G_run 2 (20, [(0, .inr (.inr (some p))), (1, .inr (.inl v))], [.inr (.inr (some p)), .inr (.inr (some p))], (I, L10, R, Y), 0, 0) (fun _ => rfl) ?_
    have b11 := cl_rd hP8.1 tp (k := 16) (lo := 0) (hi := 4) rfl
    refine cl_G_gi rfl (cl_T_K tp) rfl rfl rfl ?_
    refine yi_G_run 1 (24, [(0, .inr (.inr (some p))), (1, .inr (.inl v))], [.inl 1, .inl (I p 16), .inr (.inr (some p))], (I, L10, R, Y), 0, 0) (fun _ => rfl) ?_
    refine yi_G_iadd rfl ((I p 16) + 1) (yi_wn (by omega) (by omega)) ?_
    refine cl_G_pi rfl (cl_T_K tp) rfl rfl rfl ?_
    have hP12 := cl_P_uI (k := 16) (v := (I p 16) + 1) hP8 tp (by decide) (cl_hv rfl (by omega) (by omega))
    generalize w13 : yi_u I p 16 ((I p 16) + 1) = I14 at hP12 ⊢
    exact yi_G_retv rfl rfl (⟨_, _, rfl, hP12, (fun q k tq => by rw [← w13, yi_u_ne _ _ (fun z => cl_ne (cl_T_x tq hP12.2.1) tp (by decide) z.1)])⟩)
theorem k_addProphet (D : Nat) (hD : 1 ≤ D) {E : List Nat} {I L : cl_I} {R : cl_Rr} {Y : cl_Y} (hC : cl_C E I L R Y) {p : Nat} (tp : cl_T E Y p 3) {v : Int} {x : Int} {y : Int} : yi_E zi_Ms D 223 [.inr (.inr (some p)), .inr (.inl v), .inl x, .inl y] (I, L, R, Y) (fun r => ∃ I', ∃ L', r = (none, (I', L', R, Y), 0, 0) ∧ cl_P E I L R Y I' L' R Y ∧ (∀ q k, cl_T E Y q 1 → I' q k = I q k)) := by
  obtain ⟨d, rfl⟩ : ∃ d, D = d + 1 := ⟨D - 1, by omega⟩
  refine yi_E_of (M := zi_m223) rfl rfl ?_
  have hP : cl_P E I L R Y I L R Y := cl_P_r hC
  show yi_G zi_Ms d zi_m223 (0, [(0, .inr (.inr (some p))), (1, .inr (.inl v)), (3, .inl x), (4, .inl y)], [], (I, L, R, Y), 0, 0) _
  refine yi_G_run 1 (1, [(0, .inr (.inr (some p))), (1, .inr (.inl v)), (3, .inl x), (4, .inl y)], [.inr (.inr (some p))], (I, L, R, Y), 0, 0) (fun _ => rfl) ?_
  have b1 := cl_rd hP.1 tp (k := 17) (lo := 0) (hi := 5) rfl
  refine cl_G_gi rfl (cl_T_K tp) rfl rfl rfl ?_
  refine yi_G_run 1 (5, [(0, .inr (.inr (some p))), (1, .inr (.inl v)), (3, .inl x), (4, .inl y)], [.inl 5, .inl (I p 17)], (I, L, R, Y), 0, 0) (fun _ => rfl) ?_
  by_cases h2 : 5 ≤ (I p 17)
  · refine yi_G_if2 true rfl (yi_ge_t h2) ?_
    exact yi_G_retv rfl rfl (⟨_, _, rfl, hP, (fun _ _ _ => rfl)⟩)
  · refine yi_G_if2 false rfl (yi_ge_f h2) ?_
    refine yi_G_run 1 (9, [(0, .inr (.inr (some p))), (1, .inr (.inl v)), (3, .inl x), (4, .inl y)], [.inr (.inr (some p))], (I, L, R, Y), 0, 0) (fun _ => rfl) ?_
    obtain ⟨q3, e4, t5, n6⟩ := cl_rn hP.1 tp (k := 2) (m := 4) rfl
    refine cl_G_gr rfl (cl_T_K tp) rfl rfl rfl e4 ?_
    refine yi_G_run 1 (13, [(0, .inr (.inr (some p))), (1, .inr (.inl v)), (3, .inl x), (4, .inl y)], [.inr (.inr (some p)), .inr (.inr (some q3))], (I, L, R, Y), 0, 0) (fun _ => rfl) ?_
    have b7 := cl_rd hP.1 tp (k := 17) (lo := 0) (hi := 5) rfl
    refine cl_G_gi rfl (cl_T_K tp) rfl rfl rfl ?_
    refine yi_G_run 1 (17, [(0, .inr (.inr (some p))), (1, .inr (.inl v)), (3, .inl x), (4, .inl y)], [.inr (.inl v), .inl (I p 17), .inr (.inr (some q3))], (I, L, R, Y), 0, 0) (fun _ => rfl) ?_
    refine cl_G_last rfl t5 (by omega) (by omega) ?_
    have hP8 := cl_P_uL (k := ((I p 17).toNat)) (v := v) hP t5 (by omega)
    generalize w9 : yi_u L q3 ((I p 17).toNat) v = L10 at hP8 ⊢
    refine yi_G_run 1 (19, [(0, .inr (.inr (some p))), (1, .inr (.inl v)), (3, .inl x), (4, .inl y)], [.inr (.inr (some p))], (I, L10, R, Y), 0, 0) (fun _ => rfl) ?_
    obtain ⟨q11, e12, t13, n14⟩ := cl_rn hP8.1 tp (k := 4) (m := 4) rfl
    refine cl_G_gr rfl (cl_T_K tp) rfl rfl rfl e12 ?_
    refine yi_G_run 1 (23, [(0, .inr (.inr (some p))), (1, .inr (.inl v)), (3, .inl x), (4, .inl y)], [.inr (.inr (some p)), .inr (.inr (some q11))], (I, L10, R, Y), 0, 0) (fun _ => rfl) ?_
    have b15 := cl_rd hP8.1 tp (k := 17) (lo := 0) (hi := 5) rfl
    refine cl_G_gi rfl (cl_T_K tp) rfl rfl rfl ?_
    refine yi_G_run 1 (27, [(0, .inr (.inr (some p))), (1, .inr (.inl v)), (3, .inl x), (4, .inl y)], [.inl x, .inl (I p 17), .inr (.inr (some q11))], (I, L10, R, Y), 0, 0) (fun _ => rfl) ?_
    refine cl_G_iast rfl t13 (by omega) (by omega) ?_
    have hP16 := cl_P_uI (k := ((I p 17).toNat)) (v := x) hP8 t13 (by omega) (cl_hv0 rfl)
    generalize w17 : yi_u I q11 ((I p 17).toNat) x = I18 at hP16 ⊢
    refine yi_G_run 1 (29, [(0, .inr (.inr (some p))), (1, .inr (.inl v)), (3, .inl x), (4, .inl y)], [.inr (.inr (some p))], (I18, L10, R, Y), 0, 0) (fun _ => rfl) ?_
    obtain ⟨q19, e20, t21, n22⟩ := cl_rn hP16.1 tp (k := 5) (m := 4) rfl
    refine cl_G_gr rfl (cl_T_K tp) rfl rfl rfl e20 ?_
    refine yi_G_run 1 (33, [(0, .inr (.inr (some p))), (1, .inr (.inl v)), (3, .inl x), (4, .inl y)], [.inr (.inr (some p)), .inr (.inr (some q19))], (I18, L10, R, Y), 0, 0) (fun _ => rfl) ?_
    have b23 := cl_rd hP16.1 tp (k := 17) (lo := 0) (hi := 5) rfl
    have r24 : I18 p 17 = I p 17 := by rw [← w17, yi_u_ne _ _ (fun z => cl_ne tp t13 (by decide) z.1)]
    refine cl_G_gi rfl (cl_T_K tp) rfl rfl rfl ?_
    refine yi_G_run 1 (38, [(0, .inr (.inr (some p))), (1, .inr (.inl v)), (3, .inl x), (4, .inl y)], [.inl y, .inl (I18 p 17), .inr (.inr (some q19))], (I18, L10, R, Y), 0, 0) (fun _ => rfl) ?_
    refine cl_G_iast rfl t21 (by omega) (by omega) ?_
    have hP25 := cl_P_uI (k := ((I18 p 17).toNat)) (v := y) hP16 t21 (by omega) (cl_hv0 rfl)
    generalize w26 : yi_u I18 q19 ((I18 p 17).toNat) y = I27 at hP25 ⊢
    refine yi_G_run 2 (41, [(0, .inr (.inr (some p))), (1, .inr (.inl v)), (3, .inl x), (4, .inl y)], [.inr (.inr (some p)), .inr (.inr (some p))], (I27, L10, R, Y), 0, 0) (fun _ => rfl) ?_
    have b28 := cl_rd hP25.1 tp (k := 17) (lo := 0) (hi := 5) rfl
    have r29 : I27 p 17 = I p 17 := by rw [← w26, yi_u_ne _ _ (fun z => cl_ne tp t21 (by decide) z.1), ← w17, yi_u_ne _ _ (fun z => cl_ne tp t13 (by decide) z.1)]
    refine cl_G_gi rfl (cl_T_K tp) rfl rfl rfl ?_
    refine yi_G_run 1 (45, [(0, .inr (.inr (some p))), (1, .inr (.inl v)), (3, .inl x), (4, .inl y)], [.inl 1, .inl (I27 p 17), .inr (.inr (some p))], (I27, L10, R, Y), 0, 0) (fun _ => rfl) ?_
    refine yi_G_iadd rfl ((I27 p 17) + 1) (yi_wn (by omega) (by omega)) ?_
    refine cl_G_pi rfl (cl_T_K tp) rfl rfl rfl ?_
    have hP30 := cl_P_uI (k := 17) (v := (I27 p 17) + 1) hP25 tp (by decide) (cl_hv rfl (by omega) (by omega))
    generalize w31 : yi_u I27 p 17 ((I27 p 17) + 1) = I32 at hP30 ⊢
    exact yi_G_retv rfl rfl (⟨_, _, rfl, hP30, (fun q k tq => by rw [← w31, yi_u_ne _ _ (fun z => cl_ne (cl_T_x tq hP30.2.1) tp (by decide) z.1), ← w26, yi_u_ne _ _ (fun z => cl_ne (cl_T_x tq hP30.2.1) t21 (by decide) z.1), ← w17, yi_u_ne _ _ (fun z => cl_ne (cl_T_x tq hP30.2.1) t13 (by decide) z.1)])⟩)
theorem k_addLaw (D : Nat) (hD : 1 ≤ D) {E : List Nat} {I L : cl_I} {R : cl_Rr} {Y : cl_Y} (hC : cl_C E I L R Y) {p : Nat} (tp : cl_T E Y p 3) {x : Int} {y : Int} : yi_E zi_Ms D 221 [.inr (.inr (some p)), .inl x, .inl y] (I, L, R, Y) (fun r => ∃ I', r = (none, (I', L, R, Y), 0, 0) ∧ cl_P E I L R Y I' L R Y ∧ (∀ q k, cl_T E Y q 1 → I' q k = I q k)) := by
  obtain ⟨d, rfl⟩ : ∃ d, D = d + 1 := ⟨D - 1, by omega⟩
  refine yi_E_of (M := zi_m221) rfl rfl ?_
  have hP : cl_P E I L R Y I L R Y := cl_P_r hC
  show yi_G zi_Ms d zi_m221 (0, [(0, .inr (.inr (some p))), (1, .inl x), (2, .inl y)], [], (I, L, R, Y), 0, 0) _
  refine yi_G_run 1 (1, [(0, .inr (.inr (some p))), (1, .inl x), (2, .inl y)], [.inr (.inr (some p))], (I, L, R, Y), 0, 0) (fun _ => rfl) ?_
  have b1 := cl_rd hP.1 tp (k := 18) (lo := 0) (hi := 4) rfl
  refine cl_G_gi rfl (cl_T_K tp) rfl rfl rfl ?_
  refine yi_G_run 1 (5, [(0, .inr (.inr (some p))), (1, .inl x), (2, .inl y)], [.inl 4, .inl (I p 18)], (I, L, R, Y), 0, 0) (fun _ => rfl) ?_
  by_cases h2 : 4 ≤ (I p 18)
  · refine yi_G_if2 true rfl (yi_ge_t h2) ?_
    exact yi_G_retv rfl rfl (⟨_, rfl, hP, (fun _ _ _ => rfl)⟩)
  · refine yi_G_if2 false rfl (yi_ge_f h2) ?_
    refine yi_G_run 1 (9, [(0, .inr (.inr (some p))), (1, .inl x), (2, .inl y)], [.inr (.inr (some p))], (I, L, R, Y), 0, 0) (fun _ => rfl) ?_
    obtain ⟨q3, e4, t5, n6⟩ := cl_rn hP.1 tp (k := 8) (m := 3) rfl
    refine cl_G_gr rfl (cl_T_K tp) rfl rfl rfl e4 ?_
    refine yi_G_run 1 (13, [(0, .inr (.inr (some p))), (1, .inl x), (2, .inl y)], [.inr (.inr (some p)), .inr (.inr (some q3))], (I, L, R, Y), 0, 0) (fun _ => rfl) ?_
    have b7 := cl_rd hP.1 tp (k := 18) (lo := 0) (hi := 4) rfl
    refine cl_G_gi rfl (cl_T_K tp) rfl rfl rfl ?_
    refine yi_G_run 1 (17, [(0, .inr (.inr (some p))), (1, .inl x), (2, .inl y)], [.inl x, .inl (I p 18), .inr (.inr (some q3))], (I, L, R, Y), 0, 0) (fun _ => rfl) ?_
    refine cl_G_iast rfl t5 (by omega) (by omega) ?_
    have hP8 := cl_P_uI (k := ((I p 18).toNat)) (v := x) hP t5 (by omega) (cl_hv0 rfl)
    generalize w9 : yi_u I q3 ((I p 18).toNat) x = I10 at hP8 ⊢
    refine yi_G_run 1 (19, [(0, .inr (.inr (some p))), (1, .inl x), (2, .inl y)], [.inr (.inr (some p))], (I10, L, R, Y), 0, 0) (fun _ => rfl) ?_
    obtain ⟨q11, e12, t13, n14⟩ := cl_rn hP8.1 tp (k := 9) (m := 3) rfl
    refine cl_G_gr rfl (cl_T_K tp) rfl rfl rfl e12 ?_
    refine yi_G_run 1 (23, [(0, .inr (.inr (some p))), (1, .inl x), (2, .inl y)], [.inr (.inr (some p)), .inr (.inr (some q11))], (I10, L, R, Y), 0, 0) (fun _ => rfl) ?_
    have b15 := cl_rd hP8.1 tp (k := 18) (lo := 0) (hi := 4) rfl
    have r16 : I10 p 18 = I p 18 := by rw [← w9, yi_u_ne _ _ (fun z => cl_ne tp t5 (by decide) z.1)]
    refine cl_G_gi rfl (cl_T_K tp) rfl rfl rfl ?_
    refine yi_G_run 1 (27, [(0, .inr (.inr (some p))), (1, .inl x), (2, .inl y)], [.inl y, .inl (I10 p 18), .inr (.inr (some q11))], (I10, L, R, Y), 0, 0) (fun _ => rfl) ?_
    refine cl_G_iast rfl t13 (by omega) (by omega) ?_
    have hP17 := cl_P_uI (k := ((I10 p 18).toNat)) (v := y) hP8 t13 (by omega) (cl_hv0 rfl)
    generalize w18 : yi_u I10 q11 ((I10 p 18).toNat) y = I19 at hP17 ⊢
    refine yi_G_run 2 (30, [(0, .inr (.inr (some p))), (1, .inl x), (2, .inl y)], [.inr (.inr (some p)), .inr (.inr (some p))], (I19, L, R, Y), 0, 0) (fun _ => rfl) ?_
    have b20 := cl_rd hP17.1 tp (k := 18) (lo := 0) (hi := 4) rfl
    have r21 : I19 p 18 = I p 18 := by rw [← w18, yi_u_ne _ _ (fun z => cl_ne tp t13 (by decide) z.1), ← w9, yi_u_ne _ _ (fun z => cl_ne tp t5 (by decide) z.1)]
    refine cl_G_gi rfl (cl_T_K tp) rfl rfl rfl ?_
    refine yi_G_run 1 (34, [(0, .inr (.inr (some p))), (1, .inl x), (2, .inl y)], [.inl 1, .inl (I19 p 18), .inr (.inr (some p))], (I19, L, R, Y), 0, 0) (fun _ => rfl) ?_
    refine yi_G_iadd rfl ((I19 p 18) + 1) (yi_wn (by omega) (by omega)) ?_
    refine cl_G_pi rfl (cl_T_K tp) rfl rfl rfl ?_
    have hP22 := cl_P_uI (k := 18) (v := (I19 p 18) + 1) hP17 tp (by decide) (cl_hv rfl (by omega) (by omega))
    generalize w23 : yi_u I19 p 18 ((I19 p 18) + 1) = I24 at hP22 ⊢
    exact yi_G_retv rfl rfl (⟨_, rfl, hP22, (fun q k tq => by rw [← w23, yi_u_ne _ _ (fun z => cl_ne (cl_T_x tq hP22.2.1) tp (by decide) z.1), ← w18, yi_u_ne _ _ (fun z => cl_ne (cl_T_x tq hP22.2.1) t13 (by decide) z.1), ← w9, yi_u_ne _ _ (fun z => cl_ne (cl_T_x tq hP22.2.1) t5 (by decide) z.1)])⟩)
theorem k_addWish (D : Nat) (hD : 1 ≤ D) {E : List Nat} {I L : cl_I} {R : cl_Rr} {Y : cl_Y} (hC : cl_C E I L R Y) {p : Nat} (tp : cl_T E Y p 3) {x : Int} {y : Int} {v : Int} {w : Int} : yi_E zi_Ms D 224 [.inr (.inr (some p)), .inl x, .inl y, .inl v, .inl w] (I, L, R, Y) (fun r => ∃ I', r = (none, (I', L, R, Y), 0, 0) ∧ cl_P E I L R Y I' L R Y ∧ (∀ q k, cl_T E Y q 1 → I' q k = I q k)) := by
  obtain ⟨d, rfl⟩ : ∃ d, D = d + 1 := ⟨D - 1, by omega⟩
  refine yi_E_of (M := zi_m224) rfl rfl ?_
  have hP : cl_P E I L R Y I L R Y := cl_P_r hC
  show yi_G zi_Ms d zi_m224 (0, [(0, .inr (.inr (some p))), (1, .inl x), (2, .inl y), (3, .inl v), (4, .inl w)], [], (I, L, R, Y), 0, 0) _
  refine yi_G_run 1 (1, [(0, .inr (.inr (some p))), (1, .inl x), (2, .inl y), (3, .inl v), (4, .inl w)], [.inr (.inr (some p))], (I, L, R, Y), 0, 0) (fun _ => rfl) ?_
  have b1 := cl_rd hP.1 tp (k := 19) (lo := 0) (hi := 6) rfl
  refine cl_G_gi rfl (cl_T_K tp) rfl rfl rfl ?_
  refine yi_G_run 1 (6, [(0, .inr (.inr (some p))), (1, .inl x), (2, .inl y), (3, .inl v), (4, .inl w)], [.inl 6, .inl (I p 19)], (I, L, R, Y), 0, 0) (fun _ => rfl) ?_
  by_cases h2 : 6 ≤ (I p 19)
  · refine yi_G_if2 true rfl (yi_ge_t h2) ?_
    exact yi_G_retv rfl rfl (⟨_, rfl, hP, (fun _ _ _ => rfl)⟩)
  · refine yi_G_if2 false rfl (yi_ge_f h2) ?_
    refine yi_G_run 1 (10, [(0, .inr (.inr (some p))), (1, .inl x), (2, .inl y), (3, .inl v), (4, .inl w)], [.inr (.inr (some p))], (I, L, R, Y), 0, 0) (fun _ => rfl) ?_
    obtain ⟨q3, e4, t5, n6⟩ := cl_rn hP.1 tp (k := 6) (m := 5) rfl
    refine cl_G_gr rfl (cl_T_K tp) rfl rfl rfl e4 ?_
    refine yi_G_run 1 (14, [(0, .inr (.inr (some p))), (1, .inl x), (2, .inl y), (3, .inl v), (4, .inl w)], [.inr (.inr (some p)), .inr (.inr (some q3))], (I, L, R, Y), 0, 0) (fun _ => rfl) ?_
    have b7 := cl_rd hP.1 tp (k := 19) (lo := 0) (hi := 6) rfl
    refine cl_G_gi rfl (cl_T_K tp) rfl rfl rfl ?_
    refine yi_G_run 1 (18, [(0, .inr (.inr (some p))), (1, .inl x), (2, .inl y), (3, .inl v), (4, .inl w)], [.inl x, .inl (I p 19), .inr (.inr (some q3))], (I, L, R, Y), 0, 0) (fun _ => rfl) ?_
    refine cl_G_iast rfl t5 (by omega) (by omega) ?_
    have hP8 := cl_P_uI (k := ((I p 19).toNat)) (v := x) hP t5 (by omega) (cl_hv0 rfl)
    generalize w9 : yi_u I q3 ((I p 19).toNat) x = I10 at hP8 ⊢
    refine yi_G_run 1 (20, [(0, .inr (.inr (some p))), (1, .inl x), (2, .inl y), (3, .inl v), (4, .inl w)], [.inr (.inr (some p))], (I10, L, R, Y), 0, 0) (fun _ => rfl) ?_
    obtain ⟨q11, e12, t13, n14⟩ := cl_rn hP8.1 tp (k := 7) (m := 5) rfl
    refine cl_G_gr rfl (cl_T_K tp) rfl rfl rfl e12 ?_
    refine yi_G_run 1 (24, [(0, .inr (.inr (some p))), (1, .inl x), (2, .inl y), (3, .inl v), (4, .inl w)], [.inr (.inr (some p)), .inr (.inr (some q11))], (I10, L, R, Y), 0, 0) (fun _ => rfl) ?_
    have b15 := cl_rd hP8.1 tp (k := 19) (lo := 0) (hi := 6) rfl
    have r16 : I10 p 19 = I p 19 := by rw [← w9, yi_u_ne _ _ (fun z => cl_ne tp t5 (by decide) z.1)]
    refine cl_G_gi rfl (cl_T_K tp) rfl rfl rfl ?_
    refine yi_G_run 1 (28, [(0, .inr (.inr (some p))), (1, .inl x), (2, .inl y), (3, .inl v), (4, .inl w)], [.inl y, .inl (I10 p 19), .inr (.inr (some q11))], (I10, L, R, Y), 0, 0) (fun _ => rfl) ?_
    refine cl_G_iast rfl t13 (by omega) (by omega) ?_
    have hP17 := cl_P_uI (k := ((I10 p 19).toNat)) (v := y) hP8 t13 (by omega) (cl_hv0 rfl)
    generalize w18 : yi_u I10 q11 ((I10 p 19).toNat) y = I19 at hP17 ⊢
    refine yi_G_run 1 (30, [(0, .inr (.inr (some p))), (1, .inl x), (2, .inl y), (3, .inl v), (4, .inl w)], [.inr (.inr (some p))], (I19, L, R, Y), 0, 0) (fun _ => rfl) ?_
    obtain ⟨q20, e21, t22, n23⟩ := cl_rn hP17.1 tp (k := 10) (m := 5) rfl
    refine cl_G_gr rfl (cl_T_K tp) rfl rfl rfl e21 ?_
    refine yi_G_run 1 (34, [(0, .inr (.inr (some p))), (1, .inl x), (2, .inl y), (3, .inl v), (4, .inl w)], [.inr (.inr (some p)), .inr (.inr (some q20))], (I19, L, R, Y), 0, 0) (fun _ => rfl) ?_
    have b24 := cl_rd hP17.1 tp (k := 19) (lo := 0) (hi := 6) rfl
    have r25 : I19 p 19 = I p 19 := by rw [← w18, yi_u_ne _ _ (fun z => cl_ne tp t13 (by decide) z.1), ← w9, yi_u_ne _ _ (fun z => cl_ne tp t5 (by decide) z.1)]
    refine cl_G_gi rfl (cl_T_K tp) rfl rfl rfl ?_
    refine yi_G_run 1 (38, [(0, .inr (.inr (some p))), (1, .inl x), (2, .inl y), (3, .inl v), (4, .inl w)], [.inl v, .inl (I19 p 19), .inr (.inr (some q20))], (I19, L, R, Y), 0, 0) (fun _ => rfl) ?_
    refine cl_G_iast rfl t22 (by omega) (by omega) ?_
    have hP26 := cl_P_uI (k := ((I19 p 19).toNat)) (v := v) hP17 t22 (by omega) (cl_hv0 rfl)
    generalize w27 : yi_u I19 q20 ((I19 p 19).toNat) v = I28 at hP26 ⊢
    refine yi_G_run 1 (40, [(0, .inr (.inr (some p))), (1, .inl x), (2, .inl y), (3, .inl v), (4, .inl w)], [.inr (.inr (some p))], (I28, L, R, Y), 0, 0) (fun _ => rfl) ?_
    obtain ⟨q29, e30, t31, n32⟩ := cl_rn hP26.1 tp (k := 11) (m := 5) rfl
    refine cl_G_gr rfl (cl_T_K tp) rfl rfl rfl e30 ?_
    refine yi_G_run 1 (44, [(0, .inr (.inr (some p))), (1, .inl x), (2, .inl y), (3, .inl v), (4, .inl w)], [.inr (.inr (some p)), .inr (.inr (some q29))], (I28, L, R, Y), 0, 0) (fun _ => rfl) ?_
    have b33 := cl_rd hP26.1 tp (k := 19) (lo := 0) (hi := 6) rfl
    have r34 : I28 p 19 = I p 19 := by rw [← w27, yi_u_ne _ _ (fun z => cl_ne tp t22 (by decide) z.1), ← w18, yi_u_ne _ _ (fun z => cl_ne tp t13 (by decide) z.1), ← w9, yi_u_ne _ _ (fun z => cl_ne tp t5 (by decide) z.1)]
    refine cl_G_gi rfl (cl_T_K tp) rfl rfl rfl ?_
    refine yi_G_run 1 (49, [(0, .inr (.inr (some p))), (1, .inl x), (2, .inl y), (3, .inl v), (4, .inl w)], [.inl w, .inl (I28 p 19), .inr (.inr (some q29))], (I28, L, R, Y), 0, 0) (fun _ => rfl) ?_
    refine cl_G_iast rfl t31 (by omega) (by omega) ?_
    have hP35 := cl_P_uI (k := ((I28 p 19).toNat)) (v := w) hP26 t31 (by omega) (cl_hv0 rfl)
    generalize w36 : yi_u I28 q29 ((I28 p 19).toNat) w = I37 at hP35 ⊢
    refine yi_G_run 2 (52, [(0, .inr (.inr (some p))), (1, .inl x), (2, .inl y), (3, .inl v), (4, .inl w)], [.inr (.inr (some p)), .inr (.inr (some p))], (I37, L, R, Y), 0, 0) (fun _ => rfl) ?_
    have b38 := cl_rd hP35.1 tp (k := 19) (lo := 0) (hi := 6) rfl
    have r39 : I37 p 19 = I p 19 := by rw [← w36, yi_u_ne _ _ (fun z => cl_ne tp t31 (by decide) z.1), ← w27, yi_u_ne _ _ (fun z => cl_ne tp t22 (by decide) z.1), ← w18, yi_u_ne _ _ (fun z => cl_ne tp t13 (by decide) z.1), ← w9, yi_u_ne _ _ (fun z => cl_ne tp t5 (by decide) z.1)]
    refine cl_G_gi rfl (cl_T_K tp) rfl rfl rfl ?_
    refine yi_G_run 1 (56, [(0, .inr (.inr (some p))), (1, .inl x), (2, .inl y), (3, .inl v), (4, .inl w)], [.inl 1, .inl (I37 p 19), .inr (.inr (some p))], (I37, L, R, Y), 0, 0) (fun _ => rfl) ?_
    refine yi_G_iadd rfl ((I37 p 19) + 1) (yi_wn (by omega) (by omega)) ?_
    refine cl_G_pi rfl (cl_T_K tp) rfl rfl rfl ?_
    have hP40 := cl_P_uI (k := 19) (v := (I37 p 19) + 1) hP35 tp (by decide) (cl_hv rfl (by omega) (by omega))
    generalize w41 : yi_u I37 p 19 ((I37 p 19) + 1) = I42 at hP40 ⊢
    exact yi_G_retv rfl rfl (⟨_, rfl, hP40, (fun q k tq => by rw [← w41, yi_u_ne _ _ (fun z => cl_ne (cl_T_x tq hP40.2.1) tp (by decide) z.1), ← w36, yi_u_ne _ _ (fun z => cl_ne (cl_T_x tq hP40.2.1) t31 (by decide) z.1), ← w27, yi_u_ne _ _ (fun z => cl_ne (cl_T_x tq hP40.2.1) t22 (by decide) z.1), ← w18, yi_u_ne _ _ (fun z => cl_ne (cl_T_x tq hP40.2.1) t13 (by decide) z.1), ← w9, yi_u_ne _ _ (fun z => cl_ne (cl_T_x tq hP40.2.1) t5 (by decide) z.1)])⟩)
theorem k_setPrice (D : Nat) (hD : 1 ≤ D) {E : List Nat} {I L : cl_I} {R : cl_Rr} {Y : cl_Y} (hC : cl_C E I L R Y) {p : Nat} (tp : cl_T E Y p 3) {a : Nat} (ta : cl_T E Y a 20) {x : Int} {y : Int} (na : (Y.2.1 a : Int) ≤ 1002) : yi_E zi_Ms D 237 [.inr (.inr (some p)), .inr (.inr (some a)), .inl x, .inl y] (I, L, R, Y) (fun r => ∃ I', ∃ L', ∃ R', ∃ Y', ∃ nc ns, r = (none, (I', L', R', Y'), nc, ns) ∧ cl_P E I L R Y I' L' R' Y' ∧ nc ≤ 1 ∧ ns ≤ (y - x).toNat ∧ (∀ q k, cl_T E Y q 1 → I' q k = I q k)) := by
  obtain ⟨d, rfl⟩ : ∃ d, D = d + 1 := ⟨D - 1, by omega⟩
  refine yi_E_of (M := zi_m237) rfl rfl ?_
  have hP : cl_P E I L R Y I L R Y := cl_P_r hC
  show yi_G zi_Ms d zi_m237 (0, [(0, .inr (.inr (some p))), (1, .inr (.inr (some a))), (2, .inl x), (3, .inl y)], [], (I, L, R, Y), 0, 0) _
  refine yi_G_run 2 (2, [(0, .inr (.inr (some p))), (1, .inr (.inr (some a))), (2, .inl x), (3, .inl y)], [.inl 1, .inr (.inr (some p))], (I, L, R, Y), 0, 0) (fun _ => rfl) ?_
  refine cl_G_pi rfl (cl_T_K tp) rfl rfl rfl ?_
  have hP1 := cl_P_uI (k := 13) (v := 1) hP tp (by decide) (cl_hv0 rfl)
  generalize w2 : yi_u I p 13 1 = I3 at hP1 ⊢
  refine yi_G_run 1 (6, [(0, .inr (.inr (some p))), (1, .inr (.inr (some a))), (2, .inl x), (3, .inl y)], [.inl x], (I3, L, R, Y), 0, 0) (fun _ => rfl) ?_
  by_cases h4 : x < 0
  · refine yi_G_if1 true rfl (yi_lt_t h4) ?_
    exact yi_G_retv rfl rfl (⟨_, _, _, _, _, _, rfl, hP1, by omega, by omega, (fun q k tq => by rw [← w2, yi_u_ne _ _ (fun z => cl_ne (cl_T_x tq hP1.2.1) tp (by decide) z.1)])⟩)
  · refine yi_G_if1 false rfl (yi_lt_f h4) ?_
    refine yi_G_run 2 (11, [(0, .inr (.inr (some p))), (1, .inr (.inr (some a))), (2, .inl x), (3, .inl y)], [.inl y, .inl x], (I3, L, R, Y), 0, 0) (fun _ => rfl) ?_
    by_cases h5 : y < x
    · refine yi_G_if2 true rfl (yi_gt_t h5) ?_
      exact yi_G_retv rfl rfl (⟨_, _, _, _, _, _, rfl, hP1, by omega, by omega, (fun q k tq => by rw [← w2, yi_u_ne _ _ (fun z => cl_ne (cl_T_x tq hP1.2.1) tp (by decide) z.1)])⟩)
    · refine yi_G_if2 false rfl (yi_gt_f h5) ?_
      refine yi_G_run 2 (16, [(0, .inr (.inr (some p))), (1, .inr (.inr (some a))), (2, .inl x), (3, .inl y)], [.inr (.inr (some a)), .inl y], (I3, L, R, Y), 0, 0) (fun _ => rfl) ?_
      refine cl_G_len rfl ta (by omega) ?_
      by_cases h6 : ((Y.2.1 a : Int)) < y
      · refine yi_G_if2 true rfl (yi_gt_t h6) ?_
        exact yi_G_retv rfl rfl (⟨_, _, _, _, _, _, rfl, hP1, by omega, by omega, (fun q k tq => by rw [← w2, yi_u_ne _ _ (fun z => cl_ne (cl_T_x tq hP1.2.1) tp (by decide) z.1)])⟩)
      · refine yi_G_if2 false rfl (yi_gt_f h6) ?_
        refine yi_G_run 3 (23, [(0, .inr (.inr (some p))), (1, .inr (.inr (some a))), (2, .inl x), (3, .inl y)], [.inl x, .inl y, .inr (.inr (some p))], (I3, L, R, Y), 0, 0) (fun _ => rfl) ?_
        refine yi_G_isub rfl (y - x) (yi_wn (by omega) (by omega)) ?_
        refine cl_G_mka rfl hP1 (by omega) (by omega) (by decide) (fun e7x I7 L7 R7 Y7 ee7 hP7 x7 t7 n7 o7 => ?_)
        have t8 := cl_T_x tp x7
        have t9 := cl_T_x ta x7
        have n10 := cl_T_n ta x7
        refine cl_G_pr rfl (cl_T_K t8) rfl rfl rfl ?_
        have hP11 := cl_P_uR (k := 12) (v := (some e7x)) hP7 t8 (by decide) (by decide) (cl_hrf rfl t7)
        generalize w12 : cl_u R7 p 12 (some e7x) = R13 at hP11 ⊢
        have e14 : R13 p 12 = some e7x := by rw [← w12, cl_u_eq]
        refine yi_G_run 2 (32, [(4, .inl 0), (0, .inr (.inr (some p))), (1, .inr (.inr (some a))), (2, .inl x), (3, .inl y)], [], (I7, L7, R13, Y7), 0 + 1, 0 + (y - x : Int).toNat) (fun _ => rfl) ?_
        have pt32 : ∀ (m_ : Nat) (j : Int) (Ip32 : cl_I), (cl_P E I L R Y Ip32 L7 R13 Y7) → (0 ≤ j ∧ j ≤ y - x) → (∀ q k, cl_T E Y q 1 → Ip32 q k = I q k) → (y - x - j).toNat = m_ → yi_G zi_Ms d zi_m237 (32, [(4, .inl j), (0, .inr (.inr (some p))), (1, .inr (.inr (some a))), (2, .inl x), (3, .inl y)], [], (Ip32, L7, R13, Y7), 0 + 1, 0 + (y - x : Int).toNat) (fun r => ∃ I', ∃ L', ∃ R', ∃ Y', ∃ nc ns, r = (none, (I', L', R', Y'), nc, ns) ∧ cl_P E I L R Y I' L' R' Y' ∧ nc ≤ 1 ∧ ns ≤ (y - x).toNat ∧ (∀ q k, cl_T E Y q 1 → I' q k = I q k)) := by
          intro m32
          induction m32 using Nat.strongRecOn with
          | _ m32 ih32 =>
          intro j Ip32 hPp32 j0 k32 hm32
          refine yi_G_run 2 (35, [(4, .inl j), (0, .inr (.inr (some p))), (1, .inr (.inr (some a))), (2, .inl x), (3, .inl y)], [.inr (.inr (some p)), .inl j], (Ip32, L7, R13, Y7), 0 + 1, 0 + (y - x : Int).toNat) (fun _ => rfl) ?_
          refine cl_G_gr rfl (cl_T_K t8) rfl rfl rfl e14 ?_
          refine cl_G_len rfl t7 (by omega) ?_
          by_cases h15 : ((Y7.2.1 e7x : Int)) ≤ j
          · refine yi_G_if2 true rfl (yi_ge_t h15) ?_
            exact yi_G_retv rfl rfl (⟨_, _, _, _, _, _, rfl, hPp32, by omega, by omega, (fun q k tq => by rw [k32 q k tq])⟩)
          · refine yi_G_if2 false rfl (yi_ge_f h15) ?_
            refine yi_G_run 1 (43, [(4, .inl j), (0, .inr (.inr (some p))), (1, .inr (.inr (some a))), (2, .inl x), (3, .inl y)], [.inr (.inr (some p))], (Ip32, L7, R13, Y7), 0 + 1, 0 + (y - x : Int).toNat) (fun _ => rfl) ?_
            refine cl_G_gr rfl (cl_T_K t8) rfl rfl rfl e14 ?_
            refine yi_G_run 4 (52, [(4, .inl j), (0, .inr (.inr (some p))), (1, .inr (.inr (some a))), (2, .inl x), (3, .inl y)], [.inl j, .inl x, .inr (.inr (some a)), .inl j, .inr (.inr (some e7x))], (Ip32, L7, R13, Y7), 0 + 1, 0 + (y - x : Int).toNat) (fun _ => rfl) ?_
            refine yi_G_iadd rfl (x + j) (yi_wn (by omega) (by omega)) ?_
            refine cl_G_iald rfl t9 (by omega) (by omega) ?_
            refine cl_G_iast rfl t7 (by omega) (by omega) ?_
            have hP16 := cl_P_uI (k := (j.toNat)) (v := Ip32 a ((x + j).toNat)) hPp32 t7 (by omega) (cl_hv0 rfl)
            generalize w17 : yi_u Ip32 e7x (j.toNat) (Ip32 a ((x + j).toNat)) = I18 at hP16 ⊢
            refine yi_G_iinc [(4, .inl (j + 1)), (0, .inr (.inr (some p))), (1, .inr (.inr (some a))), (2, .inl x), (3, .inl y)] rfl rfl rfl (by rw [show yi_w (j + 1) = j + 1 from (yi_wn (by omega) (by omega)).trans (by omega)]; rfl) ?_
            refine yi_G_run 1 (32, [(4, .inl (j + 1)), (0, .inr (.inr (some p))), (1, .inr (.inr (some a))), (2, .inl x), (3, .inl y)], [], (I18, L7, R13, Y7), 0 + 1, 0 + (y - x : Int).toNat) (fun _ => rfl) ?_
            exact ih32 _ (by omega) (j + 1) I18 hP16 (by omega) (fun q k tq => by rw [← w17, yi_u_ne _ _ (fun z => cl_ne (cl_T_x tq hP16.2.1) t7 (by decide) z.1), k32 q k tq]) rfl
        exact pt32 _ 0 I7 hP11 (by omega) (fun q k tq => by rw [(o7 q k (cl_T_x tq hP1.2.1).2.1).2, ← w2, yi_u_ne _ _ (fun z => cl_ne (cl_T_x tq hP11.2.1) t8 (by decide) z.1)]) rfl
theorem k_fillI (D : Nat) (hD : 1 ≤ D) {E : List Nat} {I L : cl_I} {R : cl_Rr} {Y : cl_Y} (hC : cl_C E I L R Y) {p : Nat} (tp : cl_T E Y p 20) {v : Int} : yi_E zi_Ms D 331 [.inr (.inr (some p)), .inl v] (I, L, R, Y) (fun r => ∃ I', r = (none, (I', L, R, Y), 0, 0) ∧ cl_P E I L R Y I' L R Y ∧ (∀ q k, q ≠ p → I' q k = I q k)) := by
  obtain ⟨d, rfl⟩ : ∃ d, D = d + 1 := ⟨D - 1, by omega⟩
  refine yi_E_of (M := zi_m331) rfl rfl ?_
  have hP : cl_P E I L R Y I L R Y := cl_P_r hC
  have np := cl_nb hP.1 tp
  show yi_G zi_Ms d zi_m331 (0, [(0, .inr (.inr (some p))), (1, .inl v)], [], (I, L, R, Y), 0, 0) _
  refine yi_G_run 3 (3, [(2, .inl 0), (0, .inr (.inr (some p))), (1, .inl v)], [.inr (.inr (some p))], (I, L, R, Y), 0, 0) (fun _ => rfl) ?_
  refine cl_G_len rfl tp (by omega) ?_
  refine yi_G_run 1 (5, [(3, .inl ((Y.2.1 p : Int))), (2, .inl 0), (0, .inr (.inr (some p))), (1, .inl v)], [], (I, L, R, Y), 0, 0) (fun _ => rfl) ?_
  have pt5 : ∀ (m_ : Nat) (j : Int) (Ip5 : cl_I), (cl_P E I L R Y Ip5 L R Y) → (0 ≤ j ∧ j ≤ (Y.2.1 p : Int)) → (∀ q k, q ≠ p → Ip5 q k = I q k) → ((Y.2.1 p : Int) - j).toNat = m_ → yi_G zi_Ms d zi_m331 (5, [(3, .inl ((Y.2.1 p : Int))), (2, .inl j), (0, .inr (.inr (some p))), (1, .inl v)], [], (Ip5, L, R, Y), 0, 0) (fun r => ∃ I', r = (none, (I', L, R, Y), 0, 0) ∧ cl_P E I L R Y I' L R Y ∧ (∀ q k, q ≠ p → I' q k = I q k)) := by
    intro m5
    induction m5 using Nat.strongRecOn with
    | _ m5 ih5 =>
    intro j Ip5 hPp5 j0 fr hm5
    refine yi_G_run 2 (7, [(3, .inl ((Y.2.1 p : Int))), (2, .inl j), (0, .inr (.inr (some p))), (1, .inl v)], [.inl ((Y.2.1 p : Int)), .inl j], (Ip5, L, R, Y), 0, 0) (fun _ => rfl) ?_
    by_cases h1 : ((Y.2.1 p : Int)) ≤ j
    · refine yi_G_if2 true rfl (yi_ge_t h1) ?_
      exact yi_G_retv rfl rfl (⟨_, rfl, hPp5, fr⟩)
    · refine yi_G_if2 false rfl (yi_ge_f h1) ?_
      refine yi_G_run 3 (13, [(3, .inl ((Y.2.1 p : Int))), (2, .inl j), (0, .inr (.inr (some p))), (1, .inl v)], [.inl v, .inl j, .inr (.inr (some p))], (Ip5, L, R, Y), 0, 0) (fun _ => rfl) ?_
      refine cl_G_iast rfl tp (by omega) (by omega) ?_
      have hP2 := cl_P_uI (k := (j.toNat)) (v := v) hPp5 tp (by omega) (cl_hv0 rfl)
      generalize w3 : yi_u Ip5 p (j.toNat) v = I4 at hP2 ⊢
      refine yi_G_iinc [(2, .inl (j + 1)), (3, .inl ((Y.2.1 p : Int))), (0, .inr (.inr (some p))), (1, .inl v)] rfl rfl rfl (by rw [show yi_w (j + 1) = j + 1 from (yi_wn (by omega) (by omega)).trans (by omega)]; rfl) ?_
      refine yi_G_run 1 (5, [(2, .inl (j + 1)), (3, .inl ((Y.2.1 p : Int))), (0, .inr (.inr (some p))), (1, .inl v)], [], (I4, L, R, Y), 0, 0) (fun _ => rfl) ?_
      refine yi_G_al (al := [(3, .inl ((Y.2.1 p : Int))), (2, .inl (j + 1)), (0, .inr (.inr (some p))), (1, .inl v)]) (show ([3, 2, 0, 1] : List Nat).Nodup by decide) (show ([2, 3, 0, 1] : List Nat).Nodup by decide) (yi_mc (List.mem_of_getElem? (i := 1) rfl) (yi_mc (List.mem_of_getElem? (i := 0) rfl) (yi_mc (List.mem_of_getElem? (i := 2) rfl) (yi_mc (List.mem_of_getElem? (i := 3) rfl) yi_mn)))) ?_
      exact ih5 _ (by omega) (j + 1) I4 hP2 (by omega) (fun q k hq => by rw [← w3, yi_u_ne _ _ (fun z => hq z.1)]; exact fr q k hq) rfl
  exact pt5 _ 0 I hP (by omega) (fun _ _ _ => rfl) rfl
theorem k_Story0 (D : Nat) (hD : 2 ≤ D) {E : List Nat} {e : Nat} {I L : cl_I} {R : cl_Rr} {Y : cl_Y} (hC : cl_C (e :: E) I L R Y) (ge : 10 ≤ e ∧ e < Y.2.2 ∧ 108 < e) (ke : Y.1 e = 9) (em : e ∉ E) (ez : ∀ k, I e k = 0) (ey : ∀ k, R e k = none) : yi_E zi_Ms D 274 [.inr (.inr (some e))] (I, L, R, Y) (fun r => ∃ I', ∃ L', ∃ R', ∃ Y', ∃ nc ns, r = (none, (I', L', R', Y'), nc, ns) ∧ cl_P E I L R Y I' L' R' Y' ∧ nc ≤ 5 ∧ ns ≤ 81 ∧ cl_T E Y' e 9 ∧ (∀ q k, q < Y.2.2 → q ≠ e → I' q k = I q k ∧ R' q k = R q k)) := by
  obtain ⟨d, rfl⟩ : ∃ d, D = d + 1 := ⟨D - 1, by omega⟩
  refine yi_E_of (M := zi_m274) rfl rfl ?_
  have hP : cl_P (e :: E) I L R Y I L R Y := cl_P_r hC
  show yi_G zi_Ms d zi_m274 (0, [(0, .inr (.inr (some e)))], [], (I, L, R, Y), 0, 0) _
  refine yi_G_run 1 (1, [(0, .inr (.inr (some e)))], [.inr (.inr (some e))], (I, L, R, Y), 0, 0) (fun _ => rfl) ?_
  refine cl_G_obj rfl rfl ?_
  refine yi_G_run 2 (7, [(0, .inr (.inr (some e)))], [.inl 12, .inr (.inr (some e))], (I, L, R, Y), 0, 0) (fun _ => rfl) ?_
  refine cl_G_mkr rfl hP (by decide) (by decide) (by decide) (fun e1x I1 L1 R1 Y1 ee1 hP1 x1 t1 n1 o1 => ?_)
  have g2 : 10 ≤ e ∧ e < _ ∧ 108 < e := ⟨ge.1, Nat.lt_of_lt_of_le ge.2.1 (x1).1, ge.2.2⟩
  have k3 := ((x1).2 e ge.2.1).1.trans ke
  have e4 := (o1 e 5 (ge).2.1).1.trans (ey 5)
  refine cl_G_pr rfl ⟨g2.1, k3⟩ rfl rfl rfl ?_
  have hP5 := cl_P_mR (p := e) (k := 0) (v := (some e1x)) hP1 (by simp)
  generalize w6 : cl_u R1 e 0 (some e1x) = R7 at hP5 ⊢
  have e8 : R7 e 5 = none := by rw [← w6, cl_u_ne _ _ (fun z => absurd z.2 (by decide))]; exact e4
  have e9 : R7 e 0 = some e1x := by rw [← w6, cl_u_eq]
  refine yi_G_run 2 (15, [(0, .inr (.inr (some e)))], [.inl 5, .inr (.inr (some e))], (I1, L1, R7, Y1), 0 + 1, 0 + (12 : Int).toNat) (fun _ => rfl) ?_
  refine cl_G_mka rfl hP5 (by decide) (by decide) (by decide) (fun e10x I10 L10 R10 Y10 ee10 hP10 x10 t10 n10 o10 => ?_)
  have t11 := cl_T_x t1 x10
  have n12 := (cl_T_n t1 x10).trans n1
  have g13 : 10 ≤ e ∧ e < _ ∧ 108 < e := ⟨g2.1, Nat.lt_of_lt_of_le g2.2.1 (x10).1, g2.2.2⟩
  have k14 := ((x10).2 e g2.2.1).1.trans k3
  have e15 := (o10 e 5 (g2).2.1).1.trans e8
  have e16 := (o10 e 0 (g2).2.1).1.trans e9
  refine cl_G_pr rfl ⟨g13.1, k14⟩ rfl rfl rfl ?_
  have hP17 := cl_P_mR (p := e) (k := 1) (v := (some e10x)) hP10 (by simp)
  generalize w18 : cl_u R10 e 1 (some e10x) = R19 at hP17 ⊢
  have e20 : R19 e 5 = none := by rw [← w18, cl_u_ne _ _ (fun z => absurd z.2 (by decide))]; exact e15
  have e21 : R19 e 0 = some e1x := by rw [← w18, cl_u_ne _ _ (fun z => absurd z.2 (by decide))]; exact e16
  have e22 : R19 e 1 = some e10x := by rw [← w18, cl_u_eq]
  refine yi_G_run 2 (23, [(0, .inr (.inr (some e)))], [.inl 24, .inr (.inr (some e))], (I10, L10, R19, Y10), 0 + 1 + 1, 0 + (12 : Int).toNat + (5 : Int).toNat) (fun _ => rfl) ?_
  refine cl_G_mka rfl hP17 (by decide) (by decide) (by decide) (fun e23x I23 L23 R23 Y23 ee23 hP23 x23 t23 n23 o23 => ?_)
  have t24 := cl_T_x t11 x23
  have n25 := (cl_T_n t11 x23).trans n12
  have t26 := cl_T_x t10 x23
  have n27 := (cl_T_n t10 x23).trans n10
  have g28 : 10 ≤ e ∧ e < _ ∧ 108 < e := ⟨g13.1, Nat.lt_of_lt_of_le g13.2.1 (x23).1, g13.2.2⟩
  have k29 := ((x23).2 e g13.2.1).1.trans k14
  have e30 := (o23 e 5 (g13).2.1).1.trans e20
  have e31 := (o23 e 0 (g13).2.1).1.trans e21
  have e32 := (o23 e 1 (g13).2.1).1.trans e22
  refine cl_G_pr rfl ⟨g28.1, k29⟩ rfl rfl rfl ?_
  have hP33 := cl_P_mR (p := e) (k := 2) (v := (some e23x)) hP23 (by simp)
  generalize w34 : cl_u R23 e 2 (some e23x) = R35 at hP33 ⊢
  have e36 : R35 e 5 = none := by rw [← w34, cl_u_ne _ _ (fun z => absurd z.2 (by decide))]; exact e30
  have e37 : R35 e 0 = some e1x := by rw [← w34, cl_u_ne _ _ (fun z => absurd z.2 (by decide))]; exact e31
  have e38 : R35 e 1 = some e10x := by rw [← w34, cl_u_ne _ _ (fun z => absurd z.2 (by decide))]; exact e32
  have e39 : R35 e 2 = some e23x := by rw [← w34, cl_u_eq]
  refine yi_G_run 2 (31, [(0, .inr (.inr (some e)))], [.inl 20, .inr (.inr (some e))], (I23, L23, R35, Y23), 0 + 1 + 1 + 1, 0 + (12 : Int).toNat + (5 : Int).toNat + (24 : Int).toNat) (fun _ => rfl) ?_
  refine cl_G_mka rfl hP33 (by decide) (by decide) (by decide) (fun e40x I40 L40 R40 Y40 ee40 hP40 x40 t40 n40 o40 => ?_)
  have t41 := cl_T_x t24 x40
  have n42 := (cl_T_n t24 x40).trans n25
  have t43 := cl_T_x t26 x40
  have n44 := (cl_T_n t26 x40).trans n27
  have t45 := cl_T_x t23 x40
  have n46 := (cl_T_n t23 x40).trans n23
  have g47 : 10 ≤ e ∧ e < _ ∧ 108 < e := ⟨g28.1, Nat.lt_of_lt_of_le g28.2.1 (x40).1, g28.2.2⟩
  have k48 := ((x40).2 e g28.2.1).1.trans k29
  have e49 := (o40 e 5 (g28).2.1).1.trans e36
  have e50 := (o40 e 0 (g28).2.1).1.trans e37
  have e51 := (o40 e 1 (g28).2.1).1.trans e38
  have e52 := (o40 e 2 (g28).2.1).1.trans e39
  refine cl_G_pr rfl ⟨g47.1, k48⟩ rfl rfl rfl ?_
  have hP53 := cl_P_mR (p := e) (k := 3) (v := (some e40x)) hP40 (by simp)
  generalize w54 : cl_u R40 e 3 (some e40x) = R55 at hP53 ⊢
  have e56 : R55 e 5 = none := by rw [← w54, cl_u_ne _ _ (fun z => absurd z.2 (by decide))]; exact e49
  have e57 : R55 e 0 = some e1x := by rw [← w54, cl_u_ne _ _ (fun z => absurd z.2 (by decide))]; exact e50
  have e58 : R55 e 1 = some e10x := by rw [← w54, cl_u_ne _ _ (fun z => absurd z.2 (by decide))]; exact e51
  have e59 : R55 e 2 = some e23x := by rw [← w54, cl_u_ne _ _ (fun z => absurd z.2 (by decide))]; exact e52
  have e60 : R55 e 3 = some e40x := by rw [← w54, cl_u_eq]
  refine yi_G_run 2 (39, [(0, .inr (.inr (some e)))], [.inl 20, .inr (.inr (some e))], (I40, L40, R55, Y40), 0 + 1 + 1 + 1 + 1, 0 + (12 : Int).toNat + (5 : Int).toNat + (24 : Int).toNat + (20 : Int).toNat) (fun _ => rfl) ?_
  refine cl_G_mka rfl hP53 (by decide) (by decide) (by decide) (fun e61x I61 L61 R61 Y61 ee61 hP61 x61 t61 n61 o61 => ?_)
  have t62 := cl_T_x t41 x61
  have n63 := (cl_T_n t41 x61).trans n42
  have t64 := cl_T_x t43 x61
  have n65 := (cl_T_n t43 x61).trans n44
  have t66 := cl_T_x t45 x61
  have n67 := (cl_T_n t45 x61).trans n46
  have t68 := cl_T_x t40 x61
  have n69 := (cl_T_n t40 x61).trans n40
  have g70 : 10 ≤ e ∧ e < _ ∧ 108 < e := ⟨g47.1, Nat.lt_of_lt_of_le g47.2.1 (x61).1, g47.2.2⟩
  have k71 := ((x61).2 e g47.2.1).1.trans k48
  have e72 := (o61 e 5 (g47).2.1).1.trans e56
  have e73 := (o61 e 0 (g47).2.1).1.trans e57
  have e74 := (o61 e 1 (g47).2.1).1.trans e58
  have e75 := (o61 e 2 (g47).2.1).1.trans e59
  have e76 := (o61 e 3 (g47).2.1).1.trans e60
  refine cl_G_pr rfl ⟨g70.1, k71⟩ rfl rfl rfl ?_
  have hP77 := cl_P_mR (p := e) (k := 4) (v := (some e61x)) hP61 (by simp)
  generalize w78 : cl_u R61 e 4 (some e61x) = R79 at hP77 ⊢
  have e80 : R79 e 5 = none := by rw [← w78, cl_u_ne _ _ (fun z => absurd z.2 (by decide))]; exact e72
  have e81 : R79 e 0 = some e1x := by rw [← w78, cl_u_ne _ _ (fun z => absurd z.2 (by decide))]; exact e73
  have e82 : R79 e 1 = some e10x := by rw [← w78, cl_u_ne _ _ (fun z => absurd z.2 (by decide))]; exact e74
  have e83 : R79 e 2 = some e23x := by rw [← w78, cl_u_ne _ _ (fun z => absurd z.2 (by decide))]; exact e75
  have e84 : R79 e 3 = some e40x := by rw [← w78, cl_u_ne _ _ (fun z => absurd z.2 (by decide))]; exact e76
  have e85 : R79 e 4 = some e61x := by rw [← w78, cl_u_eq]
  refine yi_G_run 2 (46, [(0, .inr (.inr (some e)))], [.inl 1, .inr (.inr (some e))], (I61, L61, R79, Y61), 0 + 1 + 1 + 1 + 1 + 1, 0 + (12 : Int).toNat + (5 : Int).toNat + (24 : Int).toNat + (20 : Int).toNat + (20 : Int).toNat) (fun _ => rfl) ?_
  refine cl_G_pi rfl ⟨g70.1, k71⟩ rfl rfl rfl ?_
  have hP86 := cl_P_mI (p := e) (k := 7) (v := 1) hP77 (by simp)
  generalize w87 : yi_u I61 e 7 1 = I88 at hP86 ⊢
  refine yi_G_run 1 (50, [(0, .inr (.inr (some e)))], [.inr (.inr (some e))], (I88, L61, R79, Y61), 0 + 1 + 1 + 1 + 1 + 1, 0 + (12 : Int).toNat + (5 : Int).toNat + (24 : Int).toNat + (20 : Int).toNat + (20 : Int).toNat) (fun _ => rfl) ?_
  refine cl_G_gr rfl ⟨g70.1, k71⟩ rfl rfl rfl e83 ?_
  refine yi_G_run 1 (54, [(0, .inr (.inr (some e)))], [.inl (-1), .inr (.inr (some e23x))], (I88, L61, R79, Y61), 0 + 1 + 1 + 1 + 1 + 1, 0 + (12 : Int).toNat + (5 : Int).toNat + (24 : Int).toNat + (20 : Int).toNat + (20 : Int).toNat) (fun _ => rfl) ?_
  refine yi_G_calls rfl rfl (k_fillI d (by omega) hP86.1 t66 ) ?_
  rintro _ ⟨I89, rfl, hQ89, x89a⟩
  have hP89 := cl_P_t hP86 hQ89
  show yi_G zi_Ms d zi_m274 (57, [(0, .inr (.inr (some e)))], [], (I89, L61, R79, Y61), 0 + 1 + 1 + 1 + 1 + 1, 0 + (12 : Int).toNat + (5 : Int).toNat + (24 : Int).toNat + (20 : Int).toNat + (20 : Int).toNat) _
  have r90 : I89 e 6 = I e 6 := by rw [x89a e 6 (fun z => t66.2.2.2.1 (by rw [← z]; simp)), ← w87, yi_u_ne _ _ (fun z => absurd z.2 (by decide)), (o61 e 6 (g47).2.1).2, (o40 e 6 (g28).2.1).2, (o23 e 6 (g13).2.1).2, (o10 e 6 (g2).2.1).2, (o1 e 6 (ge).2.1).2]
  have z91 := ez 6
  have ib6 : 0 ≤ I89 e 6 ∧ I89 e 6 ≤ 12 := by omega
  have r92 : I89 e 8 = I e 8 := by rw [x89a e 8 (fun z => t66.2.2.2.1 (by rw [← z]; simp)), ← w87, yi_u_ne _ _ (fun z => absurd z.2 (by decide)), (o61 e 8 (g47).2.1).2, (o40 e 8 (g28).2.1).2, (o23 e 8 (g13).2.1).2, (o10 e 8 (g2).2.1).2, (o1 e 8 (ge).2.1).2]
  have z93 := ez 8
  have ib8 : 0 ≤ I89 e 8 ∧ I89 e 8 ≤ 20 := by omega
  exact yi_G_retv rfl rfl (⟨_, _, _, _, _, _, rfl, ⟨cl_C_d hP89.1 em ⟨g70.1, g70.2.1, Or.inr g70.2.2, k71⟩ (by decide) (fun k b hb => match k, hb with | 0, hb => by cases hb | 1, hb => by cases hb | 2, hb => by cases hb | 3, hb => by cases hb | 4, hb => by cases hb | 5, hb => by cases hb | 6, hb => by cases hb; exact ib6 | 7, hb => by cases hb | 8, hb => by cases hb; exact ib8 | (_ + 9), hb => by cases hb) (fun k q hq => match k, hq with | 0, hq => by cases hq; exact Or.inr ⟨e1x, e81, cl_T_d t62, Or.inr n63⟩ | 1, hq => by cases hq; exact Or.inr ⟨e10x, e82, cl_T_d t64, Or.inr n65⟩ | 2, hq => by cases hq; exact Or.inr ⟨e23x, e83, cl_T_d t66, Or.inr n67⟩ | 3, hq => by cases hq; exact Or.inr ⟨e40x, e84, cl_T_d t68, Or.inr n69⟩ | 4, hq => by cases hq; exact Or.inr ⟨e61x, e85, cl_T_d t61, Or.inr n61⟩ | 5, hq => by cases hq; exact Or.inl ⟨e80, rfl⟩ | (_ + 6), hq => by cases hq), hP89.2⟩, by omega, by omega, ⟨g70.1, g70.2.1, Or.inr g70.2.2, em, k71⟩, (fun q k hq hn => by have b0 := hP.2.1.1; have b1 := hP17.2.1.1; have b2 := hP33.2.1.1; have b3 := hP5.2.1.1; have b4 := hP53.2.1.1; exact ⟨by rw [x89a q k (by intro z; omega), ← w87, yi_u_ne _ _ (fun z => hn z.1), (o61 q k (Nat.lt_of_lt_of_le hq hP53.2.1.1)).2, (o40 q k (Nat.lt_of_lt_of_le hq hP33.2.1.1)).2, (o23 q k (Nat.lt_of_lt_of_le hq hP17.2.1.1)).2, (o10 q k (Nat.lt_of_lt_of_le hq hP5.2.1.1)).2, (o1 q k (Nat.lt_of_lt_of_le hq hP.2.1.1)).2], by rw [← w78, cl_u_ne _ _ (fun z => hn z.1), (o61 q k (Nat.lt_of_lt_of_le hq hP53.2.1.1)).1, ← w54, cl_u_ne _ _ (fun z => hn z.1), (o40 q k (Nat.lt_of_lt_of_le hq hP33.2.1.1)).1, ← w34, cl_u_ne _ _ (fun z => hn z.1), (o23 q k (Nat.lt_of_lt_of_le hq hP17.2.1.1)).1, ← w18, cl_u_ne _ _ (fun z => hn z.1), (o10 q k (Nat.lt_of_lt_of_le hq hP5.2.1.1)).1, ← w6, cl_u_ne _ _ (fun z => hn z.1), (o1 q k (Nat.lt_of_lt_of_le hq hP.2.1.1)).1]⟩)⟩)
theorem k_Saying0 (D : Nat) (hD : 1 ≤ D) {E : List Nat} {e : Nat} {I L : cl_I} {R : cl_Rr} {Y : cl_Y} (hC : cl_C (e :: E) I L R Y) (ge : 10 ≤ e ∧ e < Y.2.2 ∧ 108 < e) (ke : Y.1 e = 10) (em : e ∉ E) (ez : ∀ k, I e k = 0) (ey : ∀ k, R e k = none) {x : Int} {y : Int} {w : Int} {u : Nat} (tu : cl_T (e :: E) Y u 5) : yi_E zi_Ms D 273 [.inr (.inr (some e)), .inl x, .inl y, .inl w, .inr (.inr (some u))] (I, L, R, Y) (fun r => ∃ I', ∃ L', ∃ R', ∃ Y', ∃ nc ns, r = (none, (I', L', R', Y'), nc, ns) ∧ cl_P E I L R Y I' L' R' Y' ∧ nc ≤ 0 ∧ ns ≤ 0 ∧ cl_T E Y' e 10 ∧ (∀ q k, q < Y.2.2 → q ≠ e → I' q k = I q k ∧ R' q k = R q k)) := by
  obtain ⟨d, rfl⟩ : ∃ d, D = d + 1 := ⟨D - 1, by omega⟩
  refine yi_E_of (M := zi_m273) rfl rfl ?_
  have hP : cl_P (e :: E) I L R Y I L R Y := cl_P_r hC
  show yi_G zi_Ms d zi_m273 (0, [(0, .inr (.inr (some e))), (1, .inl x), (2, .inl y), (3, .inl w), (4, .inr (.inr (some u)))], [], (I, L, R, Y), 0, 0) _
  refine yi_G_run 1 (1, [(0, .inr (.inr (some e))), (1, .inl x), (2, .inl y), (3, .inl w), (4, .inr (.inr (some u)))], [.inr (.inr (some e))], (I, L, R, Y), 0, 0) (fun _ => rfl) ?_
  refine cl_G_obj rfl rfl ?_
  refine yi_G_run 2 (6, [(0, .inr (.inr (some e))), (1, .inl x), (2, .inl y), (3, .inl w), (4, .inr (.inr (some u)))], [.inl x, .inr (.inr (some e))], (I, L, R, Y), 0, 0) (fun _ => rfl) ?_
  refine cl_G_pi rfl ⟨ge.1, ke⟩ rfl rfl rfl ?_
  have hP1 := cl_P_mI (p := e) (k := 0) (v := x) hP (by simp)
  generalize w2 : yi_u I e 0 x = I3 at hP1 ⊢
  refine yi_G_run 2 (11, [(0, .inr (.inr (some e))), (1, .inl x), (2, .inl y), (3, .inl w), (4, .inr (.inr (some u)))], [.inl y, .inr (.inr (some e))], (I3, L, R, Y), 0, 0) (fun _ => rfl) ?_
  refine cl_G_pi rfl ⟨ge.1, ke⟩ rfl rfl rfl ?_
  have hP4 := cl_P_mI (p := e) (k := 1) (v := y) hP1 (by simp)
  generalize w5 : yi_u I3 e 1 y = I6 at hP4 ⊢
  refine yi_G_run 2 (16, [(0, .inr (.inr (some e))), (1, .inl x), (2, .inl y), (3, .inl w), (4, .inr (.inr (some u)))], [.inl w, .inr (.inr (some e))], (I6, L, R, Y), 0, 0) (fun _ => rfl) ?_
  refine cl_G_pi rfl ⟨ge.1, ke⟩ rfl rfl rfl ?_
  have hP7 := cl_P_mI (p := e) (k := 2) (v := w) hP4 (by simp)
  generalize w8 : yi_u I6 e 2 w = I9 at hP7 ⊢
  refine yi_G_run 2 (22, [(0, .inr (.inr (some e))), (1, .inl x), (2, .inl y), (3, .inl w), (4, .inr (.inr (some u)))], [.inr (.inr (some u)), .inr (.inr (some e))], (I9, L, R, Y), 0, 0) (fun _ => rfl) ?_
  refine cl_G_pr rfl ⟨ge.1, ke⟩ rfl rfl rfl ?_
  have hP10 := cl_P_mR (p := e) (k := 3) (v := (some u)) hP7 (by simp)
  generalize w11 : cl_u R e 3 (some u) = R12 at hP10 ⊢
  have e13 : R12 e 3 = some u := by rw [← w11, cl_u_eq]
  exact yi_G_retv rfl rfl (⟨_, _, _, _, _, _, rfl, ⟨cl_C_d hP10.1 em ⟨ge.1, ge.2.1, Or.inr ge.2.2, ke⟩ (by decide) (fun k b hb => match k, hb with | 0, hb => by cases hb | (_ + 1), hb => by cases hb) (fun k q hq => match k, hq with | 0, hq => by cases hq | 1, hq => by cases hq | 2, hq => by cases hq | 3, hq => by cases hq; exact Or.inr ⟨u, e13, cl_T_d tu, Or.inl rfl⟩ | (_ + 4), hq => by cases hq), hP10.2⟩, by omega, by omega, ⟨ge.1, ge.2.1, Or.inr ge.2.2, em, ke⟩, (fun q k hq hn => by exact ⟨by rw [← w8, yi_u_ne _ _ (fun z => hn z.1), ← w5, yi_u_ne _ _ (fun z => hn z.1), ← w2, yi_u_ne _ _ (fun z => hn z.1)], by rw [← w11, cl_u_ne _ _ (fun z => hn z.1)]⟩)⟩)
theorem k_beginS (D : Nat) (hD : 3 ≤ D) {E : List Nat} {I L : cl_I} {R : cl_Rr} {Y : cl_Y} (hC : cl_C E I L R Y) {p : Nat} (tp : cl_T E Y p 9) {u : Nat} (tu : cl_T E Y u 3) : yi_E zi_Ms D 277 [.inr (.inr (some p)), .inr (.inr (some u))] (I, L, R, Y) (fun r => ∃ I', ∃ R', r = (none, (I', L, R', Y), 0, 0) ∧ cl_P E I L R Y I' L R' Y) := by
  obtain ⟨d, rfl⟩ : ∃ d, D = d + 1 := ⟨D - 1, by omega⟩
  refine yi_E_of (M := zi_m277) rfl rfl ?_
  have hP : cl_P E I L R Y I L R Y := cl_P_r hC
  show yi_G zi_Ms d zi_m277 (0, [(0, .inr (.inr (some p))), (1, .inr (.inr (some u)))], [], (I, L, R, Y), 0, 0) _
  refine yi_G_run 2 (2, [(0, .inr (.inr (some p))), (1, .inr (.inr (some u)))], [.inr (.inr none), .inr (.inr (some p))], (I, L, R, Y), 0, 0) (fun _ => rfl) ?_
  refine cl_G_pr rfl (cl_T_K tp) rfl rfl rfl ?_
  have hP1 := cl_P_uR (k := 5) (v := none) hP tp (by decide) (by decide) (cl_hrn rfl)
  generalize w2 : cl_u R p 5 none = R3 at hP1 ⊢
  have e4 : R3 p 5 = none := by rw [← w2, cl_u_eq]
  refine yi_G_run 2 (7, [(0, .inr (.inr (some p))), (1, .inr (.inr (some u)))], [.inl 0, .inr (.inr (some p))], (I, L, R3, Y), 0, 0) (fun _ => rfl) ?_
  refine cl_G_pi rfl (cl_T_K tp) rfl rfl rfl ?_
  have hP5 := cl_P_uI (k := 6) (v := 0) hP1 tp (by decide) (cl_hv rfl (by omega) (by omega))
  generalize w6 : yi_u I p 6 0 = I7 at hP5 ⊢
  refine yi_G_run 2 (12, [(0, .inr (.inr (some p))), (1, .inr (.inr (some u)))], [.inl 1, .inr (.inr (some p))], (I7, L, R3, Y), 0, 0) (fun _ => rfl) ?_
  refine cl_G_pi rfl (cl_T_K tp) rfl rfl rfl ?_
  have hP8 := cl_P_uI (k := 7) (v := 1) hP5 tp (by decide) (cl_hv0 rfl)
  generalize w9 : yi_u I7 p 7 1 = I10 at hP8 ⊢
  refine yi_G_run 2 (17, [(0, .inr (.inr (some p))), (1, .inr (.inr (some u)))], [.inl 0, .inr (.inr (some p))], (I10, L, R3, Y), 0, 0) (fun _ => rfl) ?_
  refine cl_G_pi rfl (cl_T_K tp) rfl rfl rfl ?_
  have hP11 := cl_P_uI (k := 8) (v := 0) hP8 tp (by decide) (cl_hv rfl (by omega) (by omega))
  generalize w12 : yi_u I10 p 8 0 = I13 at hP11 ⊢
  refine yi_G_run 1 (21, [(0, .inr (.inr (some p))), (1, .inr (.inr (some u)))], [.inr (.inr (some p))], (I13, L, R3, Y), 0, 0) (fun _ => rfl) ?_
  obtain ⟨q14, e15, t16, n17⟩ := cl_rn hP11.1 tp (k := 2) (m := 23) rfl
  refine cl_G_gr rfl (cl_T_K tp) rfl rfl rfl e15 ?_
  refine yi_G_run 1 (25, [(0, .inr (.inr (some p))), (1, .inr (.inr (some u)))], [.inl (-1), .inr (.inr (some q14))], (I13, L, R3, Y), 0, 0) (fun _ => rfl) ?_
  refine yi_G_calls rfl rfl (k_fillI d (by omega) hP11.1 t16 ) ?_
  rintro _ ⟨I18, rfl, hQ18, x18a⟩
  have hP18 := cl_P_t hP11 hQ18
  show yi_G zi_Ms d zi_m277 (28, [(0, .inr (.inr (some p))), (1, .inr (.inr (some u)))], [], (I18, L, R3, Y), 0, 0) _
  refine yi_G_run 2 (30, [(2, .inl 0), (0, .inr (.inr (some p))), (1, .inr (.inr (some u)))], [], (I18, L, R3, Y), 0, 0) (fun _ => rfl) ?_
  have pt30 : ∀ (m_ : Nat) (j : Int) (Ip30 : cl_I), (cl_P E I L R Y Ip30 L R3 Y) → (0 ≤ j ∧ j ≤ 5) → (5 - j).toNat = m_ → yi_G zi_Ms d zi_m277 (30, [(2, .inl j), (0, .inr (.inr (some p))), (1, .inr (.inr (some u)))], [], (Ip30, L, R3, Y), 0, 0) (fun r => ∃ I', ∃ R', r = (none, (I', L, R', Y), 0, 0) ∧ cl_P E I L R Y I' L R' Y) := by
    intro m30
    induction m30 using Nat.strongRecOn with
    | _ m30 ih30 =>
    intro j Ip30 hPp30 j0 hm30
    refine yi_G_run 2 (32, [(2, .inl j), (0, .inr (.inr (some p))), (1, .inr (.inr (some u)))], [.inr (.inr (some p)), .inl j], (Ip30, L, R3, Y), 0, 0) (fun _ => rfl) ?_
    obtain ⟨q19, e20, t21, n22⟩ := cl_rn hPp30.1 tp (k := 1) (m := 4) rfl
    refine cl_G_gr rfl (cl_T_K tp) rfl rfl rfl e20 ?_
    refine cl_G_len rfl t21 (by omega) ?_
    by_cases h23 : ((Y.2.1 q19 : Int)) ≤ j
    · refine yi_G_if2 true rfl (yi_ge_t h23) ?_
      exact yi_G_retv rfl rfl (⟨_, _, rfl, hPp30⟩)
    · refine yi_G_if2 false rfl (yi_ge_f h23) ?_
      refine yi_G_run 1 (40, [(2, .inl j), (0, .inr (.inr (some p))), (1, .inr (.inr (some u)))], [.inr (.inr (some p))], (Ip30, L, R3, Y), 0, 0) (fun _ => rfl) ?_
      refine cl_G_gr rfl (cl_T_K tp) rfl rfl rfl e20 ?_
      refine yi_G_run 3 (46, [(2, .inl j), (0, .inr (.inr (some p))), (1, .inr (.inr (some u)))], [.inl j, .inr (.inr (some u)), .inl j, .inr (.inr (some q19))], (Ip30, L, R3, Y), 0, 0) (fun _ => rfl) ?_
      refine yi_G_callv rfl rfl (cl_rcv tu rfl) rfl (k_purseOf d (by omega) hPp30.1 tu ) ?_
      rintro _ ⟨z24, rfl⟩
      show yi_G zi_Ms d zi_m277 (49, [(2, .inl j), (0, .inr (.inr (some p))), (1, .inr (.inr (some u)))], [.inl z24, .inl j, .inr (.inr (some q19))], (Ip30, L, R3, Y), 0, 0) _
      refine cl_G_iast rfl t21 (by omega) (by omega) ?_
      have hP25 := cl_P_uI (k := (j.toNat)) (v := z24) hPp30 t21 (by omega) (cl_hv0 rfl)
      generalize w26 : yi_u Ip30 q19 (j.toNat) z24 = I27 at hP25 ⊢
      refine yi_G_iinc [(2, .inl (j + 1)), (0, .inr (.inr (some p))), (1, .inr (.inr (some u)))] rfl rfl rfl (by rw [show yi_w (j + 1) = j + 1 from (yi_wn (by omega) (by omega)).trans (by omega)]; rfl) ?_
      refine yi_G_run 1 (30, [(2, .inl (j + 1)), (0, .inr (.inr (some p))), (1, .inr (.inr (some u)))], [], (I27, L, R3, Y), 0, 0) (fun _ => rfl) ?_
      exact ih30 _ (by omega) (j + 1) I27 hP25 (by omega) rfl
  exact pt30 _ 0 I18 hP18 (by omega) rfl
theorem k_copyS (D : Nat) (hD : 1 ≤ D) {E : List Nat} {I L : cl_I} {R : cl_Rr} {Y : cl_Y} (hC : cl_C E I L R Y) {p : Nat} (tp : cl_T E Y p 9) {u : Nat} (tu : cl_T E Y u 9) : yi_E zi_Ms D 280 [.inr (.inr (some p)), .inr (.inr (some u))] (I, L, R, Y) (fun r => ∃ I', ∃ R', r = (none, (I', L, R', Y), 0, 0) ∧ cl_P E I L R Y I' L R' Y) := by
  obtain ⟨d, rfl⟩ : ∃ d, D = d + 1 := ⟨D - 1, by omega⟩
  refine yi_E_of (M := zi_m280) rfl rfl ?_
  have hP : cl_P E I L R Y I L R Y := cl_P_r hC
  show yi_G zi_Ms d zi_m280 (0, [(0, .inr (.inr (some p))), (1, .inr (.inr (some u)))], [], (I, L, R, Y), 0, 0) _
  have pt8 : ∀ (Rp8 : cl_Rr), (cl_P E I L R Y I L Rp8 Y) → yi_G zi_Ms d zi_m280 (8, [(0, .inr (.inr (some p))), (1, .inr (.inr (some u)))], [], (I, L, Rp8, Y), 0, 0) (fun r => ∃ I', ∃ R', r = (none, (I', L, R', Y), 0, 0) ∧ cl_P E I L R Y I' L R' Y) := by
    intro Rp8 hPp8
    refine yi_G_run 2 (10, [(0, .inr (.inr (some p))), (1, .inr (.inr (some u)))], [.inr (.inr (some u)), .inr (.inr (some p))], (I, L, Rp8, Y), 0, 0) (fun _ => rfl) ?_
    have b1 := cl_rd hPp8.1 tu (k := 6) (lo := 0) (hi := 12) rfl
    refine cl_G_gi rfl (cl_T_K tu) rfl rfl rfl ?_
    refine cl_G_pi rfl (cl_T_K tp) rfl rfl rfl ?_
    have hP2 := cl_P_uI (k := 6) (v := I u 6) hPp8 tp (by decide) (cl_hv rfl (by omega) (by omega))
    generalize w3 : yi_u I p 6 (I u 6) = I4 at hP2 ⊢
    refine yi_G_run 2 (18, [(0, .inr (.inr (some p))), (1, .inr (.inr (some u)))], [.inr (.inr (some u)), .inr (.inr (some p))], (I4, L, Rp8, Y), 0, 0) (fun _ => rfl) ?_
    refine cl_G_gi rfl (cl_T_K tu) rfl rfl rfl ?_
    refine cl_G_pi rfl (cl_T_K tp) rfl rfl rfl ?_
    have hP5 := cl_P_uI (k := 7) (v := I4 u 7) hP2 tp (by decide) (cl_hv0 rfl)
    generalize w6 : yi_u I4 p 7 (I4 u 7) = I7 at hP5 ⊢
    refine yi_G_run 2 (26, [(0, .inr (.inr (some p))), (1, .inr (.inr (some u)))], [.inr (.inr (some u)), .inr (.inr (some p))], (I7, L, Rp8, Y), 0, 0) (fun _ => rfl) ?_
    have b8 := cl_rd hP5.1 tu (k := 8) (lo := 0) (hi := 20) rfl
    refine cl_G_gi rfl (cl_T_K tu) rfl rfl rfl ?_
    refine cl_G_pi rfl (cl_T_K tp) rfl rfl rfl ?_
    have hP9 := cl_P_uI (k := 8) (v := I7 u 8) hP5 tp (by decide) (cl_hv rfl (by omega) (by omega))
    generalize w10 : yi_u I7 p 8 (I7 u 8) = I11 at hP9 ⊢
    refine yi_G_run 2 (34, [(2, .inl 0), (0, .inr (.inr (some p))), (1, .inr (.inr (some u)))], [], (I11, L, Rp8, Y), 0, 0) (fun _ => rfl) ?_
    have pt34 : ∀ (m_ : Nat) (j : Int) (Rp34 : cl_Rr), (cl_P E I L R Y I11 L Rp34 Y) → (0 ≤ j ∧ j ≤ 12) → (12 - j).toNat = m_ → yi_G zi_Ms d zi_m280 (34, [(2, .inl j), (0, .inr (.inr (some p))), (1, .inr (.inr (some u)))], [], (I11, L, Rp34, Y), 0, 0) (fun r => ∃ I', ∃ R', r = (none, (I', L, R', Y), 0, 0) ∧ cl_P E I L R Y I' L R' Y) := by
      intro m34
      induction m34 using Nat.strongRecOn with
      | _ m34 ih34 =>
      intro j Rp34 hPp34 j0 hm34
      refine yi_G_run 2 (36, [(2, .inl j), (0, .inr (.inr (some p))), (1, .inr (.inr (some u)))], [.inr (.inr (some p)), .inl j], (I11, L, Rp34, Y), 0, 0) (fun _ => rfl) ?_
      obtain ⟨q12, e13, t14, n15⟩ := cl_rn hPp34.1 tp (k := 0) (m := 11) rfl
      refine cl_G_gr rfl (cl_T_K tp) rfl rfl rfl e13 ?_
      refine cl_G_len rfl t14 (by omega) ?_
      by_cases h16 : ((Y.2.1 q12 : Int)) ≤ j
      · refine yi_G_if2 true rfl (yi_ge_t h16) ?_
        refine yi_G_run 2 (63, [(2, .inl 0), (0, .inr (.inr (some p))), (1, .inr (.inr (some u)))], [], (I11, L, Rp34, Y), 0, 0) (fun _ => rfl) ?_
        have pt63 : ∀ (m_ : Nat) (j : Int) (Ip63 : cl_I), (cl_P E I L R Y Ip63 L Rp34 Y) → (0 ≤ j ∧ j ≤ 5) → (5 - j).toNat = m_ → yi_G zi_Ms d zi_m280 (63, [(2, .inl j), (0, .inr (.inr (some p))), (1, .inr (.inr (some u)))], [], (Ip63, L, Rp34, Y), 0, 0) (fun r => ∃ I', ∃ R', r = (none, (I', L, R', Y), 0, 0) ∧ cl_P E I L R Y I' L R' Y) := by
          intro m63
          induction m63 using Nat.strongRecOn with
          | _ m63 ih63 =>
          intro j Ip63 hPp63 j1 hm63
          refine yi_G_run 2 (65, [(2, .inl j), (0, .inr (.inr (some p))), (1, .inr (.inr (some u)))], [.inr (.inr (some p)), .inl j], (Ip63, L, Rp34, Y), 0, 0) (fun _ => rfl) ?_
          obtain ⟨q17, e18, t19, n20⟩ := cl_rn hPp63.1 tp (k := 1) (m := 4) rfl
          refine cl_G_gr rfl (cl_T_K tp) rfl rfl rfl e18 ?_
          refine cl_G_len rfl t19 (by omega) ?_
          by_cases h21 : ((Y.2.1 q17 : Int)) ≤ j
          · refine yi_G_if2 true rfl (yi_ge_t h21) ?_
            refine yi_G_run 2 (92, [(2, .inl 0), (0, .inr (.inr (some p))), (1, .inr (.inr (some u)))], [], (Ip63, L, Rp34, Y), 0, 0) (fun _ => rfl) ?_
            have pt92 : ∀ (m_ : Nat) (j : Int) (Ip92 : cl_I), (cl_P E I L R Y Ip92 L Rp34 Y) → (0 ≤ j ∧ j ≤ 24) → (24 - j).toNat = m_ → yi_G zi_Ms d zi_m280 (92, [(2, .inl j), (0, .inr (.inr (some p))), (1, .inr (.inr (some u)))], [], (Ip92, L, Rp34, Y), 0, 0) (fun r => ∃ I', ∃ R', r = (none, (I', L, R', Y), 0, 0) ∧ cl_P E I L R Y I' L R' Y) := by
              intro m92
              induction m92 using Nat.strongRecOn with
              | _ m92 ih92 =>
              intro j Ip92 hPp92 j2 hm92
              refine yi_G_run 2 (94, [(2, .inl j), (0, .inr (.inr (some p))), (1, .inr (.inr (some u)))], [.inr (.inr (some p)), .inl j], (Ip92, L, Rp34, Y), 0, 0) (fun _ => rfl) ?_
              obtain ⟨q22, e23, t24, n25⟩ := cl_rn hPp92.1 tp (k := 2) (m := 23) rfl
              refine cl_G_gr rfl (cl_T_K tp) rfl rfl rfl e23 ?_
              refine cl_G_len rfl t24 (by omega) ?_
              by_cases h26 : ((Y.2.1 q22 : Int)) ≤ j
              · refine yi_G_if2 true rfl (yi_ge_t h26) ?_
                refine yi_G_run 2 (121, [(2, .inl 0), (0, .inr (.inr (some p))), (1, .inr (.inr (some u)))], [], (Ip92, L, Rp34, Y), 0, 0) (fun _ => rfl) ?_
                have pt121 : ∀ (m_ : Nat) (j : Int) (Ip121 : cl_I), (cl_P E I L R Y Ip121 L Rp34 Y) → (0 ≤ j ∧ j ≤ 20) → (20 - j).toNat = m_ → yi_G zi_Ms d zi_m280 (121, [(2, .inl j), (0, .inr (.inr (some p))), (1, .inr (.inr (some u)))], [], (Ip121, L, Rp34, Y), 0, 0) (fun r => ∃ I', ∃ R', r = (none, (I', L, R', Y), 0, 0) ∧ cl_P E I L R Y I' L R' Y) := by
                  intro m121
                  induction m121 using Nat.strongRecOn with
                  | _ m121 ih121 =>
                  intro j Ip121 hPp121 j3 hm121
                  refine yi_G_run 2 (123, [(2, .inl j), (0, .inr (.inr (some p))), (1, .inr (.inr (some u)))], [.inr (.inr (some p)), .inl j], (Ip121, L, Rp34, Y), 0, 0) (fun _ => rfl) ?_
                  obtain ⟨q27, e28, t29, n30⟩ := cl_rn hPp121.1 tp (k := 3) (m := 19) rfl
                  refine cl_G_gr rfl (cl_T_K tp) rfl rfl rfl e28 ?_
                  refine cl_G_len rfl t29 (by omega) ?_
                  by_cases h31 : ((Y.2.1 q27 : Int)) ≤ j
                  · refine yi_G_if2 true rfl (yi_ge_t h31) ?_
                    exact yi_G_retv rfl rfl (⟨_, _, rfl, hPp121⟩)
                  · refine yi_G_if2 false rfl (yi_ge_f h31) ?_
                    refine yi_G_run 1 (131, [(2, .inl j), (0, .inr (.inr (some p))), (1, .inr (.inr (some u)))], [.inr (.inr (some p))], (Ip121, L, Rp34, Y), 0, 0) (fun _ => rfl) ?_
                    refine cl_G_gr rfl (cl_T_K tp) rfl rfl rfl e28 ?_
                    refine yi_G_run 2 (136, [(2, .inl j), (0, .inr (.inr (some p))), (1, .inr (.inr (some u)))], [.inr (.inr (some u)), .inl j, .inr (.inr (some q27))], (Ip121, L, Rp34, Y), 0, 0) (fun _ => rfl) ?_
                    obtain ⟨q32, e33, t34, n35⟩ := cl_rn hPp121.1 tu (k := 3) (m := 19) rfl
                    refine cl_G_gr rfl (cl_T_K tu) rfl rfl rfl e33 ?_
                    refine yi_G_run 1 (140, [(2, .inl j), (0, .inr (.inr (some p))), (1, .inr (.inr (some u)))], [.inl j, .inr (.inr (some q32)), .inl j, .inr (.inr (some q27))], (Ip121, L, Rp34, Y), 0, 0) (fun _ => rfl) ?_
                    refine cl_G_iald rfl t34 (by omega) (by omega) ?_
                    refine cl_G_iast rfl t29 (by omega) (by omega) ?_
                    have hP36 := cl_P_uI (k := (j.toNat)) (v := Ip121 q32 (j.toNat)) hPp121 t29 (by omega) (cl_hv0 rfl)
                    generalize w37 : yi_u Ip121 q27 (j.toNat) (Ip121 q32 (j.toNat)) = I38 at hP36 ⊢
                    refine yi_G_run 1 (143, [(2, .inl j), (0, .inr (.inr (some p))), (1, .inr (.inr (some u)))], [.inr (.inr (some p))], (I38, L, Rp34, Y), 0, 0) (fun _ => rfl) ?_
                    obtain ⟨q39, e40, t41, n42⟩ := cl_rn hP36.1 tp (k := 4) (m := 19) rfl
                    refine cl_G_gr rfl (cl_T_K tp) rfl rfl rfl e40 ?_
                    refine yi_G_run 2 (148, [(2, .inl j), (0, .inr (.inr (some p))), (1, .inr (.inr (some u)))], [.inr (.inr (some u)), .inl j, .inr (.inr (some q39))], (I38, L, Rp34, Y), 0, 0) (fun _ => rfl) ?_
                    obtain ⟨q43, e44, t45, n46⟩ := cl_rn hP36.1 tu (k := 4) (m := 19) rfl
                    refine cl_G_gr rfl (cl_T_K tu) rfl rfl rfl e44 ?_
                    refine yi_G_run 1 (152, [(2, .inl j), (0, .inr (.inr (some p))), (1, .inr (.inr (some u)))], [.inl j, .inr (.inr (some q43)), .inl j, .inr (.inr (some q39))], (I38, L, Rp34, Y), 0, 0) (fun _ => rfl) ?_
                    refine cl_G_iald rfl t45 (by omega) (by omega) ?_
                    refine cl_G_iast rfl t41 (by omega) (by omega) ?_
                    have hP47 := cl_P_uI (k := (j.toNat)) (v := I38 q43 (j.toNat)) hP36 t41 (by omega) (cl_hv0 rfl)
                    generalize w48 : yi_u I38 q39 (j.toNat) (I38 q43 (j.toNat)) = I49 at hP47 ⊢
                    refine yi_G_iinc [(2, .inl (j + 1)), (0, .inr (.inr (some p))), (1, .inr (.inr (some u)))] rfl rfl rfl (by rw [show yi_w (j + 1) = j + 1 from (yi_wn (by omega) (by omega)).trans (by omega)]; rfl) ?_
                    refine yi_G_run 1 (121, [(2, .inl (j + 1)), (0, .inr (.inr (some p))), (1, .inr (.inr (some u)))], [], (I49, L, Rp34, Y), 0, 0) (fun _ => rfl) ?_
                    exact ih121 _ (by omega) (j + 1) I49 hP47 (by omega) rfl
                exact pt121 _ 0 Ip92 hPp92 (by omega) rfl
              · refine yi_G_if2 false rfl (yi_ge_f h26) ?_
                refine yi_G_run 1 (102, [(2, .inl j), (0, .inr (.inr (some p))), (1, .inr (.inr (some u)))], [.inr (.inr (some p))], (Ip92, L, Rp34, Y), 0, 0) (fun _ => rfl) ?_
                refine cl_G_gr rfl (cl_T_K tp) rfl rfl rfl e23 ?_
                refine yi_G_run 2 (107, [(2, .inl j), (0, .inr (.inr (some p))), (1, .inr (.inr (some u)))], [.inr (.inr (some u)), .inl j, .inr (.inr (some q22))], (Ip92, L, Rp34, Y), 0, 0) (fun _ => rfl) ?_
                obtain ⟨q50, e51, t52, n53⟩ := cl_rn hPp92.1 tu (k := 2) (m := 23) rfl
                refine cl_G_gr rfl (cl_T_K tu) rfl rfl rfl e51 ?_
                refine yi_G_run 1 (111, [(2, .inl j), (0, .inr (.inr (some p))), (1, .inr (.inr (some u)))], [.inl j, .inr (.inr (some q50)), .inl j, .inr (.inr (some q22))], (Ip92, L, Rp34, Y), 0, 0) (fun _ => rfl) ?_
                refine cl_G_iald rfl t52 (by omega) (by omega) ?_
                refine cl_G_iast rfl t24 (by omega) (by omega) ?_
                have hP54 := cl_P_uI (k := (j.toNat)) (v := Ip92 q50 (j.toNat)) hPp92 t24 (by omega) (cl_hv0 rfl)
                generalize w55 : yi_u Ip92 q22 (j.toNat) (Ip92 q50 (j.toNat)) = I56 at hP54 ⊢
                refine yi_G_iinc [(2, .inl (j + 1)), (0, .inr (.inr (some p))), (1, .inr (.inr (some u)))] rfl rfl rfl (by rw [show yi_w (j + 1) = j + 1 from (yi_wn (by omega) (by omega)).trans (by omega)]; rfl) ?_
                refine yi_G_run 1 (92, [(2, .inl (j + 1)), (0, .inr (.inr (some p))), (1, .inr (.inr (some u)))], [], (I56, L, Rp34, Y), 0, 0) (fun _ => rfl) ?_
                exact ih92 _ (by omega) (j + 1) I56 hP54 (by omega) rfl
            exact pt92 _ 0 Ip63 hPp63 (by omega) rfl
          · refine yi_G_if2 false rfl (yi_ge_f h21) ?_
            refine yi_G_run 1 (73, [(2, .inl j), (0, .inr (.inr (some p))), (1, .inr (.inr (some u)))], [.inr (.inr (some p))], (Ip63, L, Rp34, Y), 0, 0) (fun _ => rfl) ?_
            refine cl_G_gr rfl (cl_T_K tp) rfl rfl rfl e18 ?_
            refine yi_G_run 2 (78, [(2, .inl j), (0, .inr (.inr (some p))), (1, .inr (.inr (some u)))], [.inr (.inr (some u)), .inl j, .inr (.inr (some q17))], (Ip63, L, Rp34, Y), 0, 0) (fun _ => rfl) ?_
            obtain ⟨q57, e58, t59, n60⟩ := cl_rn hPp63.1 tu (k := 1) (m := 4) rfl
            refine cl_G_gr rfl (cl_T_K tu) rfl rfl rfl e58 ?_
            refine yi_G_run 1 (82, [(2, .inl j), (0, .inr (.inr (some p))), (1, .inr (.inr (some u)))], [.inl j, .inr (.inr (some q57)), .inl j, .inr (.inr (some q17))], (Ip63, L, Rp34, Y), 0, 0) (fun _ => rfl) ?_
            refine cl_G_iald rfl t59 (by omega) (by omega) ?_
            refine cl_G_iast rfl t19 (by omega) (by omega) ?_
            have hP61 := cl_P_uI (k := (j.toNat)) (v := Ip63 q57 (j.toNat)) hPp63 t19 (by omega) (cl_hv0 rfl)
            generalize w62 : yi_u Ip63 q17 (j.toNat) (Ip63 q57 (j.toNat)) = I63 at hP61 ⊢
            refine yi_G_iinc [(2, .inl (j + 1)), (0, .inr (.inr (some p))), (1, .inr (.inr (some u)))] rfl rfl rfl (by rw [show yi_w (j + 1) = j + 1 from (yi_wn (by omega) (by omega)).trans (by omega)]; rfl) ?_
            refine yi_G_run 1 (63, [(2, .inl (j + 1)), (0, .inr (.inr (some p))), (1, .inr (.inr (some u)))], [], (I63, L, Rp34, Y), 0, 0) (fun _ => rfl) ?_
            exact ih63 _ (by omega) (j + 1) I63 hP61 (by omega) rfl
        exact pt63 _ 0 I11 hPp34 (by omega) rfl
      · refine yi_G_if2 false rfl (yi_ge_f h16) ?_
        refine yi_G_run 1 (44, [(2, .inl j), (0, .inr (.inr (some p))), (1, .inr (.inr (some u)))], [.inr (.inr (some p))], (I11, L, Rp34, Y), 0, 0) (fun _ => rfl) ?_
        refine cl_G_gr rfl (cl_T_K tp) rfl rfl rfl e13 ?_
        refine yi_G_run 2 (49, [(2, .inl j), (0, .inr (.inr (some p))), (1, .inr (.inr (some u)))], [.inr (.inr (some u)), .inl j, .inr (.inr (some q12))], (I11, L, Rp34, Y), 0, 0) (fun _ => rfl) ?_
        obtain ⟨q64, e65, t66, n67⟩ := cl_rn hPp34.1 tu (k := 0) (m := 11) rfl
        refine cl_G_gr rfl (cl_T_K tu) rfl rfl rfl e65 ?_
        refine yi_G_run 1 (53, [(2, .inl j), (0, .inr (.inr (some p))), (1, .inr (.inr (some u)))], [.inl j, .inr (.inr (some q64)), .inl j, .inr (.inr (some q12))], (I11, L, Rp34, Y), 0, 0) (fun _ => rfl) ?_
        rcases cl_ro hPp34.1 t66 (k := j.toNat) rfl with e69 | ⟨q68, e69, t70⟩
        · refine cl_G_aald rfl t66 (by omega) (by omega) (by omega) e69 ?_
          refine cl_G_aast rfl t14 (by omega) rfl (by omega) (by omega) (Or.inl rfl) ?_
          have hP71 := cl_P_uR (k := (j.toNat)) (v := none) hPp34 t14 (by omega) (by omega) (cl_hrn rfl)
          generalize w72 : cl_u Rp34 q12 (j.toNat) none = R73 at hP71 ⊢
          have e74 : R73 p 0 = some q12 := by rw [← w72, cl_u_ne _ _ (fun z => cl_ne tp t14 (by decide) z.1)]; exact e13
          have e75 : R73 u 0 = some q64 := by rw [← w72, cl_u_ne _ _ (fun z => cl_ne tu t14 (by decide) z.1)]; exact e65
          have e76 : R73 q12 (j.toNat) = none := by rw [← w72, cl_u_eq]
          refine yi_G_iinc [(2, .inl (j + 1)), (0, .inr (.inr (some p))), (1, .inr (.inr (some u)))] rfl rfl rfl (by rw [show yi_w (j + 1) = j + 1 from (yi_wn (by omega) (by omega)).trans (by omega)]; rfl) ?_
          refine yi_G_run 1 (34, [(2, .inl (j + 1)), (0, .inr (.inr (some p))), (1, .inr (.inr (some u)))], [], (I11, L, R73, Y), 0, 0) (fun _ => rfl) ?_
          exact ih34 _ (by omega) (j + 1) R73 hP71 (by omega) rfl
        · refine cl_G_aald rfl t66 (by omega) (by omega) (by omega) e69 ?_
          refine cl_G_aast rfl t14 (by omega) rfl (by omega) (by omega) (Or.inr ⟨_, rfl, t70⟩) ?_
          have hP77 := cl_P_uR (k := (j.toNat)) (v := (some q68)) hPp34 t14 (by omega) (by omega) (cl_hro rfl t70)
          generalize w78 : cl_u Rp34 q12 (j.toNat) (some q68) = R79 at hP77 ⊢
          have e80 : R79 p 0 = some q12 := by rw [← w78, cl_u_ne _ _ (fun z => cl_ne tp t14 (by decide) z.1)]; exact e13
          have e81 : R79 u 0 = some q64 := by rw [← w78, cl_u_ne _ _ (fun z => cl_ne tu t14 (by decide) z.1)]; exact e65
          have e82 : R79 q12 (j.toNat) = some q68 := by rw [← w78, cl_u_eq]
          refine yi_G_iinc [(2, .inl (j + 1)), (0, .inr (.inr (some p))), (1, .inr (.inr (some u)))] rfl rfl rfl (by rw [show yi_w (j + 1) = j + 1 from (yi_wn (by omega) (by omega)).trans (by omega)]; rfl) ?_
          refine yi_G_run 1 (34, [(2, .inl (j + 1)), (0, .inr (.inr (some p))), (1, .inr (.inr (some u)))], [], (I11, L, R79, Y), 0, 0) (fun _ => rfl) ?_
          exact ih34 _ (by omega) (j + 1) R79 hP77 (by omega) rfl
    exact pt34 _ 0 Rp8 hP9 (by omega) rfl
  refine yi_G_run 2 (2, [(0, .inr (.inr (some p))), (1, .inr (.inr (some u)))], [.inr (.inr (some u)), .inr (.inr (some p))], (I, L, R, Y), 0, 0) (fun _ => rfl) ?_
  rcases cl_ro hP.1 tu (k := 5) rfl with e84 | ⟨q83, e84, t85⟩
  · refine cl_G_gr rfl (cl_T_K tu) rfl rfl rfl e84 ?_
    refine cl_G_pr rfl (cl_T_K tp) rfl rfl rfl ?_
    have hP86 := cl_P_uR (k := 5) (v := none) hP tp (by decide) (by decide) (cl_hrn rfl)
    generalize w87 : cl_u R p 5 none = R88 at hP86 ⊢
    have e89 : R88 p 5 = none := by rw [← w87, cl_u_eq]
    exact pt8 R88 hP86
  · refine cl_G_gr rfl (cl_T_K tu) rfl rfl rfl e84 ?_
    refine cl_G_pr rfl (cl_T_K tp) rfl rfl rfl ?_
    have hP90 := cl_P_uR (k := 5) (v := (some q83)) hP tp (by decide) (by decide) (cl_hro rfl t85)
    generalize w91 : cl_u R p 5 (some q83) = R92 at hP90 ⊢
    have e93 : R92 p 5 = some q83 := by rw [← w91, cl_u_eq]
    exact pt8 R92 hP90
theorem k_addSaying (D : Nat) (hD : 1 ≤ D) {E : List Nat} {I L : cl_I} {R : cl_Rr} {Y : cl_Y} (hC : cl_C E I L R Y) {p : Nat} (tp : cl_T E Y p 9) {u : Nat} (tu : cl_T E Y u 10) : yi_E zi_Ms D 276 [.inr (.inr (some p)), .inr (.inr (some u))] (I, L, R, Y) (fun r => ∃ I', ∃ R', r = (none, (I', L, R', Y), 0, 0) ∧ cl_P E I L R Y I' L R' Y) := by
  obtain ⟨d, rfl⟩ : ∃ d, D = d + 1 := ⟨D - 1, by omega⟩
  refine yi_E_of (M := zi_m276) rfl rfl ?_
  have hP : cl_P E I L R Y I L R Y := cl_P_r hC
  show yi_G zi_Ms d zi_m276 (0, [(0, .inr (.inr (some p))), (1, .inr (.inr (some u)))], [], (I, L, R, Y), 0, 0) _
  refine yi_G_run 1 (1, [(0, .inr (.inr (some p))), (1, .inr (.inr (some u)))], [.inr (.inr (some p))], (I, L, R, Y), 0, 0) (fun _ => rfl) ?_
  have b1 := cl_rd hP.1 tp (k := 6) (lo := 0) (hi := 12) rfl
  refine cl_G_gi rfl (cl_T_K tp) rfl rfl rfl ?_
  refine yi_G_run 1 (5, [(0, .inr (.inr (some p))), (1, .inr (.inr (some u)))], [.inr (.inr (some p)), .inl (I p 6)], (I, L, R, Y), 0, 0) (fun _ => rfl) ?_
  obtain ⟨q2, e3, t4, n5⟩ := cl_rn hP.1 tp (k := 0) (m := 11) rfl
  refine cl_G_gr rfl (cl_T_K tp) rfl rfl rfl e3 ?_
  refine cl_G_len rfl t4 (by omega) ?_
  by_cases h6 : ((Y.2.1 q2 : Int)) ≤ (I p 6)
  · refine yi_G_if2 true rfl (yi_ge_t h6) ?_
    exact yi_G_retv rfl rfl (⟨_, _, rfl, hP⟩)
  · refine yi_G_if2 false rfl (yi_ge_f h6) ?_
    refine yi_G_run 1 (13, [(0, .inr (.inr (some p))), (1, .inr (.inr (some u)))], [.inr (.inr (some p))], (I, L, R, Y), 0, 0) (fun _ => rfl) ?_
    refine cl_G_gr rfl (cl_T_K tp) rfl rfl rfl e3 ?_
    refine yi_G_run 1 (17, [(0, .inr (.inr (some p))), (1, .inr (.inr (some u)))], [.inr (.inr (some p)), .inr (.inr (some q2))], (I, L, R, Y), 0, 0) (fun _ => rfl) ?_
    have b7 := cl_rd hP.1 tp (k := 6) (lo := 0) (hi := 12) rfl
    refine cl_G_gi rfl (cl_T_K tp) rfl rfl rfl ?_
    refine yi_G_run 1 (21, [(0, .inr (.inr (some p))), (1, .inr (.inr (some u)))], [.inr (.inr (some u)), .inl (I p 6), .inr (.inr (some q2))], (I, L, R, Y), 0, 0) (fun _ => rfl) ?_
    refine cl_G_aast rfl t4 (by omega) rfl (by omega) (by omega) (Or.inr ⟨_, rfl, tu⟩) ?_
    have hP8 := cl_P_uR (k := ((I p 6).toNat)) (v := (some u)) hP t4 (by omega) (by omega) (cl_hro rfl tu)
    generalize w9 : cl_u R q2 ((I p 6).toNat) (some u) = R10 at hP8 ⊢
    have e11 : R10 p 0 = some q2 := by rw [← w9, cl_u_ne _ _ (fun z => cl_ne tp t4 (by decide) z.1)]; exact e3
    have e12 : R10 q2 ((I p 6).toNat) = some u := by rw [← w9, cl_u_eq]
    refine yi_G_run 2 (24, [(0, .inr (.inr (some p))), (1, .inr (.inr (some u)))], [.inr (.inr (some p)), .inr (.inr (some p))], (I, L, R10, Y), 0, 0) (fun _ => rfl) ?_
    have b13 := cl_rd hP8.1 tp (k := 6) (lo := 0) (hi := 12) rfl
    refine cl_G_gi rfl (cl_T_K tp) rfl rfl rfl ?_
    refine yi_G_run 1 (28, [(0, .inr (.inr (some p))), (1, .inr (.inr (some u)))], [.inl 1, .inl (I p 6), .inr (.inr (some p))], (I, L, R10, Y), 0, 0) (fun _ => rfl) ?_
    refine yi_G_iadd rfl ((I p 6) + 1) (yi_wn (by omega) (by omega)) ?_
    refine cl_G_pi rfl (cl_T_K tp) rfl rfl rfl ?_
    have hP14 := cl_P_uI (k := 6) (v := (I p 6) + 1) hP8 tp (by decide) (cl_hv rfl (by omega) (by omega))
    generalize w15 : yi_u I p 6 ((I p 6) + 1) = I16 at hP14 ⊢
    exact yi_G_retv rfl rfl (⟨_, _, rfl, hP14⟩)
theorem k_removeSaying (D : Nat) (hD : 1 ≤ D) {E : List Nat} {I L : cl_I} {R : cl_Rr} {Y : cl_Y} (hC : cl_C E I L R Y) {p : Nat} (tp : cl_T E Y p 9) {x : Int} : yi_E zi_Ms D 286 [.inr (.inr (some p)), .inl x] (I, L, R, Y) (fun r => ∃ I', ∃ R', r = (none, (I', L, R', Y), 0, 0) ∧ cl_P E I L R Y I' L R' Y) := by
  obtain ⟨d, rfl⟩ : ∃ d, D = d + 1 := ⟨D - 1, by omega⟩
  refine yi_E_of (M := zi_m286) rfl rfl ?_
  have hP : cl_P E I L R Y I L R Y := cl_P_r hC
  show yi_G zi_Ms d zi_m286 (0, [(0, .inr (.inr (some p))), (1, .inl x)], [], (I, L, R, Y), 0, 0) _
  refine yi_G_run 1 (1, [(0, .inr (.inr (some p))), (1, .inl x)], [.inl x], (I, L, R, Y), 0, 0) (fun _ => rfl) ?_
  by_cases h1 : x < 0
  · refine yi_G_if1 true rfl (yi_lt_t h1) ?_
    exact yi_G_retv rfl rfl (⟨_, _, rfl, hP⟩)
  · refine yi_G_if1 false rfl (yi_lt_f h1) ?_
    refine yi_G_run 2 (6, [(0, .inr (.inr (some p))), (1, .inl x)], [.inr (.inr (some p)), .inl x], (I, L, R, Y), 0, 0) (fun _ => rfl) ?_
    have b2 := cl_rd hP.1 tp (k := 6) (lo := 0) (hi := 12) rfl
    refine cl_G_gi rfl (cl_T_K tp) rfl rfl rfl ?_
    by_cases h3 : (I p 6) ≤ x
    · refine yi_G_if2 true rfl (yi_ge_t h3) ?_
      exact yi_G_retv rfl rfl (⟨_, _, rfl, hP⟩)
    · refine yi_G_if2 false rfl (yi_ge_f h3) ?_
      refine yi_G_run 1 (13, [(0, .inr (.inr (some p))), (1, .inl x)], [.inr (.inr (some p))], (I, L, R, Y), 0, 0) (fun _ => rfl) ?_
      have b4 := cl_rd hP.1 tp (k := 6) (lo := 0) (hi := 12) rfl
      refine cl_G_gi rfl (cl_T_K tp) rfl rfl rfl ?_
      refine yi_G_run 1 (17, [(0, .inr (.inr (some p))), (1, .inl x)], [.inr (.inr (some p)), .inl (I p 6)], (I, L, R, Y), 0, 0) (fun _ => rfl) ?_
      obtain ⟨q5, e6, t7, n8⟩ := cl_rn hP.1 tp (k := 0) (m := 11) rfl
      refine cl_G_gr rfl (cl_T_K tp) rfl rfl rfl e6 ?_
      refine cl_G_len rfl t7 (by omega) ?_
      by_cases h9 : (I p 6) ≤ ((Y.2.1 q5 : Int))
      · refine yi_G_if2 true rfl (yi_le_t h9) ?_
        refine yi_G_run 2 (27, [(2, .inl x), (0, .inr (.inr (some p))), (1, .inl x)], [], (I, L, R, Y), 0, 0) (fun _ => rfl) ?_
        have pt27 : ∀ (m_ : Nat) (j : Int) (Rp27 : cl_Rr), (cl_P E I L R Y I L Rp27 Y) → (0 ≤ j ∧ j ≤ 12) → (12 - j).toNat = m_ → yi_G zi_Ms d zi_m286 (27, [(2, .inl j), (0, .inr (.inr (some p))), (1, .inl x)], [], (I, L, Rp27, Y), 0, 0) (fun r => ∃ I', ∃ R', r = (none, (I', L, R', Y), 0, 0) ∧ cl_P E I L R Y I' L R' Y) := by
          intro m27
          induction m27 using Nat.strongRecOn with
          | _ m27 ih27 =>
          intro j Rp27 hPp27 j0 hm27
          refine yi_G_run 2 (29, [(2, .inl j), (0, .inr (.inr (some p))), (1, .inl x)], [.inl 1, .inl j], (I, L, Rp27, Y), 0, 0) (fun _ => rfl) ?_
          refine yi_G_iadd rfl (j + 1) (yi_wn (by omega) (by omega)) ?_
          refine yi_G_run 1 (31, [(2, .inl j), (0, .inr (.inr (some p))), (1, .inl x)], [.inr (.inr (some p)), .inl (j + 1)], (I, L, Rp27, Y), 0, 0) (fun _ => rfl) ?_
          have b10 := cl_rd hPp27.1 tp (k := 6) (lo := 0) (hi := 12) rfl
          refine cl_G_gi rfl (cl_T_K tp) rfl rfl rfl ?_
          by_cases h11 : (I p 6) ≤ (j + 1)
          · refine yi_G_if2 true rfl (yi_ge_t h11) ?_
            refine yi_G_run 2 (59, [(2, .inl j), (0, .inr (.inr (some p))), (1, .inl x)], [.inr (.inr (some p)), .inr (.inr (some p))], (I, L, Rp27, Y), 0, 0) (fun _ => rfl) ?_
            have b12 := cl_rd hPp27.1 tp (k := 6) (lo := 0) (hi := 12) rfl
            refine cl_G_gi rfl (cl_T_K tp) rfl rfl rfl ?_
            refine yi_G_run 1 (63, [(2, .inl j), (0, .inr (.inr (some p))), (1, .inl x)], [.inl 1, .inl (I p 6), .inr (.inr (some p))], (I, L, Rp27, Y), 0, 0) (fun _ => rfl) ?_
            refine yi_G_isub rfl ((I p 6) - 1) (yi_wn (by omega) (by omega)) ?_
            refine cl_G_pi rfl (cl_T_K tp) rfl rfl rfl ?_
            have hP13 := cl_P_uI (k := 6) (v := (I p 6) - 1) hPp27 tp (by decide) (cl_hv rfl (by omega) (by omega))
            generalize w14 : yi_u I p 6 ((I p 6) - 1) = I15 at hP13 ⊢
            exact yi_G_retv rfl rfl (⟨_, _, rfl, hP13⟩)
          · refine yi_G_if2 false rfl (yi_ge_f h11) ?_
            refine yi_G_run 1 (38, [(2, .inl j), (0, .inr (.inr (some p))), (1, .inl x)], [.inr (.inr (some p))], (I, L, Rp27, Y), 0, 0) (fun _ => rfl) ?_
            obtain ⟨q16, e17, t18, n19⟩ := cl_rn hPp27.1 tp (k := 0) (m := 11) rfl
            refine cl_G_gr rfl (cl_T_K tp) rfl rfl rfl e17 ?_
            refine yi_G_run 2 (43, [(2, .inl j), (0, .inr (.inr (some p))), (1, .inl x)], [.inr (.inr (some p)), .inl j, .inr (.inr (some q16))], (I, L, Rp27, Y), 0, 0) (fun _ => rfl) ?_
            refine cl_G_gr rfl (cl_T_K tp) rfl rfl rfl e17 ?_
            refine yi_G_run 2 (48, [(2, .inl j), (0, .inr (.inr (some p))), (1, .inl x)], [.inl 1, .inl j, .inr (.inr (some q16)), .inl j, .inr (.inr (some q16))], (I, L, Rp27, Y), 0, 0) (fun _ => rfl) ?_
            refine yi_G_iadd rfl (j + 1) (yi_wn (by omega) (by omega)) ?_
            rcases cl_ro hPp27.1 t18 (k := (j + 1).toNat) rfl with e21 | ⟨q20, e21, t22⟩
            · refine cl_G_aald rfl t18 (by omega) (by omega) (by omega) e21 ?_
              refine cl_G_aast rfl t18 (by omega) rfl (by omega) (by omega) (Or.inl rfl) ?_
              have hP23 := cl_P_uR (k := (j.toNat)) (v := none) hPp27 t18 (by omega) (by omega) (cl_hrn rfl)
              generalize w24 : cl_u Rp27 q16 (j.toNat) none = R25 at hP23 ⊢
              have e26 : R25 p 0 = some q16 := by rw [← w24, cl_u_ne _ _ (fun z => cl_ne tp t18 (by decide) z.1)]; exact e17
              have e27 : R25 q16 (j.toNat) = none := by rw [← w24, cl_u_eq]
              refine yi_G_iinc [(2, .inl (j + 1)), (0, .inr (.inr (some p))), (1, .inl x)] rfl rfl rfl (by rw [show yi_w (j + 1) = j + 1 from (yi_wn (by omega) (by omega)).trans (by omega)]; rfl) ?_
              refine yi_G_run 1 (27, [(2, .inl (j + 1)), (0, .inr (.inr (some p))), (1, .inl x)], [], (I, L, R25, Y), 0, 0) (fun _ => rfl) ?_
              exact ih27 _ (by omega) (j + 1) R25 hP23 (by omega) rfl
            · refine cl_G_aald rfl t18 (by omega) (by omega) (by omega) e21 ?_
              refine cl_G_aast rfl t18 (by omega) rfl (by omega) (by omega) (Or.inr ⟨_, rfl, t22⟩) ?_
              have hP28 := cl_P_uR (k := (j.toNat)) (v := (some q20)) hPp27 t18 (by omega) (by omega) (cl_hro rfl t22)
              generalize w29 : cl_u Rp27 q16 (j.toNat) (some q20) = R30 at hP28 ⊢
              have e31 : R30 p 0 = some q16 := by rw [← w29, cl_u_ne _ _ (fun z => cl_ne tp t18 (by decide) z.1)]; exact e17
              have e32 : R30 q16 (j.toNat) = some q20 := by rw [← w29, cl_u_eq]
              refine yi_G_iinc [(2, .inl (j + 1)), (0, .inr (.inr (some p))), (1, .inl x)] rfl rfl rfl (by rw [show yi_w (j + 1) = j + 1 from (yi_wn (by omega) (by omega)).trans (by omega)]; rfl) ?_
              refine yi_G_run 1 (27, [(2, .inl (j + 1)), (0, .inr (.inr (some p))), (1, .inl x)], [], (I, L, R30, Y), 0, 0) (fun _ => rfl) ?_
              exact ih27 _ (by omega) (j + 1) R30 hP28 (by omega) rfl
        exact pt27 _ x R hP (by omega) rfl
      · refine yi_G_if2 false rfl (yi_le_f h9) ?_
        exact yi_G_retv rfl rfl (⟨_, _, rfl, hP⟩)
theorem k_sayingAt (D : Nat) (hD : 1 ≤ D) {E : List Nat} {I L : cl_I} {R : cl_Rr} {Y : cl_Y} (hC : cl_C E I L R Y) {p : Nat} (tp : cl_T E Y p 9) {x : Int} : yi_E zi_Ms D 287 [.inr (.inr (some p)), .inl x] (I, L, R, Y) (fun r => (∃ q, r = (some (.inr (.inr (some q))), (I, L, R, Y), 0, 0) ∧ cl_T E Y q 10) ∨ r = (some (.inr (.inr none)), (I, L, R, Y), 0, 0)) := by
  obtain ⟨d, rfl⟩ : ∃ d, D = d + 1 := ⟨D - 1, by omega⟩
  refine yi_E_of (M := zi_m287) rfl rfl ?_
  have hP : cl_P E I L R Y I L R Y := cl_P_r hC
  show yi_G zi_Ms d zi_m287 (0, [(0, .inr (.inr (some p))), (1, .inl x)], [], (I, L, R, Y), 0, 0) _
  refine yi_G_run 1 (1, [(0, .inr (.inr (some p))), (1, .inl x)], [.inl x], (I, L, R, Y), 0, 0) (fun _ => rfl) ?_
  by_cases h1 : x < 0
  · refine yi_G_if1 true rfl (yi_lt_t h1) ?_
    refine yi_G_run 1 (31, [(0, .inr (.inr (some p))), (1, .inl x)], [.inr (.inr none)], (I, L, R, Y), 0, 0) (fun _ => rfl) ?_
    exact cl_G_reta rfl rfl rfl (Or.inr rfl)
  · refine yi_G_if1 false rfl (yi_lt_f h1) ?_
    refine yi_G_run 2 (6, [(0, .inr (.inr (some p))), (1, .inl x)], [.inr (.inr (some p)), .inl x], (I, L, R, Y), 0, 0) (fun _ => rfl) ?_
    have b2 := cl_rd hP.1 tp (k := 6) (lo := 0) (hi := 12) rfl
    refine cl_G_gi rfl (cl_T_K tp) rfl rfl rfl ?_
    by_cases h3 : (I p 6) ≤ x
    · refine yi_G_if2 true rfl (yi_ge_t h3) ?_
      refine yi_G_run 1 (31, [(0, .inr (.inr (some p))), (1, .inl x)], [.inr (.inr none)], (I, L, R, Y), 0, 0) (fun _ => rfl) ?_
      exact cl_G_reta rfl rfl rfl (Or.inr rfl)
    · refine yi_G_if2 false rfl (yi_ge_f h3) ?_
      refine yi_G_run 2 (14, [(0, .inr (.inr (some p))), (1, .inl x)], [.inr (.inr (some p)), .inl x], (I, L, R, Y), 0, 0) (fun _ => rfl) ?_
      obtain ⟨q4, e5, t6, n7⟩ := cl_rn hP.1 tp (k := 0) (m := 11) rfl
      refine cl_G_gr rfl (cl_T_K tp) rfl rfl rfl e5 ?_
      refine cl_G_len rfl t6 (by omega) ?_
      by_cases h8 : ((Y.2.1 q4 : Int)) ≤ x
      · refine yi_G_if2 true rfl (yi_ge_t h8) ?_
        refine yi_G_run 1 (31, [(0, .inr (.inr (some p))), (1, .inl x)], [.inr (.inr none)], (I, L, R, Y), 0, 0) (fun _ => rfl) ?_
        exact cl_G_reta rfl rfl rfl (Or.inr rfl)
      · refine yi_G_if2 false rfl (yi_ge_f h8) ?_
        refine yi_G_run 1 (22, [(0, .inr (.inr (some p))), (1, .inl x)], [.inr (.inr (some p))], (I, L, R, Y), 0, 0) (fun _ => rfl) ?_
        refine cl_G_gr rfl (cl_T_K tp) rfl rfl rfl e5 ?_
        refine yi_G_run 1 (26, [(0, .inr (.inr (some p))), (1, .inl x)], [.inl x, .inr (.inr (some q4))], (I, L, R, Y), 0, 0) (fun _ => rfl) ?_
        rcases cl_ro hP.1 t6 (k := x.toNat) rfl with e10 | ⟨q9, e10, t11⟩
        · refine cl_G_aald rfl t6 (by omega) (by omega) (by omega) e10 ?_
          refine yi_G_run 1 (31, [(0, .inr (.inr (some p))), (1, .inl x)], [.inr (.inr none)], (I, L, R, Y), 0, 0) (fun _ => rfl) ?_
          exact cl_G_reta rfl rfl rfl (Or.inr rfl)
        · refine cl_G_aald rfl t6 (by omega) (by omega) (by omega) e10 ?_
          refine yi_G_run 1 (31, [(0, .inr (.inr (some p))), (1, .inl x)], [.inr (.inr (some q9))], (I, L, R, Y), 0, 0) (fun _ => rfl) ?_
          exact cl_G_reta rfl rfl rfl (Or.inl ⟨_, rfl, t11⟩)
theorem k_sayingsOf (D : Nat) (hD : 2 ≤ D) {E : List Nat} {I L : cl_I} {R : cl_Rr} {Y : cl_Y} (hC : cl_C E I L R Y) {p : Nat} (tp : cl_T E Y p 9) {x : Int} : yi_E zi_Ms D 288 [.inr (.inr (some p)), .inl x] (I, L, R, Y) (fun r => ∃ z, r = (some (.inl z), (I, L, R, Y), 0, 0)) := by
  obtain ⟨d, rfl⟩ : ∃ d, D = d + 1 := ⟨D - 1, by omega⟩
  refine yi_E_of (M := zi_m288) rfl rfl ?_
  have hP : cl_P E I L R Y I L R Y := cl_P_r hC
  show yi_G zi_Ms d zi_m288 (0, [(0, .inr (.inr (some p))), (1, .inl x)], [], (I, L, R, Y), 0, 0) _
  refine yi_G_run 4 (4, [(3, .inl 0), (2, .inl 0), (0, .inr (.inr (some p))), (1, .inl x)], [], (I, L, R, Y), 0, 0) (fun _ => rfl) ?_
  have pt4 : ∀ (m_ : Nat) (j : Int) (y : Int), (0 ≤ j ∧ j ≤ 12) → (12 - j).toNat = m_ → yi_G zi_Ms d zi_m288 (4, [(3, .inl j), (2, .inl y), (0, .inr (.inr (some p))), (1, .inl x)], [], (I, L, R, Y), 0, 0) (fun r => ∃ z, r = (some (.inl z), (I, L, R, Y), 0, 0)) := by
    intro m4
    induction m4 using Nat.strongRecOn with
    | _ m4 ih4 =>
    intro j y j0 hm4
    refine yi_G_run 2 (6, [(3, .inl j), (2, .inl y), (0, .inr (.inr (some p))), (1, .inl x)], [.inr (.inr (some p)), .inl j], (I, L, R, Y), 0, 0) (fun _ => rfl) ?_
    have b1 := cl_rd hP.1 tp (k := 6) (lo := 0) (hi := 12) rfl
    refine cl_G_gi rfl (cl_T_K tp) rfl rfl rfl ?_
    by_cases h2 : (I p 6) ≤ j
    · refine yi_G_if2 true rfl (yi_ge_t h2) ?_
      refine yi_G_run 1 (46, [(3, .inl j), (2, .inl y), (0, .inr (.inr (some p))), (1, .inl x)], [.inl y], (I, L, R, Y), 0, 0) (fun _ => rfl) ?_
      exact yi_G_reti rfl rfl (⟨_, rfl⟩)
    · refine yi_G_if2 false rfl (yi_ge_f h2) ?_
      refine yi_G_run 2 (14, [(3, .inl j), (2, .inl y), (0, .inr (.inr (some p))), (1, .inl x)], [.inl j, .inr (.inr (some p))], (I, L, R, Y), 0, 0) (fun _ => rfl) ?_
      refine yi_G_callv rfl rfl (cl_rcv tp rfl) rfl (k_sayingAt d (by omega) hP.1 tp ) ?_
      rintro _ (⟨q3, rfl, t3⟩ | rfl)
      · show yi_G zi_Ms d zi_m288 (17, [(3, .inl j), (2, .inl y), (0, .inr (.inr (some p))), (1, .inl x)], [.inr (.inr (some q3))], (I, L, R, Y), 0, 0) _
        refine yi_G_run 2 (21, [(4, .inr (.inr (some q3))), (3, .inl j), (2, .inl y), (0, .inr (.inr (some p))), (1, .inl x)], [.inr (.inr (some q3))], (I, L, R, Y), 0, 0) (fun _ => rfl) ?_
        refine cl_G_nul false rfl rfl ?_
        refine yi_G_run 1 (26, [(4, .inr (.inr (some q3))), (3, .inl j), (2, .inl y), (0, .inr (.inr (some p))), (1, .inl x)], [.inr (.inr (some q3))], (I, L, R, Y), 0, 0) (fun _ => rfl) ?_
        refine cl_G_gi rfl (cl_T_K t3) rfl rfl rfl ?_
        refine yi_G_run 1 (30, [(4, .inr (.inr (some q3))), (3, .inl j), (2, .inl y), (0, .inr (.inr (some p))), (1, .inl x)], [.inl x, .inl (I q3 0)], (I, L, R, Y), 0, 0) (fun _ => rfl) ?_
        by_cases h4 : (I q3 0) = x
        · refine yi_G_if2 false rfl (yi_ne_f h4) ?_
          refine yi_G_run 6 (39, [(2, .inl (yi_ior y (yi_shl 1 j))), (4, .inr (.inr (some q3))), (3, .inl j), (0, .inr (.inr (some p))), (1, .inl x)], [], (I, L, R, Y), 0, 0) (fun _ => rfl) ?_
          refine yi_G_iinc [(3, .inl (j + 1)), (2, .inl (yi_ior y (yi_shl 1 j))), (4, .inr (.inr (some q3))), (0, .inr (.inr (some p))), (1, .inl x)] rfl rfl rfl (by rw [show yi_w (j + 1) = j + 1 from (yi_wn (by omega) (by omega)).trans (by omega)]; rfl) ?_
          refine yi_G_run 1 (4, [(3, .inl (j + 1)), (2, .inl (yi_ior y (yi_shl 1 j))), (4, .inr (.inr (some q3))), (0, .inr (.inr (some p))), (1, .inl x)], [], (I, L, R, Y), 0, 0) (fun _ => rfl) ?_
          refine yi_G_al (al := [(3, .inl (j + 1)), (2, .inl (yi_ior y (yi_shl 1 j))), (0, .inr (.inr (some p))), (1, .inl x)]) (show ([3, 2, 0, 1] : List Nat).Nodup by decide) (show ([3, 2, 4, 0, 1] : List Nat).Nodup by decide) (yi_mc (List.mem_of_getElem? (i := 0) rfl) (yi_mc (List.mem_of_getElem? (i := 1) rfl) (yi_mc (List.mem_of_getElem? (i := 3) rfl) (yi_mc (List.mem_of_getElem? (i := 4) rfl) yi_mn)))) ?_
          exact ih4 _ (by omega) (j + 1) (yi_ior y (yi_shl 1 j)) (by omega) rfl
        · refine yi_G_if2 true rfl (yi_ne_t h4) ?_
          refine yi_G_iinc [(3, .inl (j + 1)), (4, .inr (.inr (some q3))), (2, .inl y), (0, .inr (.inr (some p))), (1, .inl x)] rfl rfl rfl (by rw [show yi_w (j + 1) = j + 1 from (yi_wn (by omega) (by omega)).trans (by omega)]; rfl) ?_
          refine yi_G_run 1 (4, [(3, .inl (j + 1)), (4, .inr (.inr (some q3))), (2, .inl y), (0, .inr (.inr (some p))), (1, .inl x)], [], (I, L, R, Y), 0, 0) (fun _ => rfl) ?_
          refine yi_G_al (al := [(3, .inl (j + 1)), (2, .inl y), (0, .inr (.inr (some p))), (1, .inl x)]) (show ([3, 2, 0, 1] : List Nat).Nodup by decide) (show ([3, 4, 2, 0, 1] : List Nat).Nodup by decide) (yi_mc (List.mem_of_getElem? (i := 0) rfl) (yi_mc (List.mem_of_getElem? (i := 2) rfl) (yi_mc (List.mem_of_getElem? (i := 3) rfl) (yi_mc (List.mem_of_getElem? (i := 4) rfl) yi_mn)))) ?_
          exact ih4 _ (by omega) (j + 1) y (by omega) rfl
      · show yi_G zi_Ms d zi_m288 (17, [(3, .inl j), (2, .inl y), (0, .inr (.inr (some p))), (1, .inl x)], [.inr (.inr none)], (I, L, R, Y), 0, 0) _
        refine yi_G_run 2 (21, [(4, .inr (.inr none)), (3, .inl j), (2, .inl y), (0, .inr (.inr (some p))), (1, .inl x)], [.inr (.inr none)], (I, L, R, Y), 0, 0) (fun _ => rfl) ?_
        refine cl_G_nul true rfl rfl ?_
        refine yi_G_iinc [(3, .inl (j + 1)), (4, .inr (.inr none)), (2, .inl y), (0, .inr (.inr (some p))), (1, .inl x)] rfl rfl rfl (by rw [show yi_w (j + 1) = j + 1 from (yi_wn (by omega) (by omega)).trans (by omega)]; rfl) ?_
        refine yi_G_run 1 (4, [(3, .inl (j + 1)), (4, .inr (.inr none)), (2, .inl y), (0, .inr (.inr (some p))), (1, .inl x)], [], (I, L, R, Y), 0, 0) (fun _ => rfl) ?_
        refine yi_G_al (al := [(3, .inl (j + 1)), (2, .inl y), (0, .inr (.inr (some p))), (1, .inl x)]) (show ([3, 2, 0, 1] : List Nat).Nodup by decide) (show ([3, 4, 2, 0, 1] : List Nat).Nodup by decide) (yi_mc (List.mem_of_getElem? (i := 0) rfl) (yi_mc (List.mem_of_getElem? (i := 2) rfl) (yi_mc (List.mem_of_getElem? (i := 3) rfl) (yi_mc (List.mem_of_getElem? (i := 4) rfl) yi_mn)))) ?_
        exact ih4 _ (by omega) (j + 1) y (by omega) rfl
  exact pt4 _ 0 0 (by omega) rfl
theorem k_pay (D : Nat) (hD : 1 ≤ D) {E : List Nat} {I L : cl_I} {R : cl_Rr} {Y : cl_Y} (hC : cl_C E I L R Y) {p : Nat} (tp : cl_T E Y p 9) {x : Int} {y : Int} : yi_E zi_Ms D 281 [.inr (.inr (some p)), .inl x, .inl y] (I, L, R, Y) (fun r => ∃ I', r = (none, (I', L, R, Y), 0, 0) ∧ cl_P E I L R Y I' L R Y) := by
  obtain ⟨d, rfl⟩ : ∃ d, D = d + 1 := ⟨D - 1, by omega⟩
  refine yi_E_of (M := zi_m281) rfl rfl ?_
  have hP : cl_P E I L R Y I L R Y := cl_P_r hC
  show yi_G zi_Ms d zi_m281 (0, [(0, .inr (.inr (some p))), (1, .inl x), (2, .inl y)], [], (I, L, R, Y), 0, 0) _
  refine yi_G_run 1 (1, [(0, .inr (.inr (some p))), (1, .inl x), (2, .inl y)], [.inl x], (I, L, R, Y), 0, 0) (fun _ => rfl) ?_
  by_cases h1 : x < 0
  · refine yi_G_if1 true rfl (yi_lt_t h1) ?_
    exact yi_G_retv rfl rfl (⟨_, rfl, hP⟩)
  · refine yi_G_if1 false rfl (yi_lt_f h1) ?_
    refine yi_G_run 2 (6, [(0, .inr (.inr (some p))), (1, .inl x), (2, .inl y)], [.inr (.inr (some p)), .inl x], (I, L, R, Y), 0, 0) (fun _ => rfl) ?_
    obtain ⟨q2, e3, t4, n5⟩ := cl_rn hP.1 tp (k := 1) (m := 4) rfl
    refine cl_G_gr rfl (cl_T_K tp) rfl rfl rfl e3 ?_
    refine cl_G_len rfl t4 (by omega) ?_
    by_cases h6 : ((Y.2.1 q2 : Int)) ≤ x
    · refine yi_G_if2 true rfl (yi_ge_t h6) ?_
      exact yi_G_retv rfl rfl (⟨_, rfl, hP⟩)
    · refine yi_G_if2 false rfl (yi_ge_f h6) ?_
      refine yi_G_run 1 (14, [(0, .inr (.inr (some p))), (1, .inl x), (2, .inl y)], [.inr (.inr (some p))], (I, L, R, Y), 0, 0) (fun _ => rfl) ?_
      refine cl_G_gr rfl (cl_T_K tp) rfl rfl rfl e3 ?_
      refine yi_G_run 2 (19, [(0, .inr (.inr (some p))), (1, .inl x), (2, .inl y)], [.inr (.inr (some p)), .inl x, .inr (.inr (some q2))], (I, L, R, Y), 0, 0) (fun _ => rfl) ?_
      refine cl_G_gr rfl (cl_T_K tp) rfl rfl rfl e3 ?_
      refine yi_G_run 1 (23, [(0, .inr (.inr (some p))), (1, .inl x), (2, .inl y)], [.inl x, .inr (.inr (some q2)), .inl x, .inr (.inr (some q2))], (I, L, R, Y), 0, 0) (fun _ => rfl) ?_
      refine cl_G_iald rfl t4 (by omega) (by omega) ?_
      refine yi_G_run 2 (26, [(0, .inr (.inr (some p))), (1, .inl x), (2, .inl y)], [.inl (yi_w ((I q2 (x.toNat)) + y)), .inl x, .inr (.inr (some q2))], (I, L, R, Y), 0, 0) (fun _ => rfl) ?_
      refine yi_G_ldc (99999) rfl (by decide +kernel) ?_
      refine cl_G_min rfl rfl cl_min ?_
      refine cl_G_iast rfl t4 (by omega) (by omega) ?_
      have hP7 := cl_P_uI (k := (x.toNat)) (v := min (yi_w ((I q2 (x.toNat)) + y)) 99999) hP t4 (by omega) (cl_hv0 rfl)
      generalize w8 : yi_u I q2 (x.toNat) (min (yi_w ((I q2 (x.toNat)) + y)) 99999) = I9 at hP7 ⊢
      exact yi_G_retv rfl rfl (⟨_, rfl, hP7⟩)
theorem k_purseOfS (D : Nat) (hD : 1 ≤ D) {E : List Nat} {I L : cl_I} {R : cl_Rr} {Y : cl_Y} (hC : cl_C E I L R Y) {p : Nat} (tp : cl_T E Y p 9) {x : Int} : yi_E zi_Ms D 285 [.inr (.inr (some p)), .inl x] (I, L, R, Y) (fun r => ∃ z, r = (some (.inl z), (I, L, R, Y), 0, 0)) := by
  obtain ⟨d, rfl⟩ : ∃ d, D = d + 1 := ⟨D - 1, by omega⟩
  refine yi_E_of (M := zi_m285) rfl rfl ?_
  have hP : cl_P E I L R Y I L R Y := cl_P_r hC
  show yi_G zi_Ms d zi_m285 (0, [(0, .inr (.inr (some p))), (1, .inl x)], [], (I, L, R, Y), 0, 0) _
  refine yi_G_run 1 (1, [(0, .inr (.inr (some p))), (1, .inl x)], [.inl x], (I, L, R, Y), 0, 0) (fun _ => rfl) ?_
  by_cases h1 : x < 0
  · refine yi_G_if1 true rfl (yi_lt_t h1) ?_
    refine yi_G_run 1 (23, [(0, .inr (.inr (some p))), (1, .inl x)], [.inl (-1)], (I, L, R, Y), 0, 0) (fun _ => rfl) ?_
    exact yi_G_reti rfl rfl (⟨_, rfl⟩)
  · refine yi_G_if1 false rfl (yi_lt_f h1) ?_
    refine yi_G_run 2 (6, [(0, .inr (.inr (some p))), (1, .inl x)], [.inr (.inr (some p)), .inl x], (I, L, R, Y), 0, 0) (fun _ => rfl) ?_
    obtain ⟨q2, e3, t4, n5⟩ := cl_rn hP.1 tp (k := 1) (m := 4) rfl
    refine cl_G_gr rfl (cl_T_K tp) rfl rfl rfl e3 ?_
    refine cl_G_len rfl t4 (by omega) ?_
    by_cases h6 : ((Y.2.1 q2 : Int)) ≤ x
    · refine yi_G_if2 true rfl (yi_ge_t h6) ?_
      refine yi_G_run 1 (23, [(0, .inr (.inr (some p))), (1, .inl x)], [.inl (-1)], (I, L, R, Y), 0, 0) (fun _ => rfl) ?_
      exact yi_G_reti rfl rfl (⟨_, rfl⟩)
    · refine yi_G_if2 false rfl (yi_ge_f h6) ?_
      refine yi_G_run 1 (14, [(0, .inr (.inr (some p))), (1, .inl x)], [.inr (.inr (some p))], (I, L, R, Y), 0, 0) (fun _ => rfl) ?_
      refine cl_G_gr rfl (cl_T_K tp) rfl rfl rfl e3 ?_
      refine yi_G_run 1 (18, [(0, .inr (.inr (some p))), (1, .inl x)], [.inl x, .inr (.inr (some q2))], (I, L, R, Y), 0, 0) (fun _ => rfl) ?_
      refine cl_G_iald rfl t4 (by omega) (by omega) ?_
      refine yi_G_run 1 (23, [(0, .inr (.inr (some p))), (1, .inl x)], [.inl (I q2 (x.toNat))], (I, L, R, Y), 0, 0) (fun _ => rfl) ?_
      exact yi_G_reti rfl rfl (⟨_, rfl⟩)
theorem k_cameIndex (D : Nat) (hD : 1 ≤ D) {E : List Nat} {I L : cl_I} {R : cl_Rr} {Y : cl_Y} (hC : cl_C E I L R Y) {x : Int} {y : Int} : yi_E zi_Ms D 278 [.inl x, .inl y] (I, L, R, Y) (fun r => ∃ z, r = (some (.inl z), (I, L, R, Y), 0, 0) ∧ (z = -1 ∨ (0 ≤ z ∧ z < 24))) := by
  obtain ⟨d, rfl⟩ : ∃ d, D = d + 1 := ⟨D - 1, by omega⟩
  refine yi_E_of (M := zi_m278) rfl rfl ?_
  have hP : cl_P E I L R Y I L R Y := cl_P_r hC
  show yi_G zi_Ms d zi_m278 (0, [(0, .inl x), (1, .inl y)], [], (I, L, R, Y), 0, 0) _
  refine yi_G_run 1 (1, [(0, .inl x), (1, .inl y)], [.inl x], (I, L, R, Y), 0, 0) (fun _ => rfl) ?_
  by_cases h1 : x < 0
  · refine yi_G_if1 true rfl (yi_lt_t h1) ?_
    refine yi_G_run 3 (27, [(2, .inl 0), (0, .inl x), (1, .inl y)], [.inl 0], (I, L, R, Y), 0, 0) (fun _ => rfl) ?_
    refine yi_G_if1 true rfl (by decide) ?_
    refine yi_G_run 1 (41, [(2, .inl 0), (0, .inl x), (1, .inl y)], [.inl (-1)], (I, L, R, Y), 0, 0) (fun _ => rfl) ?_
    exact yi_G_reti rfl rfl (⟨_, rfl, by omega⟩)
  · refine yi_G_if1 false rfl (yi_lt_f h1) ?_
    refine yi_G_run 2 (6, [(0, .inl x), (1, .inl y)], [.inl 4, .inl x], (I, L, R, Y), 0, 0) (fun _ => rfl) ?_
    by_cases h2 : 4 ≤ x
    · refine yi_G_if2 true rfl (yi_ge_t h2) ?_
      refine yi_G_run 3 (27, [(2, .inl 0), (0, .inl x), (1, .inl y)], [.inl 0], (I, L, R, Y), 0, 0) (fun _ => rfl) ?_
      refine yi_G_if1 true rfl (by decide) ?_
      refine yi_G_run 1 (41, [(2, .inl 0), (0, .inl x), (1, .inl y)], [.inl (-1)], (I, L, R, Y), 0, 0) (fun _ => rfl) ?_
      exact yi_G_reti rfl rfl (⟨_, rfl, by omega⟩)
    · refine yi_G_if2 false rfl (yi_ge_f h2) ?_
      refine yi_G_run 2 (11, [(0, .inl x), (1, .inl y)], [.inl 1, .inl y], (I, L, R, Y), 0, 0) (fun _ => rfl) ?_
      by_cases h3 : y < 1
      · refine yi_G_if2 true rfl (yi_lt_t h3) ?_
        refine yi_G_run 3 (27, [(2, .inl 0), (0, .inl x), (1, .inl y)], [.inl 0], (I, L, R, Y), 0, 0) (fun _ => rfl) ?_
        refine yi_G_if1 true rfl (by decide) ?_
        refine yi_G_run 1 (41, [(2, .inl 0), (0, .inl x), (1, .inl y)], [.inl (-1)], (I, L, R, Y), 0, 0) (fun _ => rfl) ?_
        exact yi_G_reti rfl rfl (⟨_, rfl, by omega⟩)
      · refine yi_G_if2 false rfl (yi_lt_f h3) ?_
        refine yi_G_run 2 (17, [(0, .inl x), (1, .inl y)], [.inl 6, .inl y], (I, L, R, Y), 0, 0) (fun _ => rfl) ?_
        by_cases h4 : 6 < y
        · refine yi_G_if2 true rfl (yi_gt_t h4) ?_
          refine yi_G_run 3 (27, [(2, .inl 0), (0, .inl x), (1, .inl y)], [.inl 0], (I, L, R, Y), 0, 0) (fun _ => rfl) ?_
          refine yi_G_if1 true rfl (by decide) ?_
          refine yi_G_run 1 (41, [(2, .inl 0), (0, .inl x), (1, .inl y)], [.inl (-1)], (I, L, R, Y), 0, 0) (fun _ => rfl) ?_
          exact yi_G_reti rfl rfl (⟨_, rfl, by omega⟩)
        · refine yi_G_if2 false rfl (yi_gt_f h4) ?_
          refine yi_G_run 4 (27, [(2, .inl 1), (0, .inl x), (1, .inl y)], [.inl 1], (I, L, R, Y), 0, 0) (fun _ => rfl) ?_
          refine yi_G_if1 false rfl (by decide) ?_
          refine yi_G_run 2 (32, [(2, .inl 1), (0, .inl x), (1, .inl y)], [.inl 1, .inl y], (I, L, R, Y), 0, 0) (fun _ => rfl) ?_
          refine yi_G_isub rfl (y - 1) (yi_wn (by omega) (by omega)) ?_
          refine yi_G_run 1 (34, [(2, .inl 1), (0, .inl x), (1, .inl y)], [.inl 4, .inl (y - 1)], (I, L, R, Y), 0, 0) (fun _ => rfl) ?_
          refine yi_G_imul rfl ((y - 1) * 4) (yi_wn (by omega) (by omega)) ?_
          refine yi_G_run 1 (36, [(2, .inl 1), (0, .inl x), (1, .inl y)], [.inl x, .inl ((y - 1) * 4)], (I, L, R, Y), 0, 0) (fun _ => rfl) ?_
          refine yi_G_iadd rfl (((y - 1) * 4) + x) (yi_wn (by omega) (by omega)) ?_
          refine yi_G_run 1 (41, [(2, .inl 1), (0, .inl x), (1, .inl y)], [.inl (((y - 1) * 4) + x)], (I, L, R, Y), 0, 0) (fun _ => rfl) ?_
          exact yi_G_reti rfl rfl (⟨_, rfl, by omega⟩)
theorem k_cameOf (D : Nat) (hD : 2 ≤ D) {E : List Nat} {I L : cl_I} {R : cl_Rr} {Y : cl_Y} (hC : cl_C E I L R Y) {p : Nat} (tp : cl_T E Y p 9) {x : Int} {y : Int} : yi_E zi_Ms D 279 [.inr (.inr (some p)), .inl x, .inl y] (I, L, R, Y) (fun r => ∃ z, r = (some (.inl z), (I, L, R, Y), 0, 0)) := by
  obtain ⟨d, rfl⟩ : ∃ d, D = d + 1 := ⟨D - 1, by omega⟩
  refine yi_E_of (M := zi_m279) rfl rfl ?_
  have hP : cl_P E I L R Y I L R Y := cl_P_r hC
  show yi_G zi_Ms d zi_m279 (0, [(0, .inr (.inr (some p))), (1, .inl x), (2, .inl y)], [], (I, L, R, Y), 0, 0) _
  refine yi_G_run 2 (2, [(0, .inr (.inr (some p))), (1, .inl x), (2, .inl y)], [.inl y, .inl x], (I, L, R, Y), 0, 0) (fun _ => rfl) ?_
  refine yi_G_calls rfl rfl (k_cameIndex d (by omega) hP.1  ) ?_
  rintro _ ⟨z1, rfl, x1a⟩
  show yi_G zi_Ms d zi_m279 (5, [(0, .inr (.inr (some p))), (1, .inl x), (2, .inl y)], [.inl z1], (I, L, R, Y), 0, 0) _
  refine yi_G_run 3 (8, [(3, .inl z1), (0, .inr (.inr (some p))), (1, .inl x), (2, .inl y)], [.inl (-1), .inl z1], (I, L, R, Y), 0, 0) (fun _ => rfl) ?_
  by_cases h2 : z1 = (-1)
  · refine yi_G_if2 false rfl (yi_ne_f h2) ?_
    refine yi_G_run 2 (21, [(3, .inl z1), (0, .inr (.inr (some p))), (1, .inl x), (2, .inl y)], [.inl (-1)], (I, L, R, Y), 0, 0) (fun _ => rfl) ?_
    exact yi_G_reti rfl rfl (⟨_, rfl⟩)
  · refine yi_G_if2 true rfl (yi_ne_t h2) ?_
    refine yi_G_run 1 (16, [(3, .inl z1), (0, .inr (.inr (some p))), (1, .inl x), (2, .inl y)], [.inr (.inr (some p))], (I, L, R, Y), 0, 0) (fun _ => rfl) ?_
    obtain ⟨q3, e4, t5, n6⟩ := cl_rn hP.1 tp (k := 2) (m := 23) rfl
    refine cl_G_gr rfl (cl_T_K tp) rfl rfl rfl e4 ?_
    refine yi_G_run 1 (20, [(3, .inl z1), (0, .inr (.inr (some p))), (1, .inl x), (2, .inl y)], [.inl z1, .inr (.inr (some q3))], (I, L, R, Y), 0, 0) (fun _ => rfl) ?_
    refine cl_G_iald rfl t5 (by omega) (by omega) ?_
    exact yi_G_reti rfl rfl (⟨_, rfl⟩)
theorem k_setCame (D : Nat) (hD : 3 ≤ D) {E : List Nat} {I L : cl_I} {R : cl_Rr} {Y : cl_Y} (hC : cl_C E I L R Y) {p : Nat} (tp : cl_T E Y p 9) {x : Int} {y : Int} {w : Int} (hw : w ≤ 4) : yi_E zi_Ms D 289 [.inr (.inr (some p)), .inl x, .inl y, .inl w] (I, L, R, Y) (fun r => ∃ I', r = (none, (I', L, R, Y), 0, 0) ∧ cl_P E I L R Y I' L R Y) := by
  obtain ⟨d, rfl⟩ : ∃ d, D = d + 1 := ⟨D - 1, by omega⟩
  refine yi_E_of (M := zi_m289) rfl rfl ?_
  have hP : cl_P E I L R Y I L R Y := cl_P_r hC
  show yi_G zi_Ms d zi_m289 (0, [(0, .inr (.inr (some p))), (1, .inl x), (2, .inl y), (3, .inl w)], [], (I, L, R, Y), 0, 0) _
  refine yi_G_run 2 (2, [(0, .inr (.inr (some p))), (1, .inl x), (2, .inl y), (3, .inl w)], [.inr (.inr (some p)), .inl x], (I, L, R, Y), 0, 0) (fun _ => rfl) ?_
  refine cl_G_gi rfl (cl_T_K tp) rfl rfl rfl ?_
  refine yi_G_calls rfl rfl (k_cameIndex d (by omega) hP.1  ) ?_
  rintro _ ⟨z1, rfl, x1a⟩
  show yi_G zi_Ms d zi_m289 (8, [(0, .inr (.inr (some p))), (1, .inl x), (2, .inl y), (3, .inl w)], [.inl z1], (I, L, R, Y), 0, 0) _
  refine yi_G_run 3 (13, [(4, .inl z1), (0, .inr (.inr (some p))), (1, .inl x), (2, .inl y), (3, .inl w)], [.inl (-1), .inl z1], (I, L, R, Y), 0, 0) (fun _ => rfl) ?_
  by_cases h2 : z1 = (-1)
  · refine yi_G_if2 false rfl (yi_ne_f h2) ?_
    exact yi_G_retv rfl rfl (⟨_, rfl, hP⟩)
  · refine yi_G_if2 true rfl (yi_ne_t h2) ?_
    refine yi_G_run 1 (18, [(4, .inl z1), (0, .inr (.inr (some p))), (1, .inl x), (2, .inl y), (3, .inl w)], [.inr (.inr (some p))], (I, L, R, Y), 0, 0) (fun _ => rfl) ?_
    obtain ⟨q3, e4, t5, n6⟩ := cl_rn hP.1 tp (k := 2) (m := 23) rfl
    refine cl_G_gr rfl (cl_T_K tp) rfl rfl rfl e4 ?_
    refine yi_G_run 2 (24, [(4, .inl z1), (0, .inr (.inr (some p))), (1, .inl x), (2, .inl y), (3, .inl w)], [.inl y, .inl z1, .inr (.inr (some q3))], (I, L, R, Y), 0, 0) (fun _ => rfl) ?_
    refine cl_G_iast rfl t5 (by omega) (by omega) ?_
    have hP7 := cl_P_uI (k := (z1.toNat)) (v := y) hP t5 (by omega) (cl_hv0 rfl)
    generalize w8 : yi_u I q3 (z1.toNat) y = I9 at hP7 ⊢
    refine yi_G_run 4 (31, [(6, .inl 0), (5, .inl 1), (4, .inl z1), (0, .inr (.inr (some p))), (1, .inl x), (2, .inl y), (3, .inl w)], [], (I9, L, R, Y), 0, 0) (fun _ => rfl) ?_
    have pt31 : ∀ (m_ : Nat) (j : Int) (al : Int), (0 ≤ j ∧ j ≤ 4) → (4 - j).toNat = m_ → yi_G zi_Ms d zi_m289 (31, [(6, .inl j), (5, .inl al), (4, .inl z1), (0, .inr (.inr (some p))), (1, .inl x), (2, .inl y), (3, .inl w)], [], (I9, L, R, Y), 0, 0) (fun r => ∃ I', r = (none, (I', L, R, Y), 0, 0) ∧ cl_P E I L R Y I' L R Y) := by
      intro m31
      induction m31 using Nat.strongRecOn with
      | _ m31 ih31 =>
      intro j al j0 hm31
      refine yi_G_run 2 (34, [(6, .inl j), (5, .inl al), (4, .inl z1), (0, .inr (.inr (some p))), (1, .inl x), (2, .inl y), (3, .inl w)], [.inl w, .inl j], (I9, L, R, Y), 0, 0) (fun _ => rfl) ?_
      by_cases h10 : w ≤ j
      · refine yi_G_if2 true rfl (yi_ge_t h10) ?_
        refine yi_G_run 1 (71, [(6, .inl j), (5, .inl al), (4, .inl z1), (0, .inr (.inr (some p))), (1, .inl x), (2, .inl y), (3, .inl w)], [.inl al], (I9, L, R, Y), 0, 0) (fun _ => rfl) ?_
        by_cases h11 : al = 0
        · refine yi_G_if1 true rfl (yi_eq_t h11) ?_
          exact yi_G_retv rfl rfl (⟨_, rfl, hP7⟩)
        · refine yi_G_if1 false rfl (yi_eq_f h11) ?_
          refine yi_G_run 2 (76, [(6, .inl j), (5, .inl al), (4, .inl z1), (0, .inr (.inr (some p))), (1, .inl x), (2, .inl y), (3, .inl w)], [.inr (.inr (some p)), .inr (.inr (some p))], (I9, L, R, Y), 0, 0) (fun _ => rfl) ?_
          have r12 : I9 p 7 = I p 7 := by rw [← w8, yi_u_ne _ _ (fun z => cl_ne tp t5 (by decide) z.1)]
          refine cl_G_gi rfl (cl_T_K tp) rfl rfl rfl ?_
          refine yi_G_run 2 (81, [(6, .inl j), (5, .inl al), (4, .inl z1), (0, .inr (.inr (some p))), (1, .inl x), (2, .inl y), (3, .inl w)], [.inl (yi_w ((I9 p 7) + 1)), .inr (.inr (some p))], (I9, L, R, Y), 0, 0) (fun _ => rfl) ?_
          refine cl_G_pi rfl (cl_T_K tp) rfl rfl rfl ?_
          have hP13 := cl_P_uI (k := 7) (v := yi_w ((I9 p 7) + 1)) hP7 tp (by decide) (cl_hv0 rfl)
          generalize w14 : yi_u I9 p 7 (yi_w ((I9 p 7) + 1)) = I15 at hP13 ⊢
          exact yi_G_retv rfl rfl (⟨_, rfl, hP13⟩)
      · refine yi_G_if2 false rfl (yi_ge_f h10) ?_
        refine yi_G_run 1 (39, [(6, .inl j), (5, .inl al), (4, .inl z1), (0, .inr (.inr (some p))), (1, .inl x), (2, .inl y), (3, .inl w)], [.inl al], (I9, L, R, Y), 0, 0) (fun _ => rfl) ?_
        by_cases h16 : al = 0
        · refine yi_G_if1 true rfl (yi_eq_t h16) ?_
          refine yi_G_run 2 (63, [(5, .inl 0), (6, .inl j), (4, .inl z1), (0, .inr (.inr (some p))), (1, .inl x), (2, .inl y), (3, .inl w)], [], (I9, L, R, Y), 0, 0) (fun _ => rfl) ?_
          refine yi_G_iinc [(6, .inl (j + 1)), (5, .inl 0), (4, .inl z1), (0, .inr (.inr (some p))), (1, .inl x), (2, .inl y), (3, .inl w)] rfl rfl rfl (by rw [show yi_w (j + 1) = j + 1 from (yi_wn (by omega) (by omega)).trans (by omega)]; rfl) ?_
          refine yi_G_run 1 (31, [(6, .inl (j + 1)), (5, .inl 0), (4, .inl z1), (0, .inr (.inr (some p))), (1, .inl x), (2, .inl y), (3, .inl w)], [], (I9, L, R, Y), 0, 0) (fun _ => rfl) ?_
          exact ih31 _ (by omega) (j + 1) 0 (by omega) rfl
        · refine yi_G_if1 false rfl (yi_eq_f h16) ?_
          refine yi_G_run 3 (46, [(6, .inl j), (5, .inl al), (4, .inl z1), (0, .inr (.inr (some p))), (1, .inl x), (2, .inl y), (3, .inl w)], [.inr (.inr (some p)), .inl j, .inr (.inr (some p))], (I9, L, R, Y), 0, 0) (fun _ => rfl) ?_
          have r17 : I9 p 7 = I p 7 := by rw [← w8, yi_u_ne _ _ (fun z => cl_ne tp t5 (by decide) z.1)]
          refine cl_G_gi rfl (cl_T_K tp) rfl rfl rfl ?_
          refine yi_G_callv rfl rfl (cl_rcv tp rfl) rfl (k_cameOf d (by omega) hP7.1 tp ) ?_
          rintro _ ⟨z18, rfl⟩
          show yi_G zi_Ms d zi_m289 (52, [(6, .inl j), (5, .inl al), (4, .inl z1), (0, .inr (.inr (some p))), (1, .inl x), (2, .inl y), (3, .inl w)], [.inl z18], (I9, L, R, Y), 0, 0) _
          refine yi_G_run 1 (53, [(6, .inl j), (5, .inl al), (4, .inl z1), (0, .inr (.inr (some p))), (1, .inl x), (2, .inl y), (3, .inl w)], [.inl (-1), .inl z18], (I9, L, R, Y), 0, 0) (fun _ => rfl) ?_
          by_cases h19 : z18 = (-1)
          · refine yi_G_if2 true rfl (yi_eq_t h19) ?_
            refine yi_G_run 2 (63, [(5, .inl 0), (6, .inl j), (4, .inl z1), (0, .inr (.inr (some p))), (1, .inl x), (2, .inl y), (3, .inl w)], [], (I9, L, R, Y), 0, 0) (fun _ => rfl) ?_
            refine yi_G_iinc [(6, .inl (j + 1)), (5, .inl 0), (4, .inl z1), (0, .inr (.inr (some p))), (1, .inl x), (2, .inl y), (3, .inl w)] rfl rfl rfl (by rw [show yi_w (j + 1) = j + 1 from (yi_wn (by omega) (by omega)).trans (by omega)]; rfl) ?_
            refine yi_G_run 1 (31, [(6, .inl (j + 1)), (5, .inl 0), (4, .inl z1), (0, .inr (.inr (some p))), (1, .inl x), (2, .inl y), (3, .inl w)], [], (I9, L, R, Y), 0, 0) (fun _ => rfl) ?_
            exact ih31 _ (by omega) (j + 1) 0 (by omega) rfl
          · refine yi_G_if2 false rfl (yi_eq_f h19) ?_
            refine yi_G_run 3 (63, [(5, .inl 1), (6, .inl j), (4, .inl z1), (0, .inr (.inr (some p))), (1, .inl x), (2, .inl y), (3, .inl w)], [], (I9, L, R, Y), 0, 0) (fun _ => rfl) ?_
            refine yi_G_iinc [(6, .inl (j + 1)), (5, .inl 1), (4, .inl z1), (0, .inr (.inr (some p))), (1, .inl x), (2, .inl y), (3, .inl w)] rfl rfl rfl (by rw [show yi_w (j + 1) = j + 1 from (yi_wn (by omega) (by omega)).trans (by omega)]; rfl) ?_
            refine yi_G_run 1 (31, [(6, .inl (j + 1)), (5, .inl 1), (4, .inl z1), (0, .inr (.inr (some p))), (1, .inl x), (2, .inl y), (3, .inl w)], [], (I9, L, R, Y), 0, 0) (fun _ => rfl) ?_
            exact ih31 _ (by omega) (j + 1) 1 (by omega) rfl
    exact pt31 _ 0 1 (by omega) rfl
theorem k_addPromise (D : Nat) (hD : 1 ≤ D) {E : List Nat} {I L : cl_I} {R : cl_Rr} {Y : cl_Y} (hC : cl_C E I L R Y) {p : Nat} (tp : cl_T E Y p 9) {x : Int} {y : Int} : yi_E zi_Ms D 275 [.inr (.inr (some p)), .inl x, .inl y] (I, L, R, Y) (fun r => ∃ I', r = (none, (I', L, R, Y), 0, 0) ∧ cl_P E I L R Y I' L R Y) := by
  obtain ⟨d, rfl⟩ : ∃ d, D = d + 1 := ⟨D - 1, by omega⟩
  refine yi_E_of (M := zi_m275) rfl rfl ?_
  have hP : cl_P E I L R Y I L R Y := cl_P_r hC
  show yi_G zi_Ms d zi_m275 (0, [(0, .inr (.inr (some p))), (1, .inl x), (2, .inl y)], [], (I, L, R, Y), 0, 0) _
  refine yi_G_run 1 (1, [(0, .inr (.inr (some p))), (1, .inl x), (2, .inl y)], [.inr (.inr (some p))], (I, L, R, Y), 0, 0) (fun _ => rfl) ?_
  have b1 := cl_rd hP.1 tp (k := 8) (lo := 0) (hi := 20) rfl
  refine cl_G_gi rfl (cl_T_K tp) rfl rfl rfl ?_
  refine yi_G_run 1 (5, [(0, .inr (.inr (some p))), (1, .inl x), (2, .inl y)], [.inr (.inr (some p)), .inl (I p 8)], (I, L, R, Y), 0, 0) (fun _ => rfl) ?_
  obtain ⟨q2, e3, t4, n5⟩ := cl_rn hP.1 tp (k := 3) (m := 19) rfl
  refine cl_G_gr rfl (cl_T_K tp) rfl rfl rfl e3 ?_
  refine cl_G_len rfl t4 (by omega) ?_
  by_cases h6 : ((Y.2.1 q2 : Int)) ≤ (I p 8)
  · refine yi_G_if2 true rfl (yi_ge_t h6) ?_
    exact yi_G_retv rfl rfl (⟨_, rfl, hP⟩)
  · refine yi_G_if2 false rfl (yi_ge_f h6) ?_
    refine yi_G_run 1 (13, [(0, .inr (.inr (some p))), (1, .inl x), (2, .inl y)], [.inr (.inr (some p))], (I, L, R, Y), 0, 0) (fun _ => rfl) ?_
    refine cl_G_gr rfl (cl_T_K tp) rfl rfl rfl e3 ?_
    refine yi_G_run 1 (17, [(0, .inr (.inr (some p))), (1, .inl x), (2, .inl y)], [.inr (.inr (some p)), .inr (.inr (some q2))], (I, L, R, Y), 0, 0) (fun _ => rfl) ?_
    have b7 := cl_rd hP.1 tp (k := 8) (lo := 0) (hi := 20) rfl
    refine cl_G_gi rfl (cl_T_K tp) rfl rfl rfl ?_
    refine yi_G_run 1 (21, [(0, .inr (.inr (some p))), (1, .inl x), (2, .inl y)], [.inl x, .inl (I p 8), .inr (.inr (some q2))], (I, L, R, Y), 0, 0) (fun _ => rfl) ?_
    refine cl_G_iast rfl t4 (by omega) (by omega) ?_
    have hP8 := cl_P_uI (k := ((I p 8).toNat)) (v := x) hP t4 (by omega) (cl_hv0 rfl)
    generalize w9 : yi_u I q2 ((I p 8).toNat) x = I10 at hP8 ⊢
    refine yi_G_run 1 (23, [(0, .inr (.inr (some p))), (1, .inl x), (2, .inl y)], [.inr (.inr (some p))], (I10, L, R, Y), 0, 0) (fun _ => rfl) ?_
    obtain ⟨q11, e12, t13, n14⟩ := cl_rn hP8.1 tp (k := 4) (m := 19) rfl
    refine cl_G_gr rfl (cl_T_K tp) rfl rfl rfl e12 ?_
    refine yi_G_run 1 (27, [(0, .inr (.inr (some p))), (1, .inl x), (2, .inl y)], [.inr (.inr (some p)), .inr (.inr (some q11))], (I10, L, R, Y), 0, 0) (fun _ => rfl) ?_
    have b15 := cl_rd hP8.1 tp (k := 8) (lo := 0) (hi := 20) rfl
    have r16 : I10 p 8 = I p 8 := by rw [← w9, yi_u_ne _ _ (fun z => cl_ne tp t4 (by decide) z.1)]
    refine cl_G_gi rfl (cl_T_K tp) rfl rfl rfl ?_
    refine yi_G_run 1 (31, [(0, .inr (.inr (some p))), (1, .inl x), (2, .inl y)], [.inl y, .inl (I10 p 8), .inr (.inr (some q11))], (I10, L, R, Y), 0, 0) (fun _ => rfl) ?_
    refine cl_G_iast rfl t13 (by omega) (by omega) ?_
    have hP17 := cl_P_uI (k := ((I10 p 8).toNat)) (v := y) hP8 t13 (by omega) (cl_hv0 rfl)
    generalize w18 : yi_u I10 q11 ((I10 p 8).toNat) y = I19 at hP17 ⊢
    refine yi_G_run 2 (34, [(0, .inr (.inr (some p))), (1, .inl x), (2, .inl y)], [.inr (.inr (some p)), .inr (.inr (some p))], (I19, L, R, Y), 0, 0) (fun _ => rfl) ?_
    have b20 := cl_rd hP17.1 tp (k := 8) (lo := 0) (hi := 20) rfl
    have r21 : I19 p 8 = I p 8 := by rw [← w18, yi_u_ne _ _ (fun z => cl_ne tp t13 (by decide) z.1), ← w9, yi_u_ne _ _ (fun z => cl_ne tp t4 (by decide) z.1)]
    refine cl_G_gi rfl (cl_T_K tp) rfl rfl rfl ?_
    refine yi_G_run 1 (38, [(0, .inr (.inr (some p))), (1, .inl x), (2, .inl y)], [.inl 1, .inl (I19 p 8), .inr (.inr (some p))], (I19, L, R, Y), 0, 0) (fun _ => rfl) ?_
    refine yi_G_iadd rfl ((I19 p 8) + 1) (yi_wn (by omega) (by omega)) ?_
    refine cl_G_pi rfl (cl_T_K tp) rfl rfl rfl ?_
    have hP22 := cl_P_uI (k := 8) (v := (I19 p 8) + 1) hP17 tp (by decide) (cl_hv rfl (by omega) (by omega))
    generalize w23 : yi_u I19 p 8 ((I19 p 8) + 1) = I24 at hP22 ⊢
    exact yi_G_retv rfl rfl (⟨_, rfl, hP22⟩)
theorem k_promisedTo (D : Nat) (hD : 1 ≤ D) {E : List Nat} {I L : cl_I} {R : cl_Rr} {Y : cl_Y} (hC : cl_C E I L R Y) {p : Nat} (tp : cl_T E Y p 9) {x : Int} : yi_E zi_Ms D 283 [.inr (.inr (some p)), .inl x] (I, L, R, Y) (fun r => ∃ z, r = (some (.inl z), (I, L, R, Y), 0, 0)) := by
  obtain ⟨d, rfl⟩ : ∃ d, D = d + 1 := ⟨D - 1, by omega⟩
  refine yi_E_of (M := zi_m283) rfl rfl ?_
  have hP : cl_P E I L R Y I L R Y := cl_P_r hC
  show yi_G zi_Ms d zi_m283 (0, [(0, .inr (.inr (some p))), (1, .inl x)], [], (I, L, R, Y), 0, 0) _
  refine yi_G_run 1 (1, [(0, .inr (.inr (some p))), (1, .inl x)], [.inl x], (I, L, R, Y), 0, 0) (fun _ => rfl) ?_
  by_cases h1 : x < 0
  · refine yi_G_if1 true rfl (yi_lt_t h1) ?_
    refine yi_G_run 1 (31, [(0, .inr (.inr (some p))), (1, .inl x)], [.inl (-1)], (I, L, R, Y), 0, 0) (fun _ => rfl) ?_
    exact yi_G_reti rfl rfl (⟨_, rfl⟩)
  · refine yi_G_if1 false rfl (yi_lt_f h1) ?_
    refine yi_G_run 2 (6, [(0, .inr (.inr (some p))), (1, .inl x)], [.inr (.inr (some p)), .inl x], (I, L, R, Y), 0, 0) (fun _ => rfl) ?_
    have b2 := cl_rd hP.1 tp (k := 8) (lo := 0) (hi := 20) rfl
    refine cl_G_gi rfl (cl_T_K tp) rfl rfl rfl ?_
    by_cases h3 : (I p 8) ≤ x
    · refine yi_G_if2 true rfl (yi_ge_t h3) ?_
      refine yi_G_run 1 (31, [(0, .inr (.inr (some p))), (1, .inl x)], [.inl (-1)], (I, L, R, Y), 0, 0) (fun _ => rfl) ?_
      exact yi_G_reti rfl rfl (⟨_, rfl⟩)
    · refine yi_G_if2 false rfl (yi_ge_f h3) ?_
      refine yi_G_run 2 (14, [(0, .inr (.inr (some p))), (1, .inl x)], [.inr (.inr (some p)), .inl x], (I, L, R, Y), 0, 0) (fun _ => rfl) ?_
      obtain ⟨q4, e5, t6, n7⟩ := cl_rn hP.1 tp (k := 3) (m := 19) rfl
      refine cl_G_gr rfl (cl_T_K tp) rfl rfl rfl e5 ?_
      refine cl_G_len rfl t6 (by omega) ?_
      by_cases h8 : ((Y.2.1 q4 : Int)) ≤ x
      · refine yi_G_if2 true rfl (yi_ge_t h8) ?_
        refine yi_G_run 1 (31, [(0, .inr (.inr (some p))), (1, .inl x)], [.inl (-1)], (I, L, R, Y), 0, 0) (fun _ => rfl) ?_
        exact yi_G_reti rfl rfl (⟨_, rfl⟩)
      · refine yi_G_if2 false rfl (yi_ge_f h8) ?_
        refine yi_G_run 1 (22, [(0, .inr (.inr (some p))), (1, .inl x)], [.inr (.inr (some p))], (I, L, R, Y), 0, 0) (fun _ => rfl) ?_
        refine cl_G_gr rfl (cl_T_K tp) rfl rfl rfl e5 ?_
        refine yi_G_run 1 (26, [(0, .inr (.inr (some p))), (1, .inl x)], [.inl x, .inr (.inr (some q4))], (I, L, R, Y), 0, 0) (fun _ => rfl) ?_
        refine cl_G_iald rfl t6 (by omega) (by omega) ?_
        refine yi_G_run 1 (31, [(0, .inr (.inr (some p))), (1, .inl x)], [.inl (I q4 (x.toNat))], (I, L, R, Y), 0, 0) (fun _ => rfl) ?_
        exact yi_G_reti rfl rfl (⟨_, rfl⟩)
theorem k_promisedTall (D : Nat) (hD : 1 ≤ D) {E : List Nat} {I L : cl_I} {R : cl_Rr} {Y : cl_Y} (hC : cl_C E I L R Y) {p : Nat} (tp : cl_T E Y p 9) {x : Int} : yi_E zi_Ms D 282 [.inr (.inr (some p)), .inl x] (I, L, R, Y) (fun r => ∃ z, r = (some (.inl z), (I, L, R, Y), 0, 0)) := by
  obtain ⟨d, rfl⟩ : ∃ d, D = d + 1 := ⟨D - 1, by omega⟩
  refine yi_E_of (M := zi_m282) rfl rfl ?_
  have hP : cl_P E I L R Y I L R Y := cl_P_r hC
  show yi_G zi_Ms d zi_m282 (0, [(0, .inr (.inr (some p))), (1, .inl x)], [], (I, L, R, Y), 0, 0) _
  refine yi_G_run 1 (1, [(0, .inr (.inr (some p))), (1, .inl x)], [.inl x], (I, L, R, Y), 0, 0) (fun _ => rfl) ?_
  by_cases h1 : x < 0
  · refine yi_G_if1 true rfl (yi_lt_t h1) ?_
    refine yi_G_run 1 (31, [(0, .inr (.inr (some p))), (1, .inl x)], [.inl (-1)], (I, L, R, Y), 0, 0) (fun _ => rfl) ?_
    exact yi_G_reti rfl rfl (⟨_, rfl⟩)
  · refine yi_G_if1 false rfl (yi_lt_f h1) ?_
    refine yi_G_run 2 (6, [(0, .inr (.inr (some p))), (1, .inl x)], [.inr (.inr (some p)), .inl x], (I, L, R, Y), 0, 0) (fun _ => rfl) ?_
    have b2 := cl_rd hP.1 tp (k := 8) (lo := 0) (hi := 20) rfl
    refine cl_G_gi rfl (cl_T_K tp) rfl rfl rfl ?_
    by_cases h3 : (I p 8) ≤ x
    · refine yi_G_if2 true rfl (yi_ge_t h3) ?_
      refine yi_G_run 1 (31, [(0, .inr (.inr (some p))), (1, .inl x)], [.inl (-1)], (I, L, R, Y), 0, 0) (fun _ => rfl) ?_
      exact yi_G_reti rfl rfl (⟨_, rfl⟩)
    · refine yi_G_if2 false rfl (yi_ge_f h3) ?_
      refine yi_G_run 2 (14, [(0, .inr (.inr (some p))), (1, .inl x)], [.inr (.inr (some p)), .inl x], (I, L, R, Y), 0, 0) (fun _ => rfl) ?_
      obtain ⟨q4, e5, t6, n7⟩ := cl_rn hP.1 tp (k := 4) (m := 19) rfl
      refine cl_G_gr rfl (cl_T_K tp) rfl rfl rfl e5 ?_
      refine cl_G_len rfl t6 (by omega) ?_
      by_cases h8 : ((Y.2.1 q4 : Int)) ≤ x
      · refine yi_G_if2 true rfl (yi_ge_t h8) ?_
        refine yi_G_run 1 (31, [(0, .inr (.inr (some p))), (1, .inl x)], [.inl (-1)], (I, L, R, Y), 0, 0) (fun _ => rfl) ?_
        exact yi_G_reti rfl rfl (⟨_, rfl⟩)
      · refine yi_G_if2 false rfl (yi_ge_f h8) ?_
        refine yi_G_run 1 (22, [(0, .inr (.inr (some p))), (1, .inl x)], [.inr (.inr (some p))], (I, L, R, Y), 0, 0) (fun _ => rfl) ?_
        refine cl_G_gr rfl (cl_T_K tp) rfl rfl rfl e5 ?_
        refine yi_G_run 1 (26, [(0, .inr (.inr (some p))), (1, .inl x)], [.inl x, .inr (.inr (some q4))], (I, L, R, Y), 0, 0) (fun _ => rfl) ?_
        refine cl_G_iald rfl t6 (by omega) (by omega) ?_
        refine yi_G_run 1 (31, [(0, .inr (.inr (some p))), (1, .inl x)], [.inl (I q4 (x.toNat))], (I, L, R, Y), 0, 0) (fun _ => rfl) ?_
        exact yi_G_reti rfl rfl (⟨_, rfl⟩)
theorem k_promisesFrom (D : Nat) (hD : 2 ≤ D) {E : List Nat} {I L : cl_I} {R : cl_Rr} {Y : cl_Y} (hC : cl_C E I L R Y) {p : Nat} (tp : cl_T E Y p 9) {x : Int} : yi_E zi_Ms D 284 [.inr (.inr (some p)), .inl x] (I, L, R, Y) (fun r => ∃ z, r = (some (.inl z), (I, L, R, Y), 0, 0)) := by
  obtain ⟨d, rfl⟩ : ∃ d, D = d + 1 := ⟨D - 1, by omega⟩
  refine yi_E_of (M := zi_m284) rfl rfl ?_
  have hP : cl_P E I L R Y I L R Y := cl_P_r hC
  show yi_G zi_Ms d zi_m284 (0, [(0, .inr (.inr (some p))), (1, .inl x)], [], (I, L, R, Y), 0, 0) _
  refine yi_G_run 4 (4, [(3, .inl 0), (2, .inl 0), (0, .inr (.inr (some p))), (1, .inl x)], [], (I, L, R, Y), 0, 0) (fun _ => rfl) ?_
  have pt4 : ∀ (m_ : Nat) (j : Int) (y : Int), (0 ≤ j ∧ j ≤ 20) → (0 ≤ y ∧ y ≤ j) → (20 - j).toNat = m_ → yi_G zi_Ms d zi_m284 (4, [(3, .inl j), (2, .inl y), (0, .inr (.inr (some p))), (1, .inl x)], [], (I, L, R, Y), 0, 0) (fun r => ∃ z, r = (some (.inl z), (I, L, R, Y), 0, 0)) := by
    intro m4
    induction m4 using Nat.strongRecOn with
    | _ m4 ih4 =>
    intro j y j0 y0 hm4
    refine yi_G_run 2 (6, [(3, .inl j), (2, .inl y), (0, .inr (.inr (some p))), (1, .inl x)], [.inr (.inr (some p)), .inl j], (I, L, R, Y), 0, 0) (fun _ => rfl) ?_
    have b1 := cl_rd hP.1 tp (k := 8) (lo := 0) (hi := 20) rfl
    refine cl_G_gi rfl (cl_T_K tp) rfl rfl rfl ?_
    by_cases h2 : (I p 8) ≤ j
    · refine yi_G_if2 true rfl (yi_ge_t h2) ?_
      refine yi_G_run 1 (31, [(3, .inl j), (2, .inl y), (0, .inr (.inr (some p))), (1, .inl x)], [.inl y], (I, L, R, Y), 0, 0) (fun _ => rfl) ?_
      exact yi_G_reti rfl rfl (⟨_, rfl⟩)
    · refine yi_G_if2 false rfl (yi_ge_f h2) ?_
      refine yi_G_run 2 (14, [(3, .inl j), (2, .inl y), (0, .inr (.inr (some p))), (1, .inl x)], [.inl j, .inr (.inr (some p))], (I, L, R, Y), 0, 0) (fun _ => rfl) ?_
      refine yi_G_callv rfl rfl (cl_rcv tp rfl) rfl (k_promisedTall d (by omega) hP.1 tp ) ?_
      rintro _ ⟨z3, rfl⟩
      show yi_G zi_Ms d zi_m284 (17, [(3, .inl j), (2, .inl y), (0, .inr (.inr (some p))), (1, .inl x)], [.inl z3], (I, L, R, Y), 0, 0) _
      refine yi_G_run 1 (18, [(3, .inl j), (2, .inl y), (0, .inr (.inr (some p))), (1, .inl x)], [.inl x, .inl z3], (I, L, R, Y), 0, 0) (fun _ => rfl) ?_
      by_cases h4 : z3 < x
      · refine yi_G_if2 true rfl (yi_lt_t h4) ?_
        refine yi_G_iinc [(3, .inl (j + 1)), (2, .inl y), (0, .inr (.inr (some p))), (1, .inl x)] rfl rfl rfl (by rw [show yi_w (j + 1) = j + 1 from (yi_wn (by omega) (by omega)).trans (by omega)]; rfl) ?_
        refine yi_G_run 1 (4, [(3, .inl (j + 1)), (2, .inl y), (0, .inr (.inr (some p))), (1, .inl x)], [], (I, L, R, Y), 0, 0) (fun _ => rfl) ?_
        exact ih4 _ (by omega) (j + 1) y (by omega) (by omega) rfl
      · refine yi_G_if2 false rfl (yi_lt_f h4) ?_
        refine yi_G_iinc [(2, .inl (y + 1)), (3, .inl j), (0, .inr (.inr (some p))), (1, .inl x)] rfl rfl rfl (by rw [show yi_w (y + 1) = y + 1 from (yi_wn (by omega) (by omega)).trans (by omega)]; rfl) ?_
        refine yi_G_iinc [(3, .inl (j + 1)), (2, .inl (y + 1)), (0, .inr (.inr (some p))), (1, .inl x)] rfl rfl rfl (by rw [show yi_w (j + 1) = j + 1 from (yi_wn (by omega) (by omega)).trans (by omega)]; rfl) ?_
        refine yi_G_run 1 (4, [(3, .inl (j + 1)), (2, .inl (y + 1)), (0, .inr (.inr (some p))), (1, .inl x)], [], (I, L, R, Y), 0, 0) (fun _ => rfl) ?_
        exact ih4 _ (by omega) (j + 1) (y + 1) (by omega) (by omega) rfl
  exact pt4 _ 0 0 (by omega) (by omega) rfl
