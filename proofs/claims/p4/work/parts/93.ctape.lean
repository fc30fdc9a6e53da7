/-! Strings, the tape. -/
theorem k_isLatin1 (D : Nat) (hD : 1 ≤ D) {E : List Nat} {I L : cl_I} {R : cl_Rr} {Y : cl_Y} (hC : cl_C E I L R Y) : yi_E zi_Ms D 325 [.inr (.inr (some 2))] (I, L, R, Y) (fun r => r = (some (.inl 1), (I, L, R, Y), 0, 0)) := by
  obtain ⟨d, rfl⟩ : ∃ d, D = d + 1 := ⟨D - 1, by omega⟩
  refine yi_E_of (M := zi_m325) rfl rfl ?_
  have hP : cl_P E I L R Y I L R Y := cl_P_r hC
  show yi_G zi_Ms d zi_m325 (0, [(0, .inr (.inr (some 2)))], [], (I, L, R, Y), 0, 0) _
  refine yi_G_run 1 (3, [(0, .inr (.inr (some 2)))], [.inl 1], (I, L, R, Y), 0, 0) (fun _ => rfl) ?_
  refine yi_G_if1 false rfl (by decide) ?_
  refine yi_G_run 1 (7, [(0, .inr (.inr (some 2)))], [.inr (.inr (some 2))], (I, L, R, Y), 0, 0) (fun _ => rfl) ?_
  refine yi_G_get (10, [(0, .inr (.inr (some 2)))], [.inl 0], (I, L, R, Y), 0, 0) rfl rfl ?_
  refine yi_G_if1 false rfl (by decide) ?_
  refine yi_G_run 2 (18, [(0, .inr (.inr (some 2)))], [.inl 1], (I, L, R, Y), 0, 0) (fun _ => rfl) ?_
  exact yi_G_retb rfl rfl (by decide) (rfl)
theorem k_coder (D : Nat) (hD : 1 ≤ D) {E : List Nat} {I L : cl_I} {R : cl_Rr} {Y : cl_Y} (hC : cl_C E I L R Y) : yi_E zi_Ms D 322 [.inr (.inr (some 2))] (I, L, R, Y) (fun r => r = (some (.inl 0), (I, L, R, Y), 0, 0)) := by
  obtain ⟨d, rfl⟩ : ∃ d, D = d + 1 := ⟨D - 1, by omega⟩
  refine yi_E_of (M := zi_m322) rfl rfl ?_
  have hP : cl_P E I L R Y I L R Y := cl_P_r hC
  show yi_G zi_Ms d zi_m322 (0, [(0, .inr (.inr (some 2)))], [], (I, L, R, Y), 0, 0) _
  refine yi_G_run 1 (3, [(0, .inr (.inr (some 2)))], [.inl 1], (I, L, R, Y), 0, 0) (fun _ => rfl) ?_
  refine yi_G_if1 false rfl (by decide) ?_
  refine yi_G_run 1 (7, [(0, .inr (.inr (some 2)))], [.inr (.inr (some 2))], (I, L, R, Y), 0, 0) (fun _ => rfl) ?_
  refine yi_G_get (10, [(0, .inr (.inr (some 2)))], [.inl 0], (I, L, R, Y), 0, 0) rfl rfl ?_
  refine yi_G_run 1 (14, [(0, .inr (.inr (some 2)))], [.inl 0], (I, L, R, Y), 0, 0) (fun _ => rfl) ?_
  exact yi_G_ret rfl rfl (fun _ => rfl) (rfl)
theorem k_lengthS (D : Nat) (hD : 2 ≤ D) {E : List Nat} {I L : cl_I} {R : cl_Rr} {Y : cl_Y} (hC : cl_C E I L R Y) : yi_E zi_Ms D 326 [.inr (.inr (some 2))] (I, L, R, Y) (fun r => ∃ z, r = (some (.inl z), (I, L, R, Y), 0, 0)) := by
  obtain ⟨d, rfl⟩ : ∃ d, D = d + 1 := ⟨D - 1, by omega⟩
  refine yi_E_of (M := zi_m326) rfl rfl ?_
  have hP : cl_P E I L R Y I L R Y := cl_P_r hC
  show yi_G zi_Ms d zi_m326 (0, [(0, .inr (.inr (some 2)))], [], (I, L, R, Y), 0, 0) _
  refine yi_G_run 1 (1, [(0, .inr (.inr (some 2)))], [.inr (.inr (some 2))], (I, L, R, Y), 0, 0) (fun _ => rfl) ?_
  refine yi_G_get (4, [(0, .inr (.inr (some 2)))], [.inr (.inr (some 6))], (I, L, R, Y), 0, 0) rfl rfl ?_
  refine yi_G_s (5, [(0, .inr (.inr (some 2)))], [.inl 8], (I, L, R, Y), 0, 0) rfl (fun _ => rfl) ?_
  refine yi_G_run 1 (6, [(0, .inr (.inr (some 2)))], [.inr (.inr (some 2)), .inl 8], (I, L, R, Y), 0, 0) (fun _ => rfl) ?_
  refine yi_G_callv rfl rfl rfl rfl (k_coder d (by omega) hP.1  ) ?_
  rintro _ rfl
  show yi_G zi_Ms d zi_m326 (9, [(0, .inr (.inr (some 2)))], [.inl 0, .inl 8], (I, L, R, Y), 0, 0) _
  refine yi_G_run 1 (10, [(0, .inr (.inr (some 2)))], [.inl (yi_shr 8 0)], (I, L, R, Y), 0, 0) (fun _ => rfl) ?_
  exact yi_G_reti rfl rfl (⟨_, rfl⟩)
theorem k_canEncode (D : Nat) (hD : 1 ≤ D) {E : List Nat} {I L : cl_I} {R : cl_Rr} {Y : cl_Y} (hC : cl_C E I L R Y) {x : Int} : yi_E zi_Ms D 327 [.inl x] (I, L, R, Y) (fun r => ∃ z, r = (some (.inl z), (I, L, R, Y), 0, 0) ∧ (z = 0 ∨ z = 1)) := by
  obtain ⟨d, rfl⟩ : ∃ d, D = d + 1 := ⟨D - 1, by omega⟩
  refine yi_E_of (M := zi_m327) rfl rfl ?_
  have hP : cl_P E I L R Y I L R Y := cl_P_r hC
  show yi_G zi_Ms d zi_m327 (0, [(0, .inl x)], [], (I, L, R, Y), 0, 0) _
  refine yi_G_run 1 (1, [(0, .inl x)], [.inl x], (I, L, R, Y), 0, 0) (fun _ => rfl) ?_
  by_cases h1 : x < 0
  · refine yi_G_if1 true rfl (yi_lt_t h1) ?_
    refine yi_G_run 1 (16, [(0, .inl x)], [.inl 0], (I, L, R, Y), 0, 0) (fun _ => rfl) ?_
    exact yi_G_retb rfl rfl (by decide) (⟨_, rfl, by decide⟩)
  · refine yi_G_if1 false rfl (yi_lt_f h1) ?_
    refine yi_G_run 2 (8, [(0, .inl x)], [.inl 255, .inl x], (I, L, R, Y), 0, 0) (fun _ => rfl) ?_
    by_cases h2 : 255 < x
    · refine yi_G_if2 true rfl (yi_gt_t h2) ?_
      refine yi_G_run 1 (16, [(0, .inl x)], [.inl 0], (I, L, R, Y), 0, 0) (fun _ => rfl) ?_
      exact yi_G_retb rfl rfl (by decide) (⟨_, rfl, by decide⟩)
    · refine yi_G_if2 false rfl (yi_gt_f h2) ?_
      refine yi_G_run 2 (16, [(0, .inl x)], [.inl 1], (I, L, R, Y), 0, 0) (fun _ => rfl) ?_
      exact yi_G_retb rfl rfl (by decide) (⟨_, rfl, by decide⟩)
theorem k_indexOfChar (D : Nat) (hD : 1 ≤ D) {E : List Nat} {I L : cl_I} {R : cl_Rr} {Y : cl_Y} (hC : cl_C E I L R Y) {x : Int} {y : Int} {w : Int} (hy : 0 ≤ y) (hw : w ≤ 8) : yi_E zi_Ms D 330 [.inr (.inr (some 6)), .inl x, .inl y, .inl w] (I, L, R, Y) (fun r => ∃ z, r = (some (.inl z), (I, L, R, Y), 0, 0)) := by
  obtain ⟨d, rfl⟩ : ∃ d, D = d + 1 := ⟨D - 1, by omega⟩
  refine yi_E_of (M := zi_m330) rfl rfl ?_
  have hP : cl_P E I L R Y I L R Y := cl_P_r hC
  show yi_G zi_Ms d zi_m330 (0, [(0, .inr (.inr (some 6))), (1, .inl x), (2, .inl y), (3, .inl w)], [], (I, L, R, Y), 0, 0) _
  refine yi_G_run 5 (7, [(5, .inl y), (4, .inl (yi_bt x)), (0, .inr (.inr (some 6))), (1, .inl x), (2, .inl y), (3, .inl w)], [], (I, L, R, Y), 0, 0) (fun _ => rfl) ?_
  have pt7 : ∀ (m_ : Nat) (j : Int), (0 ≤ j) → (8 - j).toNat = m_ → yi_G zi_Ms d zi_m330 (7, [(5, .inl j), (4, .inl (yi_bt x)), (0, .inr (.inr (some 6))), (1, .inl x), (2, .inl y), (3, .inl w)], [], (I, L, R, Y), 0, 0) (fun r => ∃ z, r = (some (.inl z), (I, L, R, Y), 0, 0)) := by
    intro m7
    induction m7 using Nat.strongRecOn with
    | _ m7 ih7 =>
    intro j j0 hm7
    refine yi_G_run 2 (10, [(5, .inl j), (4, .inl (yi_bt x)), (0, .inr (.inr (some 6))), (1, .inl x), (2, .inl y), (3, .inl w)], [.inl w, .inl j], (I, L, R, Y), 0, 0) (fun _ => rfl) ?_
    by_cases h1 : w ≤ j
    · refine yi_G_if2 true rfl (yi_ge_t h1) ?_
      refine yi_G_run 1 (32, [(5, .inl j), (4, .inl (yi_bt x)), (0, .inr (.inr (some 6))), (1, .inl x), (2, .inl y), (3, .inl w)], [.inl (-1)], (I, L, R, Y), 0, 0) (fun _ => rfl) ?_
      exact yi_G_reti rfl rfl (⟨_, rfl⟩)
    · refine yi_G_if2 false rfl (yi_ge_f h1) ?_
      refine yi_G_run 2 (16, [(5, .inl j), (4, .inl (yi_bt x)), (0, .inr (.inr (some 6))), (1, .inl x), (2, .inl y), (3, .inl w)], [.inl j, .inr (.inr (some 6))], (I, L, R, Y), 0, 0) (fun _ => rfl) ?_
      refine cl_G_sbl rfl (by omega) (by omega) (fun z2 => ?_)
      refine yi_G_run 1 (19, [(5, .inl j), (4, .inl (yi_bt x)), (0, .inr (.inr (some 6))), (1, .inl x), (2, .inl y), (3, .inl w)], [.inl (yi_bt x), .inl z2], (I, L, R, Y), 0, 0) (fun _ => rfl) ?_
      by_cases h3 : z2 = (yi_bt x)
      · refine yi_G_if2 false rfl (yi_ne_f h3) ?_
        refine yi_G_run 1 (24, [(5, .inl j), (4, .inl (yi_bt x)), (0, .inr (.inr (some 6))), (1, .inl x), (2, .inl y), (3, .inl w)], [.inl j], (I, L, R, Y), 0, 0) (fun _ => rfl) ?_
        exact yi_G_reti rfl rfl (⟨_, rfl⟩)
      · refine yi_G_if2 true rfl (yi_ne_t h3) ?_
        refine yi_G_iinc [(5, .inl (j + 1)), (4, .inl (yi_bt x)), (0, .inr (.inr (some 6))), (1, .inl x), (2, .inl y), (3, .inl w)] rfl rfl rfl (by rw [show yi_w (j + 1) = j + 1 from (yi_wn (by omega) (by omega)).trans (by omega)]; rfl) ?_
        refine yi_G_run 1 (7, [(5, .inl (j + 1)), (4, .inl (yi_bt x)), (0, .inr (.inr (some 6))), (1, .inl x), (2, .inl y), (3, .inl w)], [], (I, L, R, Y), 0, 0) (fun _ => rfl) ?_
        exact ih7 _ (by omega) (j + 1) (by omega) rfl
  exact pt7 _ y (by omega) rfl
theorem k_indexOfL (D : Nat) (hD : 2 ≤ D) {E : List Nat} {I L : cl_I} {R : cl_Rr} {Y : cl_Y} (hC : cl_C E I L R Y) {x : Int} {y : Int} {w : Int} : yi_E zi_Ms D 329 [.inr (.inr (some 6)), .inl x, .inl y, .inl w] (I, L, R, Y) (fun r => ∃ z, r = (some (.inl z), (I, L, R, Y), 0, 0)) := by
  obtain ⟨d, rfl⟩ : ∃ d, D = d + 1 := ⟨D - 1, by omega⟩
  refine yi_E_of (M := zi_m329) rfl rfl ?_
  have hP : cl_P E I L R Y I L R Y := cl_P_r hC
  show yi_G zi_Ms d zi_m329 (0, [(0, .inr (.inr (some 6))), (1, .inl x), (2, .inl y), (3, .inl w)], [], (I, L, R, Y), 0, 0) _
  refine yi_G_run 1 (1, [(0, .inr (.inr (some 6))), (1, .inl x), (2, .inl y), (3, .inl w)], [.inl x], (I, L, R, Y), 0, 0) (fun _ => rfl) ?_
  refine yi_G_calls rfl rfl (k_canEncode d (by omega) hP.1  ) ?_
  rintro _ ⟨z1, rfl, hz1⟩
  show yi_G zi_Ms d zi_m329 (4, [(0, .inr (.inr (some 6))), (1, .inl x), (2, .inl y), (3, .inl w)], [.inl z1], (I, L, R, Y), 0, 0) _
  by_cases h2 : z1 = 0
  · refine yi_G_if1 false rfl (yi_ne_f h2) ?_
    refine yi_G_run 1 (8, [(0, .inr (.inr (some 6))), (1, .inl x), (2, .inl y), (3, .inl w)], [.inl (-1)], (I, L, R, Y), 0, 0) (fun _ => rfl) ?_
    exact yi_G_reti rfl rfl (⟨_, rfl⟩)
  · refine yi_G_if1 true rfl (yi_ne_t h2) ?_
    refine yi_G_run 2 (11, [(0, .inr (.inr (some 6))), (1, .inl x), (2, .inl y), (3, .inl w)], [.inl 0, .inl y], (I, L, R, Y), 0, 0) (fun _ => rfl) ?_
    refine cl_G_max rfl rfl cl_max ?_
    refine yi_G_run 3 (17, [(2, .inl (max y 0)), (0, .inr (.inr (some 6))), (1, .inl x), (3, .inl w)], [.inr (.inr (some 6)), .inl w], (I, L, R, Y), 0, 0) (fun _ => rfl) ?_
    refine yi_G_s (18, [(2, .inl (max y 0)), (0, .inr (.inr (some 6))), (1, .inl x), (3, .inl w)], [.inl 8, .inl w], (I, L, R, Y), 0, 0) rfl (fun _ => rfl) ?_
    refine cl_G_min rfl rfl cl_min ?_
    refine yi_G_run 3 (24, [(3, .inl (min w 8)), (2, .inl (max y 0)), (0, .inr (.inr (some 6))), (1, .inl x)], [.inl (min w 8), .inl (max y 0)], (I, L, R, Y), 0, 0) (fun _ => rfl) ?_
    by_cases h3 : (max y 0) < (min w 8)
    · refine yi_G_if2 true rfl (yi_lt_t h3) ?_
      refine yi_G_run 4 (33, [(3, .inl (min w 8)), (2, .inl (max y 0)), (0, .inr (.inr (some 6))), (1, .inl x)], [.inl (min w 8), .inl (max y 0), .inl x, .inr (.inr (some 6))], (I, L, R, Y), 0, 0) (fun _ => rfl) ?_
      refine yi_G_calls rfl rfl (k_indexOfChar d (by omega) hP.1  (by omega) (by omega)) ?_
      rintro _ ⟨z4, rfl⟩
      show yi_G zi_Ms d zi_m329 (36, [(3, .inl (min w 8)), (2, .inl (max y 0)), (0, .inr (.inr (some 6))), (1, .inl x)], [.inl z4], (I, L, R, Y), 0, 0) _
      exact yi_G_reti rfl rfl (⟨_, rfl⟩)
    · refine yi_G_if2 false rfl (yi_lt_f h3) ?_
      refine yi_G_run 1 (28, [(3, .inl (min w 8)), (2, .inl (max y 0)), (0, .inr (.inr (some 6))), (1, .inl x)], [.inl (-1)], (I, L, R, Y), 0, 0) (fun _ => rfl) ?_
      exact yi_G_reti rfl rfl (⟨_, rfl⟩)
theorem k_indexOf2 (D : Nat) (hD : 4 ≤ D) {E : List Nat} {I L : cl_I} {R : cl_Rr} {Y : cl_Y} (hC : cl_C E I L R Y) {x : Int} {y : Int} : yi_E zi_Ms D 324 [.inr (.inr (some 2)), .inl x, .inl y] (I, L, R, Y) (fun r => ∃ z, r = (some (.inl z), (I, L, R, Y), 0, 0)) := by
  obtain ⟨d, rfl⟩ : ∃ d, D = d + 1 := ⟨D - 1, by omega⟩
  refine yi_E_of (M := zi_m324) rfl rfl ?_
  have hP : cl_P E I L R Y I L R Y := cl_P_r hC
  show yi_G zi_Ms d zi_m324 (0, [(0, .inr (.inr (some 2))), (1, .inl x), (2, .inl y)], [], (I, L, R, Y), 0, 0) _
  refine yi_G_run 1 (1, [(0, .inr (.inr (some 2))), (1, .inl x), (2, .inl y)], [.inr (.inr (some 2))], (I, L, R, Y), 0, 0) (fun _ => rfl) ?_
  refine yi_G_callv rfl rfl rfl rfl (k_isLatin1 d (by omega) hP.1  ) ?_
  rintro _ rfl
  show yi_G zi_Ms d zi_m324 (4, [(0, .inr (.inr (some 2))), (1, .inl x), (2, .inl y)], [.inl 1], (I, L, R, Y), 0, 0) _
  refine yi_G_if1 false rfl (by decide) ?_
  refine yi_G_run 1 (8, [(0, .inr (.inr (some 2))), (1, .inl x), (2, .inl y)], [.inr (.inr (some 2))], (I, L, R, Y), 0, 0) (fun _ => rfl) ?_
  refine yi_G_get (11, [(0, .inr (.inr (some 2))), (1, .inl x), (2, .inl y)], [.inr (.inr (some 6))], (I, L, R, Y), 0, 0) rfl rfl ?_
  refine yi_G_run 3 (14, [(0, .inr (.inr (some 2))), (1, .inl x), (2, .inl y)], [.inr (.inr (some 2)), .inl y, .inl x, .inr (.inr (some 6))], (I, L, R, Y), 0, 0) (fun _ => rfl) ?_
  refine yi_G_callv rfl rfl rfl rfl (k_lengthS d (by omega) hP.1  ) ?_
  rintro _ ⟨z2, rfl⟩
  show yi_G zi_Ms d zi_m324 (17, [(0, .inr (.inr (some 2))), (1, .inl x), (2, .inl y)], [.inl z2, .inl y, .inl x, .inr (.inr (some 6))], (I, L, R, Y), 0, 0) _
  refine yi_G_calls rfl rfl (k_indexOfL d (by omega) hP.1  ) ?_
  rintro _ ⟨z3, rfl⟩
  show yi_G zi_Ms d zi_m324 (20, [(0, .inr (.inr (some 2))), (1, .inl x), (2, .inl y)], [.inl z3], (I, L, R, Y), 0, 0) _
  refine yi_G_run 1 (36, [(0, .inr (.inr (some 2))), (1, .inl x), (2, .inl y)], [.inl z3], (I, L, R, Y), 0, 0) (fun _ => rfl) ?_
  exact yi_G_reti rfl rfl (⟨_, rfl⟩)
theorem k_indexOf1 (D : Nat) (hD : 5 ≤ D) {E : List Nat} {I L : cl_I} {R : cl_Rr} {Y : cl_Y} (hC : cl_C E I L R Y) {x : Int} : yi_E zi_Ms D 323 [.inr (.inr (some 2)), .inl x] (I, L, R, Y) (fun r => ∃ z, r = (some (.inl z), (I, L, R, Y), 0, 0)) := by
  obtain ⟨d, rfl⟩ : ∃ d, D = d + 1 := ⟨D - 1, by omega⟩
  refine yi_E_of (M := zi_m323) rfl rfl ?_
  have hP : cl_P E I L R Y I L R Y := cl_P_r hC
  show yi_G zi_Ms d zi_m323 (0, [(0, .inr (.inr (some 2))), (1, .inl x)], [], (I, L, R, Y), 0, 0) _
  refine yi_G_run 3 (3, [(0, .inr (.inr (some 2))), (1, .inl x)], [.inl 0, .inl x, .inr (.inr (some 2))], (I, L, R, Y), 0, 0) (fun _ => rfl) ?_
  refine yi_G_callv rfl rfl rfl rfl (k_indexOf2 d (by omega) hP.1  ) ?_
  rintro _ ⟨z1, rfl⟩
  show yi_G zi_Ms d zi_m323 (6, [(0, .inr (.inr (some 2))), (1, .inl x)], [.inl z1], (I, L, R, Y), 0, 0) _
  exact yi_G_reti rfl rfl (⟨_, rfl⟩)
theorem k_isLetter (D : Nat) (hD : 1 ≤ D) {E : List Nat} {I L : cl_I} {R : cl_Rr} {Y : cl_Y} (hC : cl_C E I L R Y) {x : Int} : yi_E zi_Ms D 297 [.inl x] (I, L, R, Y) (fun r => ∃ z, r = (some (.inl z), (I, L, R, Y), 0, 0) ∧ (z = 0 ∨ z = 1) ∧ (z = 1 → 97 ≤ x)) := by
  obtain ⟨d, rfl⟩ : ∃ d, D = d + 1 := ⟨D - 1, by omega⟩
  refine yi_E_of (M := zi_m297) rfl rfl ?_
  have hP : cl_P E I L R Y I L R Y := cl_P_r hC
  show yi_G zi_Ms d zi_m297 (0, [(0, .inl x)], [], (I, L, R, Y), 0, 0) _
  refine yi_G_run 2 (3, [(0, .inl x)], [.inl 97, .inl x], (I, L, R, Y), 0, 0) (fun _ => rfl) ?_
  by_cases h1 : x < 97
  · refine yi_G_if2 true rfl (yi_lt_t h1) ?_
    refine yi_G_run 1 (17, [(0, .inl x)], [.inl 0], (I, L, R, Y), 0, 0) (fun _ => rfl) ?_
    exact yi_G_retb rfl rfl (by decide) (⟨_, rfl, by decide, by omega⟩)
  · refine yi_G_if2 false rfl (yi_lt_f h1) ?_
    refine yi_G_run 2 (9, [(0, .inl x)], [.inl 122, .inl x], (I, L, R, Y), 0, 0) (fun _ => rfl) ?_
    by_cases h2 : 122 < x
    · refine yi_G_if2 true rfl (yi_gt_t h2) ?_
      refine yi_G_run 1 (17, [(0, .inl x)], [.inl 0], (I, L, R, Y), 0, 0) (fun _ => rfl) ?_
      exact yi_G_retb rfl rfl (by decide) (⟨_, rfl, by decide, by omega⟩)
    · refine yi_G_if2 false rfl (yi_gt_f h2) ?_
      refine yi_G_run 2 (17, [(0, .inl x)], [.inl 1], (I, L, R, Y), 0, 0) (fun _ => rfl) ?_
      exact yi_G_retb rfl rfl (by decide) (⟨_, rfl, by decide, by omega⟩)
theorem k_isDigit (D : Nat) (hD : 1 ≤ D) {E : List Nat} {I L : cl_I} {R : cl_Rr} {Y : cl_Y} (hC : cl_C E I L R Y) {x : Int} : yi_E zi_Ms D 296 [.inl x] (I, L, R, Y) (fun r => ∃ z, r = (some (.inl z), (I, L, R, Y), 0, 0) ∧ (z = 0 ∨ z = 1) ∧ (z = 1 → 48 ≤ x)) := by
  obtain ⟨d, rfl⟩ : ∃ d, D = d + 1 := ⟨D - 1, by omega⟩
  refine yi_E_of (M := zi_m296) rfl rfl ?_
  have hP : cl_P E I L R Y I L R Y := cl_P_r hC
  show yi_G zi_Ms d zi_m296 (0, [(0, .inl x)], [], (I, L, R, Y), 0, 0) _
  refine yi_G_run 2 (3, [(0, .inl x)], [.inl 48, .inl x], (I, L, R, Y), 0, 0) (fun _ => rfl) ?_
  by_cases h1 : x < 48
  · refine yi_G_if2 true rfl (yi_lt_t h1) ?_
    refine yi_G_run 1 (17, [(0, .inl x)], [.inl 0], (I, L, R, Y), 0, 0) (fun _ => rfl) ?_
    exact yi_G_retb rfl rfl (by decide) (⟨_, rfl, by decide, by omega⟩)
  · refine yi_G_if2 false rfl (yi_lt_f h1) ?_
    refine yi_G_run 2 (9, [(0, .inl x)], [.inl 57, .inl x], (I, L, R, Y), 0, 0) (fun _ => rfl) ?_
    by_cases h2 : 57 < x
    · refine yi_G_if2 true rfl (yi_gt_t h2) ?_
      refine yi_G_run 1 (17, [(0, .inl x)], [.inl 0], (I, L, R, Y), 0, 0) (fun _ => rfl) ?_
      exact yi_G_retb rfl rfl (by decide) (⟨_, rfl, by decide, by omega⟩)
    · refine yi_G_if2 false rfl (yi_gt_f h2) ?_
      refine yi_G_run 2 (17, [(0, .inl x)], [.inl 1], (I, L, R, Y), 0, 0) (fun _ => rfl) ?_
      exact yi_G_retb rfl rfl (by decide) (⟨_, rfl, by decide, by omega⟩)
theorem k_signAt (D : Nat) (hD : 1 ≤ D) {E : List Nat} {I L : cl_I} {R : cl_Rr} {Y : cl_Y} (hC : cl_C E I L R Y) {x : Int} : yi_E zi_Ms D 300 [.inr (.inr (some 12)), .inl x] (I, L, R, Y) (fun r => ∃ z, r = (some (.inl z), (I, L, R, Y), 0, 0) ∧ (z ≠ 0 → 0 ≤ x ∧ x < 1000)) := by
  obtain ⟨d, rfl⟩ : ∃ d, D = d + 1 := ⟨D - 1, by omega⟩
  refine yi_E_of (M := zi_m300) rfl rfl ?_
  have hP : cl_P E I L R Y I L R Y := cl_P_r hC
  show yi_G zi_Ms d zi_m300 (0, [(0, .inr (.inr (some 12))), (1, .inl x)], [], (I, L, R, Y), 0, 0) _
  refine yi_G_run 1 (1, [(0, .inr (.inr (some 12))), (1, .inl x)], [.inl x], (I, L, R, Y), 0, 0) (fun _ => rfl) ?_
  by_cases h1 : x < 0
  · refine yi_G_if1 true rfl (yi_lt_t h1) ?_
    refine yi_G_run 1 (31, [(0, .inr (.inr (some 12))), (1, .inl x)], [.inl 0], (I, L, R, Y), 0, 0) (fun _ => rfl) ?_
    exact cl_G_retc rfl rfl (by omega) (⟨_, rfl, by omega⟩)
  · refine yi_G_if1 false rfl (yi_lt_f h1) ?_
    refine yi_G_run 2 (6, [(0, .inr (.inr (some 12))), (1, .inl x)], [.inr (.inr (some 12)), .inl x], (I, L, R, Y), 0, 0) (fun _ => rfl) ?_
    have b2 := cl_rd hP.1 (cl_12 hP.1) (k := 5) (lo := 0) (hi := 1000) rfl
    refine cl_G_gi rfl (cl_T_K (cl_12 hP.1)) rfl rfl rfl ?_
    by_cases h3 : (I 12 5) ≤ x
    · refine yi_G_if2 true rfl (yi_ge_t h3) ?_
      refine yi_G_run 1 (31, [(0, .inr (.inr (some 12))), (1, .inl x)], [.inl 0], (I, L, R, Y), 0, 0) (fun _ => rfl) ?_
      exact cl_G_retc rfl rfl (by omega) (⟨_, rfl, by omega⟩)
    · refine yi_G_if2 false rfl (yi_ge_f h3) ?_
      refine yi_G_run 2 (14, [(0, .inr (.inr (some 12))), (1, .inl x)], [.inr (.inr (some 12)), .inl x], (I, L, R, Y), 0, 0) (fun _ => rfl) ?_
      obtain ⟨q4, e5, t6, n7⟩ := cl_rn hP.1 (cl_12 hP.1) (k := 0) (m := 999) rfl
      refine cl_G_gr rfl (cl_T_K (cl_12 hP.1)) rfl rfl rfl e5 ?_
      refine cl_G_len rfl t6 (by omega) ?_
      by_cases h8 : ((Y.2.1 q4 : Int)) ≤ x
      · refine yi_G_if2 true rfl (yi_ge_t h8) ?_
        refine yi_G_run 1 (31, [(0, .inr (.inr (some 12))), (1, .inl x)], [.inl 0], (I, L, R, Y), 0, 0) (fun _ => rfl) ?_
        exact cl_G_retc rfl rfl (by omega) (⟨_, rfl, by omega⟩)
      · refine yi_G_if2 false rfl (yi_ge_f h8) ?_
        refine yi_G_run 1 (22, [(0, .inr (.inr (some 12))), (1, .inl x)], [.inr (.inr (some 12))], (I, L, R, Y), 0, 0) (fun _ => rfl) ?_
        refine cl_G_gr rfl (cl_T_K (cl_12 hP.1)) rfl rfl rfl e5 ?_
        refine yi_G_run 1 (26, [(0, .inr (.inr (some 12))), (1, .inl x)], [.inl x, .inr (.inr (some q4))], (I, L, R, Y), 0, 0) (fun _ => rfl) ?_
        have b9 := cl_rd hP.1 t6 (k := x.toNat) (lo := 0) (hi := 65535) rfl
        refine cl_G_cald rfl t6 (by omega) (by omega) ?_
        refine yi_G_run 1 (31, [(0, .inr (.inr (some 12))), (1, .inl x)], [.inl (I q4 (x.toNat))], (I, L, R, Y), 0, 0) (fun _ => rfl) ?_
        exact cl_G_retc rfl rfl (by omega) (⟨_, rfl, by omega⟩)
theorem k_wordKind (D : Nat) (hD : 1 ≤ D) {E : List Nat} {I L : cl_I} {R : cl_Rr} {Y : cl_Y} (hC : cl_C E I L R Y) {v : Int} : yi_E zi_Ms D 301 [.inr (.inr (some 12)), .inr (.inl v)] (I, L, R, Y) (fun r => ∃ z, r = (some (.inl z), (I, L, R, Y), 0, 0)) := by
  obtain ⟨d, rfl⟩ : ∃ d, D = d + 1 := ⟨D - 1, by omega⟩
  refine yi_E_of (M := zi_m301) rfl rfl ?_
  have hP : cl_P E I L R Y I L R Y := cl_P_r hC
  show yi_G zi_Ms d zi_m301 (0, [(0, .inr (.inr (some 12))), (1, .inr (.inl v))], [], (I, L, R, Y), 0, 0) _
  refine yi_G_run 2 (2, [(3, .inl 0), (0, .inr (.inr (some 12))), (1, .inr (.inl v))], [], (I, L, R, Y), 0, 0) (fun _ => rfl) ?_
  have pt2 : ∀ (m_ : Nat) (j : Int), (0 ≤ j ∧ j ≤ 29) → (29 - j).toNat = m_ → yi_G zi_Ms d zi_m301 (2, [(3, .inl j), (0, .inr (.inr (some 12))), (1, .inr (.inl v))], [], (I, L, R, Y), 0, 0) (fun r => ∃ z, r = (some (.inl z), (I, L, R, Y), 0, 0)) := by
    intro m2
    induction m2 using Nat.strongRecOn with
    | _ m2 ih2 =>
    intro j j0 hm2
    refine yi_G_run 2 (4, [(3, .inl j), (0, .inr (.inr (some 12))), (1, .inr (.inl v))], [.inr (.inr (some 12)), .inl j], (I, L, R, Y), 0, 0) (fun _ => rfl) ?_
    obtain ⟨q1, e2, t3, n4⟩ := cl_rn hP.1 (cl_12 hP.1) (k := 4) (m := 28) rfl
    refine cl_G_gr rfl (cl_T_K (cl_12 hP.1)) rfl rfl rfl e2 ?_
    refine cl_G_len rfl t3 (by omega) ?_
    by_cases h5 : ((Y.2.1 q1 : Int)) ≤ j
    · refine yi_G_if2 true rfl (yi_ge_t h5) ?_
      refine yi_G_run 1 (33, [(3, .inl j), (0, .inr (.inr (some 12))), (1, .inr (.inl v))], [.inl 3], (I, L, R, Y), 0, 0) (fun _ => rfl) ?_
      exact yi_G_reti rfl rfl (⟨_, rfl⟩)
    · refine yi_G_if2 false rfl (yi_ge_f h5) ?_
      refine yi_G_run 1 (12, [(3, .inl j), (0, .inr (.inr (some 12))), (1, .inr (.inl v))], [.inr (.inr (some 12))], (I, L, R, Y), 0, 0) (fun _ => rfl) ?_
      refine cl_G_gr rfl (cl_T_K (cl_12 hP.1)) rfl rfl rfl e2 ?_
      refine yi_G_run 1 (16, [(3, .inl j), (0, .inr (.inr (some 12))), (1, .inr (.inl v))], [.inl j, .inr (.inr (some q1))], (I, L, R, Y), 0, 0) (fun _ => rfl) ?_
      refine cl_G_lald rfl t3 (by omega) (by omega) ?_
      refine yi_G_run 2 (19, [(3, .inl j), (0, .inr (.inr (some 12))), (1, .inr (.inl v))], [.inl (yi_lcmp (L q1 (j.toNat)) v)], (I, L, R, Y), 0, 0) (fun _ => rfl) ?_
      by_cases h6 : ((L q1 (j.toNat))) = v
      · refine yi_G_if1 false rfl (yi_Lne_f h6) ?_
        refine yi_G_run 3 (25, [(3, .inl j), (0, .inr (.inr (some 12))), (1, .inr (.inl v))], [.inl (yi_w (4 + j))], (I, L, R, Y), 0, 0) (fun _ => rfl) ?_
        exact yi_G_reti rfl rfl (⟨_, rfl⟩)
      · refine yi_G_if1 true rfl (yi_Lne_t h6) ?_
        refine yi_G_iinc [(3, .inl (j + 1)), (0, .inr (.inr (some 12))), (1, .inr (.inl v))] rfl rfl rfl (by rw [show yi_w (j + 1) = j + 1 from (yi_wn (by omega) (by omega)).trans (by omega)]; rfl) ?_
        refine yi_G_run 1 (2, [(3, .inl (j + 1)), (0, .inr (.inr (some 12))), (1, .inr (.inl v))], [], (I, L, R, Y), 0, 0) (fun _ => rfl) ?_
        exact ih2 _ (by omega) (j + 1) (by omega) rfl
  exact pt2 _ 0 (by omega) rfl
theorem k_addToken (D : Nat) (hD : 1 ≤ D) {E : List Nat} {I L : cl_I} {R : cl_Rr} {Y : cl_Y} (hC : cl_C E I L R Y) {x : Int} {y : Int} {v : Int} : yi_E zi_Ms D 291 [.inr (.inr (some 12)), .inl x, .inl y, .inr (.inl v)] (I, L, R, Y) (fun r => ∃ I', ∃ L', r = (none, (I', L', R, Y), 0, 0) ∧ cl_P E I L R Y I' L' R Y ∧ (1 ≤ I' 12 6) ∧ (∀ q, R 12 1 = some q → I 12 6 = 0 → x = 0 → y = 0 → I' q 0 = 0)) := by
  obtain ⟨d, rfl⟩ : ∃ d, D = d + 1 := ⟨D - 1, by omega⟩
  refine yi_E_of (M := zi_m291) rfl rfl ?_
  have hP : cl_P E I L R Y I L R Y := cl_P_r hC
  show yi_G zi_Ms d zi_m291 (0, [(0, .inr (.inr (some 12))), (1, .inl x), (2, .inl y), (3, .inr (.inl v))], [], (I, L, R, Y), 0, 0) _
  refine yi_G_run 1 (1, [(0, .inr (.inr (some 12))), (1, .inl x), (2, .inl y), (3, .inr (.inl v))], [.inr (.inr (some 12))], (I, L, R, Y), 0, 0) (fun _ => rfl) ?_
  have b1 := cl_rd hP.1 (cl_12 hP.1) (k := 6) (lo := 0) (hi := 1001) rfl
  refine cl_G_gi rfl (cl_T_K (cl_12 hP.1)) rfl rfl rfl ?_
  refine yi_G_run 1 (5, [(0, .inr (.inr (some 12))), (1, .inl x), (2, .inl y), (3, .inr (.inl v))], [.inr (.inr (some 12)), .inl (I 12 6)], (I, L, R, Y), 0, 0) (fun _ => rfl) ?_
  obtain ⟨q2, e3, t4, n5⟩ := cl_rn hP.1 (cl_12 hP.1) (k := 1) (m := 1000) rfl
  refine cl_G_gr rfl (cl_T_K (cl_12 hP.1)) rfl rfl rfl e3 ?_
  refine cl_G_len rfl t4 (by omega) ?_
  by_cases h6 : ((Y.2.1 q2 : Int)) ≤ (I 12 6)
  · refine yi_G_if2 true rfl (yi_ge_t h6) ?_
    exact yi_G_retv rfl rfl (⟨_, _, rfl, hP, by omega, (fun _ _ _ _ _ => by exfalso; omega)⟩)
  · refine yi_G_if2 false rfl (yi_ge_f h6) ?_
    refine yi_G_run 1 (13, [(0, .inr (.inr (some 12))), (1, .inl x), (2, .inl y), (3, .inr (.inl v))], [.inr (.inr (some 12))], (I, L, R, Y), 0, 0) (fun _ => rfl) ?_
    have b7 := cl_rd hP.1 (cl_12 hP.1) (k := 6) (lo := 0) (hi := 1001) rfl
    refine cl_G_gi rfl (cl_T_K (cl_12 hP.1)) rfl rfl rfl ?_
    refine yi_G_run 1 (17, [(0, .inr (.inr (some 12))), (1, .inl x), (2, .inl y), (3, .inr (.inl v))], [.inr (.inr (some 12)), .inl (I 12 6)], (I, L, R, Y), 0, 0) (fun _ => rfl) ?_
    obtain ⟨q8, e9, t10, n11⟩ := cl_rn hP.1 (cl_12 hP.1) (k := 2) (m := 1000) rfl
    refine cl_G_gr rfl (cl_T_K (cl_12 hP.1)) rfl rfl rfl e9 ?_
    refine cl_G_len rfl t10 (by omega) ?_
    by_cases h12 : ((Y.2.1 q8 : Int)) ≤ (I 12 6)
    · refine yi_G_if2 true rfl (yi_ge_t h12) ?_
      exact yi_G_retv rfl rfl (⟨_, _, rfl, hP, by omega, (fun _ _ _ _ _ => by exfalso; omega)⟩)
    · refine yi_G_if2 false rfl (yi_ge_f h12) ?_
      refine yi_G_run 1 (25, [(0, .inr (.inr (some 12))), (1, .inl x), (2, .inl y), (3, .inr (.inl v))], [.inr (.inr (some 12))], (I, L, R, Y), 0, 0) (fun _ => rfl) ?_
      have b13 := cl_rd hP.1 (cl_12 hP.1) (k := 6) (lo := 0) (hi := 1001) rfl
      refine cl_G_gi rfl (cl_T_K (cl_12 hP.1)) rfl rfl rfl ?_
      refine yi_G_run 1 (29, [(0, .inr (.inr (some 12))), (1, .inl x), (2, .inl y), (3, .inr (.inl v))], [.inr (.inr (some 12)), .inl (I 12 6)], (I, L, R, Y), 0, 0) (fun _ => rfl) ?_
      obtain ⟨q14, e15, t16, n17⟩ := cl_rn hP.1 (cl_12 hP.1) (k := 3) (m := 1000) rfl
      refine cl_G_gr rfl (cl_T_K (cl_12 hP.1)) rfl rfl rfl e15 ?_
      refine cl_G_len rfl t16 (by omega) ?_
      by_cases h18 : ((Y.2.1 q14 : Int)) ≤ (I 12 6)
      · refine yi_G_if2 true rfl (yi_ge_t h18) ?_
        exact yi_G_retv rfl rfl (⟨_, _, rfl, hP, by omega, (fun _ _ _ _ _ => by exfalso; omega)⟩)
      · refine yi_G_if2 false rfl (yi_ge_f h18) ?_
        refine yi_G_run 1 (37, [(0, .inr (.inr (some 12))), (1, .inl x), (2, .inl y), (3, .inr (.inl v))], [.inr (.inr (some 12))], (I, L, R, Y), 0, 0) (fun _ => rfl) ?_
        refine cl_G_gr rfl (cl_T_K (cl_12 hP.1)) rfl rfl rfl e3 ?_
        refine yi_G_run 1 (41, [(0, .inr (.inr (some 12))), (1, .inl x), (2, .inl y), (3, .inr (.inl v))], [.inr (.inr (some 12)), .inr (.inr (some q2))], (I, L, R, Y), 0, 0) (fun _ => rfl) ?_
        have b19 := cl_rd hP.1 (cl_12 hP.1) (k := 6) (lo := 0) (hi := 1001) rfl
        refine cl_G_gi rfl (cl_T_K (cl_12 hP.1)) rfl rfl rfl ?_
        refine yi_G_run 1 (45, [(0, .inr (.inr (some 12))), (1, .inl x), (2, .inl y), (3, .inr (.inl v))], [.inl x, .inl (I 12 6), .inr (.inr (some q2))], (I, L, R, Y), 0, 0) (fun _ => rfl) ?_
        refine cl_G_iast rfl t4 (by omega) (by omega) ?_
        have hP20 := cl_P_uI (k := ((I 12 6).toNat)) (v := x) hP t4 (by omega) (cl_hv0 rfl)
        generalize w21 : yi_u I q2 ((I 12 6).toNat) x = I22 at hP20 ⊢
        refine yi_G_run 1 (47, [(0, .inr (.inr (some 12))), (1, .inl x), (2, .inl y), (3, .inr (.inl v))], [.inr (.inr (some 12))], (I22, L, R, Y), 0, 0) (fun _ => rfl) ?_
        refine cl_G_gr rfl (cl_T_K (cl_12 hP20.1)) rfl rfl rfl e9 ?_
        refine yi_G_run 1 (51, [(0, .inr (.inr (some 12))), (1, .inl x), (2, .inl y), (3, .inr (.inl v))], [.inr (.inr (some 12)), .inr (.inr (some q8))], (I22, L, R, Y), 0, 0) (fun _ => rfl) ?_
        have b23 := cl_rd hP20.1 (cl_12 hP20.1) (k := 6) (lo := 0) (hi := 1001) rfl
        have r24 : I22 12 6 = I 12 6 := by rw [← w21, yi_u_ne _ _ (fun z => cl_ne (cl_12 hP20.1) t4 (by decide) z.1)]
        refine cl_G_gi rfl (cl_T_K (cl_12 hP20.1)) rfl rfl rfl ?_
        refine yi_G_run 1 (55, [(0, .inr (.inr (some 12))), (1, .inl x), (2, .inl y), (3, .inr (.inl v))], [.inl y, .inl (I22 12 6), .inr (.inr (some q8))], (I22, L, R, Y), 0, 0) (fun _ => rfl) ?_
        refine cl_G_iast rfl t10 (by omega) (by omega) ?_
        have hP25 := cl_P_uI (k := ((I22 12 6).toNat)) (v := y) hP20 t10 (by omega) (cl_hv0 rfl)
        generalize w26 : yi_u I22 q8 ((I22 12 6).toNat) y = I27 at hP25 ⊢
        refine yi_G_run 1 (57, [(0, .inr (.inr (some 12))), (1, .inl x), (2, .inl y), (3, .inr (.inl v))], [.inr (.inr (some 12))], (I27, L, R, Y), 0, 0) (fun _ => rfl) ?_
        refine cl_G_gr rfl (cl_T_K (cl_12 hP25.1)) rfl rfl rfl e15 ?_
        refine yi_G_run 1 (61, [(0, .inr (.inr (some 12))), (1, .inl x), (2, .inl y), (3, .inr (.inl v))], [.inr (.inr (some 12)), .inr (.inr (some q14))], (I27, L, R, Y), 0, 0) (fun _ => rfl) ?_
        have b28 := cl_rd hP25.1 (cl_12 hP25.1) (k := 6) (lo := 0) (hi := 1001) rfl
        have r29 : I27 12 6 = I 12 6 := by rw [← w26, yi_u_ne _ _ (fun z => cl_ne (cl_12 hP25.1) t10 (by decide) z.1), ← w21, yi_u_ne _ _ (fun z => cl_ne (cl_12 hP25.1) t4 (by decide) z.1)]
        refine cl_G_gi rfl (cl_T_K (cl_12 hP25.1)) rfl rfl rfl ?_
        refine yi_G_run 1 (65, [(0, .inr (.inr (some 12))), (1, .inl x), (2, .inl y), (3, .inr (.inl v))], [.inr (.inl v), .inl (I27 12 6), .inr (.inr (some q14))], (I27, L, R, Y), 0, 0) (fun _ => rfl) ?_
        refine cl_G_last rfl t16 (by omega) (by omega) ?_
        have hP30 := cl_P_uL (k := ((I27 12 6).toNat)) (v := v) hP25 t16 (by omega)
        generalize w31 : yi_u L q14 ((I27 12 6).toNat) v = L32 at hP30 ⊢
        refine yi_G_run 2 (68, [(0, .inr (.inr (some 12))), (1, .inl x), (2, .inl y), (3, .inr (.inl v))], [.inr (.inr (some 12)), .inr (.inr (some 12))], (I27, L32, R, Y), 0, 0) (fun _ => rfl) ?_
        have b33 := cl_rd hP30.1 (cl_12 hP30.1) (k := 6) (lo := 0) (hi := 1001) rfl
        have r34 : I27 12 6 = I 12 6 := by rw [← w26, yi_u_ne _ _ (fun z => cl_ne (cl_12 hP30.1) t10 (by decide) z.1), ← w21, yi_u_ne _ _ (fun z => cl_ne (cl_12 hP30.1) t4 (by decide) z.1)]
        refine cl_G_gi rfl (cl_T_K (cl_12 hP30.1)) rfl rfl rfl ?_
        refine yi_G_run 1 (72, [(0, .inr (.inr (some 12))), (1, .inl x), (2, .inl y), (3, .inr (.inl v))], [.inl 1, .inl (I27 12 6), .inr (.inr (some 12))], (I27, L32, R, Y), 0, 0) (fun _ => rfl) ?_
        refine yi_G_iadd rfl ((I27 12 6) + 1) (yi_wn (by omega) (by omega)) ?_
        refine cl_G_pi rfl (cl_T_K (cl_12 hP30.1)) rfl rfl rfl ?_
        have hP35 := cl_P_uI (k := 6) (v := (I27 12 6) + 1) hP30 (cl_12 hP30.1) (by decide) (cl_hv rfl (by omega) (by omega))
        generalize w36 : yi_u I27 12 6 ((I27 12 6) + 1) = I37 at hP35 ⊢
        have r38 : I37 12 6 = (I27 12 6) + 1 := by rw [← w36, yi_u_eq]
        exact yi_G_retv rfl rfl (⟨_, _, rfl, hP35, by omega, (fun q hq h0 hx0 hy0 => by have e_ : q = q2 := Option.some.inj (hq.symm.trans e3); have a_ : I22 q2 0 = x := (by rw [← w21, h0]; exact yi_u_eq I q2 0 x); rw [e_, ← w36, yi_u_ne _ _ (fun z => cl_ne t4 (cl_12 hP35.1) (by decide) z.1), ← w26]; unfold yi_u; split <;> omega)⟩)
theorem k_cutWord (D : Nat) (hD : 2 ≤ D) {E : List Nat} {I L : cl_I} {R : cl_Rr} {Y : cl_Y} (hC : cl_C E I L R Y) {x : Int} (hx : 0 ≤ x ∧ x ≤ 1000) : yi_E zi_Ms D 295 [.inr (.inr (some 12)), .inl x] (I, L, R, Y) (fun r => ∃ z, ∃ I', ∃ L', r = (some (.inl z), (I', L', R, Y), 0, 0) ∧ cl_P E I L R Y I' L' R Y ∧ (0 ≤ z ∧ z ≤ 1001)) := by
  obtain ⟨d, rfl⟩ : ∃ d, D = d + 1 := ⟨D - 1, by omega⟩
  refine yi_E_of (M := zi_m295) rfl rfl ?_
  have hP : cl_P E I L R Y I L R Y := cl_P_r hC
  show yi_G zi_Ms d zi_m295 (0, [(0, .inr (.inr (some 12))), (1, .inl x)], [], (I, L, R, Y), 0, 0) _
  refine yi_G_run 6 (7, [(5, .inl 0), (3, .inr (.inl 0)), (2, .inl x), (0, .inr (.inr (some 12))), (1, .inl x)], [], (I, L, R, Y), 0, 0) (fun _ => rfl) ?_
  have pt7 : ∀ (m_ : Nat) (j : Int) (en : Int) (v : Int), (0 ≤ j ∧ j ≤ 1000) → (0 ≤ en ∧ en ≤ 1001) → (1000 - j).toNat = m_ → yi_G zi_Ms d zi_m295 (7, [(5, .inl j), (3, .inr (.inl v)), (2, .inl en), (0, .inr (.inr (some 12))), (1, .inl x)], [], (I, L, R, Y), 0, 0) (fun r => ∃ z, ∃ I', ∃ L', r = (some (.inl z), (I', L', R, Y), 0, 0) ∧ cl_P E I L R Y I' L' R Y ∧ (0 ≤ z ∧ z ≤ 1001)) := by
    intro m7
    induction m7 using Nat.strongRecOn with
    | _ m7 ih7 =>
    intro j en v j0 e0 hm7
    refine yi_G_run 2 (12, [(5, .inl j), (3, .inr (.inl v)), (2, .inl en), (0, .inr (.inr (some 12))), (1, .inl x)], [.inl 1000, .inl j], (I, L, R, Y), 0, 0) (fun _ => rfl) ?_
    by_cases h1 : 1000 ≤ j
    · refine yi_G_if2 true rfl (yi_ge_t h1) ?_
      refine yi_G_run 5 (57, [(5, .inl j), (3, .inr (.inl v)), (2, .inl en), (0, .inr (.inr (some 12))), (1, .inl x)], [.inl 8, .inl (yi_w (en - x)), .inr (.inr (some 12))], (I, L, R, Y), 0, 0) (fun _ => rfl) ?_
      by_cases h2 : (yi_w (en - x)) ≤ 8
      · refine yi_G_if2 true rfl (yi_le_t h2) ?_
        refine yi_G_run 2 (66, [(5, .inl j), (3, .inr (.inl v)), (2, .inl en), (0, .inr (.inr (some 12))), (1, .inl x)], [.inr (.inl v), .inr (.inr (some 12)), .inr (.inr (some 12))], (I, L, R, Y), 0, 0) (fun _ => rfl) ?_
        refine yi_G_callv rfl rfl (cl_rcv (cl_12 hP.1) rfl) rfl (k_wordKind d (by omega) hP.1  ) ?_
        rintro _ ⟨z3, rfl⟩
        show yi_G zi_Ms d zi_m295 (69, [(5, .inl j), (3, .inr (.inl v)), (2, .inl en), (0, .inr (.inr (some 12))), (1, .inl x)], [.inl z3, .inr (.inr (some 12))], (I, L, R, Y), 0, 0) _
        refine yi_G_run 2 (71, [(5, .inl j), (3, .inr (.inl v)), (2, .inl en), (0, .inr (.inr (some 12))), (1, .inl x)], [.inr (.inl v), .inl x, .inl z3, .inr (.inr (some 12))], (I, L, R, Y), 0, 0) (fun _ => rfl) ?_
        refine yi_G_callv rfl rfl (cl_rcv (cl_12 hP.1) rfl) rfl (k_addToken d (by omega) hP.1  ) ?_
        rintro _ ⟨I4, L4, rfl, hQ4, x4a, x4b⟩
        have hP4 := cl_P_t hP hQ4
        show yi_G zi_Ms d zi_m295 (74, [(5, .inl j), (3, .inr (.inl v)), (2, .inl en), (0, .inr (.inr (some 12))), (1, .inl x)], [], (I4, L4, R, Y), 0, 0) _
        refine yi_G_run 1 (75, [(5, .inl j), (3, .inr (.inl v)), (2, .inl en), (0, .inr (.inr (some 12))), (1, .inl x)], [.inl en], (I4, L4, R, Y), 0, 0) (fun _ => rfl) ?_
        exact yi_G_reti rfl rfl (⟨_, _, _, rfl, hP4, by omega⟩)
      · refine yi_G_if2 false rfl (yi_le_f h2) ?_
        refine yi_G_run 4 (71, [(5, .inl j), (3, .inr (.inl v)), (2, .inl en), (0, .inr (.inr (some 12))), (1, .inl x)], [.inr (.inl v), .inl x, .inl 1, .inr (.inr (some 12))], (I, L, R, Y), 0, 0) (fun _ => rfl) ?_
        refine yi_G_callv rfl rfl (cl_rcv (cl_12 hP.1) rfl) rfl (k_addToken d (by omega) hP.1  ) ?_
        rintro _ ⟨I5, L5, rfl, hQ5, x5a, x5b⟩
        have hP5 := cl_P_t hP hQ5
        show yi_G zi_Ms d zi_m295 (74, [(5, .inl j), (3, .inr (.inl v)), (2, .inl en), (0, .inr (.inr (some 12))), (1, .inl x)], [], (I5, L5, R, Y), 0, 0) _
        refine yi_G_run 1 (75, [(5, .inl j), (3, .inr (.inl v)), (2, .inl en), (0, .inr (.inr (some 12))), (1, .inl x)], [.inl en], (I5, L5, R, Y), 0, 0) (fun _ => rfl) ?_
        exact yi_G_reti rfl rfl (⟨_, _, _, rfl, hP5, by omega⟩)
    · refine yi_G_if2 false rfl (yi_ge_f h1) ?_
      refine yi_G_run 2 (17, [(5, .inl j), (3, .inr (.inl v)), (2, .inl en), (0, .inr (.inr (some 12))), (1, .inl x)], [.inl en, .inr (.inr (some 12))], (I, L, R, Y), 0, 0) (fun _ => rfl) ?_
      refine yi_G_callv rfl rfl (cl_rcv (cl_12 hP.1) rfl) rfl (k_signAt d (by omega) hP.1  ) ?_
      rintro _ ⟨z6, rfl, x6a⟩
      show yi_G zi_Ms d zi_m295 (20, [(5, .inl j), (3, .inr (.inl v)), (2, .inl en), (0, .inr (.inr (some 12))), (1, .inl x)], [.inl z6], (I, L, R, Y), 0, 0) _
      refine yi_G_calls rfl rfl (k_isLetter d (by omega) hP.1  ) ?_
      rintro _ ⟨z7, rfl, hz7, x7a⟩
      show yi_G zi_Ms d zi_m295 (23, [(5, .inl j), (3, .inr (.inl v)), (2, .inl en), (0, .inr (.inr (some 12))), (1, .inl x)], [.inl z7], (I, L, R, Y), 0, 0) _
      by_cases h8 : z7 = 0
      · refine yi_G_if1 true rfl (yi_eq_t h8) ?_
        refine yi_G_run 5 (57, [(5, .inl j), (3, .inr (.inl v)), (2, .inl en), (0, .inr (.inr (some 12))), (1, .inl x)], [.inl 8, .inl (yi_w (en - x)), .inr (.inr (some 12))], (I, L, R, Y), 0, 0) (fun _ => rfl) ?_
        by_cases h9 : (yi_w (en - x)) ≤ 8
        · refine yi_G_if2 true rfl (yi_le_t h9) ?_
          refine yi_G_run 2 (66, [(5, .inl j), (3, .inr (.inl v)), (2, .inl en), (0, .inr (.inr (some 12))), (1, .inl x)], [.inr (.inl v), .inr (.inr (some 12)), .inr (.inr (some 12))], (I, L, R, Y), 0, 0) (fun _ => rfl) ?_
          refine yi_G_callv rfl rfl (cl_rcv (cl_12 hP.1) rfl) rfl (k_wordKind d (by omega) hP.1  ) ?_
          rintro _ ⟨z10, rfl⟩
          show yi_G zi_Ms d zi_m295 (69, [(5, .inl j), (3, .inr (.inl v)), (2, .inl en), (0, .inr (.inr (some 12))), (1, .inl x)], [.inl z10, .inr (.inr (some 12))], (I, L, R, Y), 0, 0) _
          refine yi_G_run 2 (71, [(5, .inl j), (3, .inr (.inl v)), (2, .inl en), (0, .inr (.inr (some 12))), (1, .inl x)], [.inr (.inl v), .inl x, .inl z10, .inr (.inr (some 12))], (I, L, R, Y), 0, 0) (fun _ => rfl) ?_
          refine yi_G_callv rfl rfl (cl_rcv (cl_12 hP.1) rfl) rfl (k_addToken d (by omega) hP.1  ) ?_
          rintro _ ⟨I11, L11, rfl, hQ11, x11a, x11b⟩
          have hP11 := cl_P_t hP hQ11
          show yi_G zi_Ms d zi_m295 (74, [(5, .inl j), (3, .inr (.inl v)), (2, .inl en), (0, .inr (.inr (some 12))), (1, .inl x)], [], (I11, L11, R, Y), 0, 0) _
          refine yi_G_run 1 (75, [(5, .inl j), (3, .inr (.inl v)), (2, .inl en), (0, .inr (.inr (some 12))), (1, .inl x)], [.inl en], (I11, L11, R, Y), 0, 0) (fun _ => rfl) ?_
          exact yi_G_reti rfl rfl (⟨_, _, _, rfl, hP11, by omega⟩)
        · refine yi_G_if2 false rfl (yi_le_f h9) ?_
          refine yi_G_run 4 (71, [(5, .inl j), (3, .inr (.inl v)), (2, .inl en), (0, .inr (.inr (some 12))), (1, .inl x)], [.inr (.inl v), .inl x, .inl 1, .inr (.inr (some 12))], (I, L, R, Y), 0, 0) (fun _ => rfl) ?_
          refine yi_G_callv rfl rfl (cl_rcv (cl_12 hP.1) rfl) rfl (k_addToken d (by omega) hP.1  ) ?_
          rintro _ ⟨I12, L12, rfl, hQ12, x12a, x12b⟩
          have hP12 := cl_P_t hP hQ12
          show yi_G zi_Ms d zi_m295 (74, [(5, .inl j), (3, .inr (.inl v)), (2, .inl en), (0, .inr (.inr (some 12))), (1, .inl x)], [], (I12, L12, R, Y), 0, 0) _
          refine yi_G_run 1 (75, [(5, .inl j), (3, .inr (.inl v)), (2, .inl en), (0, .inr (.inr (some 12))), (1, .inl x)], [.inl en], (I12, L12, R, Y), 0, 0) (fun _ => rfl) ?_
          exact yi_G_reti rfl rfl (⟨_, _, _, rfl, hP12, by omega⟩)
      · refine yi_G_if1 false rfl (yi_eq_f h8) ?_
        refine yi_G_run 5 (31, [(5, .inl j), (3, .inr (.inl v)), (2, .inl en), (0, .inr (.inr (some 12))), (1, .inl x)], [.inl en, .inr (.inr (some 12)), .inr (.inl (yi_lshl v 5))], (I, L, R, Y), 0, 0) (fun _ => rfl) ?_
        refine yi_G_callv rfl rfl (cl_rcv (cl_12 hP.1) rfl) rfl (k_signAt d (by omega) hP.1  ) ?_
        rintro _ ⟨z13, rfl, x13a⟩
        show yi_G zi_Ms d zi_m295 (34, [(5, .inl j), (3, .inr (.inl v)), (2, .inl en), (0, .inr (.inr (some 12))), (1, .inl x)], [.inl z13, .inr (.inl (yi_lshl v 5))], (I, L, R, Y), 0, 0) _
        refine yi_G_run 7 (42, [(3, .inr (.inl (yi_lor (yi_lshl v 5) (yi_w ((yi_w (z13 - 97)) + 1))))), (5, .inl j), (2, .inl en), (0, .inr (.inr (some 12))), (1, .inl x)], [], (I, L, R, Y), 0, 0) (fun _ => rfl) ?_
        refine yi_G_iinc [(2, .inl (en + 1)), (3, .inr (.inl (yi_lor (yi_lshl v 5) (yi_w ((yi_w (z13 - 97)) + 1))))), (5, .inl j), (0, .inr (.inr (some 12))), (1, .inl x)] rfl rfl rfl (by rw [show yi_w (en + 1) = en + 1 from (yi_wn (by omega) (by omega)).trans (by omega)]; rfl) ?_
        refine yi_G_iinc [(5, .inl (j + 1)), (2, .inl (en + 1)), (3, .inr (.inl (yi_lor (yi_lshl v 5) (yi_w ((yi_w (z13 - 97)) + 1))))), (0, .inr (.inr (some 12))), (1, .inl x)] rfl rfl rfl (by rw [show yi_w (j + 1) = j + 1 from (yi_wn (by omega) (by omega)).trans (by omega)]; rfl) ?_
        refine yi_G_run 1 (7, [(5, .inl (j + 1)), (2, .inl (en + 1)), (3, .inr (.inl (yi_lor (yi_lshl v 5) (yi_w ((yi_w (z13 - 97)) + 1))))), (0, .inr (.inr (some 12))), (1, .inl x)], [], (I, L, R, Y), 0, 0) (fun _ => rfl) ?_
        refine yi_G_al (al := [(5, .inl (j + 1)), (3, .inr (.inl (yi_lor (yi_lshl v 5) (yi_w ((yi_w (z13 - 97)) + 1))))), (2, .inl (en + 1)), (0, .inr (.inr (some 12))), (1, .inl x)]) (show ([5, 3, 2, 0, 1] : List Nat).Nodup by decide) (show ([5, 2, 3, 0, 1] : List Nat).Nodup by decide) (yi_mc (List.mem_of_getElem? (i := 0) rfl) (yi_mc (List.mem_of_getElem? (i := 2) rfl) (yi_mc (List.mem_of_getElem? (i := 1) rfl) (yi_mc (List.mem_of_getElem? (i := 3) rfl) (yi_mc (List.mem_of_getElem? (i := 4) rfl) yi_mn))))) ?_
        exact ih7 _ (by omega) (j + 1) (en + 1) (yi_lor (yi_lshl v 5) (yi_w ((yi_w (z13 - 97)) + 1))) (by omega) (by omega) rfl
  exact pt7 _ 0 x 0 (by omega) (by omega) rfl
theorem k_cutNumber (D : Nat) (hD : 2 ≤ D) {E : List Nat} {I L : cl_I} {R : cl_Rr} {Y : cl_Y} (hC : cl_C E I L R Y) {x : Int} (hx : 0 ≤ x ∧ x ≤ 1000) : yi_E zi_Ms D 293 [.inr (.inr (some 12)), .inl x] (I, L, R, Y) (fun r => ∃ z, ∃ I', ∃ L', r = (some (.inl z), (I', L', R, Y), 0, 0) ∧ cl_P E I L R Y I' L' R Y ∧ (0 ≤ z ∧ z ≤ 1001)) := by
  obtain ⟨d, rfl⟩ : ∃ d, D = d + 1 := ⟨D - 1, by omega⟩
  refine yi_E_of (M := zi_m293) rfl rfl ?_
  have hP : cl_P E I L R Y I L R Y := cl_P_r hC
  show yi_G zi_Ms d zi_m293 (0, [(0, .inr (.inr (some 12))), (1, .inl x)], [], (I, L, R, Y), 0, 0) _
  refine yi_G_run 6 (7, [(4, .inl 0), (3, .inl 0), (2, .inl x), (0, .inr (.inr (some 12))), (1, .inl x)], [], (I, L, R, Y), 0, 0) (fun _ => rfl) ?_
  have pt7 : ∀ (m_ : Nat) (j : Int) (en : Int) (v : Int), (0 ≤ j ∧ j ≤ 1000) → (0 ≤ en ∧ en ≤ 1001) → (1000 - j).toNat = m_ → yi_G zi_Ms d zi_m293 (7, [(4, .inl j), (3, .inl v), (2, .inl en), (0, .inr (.inr (some 12))), (1, .inl x)], [], (I, L, R, Y), 0, 0) (fun r => ∃ z, ∃ I', ∃ L', r = (some (.inl z), (I', L', R, Y), 0, 0) ∧ cl_P E I L R Y I' L' R Y ∧ (0 ≤ z ∧ z ≤ 1001)) := by
    intro m7
    induction m7 using Nat.strongRecOn with
    | _ m7 ih7 =>
    intro j en v j0 e0 hm7
    refine yi_G_run 2 (12, [(4, .inl j), (3, .inl v), (2, .inl en), (0, .inr (.inr (some 12))), (1, .inl x)], [.inl 1000, .inl j], (I, L, R, Y), 0, 0) (fun _ => rfl) ?_
    by_cases h1 : 1000 ≤ j
    · refine yi_G_if2 true rfl (yi_ge_t h1) ?_
      refine yi_G_run 5 (54, [(4, .inl j), (3, .inl v), (2, .inl en), (0, .inr (.inr (some 12))), (1, .inl x)], [.inl 4, .inl (yi_w (en - x)), .inr (.inr (some 12))], (I, L, R, Y), 0, 0) (fun _ => rfl) ?_
      by_cases h2 : (yi_w (en - x)) ≤ 4
      · refine yi_G_if2 true rfl (yi_le_t h2) ?_
        refine yi_G_run 4 (65, [(4, .inl j), (3, .inl v), (2, .inl en), (0, .inr (.inr (some 12))), (1, .inl x)], [.inr (.inl v), .inl x, .inl 2, .inr (.inr (some 12))], (I, L, R, Y), 0, 0) (fun _ => rfl) ?_
        refine yi_G_callv rfl rfl (cl_rcv (cl_12 hP.1) rfl) rfl (k_addToken d (by omega) hP.1  ) ?_
        rintro _ ⟨I3, L3, rfl, hQ3, x3a, x3b⟩
        have hP3 := cl_P_t hP hQ3
        show yi_G zi_Ms d zi_m293 (68, [(4, .inl j), (3, .inl v), (2, .inl en), (0, .inr (.inr (some 12))), (1, .inl x)], [], (I3, L3, R, Y), 0, 0) _
        refine yi_G_run 1 (69, [(4, .inl j), (3, .inl v), (2, .inl en), (0, .inr (.inr (some 12))), (1, .inl x)], [.inl en], (I3, L3, R, Y), 0, 0) (fun _ => rfl) ?_
        exact yi_G_reti rfl rfl (⟨_, _, _, rfl, hP3, by omega⟩)
      · refine yi_G_if2 false rfl (yi_le_f h2) ?_
        refine yi_G_run 5 (65, [(4, .inl j), (3, .inl v), (2, .inl en), (0, .inr (.inr (some 12))), (1, .inl x)], [.inr (.inl v), .inl x, .inl 1, .inr (.inr (some 12))], (I, L, R, Y), 0, 0) (fun _ => rfl) ?_
        refine yi_G_callv rfl rfl (cl_rcv (cl_12 hP.1) rfl) rfl (k_addToken d (by omega) hP.1  ) ?_
        rintro _ ⟨I4, L4, rfl, hQ4, x4a, x4b⟩
        have hP4 := cl_P_t hP hQ4
        show yi_G zi_Ms d zi_m293 (68, [(4, .inl j), (3, .inl v), (2, .inl en), (0, .inr (.inr (some 12))), (1, .inl x)], [], (I4, L4, R, Y), 0, 0) _
        refine yi_G_run 1 (69, [(4, .inl j), (3, .inl v), (2, .inl en), (0, .inr (.inr (some 12))), (1, .inl x)], [.inl en], (I4, L4, R, Y), 0, 0) (fun _ => rfl) ?_
        exact yi_G_reti rfl rfl (⟨_, _, _, rfl, hP4, by omega⟩)
    · refine yi_G_if2 false rfl (yi_ge_f h1) ?_
      refine yi_G_run 2 (17, [(4, .inl j), (3, .inl v), (2, .inl en), (0, .inr (.inr (some 12))), (1, .inl x)], [.inl en, .inr (.inr (some 12))], (I, L, R, Y), 0, 0) (fun _ => rfl) ?_
      refine yi_G_callv rfl rfl (cl_rcv (cl_12 hP.1) rfl) rfl (k_signAt d (by omega) hP.1  ) ?_
      rintro _ ⟨z5, rfl, x5a⟩
      show yi_G zi_Ms d zi_m293 (20, [(4, .inl j), (3, .inl v), (2, .inl en), (0, .inr (.inr (some 12))), (1, .inl x)], [.inl z5], (I, L, R, Y), 0, 0) _
      refine yi_G_calls rfl rfl (k_isDigit d (by omega) hP.1  ) ?_
      rintro _ ⟨z6, rfl, hz6, x6a⟩
      show yi_G zi_Ms d zi_m293 (23, [(4, .inl j), (3, .inl v), (2, .inl en), (0, .inr (.inr (some 12))), (1, .inl x)], [.inl z6], (I, L, R, Y), 0, 0) _
      by_cases h7 : z6 = 0
      · refine yi_G_if1 true rfl (yi_eq_t h7) ?_
        refine yi_G_run 5 (54, [(4, .inl j), (3, .inl v), (2, .inl en), (0, .inr (.inr (some 12))), (1, .inl x)], [.inl 4, .inl (yi_w (en - x)), .inr (.inr (some 12))], (I, L, R, Y), 0, 0) (fun _ => rfl) ?_
        by_cases h8 : (yi_w (en - x)) ≤ 4
        · refine yi_G_if2 true rfl (yi_le_t h8) ?_
          refine yi_G_run 4 (65, [(4, .inl j), (3, .inl v), (2, .inl en), (0, .inr (.inr (some 12))), (1, .inl x)], [.inr (.inl v), .inl x, .inl 2, .inr (.inr (some 12))], (I, L, R, Y), 0, 0) (fun _ => rfl) ?_
          refine yi_G_callv rfl rfl (cl_rcv (cl_12 hP.1) rfl) rfl (k_addToken d (by omega) hP.1  ) ?_
          rintro _ ⟨I9, L9, rfl, hQ9, x9a, x9b⟩
          have hP9 := cl_P_t hP hQ9
          show yi_G zi_Ms d zi_m293 (68, [(4, .inl j), (3, .inl v), (2, .inl en), (0, .inr (.inr (some 12))), (1, .inl x)], [], (I9, L9, R, Y), 0, 0) _
          refine yi_G_run 1 (69, [(4, .inl j), (3, .inl v), (2, .inl en), (0, .inr (.inr (some 12))), (1, .inl x)], [.inl en], (I9, L9, R, Y), 0, 0) (fun _ => rfl) ?_
          exact yi_G_reti rfl rfl (⟨_, _, _, rfl, hP9, by omega⟩)
        · refine yi_G_if2 false rfl (yi_le_f h8) ?_
          refine yi_G_run 5 (65, [(4, .inl j), (3, .inl v), (2, .inl en), (0, .inr (.inr (some 12))), (1, .inl x)], [.inr (.inl v), .inl x, .inl 1, .inr (.inr (some 12))], (I, L, R, Y), 0, 0) (fun _ => rfl) ?_
          refine yi_G_callv rfl rfl (cl_rcv (cl_12 hP.1) rfl) rfl (k_addToken d (by omega) hP.1  ) ?_
          rintro _ ⟨I10, L10, rfl, hQ10, x10a, x10b⟩
          have hP10 := cl_P_t hP hQ10
          show yi_G zi_Ms d zi_m293 (68, [(4, .inl j), (3, .inl v), (2, .inl en), (0, .inr (.inr (some 12))), (1, .inl x)], [], (I10, L10, R, Y), 0, 0) _
          refine yi_G_run 1 (69, [(4, .inl j), (3, .inl v), (2, .inl en), (0, .inr (.inr (some 12))), (1, .inl x)], [.inl en], (I10, L10, R, Y), 0, 0) (fun _ => rfl) ?_
          exact yi_G_reti rfl rfl (⟨_, _, _, rfl, hP10, by omega⟩)
      · refine yi_G_if1 false rfl (yi_eq_f h7) ?_
        refine yi_G_run 5 (32, [(4, .inl j), (3, .inl v), (2, .inl en), (0, .inr (.inr (some 12))), (1, .inl x)], [.inl en, .inr (.inr (some 12)), .inl (yi_w (v * 10))], (I, L, R, Y), 0, 0) (fun _ => rfl) ?_
        refine yi_G_callv rfl rfl (cl_rcv (cl_12 hP.1) rfl) rfl (k_signAt d (by omega) hP.1  ) ?_
        rintro _ ⟨z11, rfl, x11a⟩
        show yi_G zi_Ms d zi_m293 (35, [(4, .inl j), (3, .inl v), (2, .inl en), (0, .inr (.inr (some 12))), (1, .inl x)], [.inl z11, .inl (yi_w (v * 10))], (I, L, R, Y), 0, 0) _
        refine yi_G_run 4 (40, [(3, .inl (yi_w ((yi_w ((yi_w (v * 10)) + z11)) - 48))), (4, .inl j), (2, .inl en), (0, .inr (.inr (some 12))), (1, .inl x)], [], (I, L, R, Y), 0, 0) (fun _ => rfl) ?_
        refine yi_G_iinc [(2, .inl (en + 1)), (3, .inl (yi_w ((yi_w ((yi_w (v * 10)) + z11)) - 48))), (4, .inl j), (0, .inr (.inr (some 12))), (1, .inl x)] rfl rfl rfl (by rw [show yi_w (en + 1) = en + 1 from (yi_wn (by omega) (by omega)).trans (by omega)]; rfl) ?_
        refine yi_G_iinc [(4, .inl (j + 1)), (2, .inl (en + 1)), (3, .inl (yi_w ((yi_w ((yi_w (v * 10)) + z11)) - 48))), (0, .inr (.inr (some 12))), (1, .inl x)] rfl rfl rfl (by rw [show yi_w (j + 1) = j + 1 from (yi_wn (by omega) (by omega)).trans (by omega)]; rfl) ?_
        refine yi_G_run 1 (7, [(4, .inl (j + 1)), (2, .inl (en + 1)), (3, .inl (yi_w ((yi_w ((yi_w (v * 10)) + z11)) - 48))), (0, .inr (.inr (some 12))), (1, .inl x)], [], (I, L, R, Y), 0, 0) (fun _ => rfl) ?_
        refine yi_G_al (al := [(4, .inl (j + 1)), (3, .inl (yi_w ((yi_w ((yi_w (v * 10)) + z11)) - 48))), (2, .inl (en + 1)), (0, .inr (.inr (some 12))), (1, .inl x)]) (show ([4, 3, 2, 0, 1] : List Nat).Nodup by decide) (show ([4, 2, 3, 0, 1] : List Nat).Nodup by decide) (yi_mc (List.mem_of_getElem? (i := 0) rfl) (yi_mc (List.mem_of_getElem? (i := 2) rfl) (yi_mc (List.mem_of_getElem? (i := 1) rfl) (yi_mc (List.mem_of_getElem? (i := 3) rfl) (yi_mc (List.mem_of_getElem? (i := 4) rfl) yi_mn))))) ?_
        exact ih7 _ (by omega) (j + 1) (en + 1) (yi_w ((yi_w ((yi_w (v * 10)) + z11)) - 48)) (by omega) (by omega) rfl
  exact pt7 _ 0 x 0 (by omega) (by omega) rfl
theorem k_cutToken (D : Nat) (hD : 6 ≤ D) {E : List Nat} {I L : cl_I} {R : cl_Rr} {Y : cl_Y} (hC : cl_C E I L R Y) {x : Int} (hx : 0 ≤ x ∧ x ≤ 1000) : yi_E zi_Ms D 294 [.inr (.inr (some 12)), .inl x] (I, L, R, Y) (fun r => ∃ z, ∃ I', ∃ L', r = (some (.inl z), (I', L', R, Y), 0, 0) ∧ cl_P E I L R Y I' L' R Y ∧ (0 ≤ z ∧ z ≤ 1001)) := by
  obtain ⟨d, rfl⟩ : ∃ d, D = d + 1 := ⟨D - 1, by omega⟩
  refine yi_E_of (M := zi_m294) rfl rfl ?_
  have hP : cl_P E I L R Y I L R Y := cl_P_r hC
  show yi_G zi_Ms d zi_m294 (0, [(0, .inr (.inr (some 12))), (1, .inl x)], [], (I, L, R, Y), 0, 0) _
  refine yi_G_run 2 (2, [(0, .inr (.inr (some 12))), (1, .inl x)], [.inl x, .inr (.inr (some 12))], (I, L, R, Y), 0, 0) (fun _ => rfl) ?_
  refine yi_G_callv rfl rfl (cl_rcv (cl_12 hP.1) rfl) rfl (k_signAt d (by omega) hP.1  ) ?_
  rintro _ ⟨z1, rfl, x1a⟩
  show yi_G zi_Ms d zi_m294 (5, [(0, .inr (.inr (some 12))), (1, .inl x)], [.inl z1], (I, L, R, Y), 0, 0) _
  refine yi_G_run 2 (7, [(2, .inl z1), (0, .inr (.inr (some 12))), (1, .inl x)], [.inl z1], (I, L, R, Y), 0, 0) (fun _ => rfl) ?_
  refine yi_G_calls rfl rfl (k_isLetter d (by omega) hP.1  ) ?_
  rintro _ ⟨z2, rfl, hz2, x2a⟩
  show yi_G zi_Ms d zi_m294 (10, [(2, .inl z1), (0, .inr (.inr (some 12))), (1, .inl x)], [.inl z2], (I, L, R, Y), 0, 0) _
  by_cases h3 : z2 = 0
  · refine yi_G_if1 true rfl (yi_eq_t h3) ?_
    refine yi_G_run 1 (20, [(2, .inl z1), (0, .inr (.inr (some 12))), (1, .inl x)], [.inl z1], (I, L, R, Y), 0, 0) (fun _ => rfl) ?_
    refine yi_G_calls rfl rfl (k_isDigit d (by omega) hP.1  ) ?_
    rintro _ ⟨z4, rfl, hz4, x4a⟩
    show yi_G zi_Ms d zi_m294 (23, [(2, .inl z1), (0, .inr (.inr (some 12))), (1, .inl x)], [.inl z4], (I, L, R, Y), 0, 0) _
    by_cases h5 : z4 = 0
    · refine yi_G_if1 true rfl (yi_eq_t h5) ?_
      refine yi_G_run 2 (35, [(2, .inl z1), (0, .inr (.inr (some 12))), (1, .inl x)], [.inl 32, .inl z1], (I, L, R, Y), 0, 0) (fun _ => rfl) ?_
      by_cases h6 : z1 = 32
      · refine yi_G_if2 true rfl (yi_eq_t h6) ?_
        refine yi_G_run 2 (66, [(2, .inl z1), (0, .inr (.inr (some 12))), (1, .inl x)], [.inl 1, .inl x], (I, L, R, Y), 0, 0) (fun _ => rfl) ?_
        refine yi_G_iadd rfl (x + 1) (yi_wn (by omega) (by omega)) ?_
        exact yi_G_reti rfl rfl (⟨_, _, _, rfl, hP, by omega⟩)
      · refine yi_G_if2 false rfl (yi_eq_f h6) ?_
        refine yi_G_run 2 (41, [(2, .inl z1), (0, .inr (.inr (some 12))), (1, .inl x)], [.inl 10, .inl z1], (I, L, R, Y), 0, 0) (fun _ => rfl) ?_
        by_cases h7 : z1 = 10
        · refine yi_G_if2 true rfl (yi_eq_t h7) ?_
          refine yi_G_run 2 (66, [(2, .inl z1), (0, .inr (.inr (some 12))), (1, .inl x)], [.inl 1, .inl x], (I, L, R, Y), 0, 0) (fun _ => rfl) ?_
          refine yi_G_iadd rfl (x + 1) (yi_wn (by omega) (by omega)) ?_
          exact yi_G_reti rfl rfl (⟨_, _, _, rfl, hP, by omega⟩)
        · refine yi_G_if2 false rfl (yi_eq_f h7) ?_
          refine yi_G_run 3 (48, [(2, .inl z1), (0, .inr (.inr (some 12))), (1, .inl x)], [.inl z1, .inr (.inr (some 2)), .inr (.inr (some 12))], (I, L, R, Y), 0, 0) (fun _ => rfl) ?_
          refine yi_G_callv rfl rfl rfl rfl (k_indexOf1 d (by omega) hP.1  ) ?_
          rintro _ ⟨z8, rfl⟩
          show yi_G zi_Ms d zi_m294 (51, [(2, .inl z1), (0, .inr (.inr (some 12))), (1, .inl x)], [.inl z8, .inr (.inr (some 12))], (I, L, R, Y), 0, 0) _
          by_cases h9 : z8 < 0
          · refine yi_G_if1 true rfl (yi_lt_t h9) ?_
            refine yi_G_run 3 (61, [(2, .inl z1), (0, .inr (.inr (some 12))), (1, .inl x)], [.inr (.inl 0), .inl x, .inl 1, .inr (.inr (some 12))], (I, L, R, Y), 0, 0) (fun _ => rfl) ?_
            refine yi_G_callv rfl rfl (cl_rcv (cl_12 hP.1) rfl) rfl (k_addToken d (by omega) hP.1  ) ?_
            rintro _ ⟨I10, L10, rfl, hQ10, x10a, x10b⟩
            have hP10 := cl_P_t hP hQ10
            show yi_G zi_Ms d zi_m294 (64, [(2, .inl z1), (0, .inr (.inr (some 12))), (1, .inl x)], [], (I10, L10, R, Y), 0, 0) _
            refine yi_G_run 2 (66, [(2, .inl z1), (0, .inr (.inr (some 12))), (1, .inl x)], [.inl 1, .inl x], (I10, L10, R, Y), 0, 0) (fun _ => rfl) ?_
            refine yi_G_iadd rfl (x + 1) (yi_wn (by omega) (by omega)) ?_
            exact yi_G_reti rfl rfl (⟨_, _, _, rfl, hP10, by omega⟩)
          · refine yi_G_if1 false rfl (yi_lt_f h9) ?_
            refine yi_G_run 4 (61, [(2, .inl z1), (0, .inr (.inr (some 12))), (1, .inl x)], [.inr (.inl 0), .inl x, .inl z1, .inr (.inr (some 12))], (I, L, R, Y), 0, 0) (fun _ => rfl) ?_
            refine yi_G_callv rfl rfl (cl_rcv (cl_12 hP.1) rfl) rfl (k_addToken d (by omega) hP.1  ) ?_
            rintro _ ⟨I11, L11, rfl, hQ11, x11a, x11b⟩
            have hP11 := cl_P_t hP hQ11
            show yi_G zi_Ms d zi_m294 (64, [(2, .inl z1), (0, .inr (.inr (some 12))), (1, .inl x)], [], (I11, L11, R, Y), 0, 0) _
            refine yi_G_run 2 (66, [(2, .inl z1), (0, .inr (.inr (some 12))), (1, .inl x)], [.inl 1, .inl x], (I11, L11, R, Y), 0, 0) (fun _ => rfl) ?_
            refine yi_G_iadd rfl (x + 1) (yi_wn (by omega) (by omega)) ?_
            exact yi_G_reti rfl rfl (⟨_, _, _, rfl, hP11, by omega⟩)
    · refine yi_G_if1 false rfl (yi_eq_f h5) ?_
      refine yi_G_run 2 (28, [(2, .inl z1), (0, .inr (.inr (some 12))), (1, .inl x)], [.inl x, .inr (.inr (some 12))], (I, L, R, Y), 0, 0) (fun _ => rfl) ?_
      refine yi_G_callv rfl rfl (cl_rcv (cl_12 hP.1) rfl) rfl (k_cutNumber d (by omega) hP.1  (by omega)) ?_
      rintro _ ⟨z12, I12, L12, rfl, hQ12, x12a⟩
      have hP12 := cl_P_t hP hQ12
      show yi_G zi_Ms d zi_m294 (31, [(2, .inl z1), (0, .inr (.inr (some 12))), (1, .inl x)], [.inl z12], (I12, L12, R, Y), 0, 0) _
      exact yi_G_reti rfl rfl (⟨_, _, _, rfl, hP12, by omega⟩)
  · refine yi_G_if1 false rfl (yi_eq_f h3) ?_
    refine yi_G_run 2 (15, [(2, .inl z1), (0, .inr (.inr (some 12))), (1, .inl x)], [.inl x, .inr (.inr (some 12))], (I, L, R, Y), 0, 0) (fun _ => rfl) ?_
    refine yi_G_callv rfl rfl (cl_rcv (cl_12 hP.1) rfl) rfl (k_cutWord d (by omega) hP.1  (by omega)) ?_
    rintro _ ⟨z13, I13, L13, rfl, hQ13, x13a⟩
    have hP13 := cl_P_t hP hQ13
    show yi_G zi_Ms d zi_m294 (18, [(2, .inl z1), (0, .inr (.inr (some 12))), (1, .inl x)], [.inl z13], (I13, L13, R, Y), 0, 0) _
    exact yi_G_reti rfl rfl (⟨_, _, _, rfl, hP13, by omega⟩)
theorem k_cut (D : Nat) (hD : 7 ≤ D) {E : List Nat} {I L : cl_I} {R : cl_Rr} {Y : cl_Y} (hC : cl_C E I L R Y) : yi_E zi_Ms D 292 [.inr (.inr (some 12))] (I, L, R, Y) (fun r => ∃ I', ∃ L', r = (none, (I', L', R, Y), 0, 0) ∧ cl_P E (yi_u I 12 5 0) L R Y I' L' R Y ∧ (1 ≤ I' 12 6) ∧ (∀ q, R 12 1 = some q → I 12 5 = 0 → I' q 0 = 0)) := by
  obtain ⟨d, rfl⟩ : ∃ d, D = d + 1 := ⟨D - 1, by omega⟩
  refine yi_E_of (M := zi_m292) rfl rfl ?_
  have hP : cl_P E I L R Y I L R Y := cl_P_r hC
  show yi_G zi_Ms d zi_m292 (0, [(0, .inr (.inr (some 12)))], [], (I, L, R, Y), 0, 0) _
  refine yi_G_run 2 (2, [(0, .inr (.inr (some 12)))], [.inl 0, .inr (.inr (some 12))], (I, L, R, Y), 0, 0) (fun _ => rfl) ?_
  refine cl_G_pi rfl (cl_T_K (cl_12 hP.1)) rfl rfl rfl ?_
  have hP1 := cl_P_uI (k := 6) (v := 0) hP (cl_12 hP.1) (by decide) (cl_hv rfl (by omega) (by omega))
  generalize w2 : yi_u I 12 6 0 = I3 at hP1 ⊢
  refine yi_G_run 4 (9, [(2, .inl 0), (1, .inl 0), (0, .inr (.inr (some 12)))], [], (I3, L, R, Y), 0, 0) (fun _ => rfl) ?_
  have pt9 : ∀ (m_ : Nat) (n : Int) (pl : Int) (Ip9 : cl_I) (Lp9 : cl_I), (cl_P E I L R Y Ip9 Lp9 R Y) → (0 ≤ n ∧ n ≤ 1000) → (0 ≤ pl ∧ pl ≤ 1001) → (I 12 5 = 0 → Ip9 12 6 = 0) → (1000 - n).toNat = m_ → yi_G zi_Ms d zi_m292 (9, [(2, .inl n), (1, .inl pl), (0, .inr (.inr (some 12)))], [], (Ip9, Lp9, R, Y), 0, 0) (fun r => ∃ I', ∃ L', r = (none, (I', L', R, Y), 0, 0) ∧ cl_P E (yi_u I 12 5 0) L R Y I' L' R Y ∧ (1 ≤ I' 12 6) ∧ (∀ q, R 12 1 = some q → I 12 5 = 0 → I' q 0 = 0)) := by
    intro m9
    induction m9 using Nat.strongRecOn with
    | _ m9 ih9 =>
    intro n pl Ip9 Lp9 hPp9 n0 p0 lz hm9
    have l5 := hPp9.2.2.2
    refine yi_G_run 2 (13, [(2, .inl n), (1, .inl pl), (0, .inr (.inr (some 12)))], [.inl 1000, .inl n], (Ip9, Lp9, R, Y), 0, 0) (fun _ => rfl) ?_
    by_cases h4 : 1000 ≤ n
    · refine yi_G_if2 true rfl (yi_ge_t h4) ?_
      refine yi_G_run 3 (39, [(2, .inl n), (1, .inl pl), (0, .inr (.inr (some 12)))], [.inr (.inr (some 12)), .inl 0, .inr (.inr (some 12))], (Ip9, Lp9, R, Y), 0, 0) (fun _ => rfl) ?_
      have b5 := cl_rd hPp9.1 (cl_12 hPp9.1) (k := 5) (lo := 0) (hi := 1000) rfl
      refine cl_G_gi rfl (cl_T_K (cl_12 hPp9.1)) rfl rfl rfl ?_
      refine yi_G_run 1 (43, [(2, .inl n), (1, .inl pl), (0, .inr (.inr (some 12)))], [.inr (.inl 0), .inl (Ip9 12 5), .inl 0, .inr (.inr (some 12))], (Ip9, Lp9, R, Y), 0, 0) (fun _ => rfl) ?_
      refine yi_G_callv rfl rfl (cl_rcv (cl_12 hPp9.1) rfl) rfl (k_addToken d (by omega) hPp9.1  ) ?_
      rintro _ ⟨I6, L6, rfl, hQ6, x6a, x6b⟩
      have hP6 := cl_P_t hPp9 hQ6
      show yi_G zi_Ms d zi_m292 (46, [(2, .inl n), (1, .inl pl), (0, .inr (.inr (some 12)))], [], (I6, L6, R, Y), 0, 0) _
      refine yi_G_run 2 (48, [(2, .inl n), (1, .inl pl), (0, .inr (.inr (some 12)))], [.inl 0, .inr (.inr (some 12))], (I6, L6, R, Y), 0, 0) (fun _ => rfl) ?_
      refine cl_G_pi rfl (cl_T_K (cl_12 hP6.1)) rfl rfl rfl ?_
      have hP7 := cl_P_len (v := 0) hP6 (by omega) (by omega)
      generalize w8 : yi_u I6 12 5 0 = I9 at hP7 ⊢
      exact yi_G_retv rfl rfl (⟨_, _, rfl, hP7, (by rw [← w8, yi_u_ne _ _ (fun z => absurd z.2 (by decide))]; exact x6a), (fun q hq h0 => by obtain ⟨q0, e0, tq0, _⟩ := cl_rn hC (cl_12 hC) (k := 1) (m := 1000) rfl; have e_ : q = q0 := Option.some.inj (hq.symm.trans e0); rw [← w8, yi_u_ne _ _ (fun z => cl_ne (e_ ▸ tq0) (cl_12 hC) (by decide) z.1)]; exact x6b q hq (lz h0) rfl (by omega))⟩)
    · refine yi_G_if2 false rfl (yi_ge_f h4) ?_
      refine yi_G_run 2 (18, [(2, .inl n), (1, .inl pl), (0, .inr (.inr (some 12)))], [.inr (.inr (some 12)), .inl pl], (Ip9, Lp9, R, Y), 0, 0) (fun _ => rfl) ?_
      have b10 := cl_rd hPp9.1 (cl_12 hPp9.1) (k := 5) (lo := 0) (hi := 1000) rfl
      refine cl_G_gi rfl (cl_T_K (cl_12 hPp9.1)) rfl rfl rfl ?_
      by_cases h11 : (Ip9 12 5) ≤ pl
      · refine yi_G_if2 true rfl (yi_ge_t h11) ?_
        refine yi_G_run 3 (39, [(2, .inl n), (1, .inl pl), (0, .inr (.inr (some 12)))], [.inr (.inr (some 12)), .inl 0, .inr (.inr (some 12))], (Ip9, Lp9, R, Y), 0, 0) (fun _ => rfl) ?_
        have b12 := cl_rd hPp9.1 (cl_12 hPp9.1) (k := 5) (lo := 0) (hi := 1000) rfl
        refine cl_G_gi rfl (cl_T_K (cl_12 hPp9.1)) rfl rfl rfl ?_
        refine yi_G_run 1 (43, [(2, .inl n), (1, .inl pl), (0, .inr (.inr (some 12)))], [.inr (.inl 0), .inl (Ip9 12 5), .inl 0, .inr (.inr (some 12))], (Ip9, Lp9, R, Y), 0, 0) (fun _ => rfl) ?_
        refine yi_G_callv rfl rfl (cl_rcv (cl_12 hPp9.1) rfl) rfl (k_addToken d (by omega) hPp9.1  ) ?_
        rintro _ ⟨I13, L13, rfl, hQ13, x13a, x13b⟩
        have hP13 := cl_P_t hPp9 hQ13
        show yi_G zi_Ms d zi_m292 (46, [(2, .inl n), (1, .inl pl), (0, .inr (.inr (some 12)))], [], (I13, L13, R, Y), 0, 0) _
        refine yi_G_run 2 (48, [(2, .inl n), (1, .inl pl), (0, .inr (.inr (some 12)))], [.inl 0, .inr (.inr (some 12))], (I13, L13, R, Y), 0, 0) (fun _ => rfl) ?_
        refine cl_G_pi rfl (cl_T_K (cl_12 hP13.1)) rfl rfl rfl ?_
        have hP14 := cl_P_len (v := 0) hP13 (by omega) (by omega)
        generalize w15 : yi_u I13 12 5 0 = I16 at hP14 ⊢
        exact yi_G_retv rfl rfl (⟨_, _, rfl, hP14, (by rw [← w15, yi_u_ne _ _ (fun z => absurd z.2 (by decide))]; exact x13a), (fun q hq h0 => by obtain ⟨q0, e0, tq0, _⟩ := cl_rn hC (cl_12 hC) (k := 1) (m := 1000) rfl; have e_ : q = q0 := Option.some.inj (hq.symm.trans e0); rw [← w15, yi_u_ne _ _ (fun z => cl_ne (e_ ▸ tq0) (cl_12 hC) (by decide) z.1)]; exact x13b q hq (lz h0) rfl (by omega))⟩)
      · refine yi_G_if2 false rfl (yi_ge_f h11) ?_
        refine yi_G_run 2 (26, [(2, .inl n), (1, .inl pl), (0, .inr (.inr (some 12)))], [.inl pl, .inr (.inr (some 12))], (Ip9, Lp9, R, Y), 0, 0) (fun _ => rfl) ?_
        refine yi_G_callv rfl rfl (cl_rcv (cl_12 hPp9.1) rfl) rfl (k_cutToken d (by omega) hPp9.1  (by omega)) ?_
        rintro _ ⟨z17, I17, L17, rfl, hQ17, x17a⟩
        have hP17 := cl_P_t hPp9 hQ17
        show yi_G zi_Ms d zi_m292 (29, [(2, .inl n), (1, .inl pl), (0, .inr (.inr (some 12)))], [.inl z17], (I17, L17, R, Y), 0, 0) _
        refine yi_G_run 1 (30, [(1, .inl z17), (2, .inl n), (0, .inr (.inr (some 12)))], [], (I17, L17, R, Y), 0, 0) (fun _ => rfl) ?_
        refine yi_G_iinc [(2, .inl (n + 1)), (1, .inl z17), (0, .inr (.inr (some 12)))] rfl rfl rfl (by rw [show yi_w (n + 1) = n + 1 from (yi_wn (by omega) (by omega)).trans (by omega)]; rfl) ?_
        refine yi_G_run 1 (9, [(2, .inl (n + 1)), (1, .inl z17), (0, .inr (.inr (some 12)))], [], (I17, L17, R, Y), 0, 0) (fun _ => rfl) ?_
        exact ih9 _ (by omega) (n + 1) z17 I17 L17 hP17 (by omega) (by omega) (by omega) rfl
  have r18 : I3 12 6 = 0 := by rw [← w2, yi_u_eq]
  exact pt9 _ 0 0 I3 L hP1 (by omega) (by omega) (by omega) rfl
theorem k_putBytes (D : Nat) (hD : 1 ≤ D) {E : List Nat} {I L : cl_I} {R : cl_Rr} {Y : cl_Y} (hC : cl_C E I L R Y) {v : Int} : yi_E zi_Ms D 299 [.inr (.inr (some 12)), .inr (.inl v)] (I, L, R, Y) (fun r => ∃ I', r = (none, (I', L, R, Y), 0, 0) ∧ cl_P E (yi_u I 12 5 (I' 12 5)) L R Y I' L R Y ∧ I' 12 5 = ym_ly (fun k => yi_w (yi_land (yi_lushr v k) 255)) (I 12 5) 8) := by
  obtain ⟨d, rfl⟩ : ∃ d, D = d + 1 := ⟨D - 1, by omega⟩
  refine yi_E_of (M := zi_m299) rfl rfl ?_
  have hP : cl_P E I L R Y I L R Y := cl_P_r hC
  have tb0 := cl_rd hP.1 (cl_12 hP.1) (k := 5) (lo := 0) (hi := 1000) rfl
  show yi_G zi_Ms d zi_m299 (0, [(0, .inr (.inr (some 12))), (1, .inr (.inl v))], [], (I, L, R, Y), 0, 0) _
  have pt3 : ∀ (m_ : Nat) (k : Int) (Ip3 : cl_I), (cl_P E (yi_u I 12 5 (Ip3 12 5)) L R Y Ip3 L R Y) → (-8 ≤ k ∧ k ≤ 56 ∧ k % 8 = 0) → (Ip3 12 5 = ym_ly (fun k => yi_w (yi_land (yi_lushr v k) 255)) (I 12 5) ((56 - k) / 8).toNat) → (k + 8).toNat = m_ → yi_G zi_Ms d zi_m299 (3, [(0, .inr (.inr (some 12))), (1, .inr (.inl v)), (3, .inl k)], [], (Ip3, L, R, Y), 0, 0) (fun r => ∃ I', r = (none, (I', L, R, Y), 0, 0) ∧ cl_P E (yi_u I 12 5 (I' 12 5)) L R Y I' L R Y ∧ I' 12 5 = ym_ly (fun k => yi_w (yi_land (yi_lushr v k) 255)) (I 12 5) 8) := by
    intro m3
    induction m3 using Nat.strongRecOn with
    | _ m3 ih3 =>
    intro k Ip3 hPq k0 hx hm3
    have tb := cl_rd hPq.1 (cl_12 hPq.1) (k := 5) (lo := 0) (hi := 1000) rfl
    refine yi_G_run 1 (4, [(0, .inr (.inr (some 12))), (1, .inr (.inl v)), (3, .inl k)], [.inl k], (Ip3, L, R, Y), 0, 0) (fun _ => rfl) ?_
    by_cases h1 : k < 0
    · refine yi_G_if1 true rfl (yi_lt_t h1) ?_
      exact yi_G_retv rfl rfl (⟨_, rfl, hPq, by rw [hx, show ((56 - k) / 8).toNat = 8 by omega]⟩)
    · refine yi_G_if1 false rfl (yi_lt_f h1) ?_
      refine yi_G_run 3 (10, [(0, .inr (.inr (some 12))), (1, .inr (.inl v)), (3, .inl k)], [.inr (.inl (yi_lushr v k))], (Ip3, L, R, Y), 0, 0) (fun _ => rfl) ?_
      refine yi_G_ldc2 (255) rfl (by decide +kernel) ?_
      refine yi_G_run 5 (21, [(4, .inl (yi_w (yi_land (yi_lushr v k) 255))), (0, .inr (.inr (some 12))), (1, .inr (.inl v)), (3, .inl k)], [.inl 10, .inl (yi_w (yi_land (yi_lushr v k) 255))], (Ip3, L, R, Y), 0, 0) (fun _ => rfl) ?_
      by_cases h2 : (yi_w (yi_land (yi_lushr v k) 255)) = 10
      · refine yi_G_if2 true rfl (yi_eq_t h2) ?_
        refine yi_G_run 4 (47, [(5, .inl 1), (4, .inl (yi_w (yi_land (yi_lushr v k) 255))), (0, .inr (.inr (some 12))), (1, .inr (.inl v)), (3, .inl k)], [.inl 1], (Ip3, L, R, Y), 0, 0) (fun _ => rfl) ?_
        refine yi_G_if1 false rfl (by decide) ?_
        refine yi_G_run 1 (51, [(5, .inl 1), (4, .inl (yi_w (yi_land (yi_lushr v k) 255))), (0, .inr (.inr (some 12))), (1, .inr (.inl v)), (3, .inl k)], [.inr (.inr (some 12))], (Ip3, L, R, Y), 0, 0) (fun _ => rfl) ?_
        have b3 := cl_rd hPq.1 (cl_12 hPq.1) (k := 5) (lo := 0) (hi := 1000) rfl
        refine cl_G_gi rfl (cl_T_K (cl_12 hPq.1)) rfl rfl rfl ?_
        refine yi_G_run 1 (55, [(5, .inl 1), (4, .inl (yi_w (yi_land (yi_lushr v k) 255))), (0, .inr (.inr (some 12))), (1, .inr (.inl v)), (3, .inl k)], [.inr (.inr (some 12)), .inl (Ip3 12 5)], (Ip3, L, R, Y), 0, 0) (fun _ => rfl) ?_
        obtain ⟨q4, e5, t6, n7⟩ := cl_rn hPq.1 (cl_12 hPq.1) (k := 0) (m := 999) rfl
        refine cl_G_gr rfl (cl_T_K (cl_12 hPq.1)) rfl rfl rfl e5 ?_
        refine cl_G_len rfl t6 (by omega) ?_
        by_cases h8 : ((Y.2.1 q4 : Int)) ≤ (Ip3 12 5)
        · refine yi_G_if2 true rfl (yi_ge_t h8) ?_
          refine yi_G_iinc [(3, .inl (k - 8)), (5, .inl 1), (4, .inl (yi_w (yi_land (yi_lushr v k) 255))), (0, .inr (.inr (some 12))), (1, .inr (.inl v))] rfl rfl rfl (by rw [show yi_w (k + (-8)) = k - 8 from (yi_wn (by omega) (by omega)).trans (by omega)]; rfl) ?_
          refine yi_G_run 1 (3, [(3, .inl (k - 8)), (5, .inl 1), (4, .inl (yi_w (yi_land (yi_lushr v k) 255))), (0, .inr (.inr (some 12))), (1, .inr (.inl v))], [], (Ip3, L, R, Y), 0, 0) (fun _ => rfl) ?_
          refine yi_G_al (al := [(0, .inr (.inr (some 12))), (1, .inr (.inl v)), (3, .inl (k - 8))]) (show ([0, 1, 3] : List Nat).Nodup by decide) (show ([3, 5, 4, 0, 1] : List Nat).Nodup by decide) (yi_mc (List.mem_of_getElem? (i := 3) rfl) (yi_mc (List.mem_of_getElem? (i := 4) rfl) (yi_mc (List.mem_of_getElem? (i := 0) rfl) yi_mn))) ?_
          exact ih3 _ (by omega) (k - 8) Ip3 hPq (by omega) (by have e := ym_ly_s (b := (fun k => yi_w (yi_land (yi_lushr v k) 255))) (t := I 12 5) (k := k) (x := Ip3 12 5) (by omega) (by omega) (by omega) hx; rw [← e, if_neg (by omega)]) rfl
        · refine yi_G_if2 false rfl (yi_ge_f h8) ?_
          refine yi_G_run 1 (63, [(5, .inl 1), (4, .inl (yi_w (yi_land (yi_lushr v k) 255))), (0, .inr (.inr (some 12))), (1, .inr (.inl v)), (3, .inl k)], [.inr (.inr (some 12))], (Ip3, L, R, Y), 0, 0) (fun _ => rfl) ?_
          refine cl_G_gr rfl (cl_T_K (cl_12 hPq.1)) rfl rfl rfl e5 ?_
          refine yi_G_run 1 (67, [(5, .inl 1), (4, .inl (yi_w (yi_land (yi_lushr v k) 255))), (0, .inr (.inr (some 12))), (1, .inr (.inl v)), (3, .inl k)], [.inr (.inr (some 12)), .inr (.inr (some q4))], (Ip3, L, R, Y), 0, 0) (fun _ => rfl) ?_
          have b9 := cl_rd hPq.1 (cl_12 hPq.1) (k := 5) (lo := 0) (hi := 1000) rfl
          refine cl_G_gi rfl (cl_T_K (cl_12 hPq.1)) rfl rfl rfl ?_
          refine yi_G_run 2 (73, [(5, .inl 1), (4, .inl (yi_w (yi_land (yi_lushr v k) 255))), (0, .inr (.inr (some 12))), (1, .inr (.inl v)), (3, .inl k)], [.inl ((yi_w (yi_land (yi_lushr v k) 255)) % 65536), .inl (Ip3 12 5), .inr (.inr (some q4))], (Ip3, L, R, Y), 0, 0) (fun _ => rfl) ?_
          refine cl_G_cast rfl t6 (by omega) (by omega) (by omega) ?_
          have hP10 := cl_P_uI (k := ((Ip3 12 5).toNat)) (v := (yi_w (yi_land (yi_lushr v k) 255)) % 65536) hPq t6 (by omega) (cl_hv rfl (by omega) (by omega))
          generalize w11 : yi_u Ip3 q4 ((Ip3 12 5).toNat) ((yi_w (yi_land (yi_lushr v k) 255)) % 65536) = I12 at hP10 ⊢
          refine yi_G_run 2 (76, [(5, .inl 1), (4, .inl (yi_w (yi_land (yi_lushr v k) 255))), (0, .inr (.inr (some 12))), (1, .inr (.inl v)), (3, .inl k)], [.inr (.inr (some 12)), .inr (.inr (some 12))], (I12, L, R, Y), 0, 0) (fun _ => rfl) ?_
          have b13 := cl_rd hP10.1 (cl_12 hP10.1) (k := 5) (lo := 0) (hi := 1000) rfl
          have r14 : I12 12 5 = Ip3 12 5 := by rw [← w11, yi_u_ne _ _ (fun z => cl_ne (cl_12 hP10.1) t6 (by decide) z.1)]
          refine cl_G_gi rfl (cl_T_K (cl_12 hP10.1)) rfl rfl rfl ?_
          refine yi_G_run 1 (80, [(5, .inl 1), (4, .inl (yi_w (yi_land (yi_lushr v k) 255))), (0, .inr (.inr (some 12))), (1, .inr (.inl v)), (3, .inl k)], [.inl 1, .inl (I12 12 5), .inr (.inr (some 12))], (I12, L, R, Y), 0, 0) (fun _ => rfl) ?_
          refine yi_G_iadd rfl ((I12 12 5) + 1) (yi_wn (by omega) (by omega)) ?_
          refine cl_G_pi rfl (cl_T_K (cl_12 hP10.1)) rfl rfl rfl ?_
          have hP15 := cl_P_len (v := (I12 12 5) + 1) hP10 (by omega) (by omega)
          generalize w16 : yi_u I12 12 5 ((I12 12 5) + 1) = I17 at hP15 ⊢
          refine yi_G_iinc [(3, .inl (k - 8)), (5, .inl 1), (4, .inl (yi_w (yi_land (yi_lushr v k) 255))), (0, .inr (.inr (some 12))), (1, .inr (.inl v))] rfl rfl rfl (by rw [show yi_w (k + (-8)) = k - 8 from (yi_wn (by omega) (by omega)).trans (by omega)]; rfl) ?_
          refine yi_G_run 1 (3, [(3, .inl (k - 8)), (5, .inl 1), (4, .inl (yi_w (yi_land (yi_lushr v k) 255))), (0, .inr (.inr (some 12))), (1, .inr (.inl v))], [], (I17, L, R, Y), 0, 0) (fun _ => rfl) ?_
          refine yi_G_al (al := [(0, .inr (.inr (some 12))), (1, .inr (.inl v)), (3, .inl (k - 8))]) (show ([0, 1, 3] : List Nat).Nodup by decide) (show ([3, 5, 4, 0, 1] : List Nat).Nodup by decide) (yi_mc (List.mem_of_getElem? (i := 3) rfl) (yi_mc (List.mem_of_getElem? (i := 4) rfl) (yi_mc (List.mem_of_getElem? (i := 0) rfl) yi_mn))) ?_
          have r18 : I17 12 5 = (I12 12 5) + 1 := by rw [← w16, yi_u_eq]
          exact ih3 _ (by omega) (k - 8) I17 (by rw [show I17 12 5 = (I12 12 5) + 1 from by rw [← w16, yi_u_eq], ← cl_uu I 12 5 (Ip3 12 5)]; exact hP15) (by omega) (by have e := ym_ly_s (b := (fun k => yi_w (yi_land (yi_lushr v k) 255))) (t := I 12 5) (k := k) (x := Ip3 12 5) (by omega) (by omega) (by omega) hx; rw [← e, if_pos (by omega)]; omega) rfl
      · refine yi_G_if2 false rfl (yi_eq_f h2) ?_
        refine yi_G_run 2 (28, [(4, .inl (yi_w (yi_land (yi_lushr v k) 255))), (0, .inr (.inr (some 12))), (1, .inr (.inl v)), (3, .inl k)], [.inl 32, .inl (yi_w (yi_land (yi_lushr v k) 255))], (Ip3, L, R, Y), 0, 0) (fun _ => rfl) ?_
        by_cases h19 : (yi_w (yi_land (yi_lushr v k) 255)) < 32
        · refine yi_G_if2 true rfl (yi_lt_t h19) ?_
          refine yi_G_run 3 (47, [(5, .inl 0), (4, .inl (yi_w (yi_land (yi_lushr v k) 255))), (0, .inr (.inr (some 12))), (1, .inr (.inl v)), (3, .inl k)], [.inl 0], (Ip3, L, R, Y), 0, 0) (fun _ => rfl) ?_
          refine yi_G_if1 true rfl (by decide) ?_
          refine yi_G_iinc [(3, .inl (k - 8)), (5, .inl 0), (4, .inl (yi_w (yi_land (yi_lushr v k) 255))), (0, .inr (.inr (some 12))), (1, .inr (.inl v))] rfl rfl rfl (by rw [show yi_w (k + (-8)) = k - 8 from (yi_wn (by omega) (by omega)).trans (by omega)]; rfl) ?_
          refine yi_G_run 1 (3, [(3, .inl (k - 8)), (5, .inl 0), (4, .inl (yi_w (yi_land (yi_lushr v k) 255))), (0, .inr (.inr (some 12))), (1, .inr (.inl v))], [], (Ip3, L, R, Y), 0, 0) (fun _ => rfl) ?_
          refine yi_G_al (al := [(0, .inr (.inr (some 12))), (1, .inr (.inl v)), (3, .inl (k - 8))]) (show ([0, 1, 3] : List Nat).Nodup by decide) (show ([3, 5, 4, 0, 1] : List Nat).Nodup by decide) (yi_mc (List.mem_of_getElem? (i := 3) rfl) (yi_mc (List.mem_of_getElem? (i := 4) rfl) (yi_mc (List.mem_of_getElem? (i := 0) rfl) yi_mn))) ?_
          exact ih3 _ (by omega) (k - 8) Ip3 hPq (by omega) (by have e := ym_ly_s (b := (fun k => yi_w (yi_land (yi_lushr v k) 255))) (t := I 12 5) (k := k) (x := Ip3 12 5) (by omega) (by omega) (by omega) hx; rw [← e, if_neg (by omega)]) rfl
        · refine yi_G_if2 false rfl (yi_lt_f h19) ?_
          refine yi_G_run 2 (35, [(4, .inl (yi_w (yi_land (yi_lushr v k) 255))), (0, .inr (.inr (some 12))), (1, .inr (.inl v)), (3, .inl k)], [.inl 126, .inl (yi_w (yi_land (yi_lushr v k) 255))], (Ip3, L, R, Y), 0, 0) (fun _ => rfl) ?_
          by_cases h20 : 126 < (yi_w (yi_land (yi_lushr v k) 255))
          · refine yi_G_if2 true rfl (yi_gt_t h20) ?_
            refine yi_G_run 3 (47, [(5, .inl 0), (4, .inl (yi_w (yi_land (yi_lushr v k) 255))), (0, .inr (.inr (some 12))), (1, .inr (.inl v)), (3, .inl k)], [.inl 0], (Ip3, L, R, Y), 0, 0) (fun _ => rfl) ?_
            refine yi_G_if1 true rfl (by decide) ?_
            refine yi_G_iinc [(3, .inl (k - 8)), (5, .inl 0), (4, .inl (yi_w (yi_land (yi_lushr v k) 255))), (0, .inr (.inr (some 12))), (1, .inr (.inl v))] rfl rfl rfl (by rw [show yi_w (k + (-8)) = k - 8 from (yi_wn (by omega) (by omega)).trans (by omega)]; rfl) ?_
            refine yi_G_run 1 (3, [(3, .inl (k - 8)), (5, .inl 0), (4, .inl (yi_w (yi_land (yi_lushr v k) 255))), (0, .inr (.inr (some 12))), (1, .inr (.inl v))], [], (Ip3, L, R, Y), 0, 0) (fun _ => rfl) ?_
            refine yi_G_al (al := [(0, .inr (.inr (some 12))), (1, .inr (.inl v)), (3, .inl (k - 8))]) (show ([0, 1, 3] : List Nat).Nodup by decide) (show ([3, 5, 4, 0, 1] : List Nat).Nodup by decide) (yi_mc (List.mem_of_getElem? (i := 3) rfl) (yi_mc (List.mem_of_getElem? (i := 4) rfl) (yi_mc (List.mem_of_getElem? (i := 0) rfl) yi_mn))) ?_
            exact ih3 _ (by omega) (k - 8) Ip3 hPq (by omega) (by have e := ym_ly_s (b := (fun k => yi_w (yi_land (yi_lushr v k) 255))) (t := I 12 5) (k := k) (x := Ip3 12 5) (by omega) (by omega) (by omega) hx; rw [← e, if_neg (by omega)]) rfl
          · refine yi_G_if2 false rfl (yi_gt_f h20) ?_
            refine yi_G_run 4 (47, [(5, .inl 1), (4, .inl (yi_w (yi_land (yi_lushr v k) 255))), (0, .inr (.inr (some 12))), (1, .inr (.inl v)), (3, .inl k)], [.inl 1], (Ip3, L, R, Y), 0, 0) (fun _ => rfl) ?_
            refine yi_G_if1 false rfl (by decide) ?_
            refine yi_G_run 1 (51, [(5, .inl 1), (4, .inl (yi_w (yi_land (yi_lushr v k) 255))), (0, .inr (.inr (some 12))), (1, .inr (.inl v)), (3, .inl k)], [.inr (.inr (some 12))], (Ip3, L, R, Y), 0, 0) (fun _ => rfl) ?_
            have b21 := cl_rd hPq.1 (cl_12 hPq.1) (k := 5) (lo := 0) (hi := 1000) rfl
            refine cl_G_gi rfl (cl_T_K (cl_12 hPq.1)) rfl rfl rfl ?_
            refine yi_G_run 1 (55, [(5, .inl 1), (4, .inl (yi_w (yi_land (yi_lushr v k) 255))), (0, .inr (.inr (some 12))), (1, .inr (.inl v)), (3, .inl k)], [.inr (.inr (some 12)), .inl (Ip3 12 5)], (Ip3, L, R, Y), 0, 0) (fun _ => rfl) ?_
            obtain ⟨q22, e23, t24, n25⟩ := cl_rn hPq.1 (cl_12 hPq.1) (k := 0) (m := 999) rfl
            refine cl_G_gr rfl (cl_T_K (cl_12 hPq.1)) rfl rfl rfl e23 ?_
            refine cl_G_len rfl t24 (by omega) ?_
            by_cases h26 : ((Y.2.1 q22 : Int)) ≤ (Ip3 12 5)
            · refine yi_G_if2 true rfl (yi_ge_t h26) ?_
              refine yi_G_iinc [(3, .inl (k - 8)), (5, .inl 1), (4, .inl (yi_w (yi_land (yi_lushr v k) 255))), (0, .inr (.inr (some 12))), (1, .inr (.inl v))] rfl rfl rfl (by rw [show yi_w (k + (-8)) = k - 8 from (yi_wn (by omega) (by omega)).trans (by omega)]; rfl) ?_
              refine yi_G_run 1 (3, [(3, .inl (k - 8)), (5, .inl 1), (4, .inl (yi_w (yi_land (yi_lushr v k) 255))), (0, .inr (.inr (some 12))), (1, .inr (.inl v))], [], (Ip3, L, R, Y), 0, 0) (fun _ => rfl) ?_
              refine yi_G_al (al := [(0, .inr (.inr (some 12))), (1, .inr (.inl v)), (3, .inl (k - 8))]) (show ([0, 1, 3] : List Nat).Nodup by decide) (show ([3, 5, 4, 0, 1] : List Nat).Nodup by decide) (yi_mc (List.mem_of_getElem? (i := 3) rfl) (yi_mc (List.mem_of_getElem? (i := 4) rfl) (yi_mc (List.mem_of_getElem? (i := 0) rfl) yi_mn))) ?_
              exact ih3 _ (by omega) (k - 8) Ip3 hPq (by omega) (by have e := ym_ly_s (b := (fun k => yi_w (yi_land (yi_lushr v k) 255))) (t := I 12 5) (k := k) (x := Ip3 12 5) (by omega) (by omega) (by omega) hx; rw [← e, if_neg (by omega)]) rfl
            · refine yi_G_if2 false rfl (yi_ge_f h26) ?_
              refine yi_G_run 1 (63, [(5, .inl 1), (4, .inl (yi_w (yi_land (yi_lushr v k) 255))), (0, .inr (.inr (some 12))), (1, .inr (.inl v)), (3, .inl k)], [.inr (.inr (some 12))], (Ip3, L, R, Y), 0, 0) (fun _ => rfl) ?_
              refine cl_G_gr rfl (cl_T_K (cl_12 hPq.1)) rfl rfl rfl e23 ?_
              refine yi_G_run 1 (67, [(5, .inl 1), (4, .inl (yi_w (yi_land (yi_lushr v k) 255))), (0, .inr (.inr (some 12))), (1, .inr (.inl v)), (3, .inl k)], [.inr (.inr (some 12)), .inr (.inr (some q22))], (Ip3, L, R, Y), 0, 0) (fun _ => rfl) ?_
              have b27 := cl_rd hPq.1 (cl_12 hPq.1) (k := 5) (lo := 0) (hi := 1000) rfl
              refine cl_G_gi rfl (cl_T_K (cl_12 hPq.1)) rfl rfl rfl ?_
              refine yi_G_run 2 (73, [(5, .inl 1), (4, .inl (yi_w (yi_land (yi_lushr v k) 255))), (0, .inr (.inr (some 12))), (1, .inr (.inl v)), (3, .inl k)], [.inl ((yi_w (yi_land (yi_lushr v k) 255)) % 65536), .inl (Ip3 12 5), .inr (.inr (some q22))], (Ip3, L, R, Y), 0, 0) (fun _ => rfl) ?_
              refine cl_G_cast rfl t24 (by omega) (by omega) (by omega) ?_
              have hP28 := cl_P_uI (k := ((Ip3 12 5).toNat)) (v := (yi_w (yi_land (yi_lushr v k) 255)) % 65536) hPq t24 (by omega) (cl_hv rfl (by omega) (by omega))
              generalize w29 : yi_u Ip3 q22 ((Ip3 12 5).toNat) ((yi_w (yi_land (yi_lushr v k) 255)) % 65536) = I30 at hP28 ⊢
              refine yi_G_run 2 (76, [(5, .inl 1), (4, .inl (yi_w (yi_land (yi_lushr v k) 255))), (0, .inr (.inr (some 12))), (1, .inr (.inl v)), (3, .inl k)], [.inr (.inr (some 12)), .inr (.inr (some 12))], (I30, L, R, Y), 0, 0) (fun _ => rfl) ?_
              have b31 := cl_rd hP28.1 (cl_12 hP28.1) (k := 5) (lo := 0) (hi := 1000) rfl
              have r32 : I30 12 5 = Ip3 12 5 := by rw [← w29, yi_u_ne _ _ (fun z => cl_ne (cl_12 hP28.1) t24 (by decide) z.1)]
              refine cl_G_gi rfl (cl_T_K (cl_12 hP28.1)) rfl rfl rfl ?_
              refine yi_G_run 1 (80, [(5, .inl 1), (4, .inl (yi_w (yi_land (yi_lushr v k) 255))), (0, .inr (.inr (some 12))), (1, .inr (.inl v)), (3, .inl k)], [.inl 1, .inl (I30 12 5), .inr (.inr (some 12))], (I30, L, R, Y), 0, 0) (fun _ => rfl) ?_
              refine yi_G_iadd rfl ((I30 12 5) + 1) (yi_wn (by omega) (by omega)) ?_
              refine cl_G_pi rfl (cl_T_K (cl_12 hP28.1)) rfl rfl rfl ?_
              have hP33 := cl_P_len (v := (I30 12 5) + 1) hP28 (by omega) (by omega)
              generalize w34 : yi_u I30 12 5 ((I30 12 5) + 1) = I35 at hP33 ⊢
              refine yi_G_iinc [(3, .inl (k - 8)), (5, .inl 1), (4, .inl (yi_w (yi_land (yi_lushr v k) 255))), (0, .inr (.inr (some 12))), (1, .inr (.inl v))] rfl rfl rfl (by rw [show yi_w (k + (-8)) = k - 8 from (yi_wn (by omega) (by omega)).trans (by omega)]; rfl) ?_
              refine yi_G_run 1 (3, [(3, .inl (k - 8)), (5, .inl 1), (4, .inl (yi_w (yi_land (yi_lushr v k) 255))), (0, .inr (.inr (some 12))), (1, .inr (.inl v))], [], (I35, L, R, Y), 0, 0) (fun _ => rfl) ?_
              refine yi_G_al (al := [(0, .inr (.inr (some 12))), (1, .inr (.inl v)), (3, .inl (k - 8))]) (show ([0, 1, 3] : List Nat).Nodup by decide) (show ([3, 5, 4, 0, 1] : List Nat).Nodup by decide) (yi_mc (List.mem_of_getElem? (i := 3) rfl) (yi_mc (List.mem_of_getElem? (i := 4) rfl) (yi_mc (List.mem_of_getElem? (i := 0) rfl) yi_mn))) ?_
              have r36 : I35 12 5 = (I30 12 5) + 1 := by rw [← w34, yi_u_eq]
              exact ih3 _ (by omega) (k - 8) I35 (by rw [show I35 12 5 = (I30 12 5) + 1 from by rw [← w34, yi_u_eq], ← cl_uu I 12 5 (Ip3 12 5)]; exact hP33) (by omega) (by have e := ym_ly_s (b := (fun k => yi_w (yi_land (yi_lushr v k) 255))) (t := I 12 5) (k := k) (x := Ip3 12 5) (by omega) (by omega) (by omega) hx; rw [← e, if_pos (by omega)]; omega) rfl
  refine yi_G_run 2 (3, [(3, .inl 56), (0, .inr (.inr (some 12))), (1, .inr (.inl v))], [], (I, L, R, Y), 0, 0) (fun _ => rfl) ?_
  refine yi_G_al (al := [(0, .inr (.inr (some 12))), (1, .inr (.inl v)), (3, .inl 56)]) (show ([0, 1, 3] : List Nat).Nodup by decide) (show ([3, 0, 1] : List Nat).Nodup by decide) (yi_mc (List.mem_of_getElem? (i := 1) rfl) (yi_mc (List.mem_of_getElem? (i := 2) rfl) (yi_mc (List.mem_of_getElem? (i := 0) rfl) yi_mn))) ?_
  exact pt3 _ 56 I (by rw [cl_us]; exact hP) (by omega) rfl rfl
