/-! Rows of futures. -/
theorem k_bitCountI (D : Nat) (hD : 1 ≤ D) {E : List Nat} {I L : cl_I} {R : cl_Rr} {Y : cl_Y} (hC : cl_C E I L R Y) {x : Int} : yi_E zi_Ms D 315 [.inl x] (I, L, R, Y) (fun r => ∃ z, r = (some (.inl z), (I, L, R, Y), 0, 0)) := by
  obtain ⟨d, rfl⟩ : ∃ d, D = d + 1 := ⟨D - 1, by omega⟩
  refine yi_E_of (M := zi_m315) rfl rfl ?_
  have hP : cl_P E I L R Y I L R Y := cl_P_r hC
  show yi_G zi_Ms d zi_m315 (0, [(0, .inl x)], [], (I, L, R, Y), 0, 0) _
  refine yi_G_run 4 (4, [(0, .inl x)], [.inl (yi_ushr x 1), .inl x], (I, L, R, Y), 0, 0) (fun _ => rfl) ?_
  refine yi_G_ldcw (1431655765) rfl (by decide +kernel) ?_
  refine yi_G_run 4 (11, [(0, .inl (yi_w (x - (yi_iand (yi_ushr x 1) 1431655765))))], [.inl (yi_w (x - (yi_iand (yi_ushr x 1) 1431655765)))], (I, L, R, Y), 0, 0) (fun _ => rfl) ?_
  refine yi_G_ldcw (858993459) rfl (by decide +kernel) ?_
  refine yi_G_run 4 (18, [(0, .inl (yi_w (x - (yi_iand (yi_ushr x 1) 1431655765))))], [.inl (yi_ushr (yi_w (x - (yi_iand (yi_ushr x 1) 1431655765))) 2), .inl (yi_iand (yi_w (x - (yi_iand (yi_ushr x 1) 1431655765))) 858993459)], (I, L, R, Y), 0, 0) (fun _ => rfl) ?_
  refine yi_G_ldcw (858993459) rfl (by decide +kernel) ?_
  refine yi_G_run 8 (29, [(0, .inl (yi_w ((yi_iand (yi_w (x - (yi_iand (yi_ushr x 1) 1431655765))) 858993459) + (yi_iand (yi_ushr (yi_w (x - (yi_iand (yi_ushr x 1) 1431655765))) 2) 858993459))))], [.inl (yi_w ((yi_w ((yi_iand (yi_w (x - (yi_iand (yi_ushr x 1) 1431655765))) 858993459) + (yi_iand (yi_ushr (yi_w (x - (yi_iand (yi_ushr x 1) 1431655765))) 2) 858993459))) + (yi_ushr (yi_w ((yi_iand (yi_w (x - (yi_iand (yi_ushr x 1) 1431655765))) 858993459) + (yi_iand (yi_ushr (yi_w (x - (yi_iand (yi_ushr x 1) 1431655765))) 2) 858993459))) 4)))], (I, L, R, Y), 0, 0) (fun _ => rfl) ?_
  refine yi_G_ldcw (252645135) rfl (by decide +kernel) ?_
  refine yi_G_run 14 (48, [(0, .inl (yi_w ((yi_w ((yi_iand (yi_w ((yi_w ((yi_iand (yi_w (x - (yi_iand (yi_ushr x 1) 1431655765))) 858993459) + (yi_iand (yi_ushr (yi_w (x - (yi_iand (yi_ushr x 1) 1431655765))) 2) 858993459))) + (yi_ushr (yi_w ((yi_iand (yi_w (x - (yi_iand (yi_ushr x 1) 1431655765))) 858993459) + (yi_iand (yi_ushr (yi_w (x - (yi_iand (yi_ushr x 1) 1431655765))) 2) 858993459))) 4))) 252645135) + (yi_ushr (yi_iand (yi_w ((yi_w ((yi_iand (yi_w (x - (yi_iand (yi_ushr x 1) 1431655765))) 858993459) + (yi_iand (yi_ushr (yi_w (x - (yi_iand (yi_ushr x 1) 1431655765))) 2) 858993459))) + (yi_ushr (yi_w ((yi_iand (yi_w (x - (yi_iand (yi_ushr x 1) 1431655765))) 858993459) + (yi_iand (yi_ushr (yi_w (x - (yi_iand (yi_ushr x 1) 1431655765))) 2) 858993459))) 4))) 252645135) 8))) + (yi_ushr (yi_w ((yi_iand (yi_w ((yi_w ((yi_iand (yi_w (x - (yi_iand (yi_ushr x 1) 1431655765))) 858993459) + (yi_iand (yi_ushr (yi_w (x - (yi_iand (yi_ushr x 1) 1431655765))) 2) 858993459))) + (yi_ushr (yi_w ((yi_iand (yi_w (x - (yi_iand (yi_ushr x 1) 1431655765))) 858993459) + (yi_iand (yi_ushr (yi_w (x - (yi_iand (yi_ushr x 1) 1431655765))) 2) 858993459))) 4))) 252645135) + (yi_ushr (yi_iand (yi_w ((yi_w ((yi_iand (yi_w (x - (yi_iand (yi_ushr x 1) 1431655765))) 858993459) + (yi_iand (yi_ushr (yi_w (x - (yi_iand (yi_ushr x 1) 1431655765))) 2) 858993459))) + (yi_ushr (yi_w ((yi_iand (yi_w (x - (yi_iand (yi_ushr x 1) 1431655765))) 858993459) + (yi_iand (yi_ushr (yi_w (x - (yi_iand (yi_ushr x 1) 1431655765))) 2) 858993459))) 4))) 252645135) 8))) 16))))], [], (I, L, R, Y), 0, 0) (fun _ => rfl) ?_
  refine yi_G_run 3 (52, [(0, .inl (yi_w ((yi_w ((yi_iand (yi_w ((yi_w ((yi_iand (yi_w (x - (yi_iand (yi_ushr x 1) 1431655765))) 858993459) + (yi_iand (yi_ushr (yi_w (x - (yi_iand (yi_ushr x 1) 1431655765))) 2) 858993459))) + (yi_ushr (yi_w ((yi_iand (yi_w (x - (yi_iand (yi_ushr x 1) 1431655765))) 858993459) + (yi_iand (yi_ushr (yi_w (x - (yi_iand (yi_ushr x 1) 1431655765))) 2) 858993459))) 4))) 252645135) + (yi_ushr (yi_iand (yi_w ((yi_w ((yi_iand (yi_w (x - (yi_iand (yi_ushr x 1) 1431655765))) 858993459) + (yi_iand (yi_ushr (yi_w (x - (yi_iand (yi_ushr x 1) 1431655765))) 2) 858993459))) + (yi_ushr (yi_w ((yi_iand (yi_w (x - (yi_iand (yi_ushr x 1) 1431655765))) 858993459) + (yi_iand (yi_ushr (yi_w (x - (yi_iand (yi_ushr x 1) 1431655765))) 2) 858993459))) 4))) 252645135) 8))) + (yi_ushr (yi_w ((yi_iand (yi_w ((yi_w ((yi_iand (yi_w (x - (yi_iand (yi_ushr x 1) 1431655765))) 858993459) + (yi_iand (yi_ushr (yi_w (x - (yi_iand (yi_ushr x 1) 1431655765))) 2) 858993459))) + (yi_ushr (yi_w ((yi_iand (yi_w (x - (yi_iand (yi_ushr x 1) 1431655765))) 858993459) + (yi_iand (yi_ushr (yi_w (x - (yi_iand (yi_ushr x 1) 1431655765))) 2) 858993459))) 4))) 252645135) + (yi_ushr (yi_iand (yi_w ((yi_w ((yi_iand (yi_w (x - (yi_iand (yi_ushr x 1) 1431655765))) 858993459) + (yi_iand (yi_ushr (yi_w (x - (yi_iand (yi_ushr x 1) 1431655765))) 2) 858993459))) + (yi_ushr (yi_w ((yi_iand (yi_w (x - (yi_iand (yi_ushr x 1) 1431655765))) 858993459) + (yi_iand (yi_ushr (yi_w (x - (yi_iand (yi_ushr x 1) 1431655765))) 2) 858993459))) 4))) 252645135) 8))) 16))))], [.inl (yi_iand (yi_w ((yi_w ((yi_iand (yi_w ((yi_w ((yi_iand (yi_w (x - (yi_iand (yi_ushr x 1) 1431655765))) 858993459) + (yi_iand (yi_ushr (yi_w (x - (yi_iand (yi_ushr x 1) 1431655765))) 2) 858993459))) + (yi_ushr (yi_w ((yi_iand (yi_w (x - (yi_iand (yi_ushr x 1) 1431655765))) 858993459) + (yi_iand (yi_ushr (yi_w (x - (yi_iand (yi_ushr x 1) 1431655765))) 2) 858993459))) 4))) 252645135) + (yi_ushr (yi_iand (yi_w ((yi_w ((yi_iand (yi_w (x - (yi_iand (yi_ushr x 1) 1431655765))) 858993459) + (yi_iand (yi_ushr (yi_w (x - (yi_iand (yi_ushr x 1) 1431655765))) 2) 858993459))) + (yi_ushr (yi_w ((yi_iand (yi_w (x - (yi_iand (yi_ushr x 1) 1431655765))) 858993459) + (yi_iand (yi_ushr (yi_w (x - (yi_iand (yi_ushr x 1) 1431655765))) 2) 858993459))) 4))) 252645135) 8))) + (yi_ushr (yi_w ((yi_iand (yi_w ((yi_w ((yi_iand (yi_w (x - (yi_iand (yi_ushr x 1) 1431655765))) 858993459) + (yi_iand (yi_ushr (yi_w (x - (yi_iand (yi_ushr x 1) 1431655765))) 2) 858993459))) + (yi_ushr (yi_w ((yi_iand (yi_w (x - (yi_iand (yi_ushr x 1) 1431655765))) 858993459) + (yi_iand (yi_ushr (yi_w (x - (yi_iand (yi_ushr x 1) 1431655765))) 2) 858993459))) 4))) 252645135) + (yi_ushr (yi_iand (yi_w ((yi_w ((yi_iand (yi_w (x - (yi_iand (yi_ushr x 1) 1431655765))) 858993459) + (yi_iand (yi_ushr (yi_w (x - (yi_iand (yi_ushr x 1) 1431655765))) 2) 858993459))) + (yi_ushr (yi_w ((yi_iand (yi_w (x - (yi_iand (yi_ushr x 1) 1431655765))) 858993459) + (yi_iand (yi_ushr (yi_w (x - (yi_iand (yi_ushr x 1) 1431655765))) 2) 858993459))) 4))) 252645135) 8))) 16))) 63)], (I, L, R, Y), 0, 0) (fun _ => rfl) ?_
  exact yi_G_reti rfl rfl (⟨_, rfl⟩)
theorem k_bitCountL (D : Nat) (hD : 1 ≤ D) {E : List Nat} {I L : cl_I} {R : cl_Rr} {Y : cl_Y} (hC : cl_C E I L R Y) {x : Int} : yi_E zi_Ms D 317 [.inr (.inl x)] (I, L, R, Y) (fun r => ∃ z, r = (some (.inl z), (I, L, R, Y), 0, 0)) := by
  obtain ⟨d, rfl⟩ : ∃ d, D = d + 1 := ⟨D - 1, by omega⟩
  refine yi_E_of (M := zi_m317) rfl rfl ?_
  have hP : cl_P E I L R Y I L R Y := cl_P_r hC
  show yi_G zi_Ms d zi_m317 (0, [(0, .inr (.inl x))], [], (I, L, R, Y), 0, 0) _
  refine yi_G_run 4 (4, [(0, .inr (.inl x))], [.inr (.inl (yi_lushr x 1)), .inr (.inl x)], (I, L, R, Y), 0, 0) (fun _ => rfl) ?_
  refine yi_G_ldc2 (6148914691236517205) rfl (by decide +kernel) ?_
  refine yi_G_run 4 (11, [(0, .inr (.inl (yi_W (x - (yi_land (yi_lushr x 1) 6148914691236517205)))))], [.inr (.inl (yi_W (x - (yi_land (yi_lushr x 1) 6148914691236517205))))], (I, L, R, Y), 0, 0) (fun _ => rfl) ?_
  refine yi_G_ldc2 (3689348814741910323) rfl (by decide +kernel) ?_
  refine yi_G_run 4 (18, [(0, .inr (.inl (yi_W (x - (yi_land (yi_lushr x 1) 6148914691236517205)))))], [.inr (.inl (yi_lushr (yi_W (x - (yi_land (yi_lushr x 1) 6148914691236517205))) 2)), .inr (.inl (yi_land (yi_W (x - (yi_land (yi_lushr x 1) 6148914691236517205))) 3689348814741910323))], (I, L, R, Y), 0, 0) (fun _ => rfl) ?_
  refine yi_G_ldc2 (3689348814741910323) rfl (by decide +kernel) ?_
  refine yi_G_run 8 (29, [(0, .inr (.inl (yi_W ((yi_land (yi_W (x - (yi_land (yi_lushr x 1) 6148914691236517205))) 3689348814741910323) + (yi_land (yi_lushr (yi_W (x - (yi_land (yi_lushr x 1) 6148914691236517205))) 2) 3689348814741910323)))))], [.inr (.inl (yi_W ((yi_W ((yi_land (yi_W (x - (yi_land (yi_lushr x 1) 6148914691236517205))) 3689348814741910323) + (yi_land (yi_lushr (yi_W (x - (yi_land (yi_lushr x 1) 6148914691236517205))) 2) 3689348814741910323))) + (yi_lushr (yi_W ((yi_land (yi_W (x - (yi_land (yi_lushr x 1) 6148914691236517205))) 3689348814741910323) + (yi_land (yi_lushr (yi_W (x - (yi_land (yi_lushr x 1) 6148914691236517205))) 2) 3689348814741910323))) 4))))], (I, L, R, Y), 0, 0) (fun _ => rfl) ?_
  refine yi_G_ldc2 (1085102592571150095) rfl (by decide +kernel) ?_
  refine yi_G_run 14 (48, [(0, .inr (.inl (yi_W ((yi_W ((yi_land (yi_W ((yi_W ((yi_land (yi_W (x - (yi_land (yi_lushr x 1) 6148914691236517205))) 3689348814741910323) + (yi_land (yi_lushr (yi_W (x - (yi_land (yi_lushr x 1) 6148914691236517205))) 2) 3689348814741910323))) + (yi_lushr (yi_W ((yi_land (yi_W (x - (yi_land (yi_lushr x 1) 6148914691236517205))) 3689348814741910323) + (yi_land (yi_lushr (yi_W (x - (yi_land (yi_lushr x 1) 6148914691236517205))) 2) 3689348814741910323))) 4))) 1085102592571150095) + (yi_lushr (yi_land (yi_W ((yi_W ((yi_land (yi_W (x - (yi_land (yi_lushr x 1) 6148914691236517205))) 3689348814741910323) + (yi_land (yi_lushr (yi_W (x - (yi_land (yi_lushr x 1) 6148914691236517205))) 2) 3689348814741910323))) + (yi_lushr (yi_W ((yi_land (yi_W (x - (yi_land (yi_lushr x 1) 6148914691236517205))) 3689348814741910323) + (yi_land (yi_lushr (yi_W (x - (yi_land (yi_lushr x 1) 6148914691236517205))) 2) 3689348814741910323))) 4))) 1085102592571150095) 8))) + (yi_lushr (yi_W ((yi_land (yi_W ((yi_W ((yi_land (yi_W (x - (yi_land (yi_lushr x 1) 6148914691236517205))) 3689348814741910323) + (yi_land (yi_lushr (yi_W (x - (yi_land (yi_lushr x 1) 6148914691236517205))) 2) 3689348814741910323))) + (yi_lushr (yi_W ((yi_land (yi_W (x - (yi_land (yi_lushr x 1) 6148914691236517205))) 3689348814741910323) + (yi_land (yi_lushr (yi_W (x - (yi_land (yi_lushr x 1) 6148914691236517205))) 2) 3689348814741910323))) 4))) 1085102592571150095) + (yi_lushr (yi_land (yi_W ((yi_W ((yi_land (yi_W (x - (yi_land (yi_lushr x 1) 6148914691236517205))) 3689348814741910323) + (yi_land (yi_lushr (yi_W (x - (yi_land (yi_lushr x 1) 6148914691236517205))) 2) 3689348814741910323))) + (yi_lushr (yi_W ((yi_land (yi_W (x - (yi_land (yi_lushr x 1) 6148914691236517205))) 3689348814741910323) + (yi_land (yi_lushr (yi_W (x - (yi_land (yi_lushr x 1) 6148914691236517205))) 2) 3689348814741910323))) 4))) 1085102592571150095) 8))) 16)))))], [], (I, L, R, Y), 0, 0) (fun _ => rfl) ?_
  refine yi_G_run 10 (60, [(0, .inr (.inl (yi_W ((yi_W ((yi_W ((yi_land (yi_W ((yi_W ((yi_land (yi_W (x - (yi_land (yi_lushr x 1) 6148914691236517205))) 3689348814741910323) + (yi_land (yi_lushr (yi_W (x - (yi_land (yi_lushr x 1) 6148914691236517205))) 2) 3689348814741910323))) + (yi_lushr (yi_W ((yi_land (yi_W (x - (yi_land (yi_lushr x 1) 6148914691236517205))) 3689348814741910323) + (yi_land (yi_lushr (yi_W (x - (yi_land (yi_lushr x 1) 6148914691236517205))) 2) 3689348814741910323))) 4))) 1085102592571150095) + (yi_lushr (yi_land (yi_W ((yi_W ((yi_land (yi_W (x - (yi_land (yi_lushr x 1) 6148914691236517205))) 3689348814741910323) + (yi_land (yi_lushr (yi_W (x - (yi_land (yi_lushr x 1) 6148914691236517205))) 2) 3689348814741910323))) + (yi_lushr (yi_W ((yi_land (yi_W (x - (yi_land (yi_lushr x 1) 6148914691236517205))) 3689348814741910323) + (yi_land (yi_lushr (yi_W (x - (yi_land (yi_lushr x 1) 6148914691236517205))) 2) 3689348814741910323))) 4))) 1085102592571150095) 8))) + (yi_lushr (yi_W ((yi_land (yi_W ((yi_W ((yi_land (yi_W (x - (yi_land (yi_lushr x 1) 6148914691236517205))) 3689348814741910323) + (yi_land (yi_lushr (yi_W (x - (yi_land (yi_lushr x 1) 6148914691236517205))) 2) 3689348814741910323))) + (yi_lushr (yi_W ((yi_land (yi_W (x - (yi_land (yi_lushr x 1) 6148914691236517205))) 3689348814741910323) + (yi_land (yi_lushr (yi_W (x - (yi_land (yi_lushr x 1) 6148914691236517205))) 2) 3689348814741910323))) 4))) 1085102592571150095) + (yi_lushr (yi_land (yi_W ((yi_W ((yi_land (yi_W (x - (yi_land (yi_lushr x 1) 6148914691236517205))) 3689348814741910323) + (yi_land (yi_lushr (yi_W (x - (yi_land (yi_lushr x 1) 6148914691236517205))) 2) 3689348814741910323))) + (yi_lushr (yi_W ((yi_land (yi_W (x - (yi_land (yi_lushr x 1) 6148914691236517205))) 3689348814741910323) + (yi_land (yi_lushr (yi_W (x - (yi_land (yi_lushr x 1) 6148914691236517205))) 2) 3689348814741910323))) 4))) 1085102592571150095) 8))) 16))) + (yi_lushr (yi_W ((yi_W ((yi_land (yi_W ((yi_W ((yi_land (yi_W (x - (yi_land (yi_lushr x 1) 6148914691236517205))) 3689348814741910323) + (yi_land (yi_lushr (yi_W (x - (yi_land (yi_lushr x 1) 6148914691236517205))) 2) 3689348814741910323))) + (yi_lushr (yi_W ((yi_land (yi_W (x - (yi_land (yi_lushr x 1) 6148914691236517205))) 3689348814741910323) + (yi_land (yi_lushr (yi_W (x - (yi_land (yi_lushr x 1) 6148914691236517205))) 2) 3689348814741910323))) 4))) 1085102592571150095) + (yi_lushr (yi_land (yi_W ((yi_W ((yi_land (yi_W (x - (yi_land (yi_lushr x 1) 6148914691236517205))) 3689348814741910323) + (yi_land (yi_lushr (yi_W (x - (yi_land (yi_lushr x 1) 6148914691236517205))) 2) 3689348814741910323))) + (yi_lushr (yi_W ((yi_land (yi_W (x - (yi_land (yi_lushr x 1) 6148914691236517205))) 3689348814741910323) + (yi_land (yi_lushr (yi_W (x - (yi_land (yi_lushr x 1) 6148914691236517205))) 2) 3689348814741910323))) 4))) 1085102592571150095) 8))) + (yi_lushr (yi_W ((yi_land (yi_W ((yi_W ((yi_land (yi_W (x - (yi_land (yi_lushr x 1) 6148914691236517205))) 3689348814741910323) + (yi_land (yi_lushr (yi_W (x - (yi_land (yi_lushr x 1) 6148914691236517205))) 2) 3689348814741910323))) + (yi_lushr (yi_W ((yi_land (yi_W (x - (yi_land (yi_lushr x 1) 6148914691236517205))) 3689348814741910323) + (yi_land (yi_lushr (yi_W (x - (yi_land (yi_lushr x 1) 6148914691236517205))) 2) 3689348814741910323))) 4))) 1085102592571150095) + (yi_lushr (yi_land (yi_W ((yi_W ((yi_land (yi_W (x - (yi_land (yi_lushr x 1) 6148914691236517205))) 3689348814741910323) + (yi_land (yi_lushr (yi_W (x - (yi_land (yi_lushr x 1) 6148914691236517205))) 2) 3689348814741910323))) + (yi_lushr (yi_W ((yi_land (yi_W (x - (yi_land (yi_lushr x 1) 6148914691236517205))) 3689348814741910323) + (yi_land (yi_lushr (yi_W (x - (yi_land (yi_lushr x 1) 6148914691236517205))) 2) 3689348814741910323))) 4))) 1085102592571150095) 8))) 16))) 32)))))], [.inl (yi_iand (yi_w (yi_W ((yi_W ((yi_W ((yi_land (yi_W ((yi_W ((yi_land (yi_W (x - (yi_land (yi_lushr x 1) 6148914691236517205))) 3689348814741910323) + (yi_land (yi_lushr (yi_W (x - (yi_land (yi_lushr x 1) 6148914691236517205))) 2) 3689348814741910323))) + (yi_lushr (yi_W ((yi_land (yi_W (x - (yi_land (yi_lushr x 1) 6148914691236517205))) 3689348814741910323) + (yi_land (yi_lushr (yi_W (x - (yi_land (yi_lushr x 1) 6148914691236517205))) 2) 3689348814741910323))) 4))) 1085102592571150095) + (yi_lushr (yi_land (yi_W ((yi_W ((yi_land (yi_W (x - (yi_land (yi_lushr x 1) 6148914691236517205))) 3689348814741910323) + (yi_land (yi_lushr (yi_W (x - (yi_land (yi_lushr x 1) 6148914691236517205))) 2) 3689348814741910323))) + (yi_lushr (yi_W ((yi_land (yi_W (x - (yi_land (yi_lushr x 1) 6148914691236517205))) 3689348814741910323) + (yi_land (yi_lushr (yi_W (x - (yi_land (yi_lushr x 1) 6148914691236517205))) 2) 3689348814741910323))) 4))) 1085102592571150095) 8))) + (yi_lushr (yi_W ((yi_land (yi_W ((yi_W ((yi_land (yi_W (x - (yi_land (yi_lushr x 1) 6148914691236517205))) 3689348814741910323) + (yi_land (yi_lushr (yi_W (x - (yi_land (yi_lushr x 1) 6148914691236517205))) 2) 3689348814741910323))) + (yi_lushr (yi_W ((yi_land (yi_W (x - (yi_land (yi_lushr x 1) 6148914691236517205))) 3689348814741910323) + (yi_land (yi_lushr (yi_W (x - (yi_land (yi_lushr x 1) 6148914691236517205))) 2) 3689348814741910323))) 4))) 1085102592571150095) + (yi_lushr (yi_land (yi_W ((yi_W ((yi_land (yi_W (x - (yi_land (yi_lushr x 1) 6148914691236517205))) 3689348814741910323) + (yi_land (yi_lushr (yi_W (x - (yi_land (yi_lushr x 1) 6148914691236517205))) 2) 3689348814741910323))) + (yi_lushr (yi_W ((yi_land (yi_W (x - (yi_land (yi_lushr x 1) 6148914691236517205))) 3689348814741910323) + (yi_land (yi_lushr (yi_W (x - (yi_land (yi_lushr x 1) 6148914691236517205))) 2) 3689348814741910323))) 4))) 1085102592571150095) 8))) 16))) + (yi_lushr (yi_W ((yi_W ((yi_land (yi_W ((yi_W ((yi_land (yi_W (x - (yi_land (yi_lushr x 1) 6148914691236517205))) 3689348814741910323) + (yi_land (yi_lushr (yi_W (x - (yi_land (yi_lushr x 1) 6148914691236517205))) 2) 3689348814741910323))) + (yi_lushr (yi_W ((yi_land (yi_W (x - (yi_land (yi_lushr x 1) 6148914691236517205))) 3689348814741910323) + (yi_land (yi_lushr (yi_W (x - (yi_land (yi_lushr x 1) 6148914691236517205))) 2) 3689348814741910323))) 4))) 1085102592571150095) + (yi_lushr (yi_land (yi_W ((yi_W ((yi_land (yi_W (x - (yi_land (yi_lushr x 1) 6148914691236517205))) 3689348814741910323) + (yi_land (yi_lushr (yi_W (x - (yi_land (yi_lushr x 1) 6148914691236517205))) 2) 3689348814741910323))) + (yi_lushr (yi_W ((yi_land (yi_W (x - (yi_land (yi_lushr x 1) 6148914691236517205))) 3689348814741910323) + (yi_land (yi_lushr (yi_W (x - (yi_land (yi_lushr x 1) 6148914691236517205))) 2) 3689348814741910323))) 4))) 1085102592571150095) 8))) + (yi_lushr (yi_W ((yi_land (yi_W ((yi_W ((yi_land (yi_W (x - (yi_land (yi_lushr x 1) 6148914691236517205))) 3689348814741910323) + (yi_land (yi_lushr (yi_W (x - (yi_land (yi_lushr x 1) 6148914691236517205))) 2) 3689348814741910323))) + (yi_lushr (yi_W ((yi_land (yi_W (x - (yi_land (yi_lushr x 1) 6148914691236517205))) 3689348814741910323) + (yi_land (yi_lushr (yi_W (x - (yi_land (yi_lushr x 1) 6148914691236517205))) 2) 3689348814741910323))) 4))) 1085102592571150095) + (yi_lushr (yi_land (yi_W ((yi_W ((yi_land (yi_W (x - (yi_land (yi_lushr x 1) 6148914691236517205))) 3689348814741910323) + (yi_land (yi_lushr (yi_W (x - (yi_land (yi_lushr x 1) 6148914691236517205))) 2) 3689348814741910323))) + (yi_lushr (yi_W ((yi_land (yi_W (x - (yi_land (yi_lushr x 1) 6148914691236517205))) 3689348814741910323) + (yi_land (yi_lushr (yi_W (x - (yi_land (yi_lushr x 1) 6148914691236517205))) 2) 3689348814741910323))) 4))) 1085102592571150095) 8))) 16))) 32)))) 127)], (I, L, R, Y), 0, 0) (fun _ => rfl) ?_
  exact yi_G_reti rfl rfl (⟨_, rfl⟩)
theorem k_ntzI (D : Nat) (hD : 1 ≤ D) {E : List Nat} {I L : cl_I} {R : cl_Rr} {Y : cl_Y} (hC : cl_C E I L R Y) {x : Int} : yi_E zi_Ms D 316 [.inl x] (I, L, R, Y) (fun r => ∃ z, r = (some (.inl z), (I, L, R, Y), 0, 0)) := by
  obtain ⟨d, rfl⟩ : ∃ d, D = d + 1 := ⟨D - 1, by omega⟩
  refine yi_E_of (M := zi_m316) rfl rfl ?_
  have hP : cl_P E I L R Y I L R Y := cl_P_r hC
  show yi_G zi_Ms d zi_m316 (0, [(0, .inl x)], [], (I, L, R, Y), 0, 0) _
  refine yi_G_run 9 (9, [(0, .inl (yi_iand (yi_ixor x (-1)) (yi_w (x - 1))))], [.inl (yi_iand (yi_ixor x (-1)) (yi_w (x - 1)))], (I, L, R, Y), 0, 0) (fun _ => rfl) ?_
  by_cases h1 : 0 < (yi_iand (yi_ixor x (-1)) (yi_w (x - 1)))
  · refine yi_G_if1 true rfl (yi_gt_t h1) ?_
    refine yi_G_run 3 (20, [(1, .inl 1), (0, .inl (yi_iand (yi_ixor x (-1)) (yi_w (x - 1))))], [.inl (yi_iand (yi_ixor x (-1)) (yi_w (x - 1)))], (I, L, R, Y), 0, 0) (fun _ => rfl) ?_
    refine yi_G_ldcw (65536) rfl (by decide +kernel) ?_
    by_cases h2 : (yi_iand (yi_ixor x (-1)) (yi_w (x - 1))) ≤ 65536
    · refine yi_G_if2 true rfl (yi_le_t h2) ?_
      refine yi_G_run 2 (38, [(1, .inl 1), (0, .inl (yi_iand (yi_ixor x (-1)) (yi_w (x - 1))))], [.inl 256, .inl (yi_iand (yi_ixor x (-1)) (yi_w (x - 1)))], (I, L, R, Y), 0, 0) (fun _ => rfl) ?_
      by_cases h3 : (yi_iand (yi_ixor x (-1)) (yi_w (x - 1))) ≤ 256
      · refine yi_G_if2 true rfl (yi_le_t h3) ?_
        refine yi_G_run 2 (52, [(1, .inl 1), (0, .inl (yi_iand (yi_ixor x (-1)) (yi_w (x - 1))))], [.inl 16, .inl (yi_iand (yi_ixor x (-1)) (yi_w (x - 1)))], (I, L, R, Y), 0, 0) (fun _ => rfl) ?_
        by_cases h4 : (yi_iand (yi_ixor x (-1)) (yi_w (x - 1))) ≤ 16
        · refine yi_G_if2 true rfl (yi_le_t h4) ?_
          refine yi_G_run 2 (64, [(1, .inl 1), (0, .inl (yi_iand (yi_ixor x (-1)) (yi_w (x - 1))))], [.inl 4, .inl (yi_iand (yi_ixor x (-1)) (yi_w (x - 1)))], (I, L, R, Y), 0, 0) (fun _ => rfl) ?_
          by_cases h5 : (yi_iand (yi_ixor x (-1)) (yi_w (x - 1))) ≤ 4
          · refine yi_G_if2 true rfl (yi_le_t h5) ?_
            refine yi_G_run 5 (79, [(1, .inl 1), (0, .inl (yi_iand (yi_ixor x (-1)) (yi_w (x - 1))))], [.inl (yi_w (1 + (yi_ushr (yi_iand (yi_ixor x (-1)) (yi_w (x - 1))) 1)))], (I, L, R, Y), 0, 0) (fun _ => rfl) ?_
            exact yi_G_reti rfl rfl (⟨_, rfl⟩)
          · refine yi_G_if2 false rfl (yi_le_f h5) ?_
            refine yi_G_iinc [(1, .inl 3), (0, .inl (yi_iand (yi_ixor x (-1)) (yi_w (x - 1))))] rfl rfl rfl (by rw [show yi_w (1 + 2) = 3 from (yi_wn (by omega) (by omega)).trans (by omega)]; rfl) ?_
            refine yi_G_run 9 (79, [(0, .inl (yi_ushr (yi_iand (yi_ixor x (-1)) (yi_w (x - 1))) 2)), (1, .inl 3)], [.inl (yi_w (3 + (yi_ushr (yi_ushr (yi_iand (yi_ixor x (-1)) (yi_w (x - 1))) 2) 1)))], (I, L, R, Y), 0, 0) (fun _ => rfl) ?_
            exact yi_G_reti rfl rfl (⟨_, rfl⟩)
        · refine yi_G_if2 false rfl (yi_le_f h4) ?_
          refine yi_G_iinc [(1, .inl 5), (0, .inl (yi_iand (yi_ixor x (-1)) (yi_w (x - 1))))] rfl rfl rfl (by rw [show yi_w (1 + 4) = 5 from (yi_wn (by omega) (by omega)).trans (by omega)]; rfl) ?_
          refine yi_G_run 6 (64, [(0, .inl (yi_ushr (yi_iand (yi_ixor x (-1)) (yi_w (x - 1))) 4)), (1, .inl 5)], [.inl 4, .inl (yi_ushr (yi_iand (yi_ixor x (-1)) (yi_w (x - 1))) 4)], (I, L, R, Y), 0, 0) (fun _ => rfl) ?_
          by_cases h6 : (yi_ushr (yi_iand (yi_ixor x (-1)) (yi_w (x - 1))) 4) ≤ 4
          · refine yi_G_if2 true rfl (yi_le_t h6) ?_
            refine yi_G_run 5 (79, [(0, .inl (yi_ushr (yi_iand (yi_ixor x (-1)) (yi_w (x - 1))) 4)), (1, .inl 5)], [.inl (yi_w (5 + (yi_ushr (yi_ushr (yi_iand (yi_ixor x (-1)) (yi_w (x - 1))) 4) 1)))], (I, L, R, Y), 0, 0) (fun _ => rfl) ?_
            exact yi_G_reti rfl rfl (⟨_, rfl⟩)
          · refine yi_G_if2 false rfl (yi_le_f h6) ?_
            refine yi_G_iinc [(1, .inl 7), (0, .inl (yi_ushr (yi_iand (yi_ixor x (-1)) (yi_w (x - 1))) 4))] rfl rfl rfl (by rw [show yi_w (5 + 2) = 7 from (yi_wn (by omega) (by omega)).trans (by omega)]; rfl) ?_
            refine yi_G_run 9 (79, [(0, .inl (yi_ushr (yi_ushr (yi_iand (yi_ixor x (-1)) (yi_w (x - 1))) 4) 2)), (1, .inl 7)], [.inl (yi_w (7 + (yi_ushr (yi_ushr (yi_ushr (yi_iand (yi_ixor x (-1)) (yi_w (x - 1))) 4) 2) 1)))], (I, L, R, Y), 0, 0) (fun _ => rfl) ?_
            exact yi_G_reti rfl rfl (⟨_, rfl⟩)
      · refine yi_G_if2 false rfl (yi_le_f h3) ?_
        refine yi_G_iinc [(1, .inl 9), (0, .inl (yi_iand (yi_ixor x (-1)) (yi_w (x - 1))))] rfl rfl rfl (by rw [show yi_w (1 + 8) = 9 from (yi_wn (by omega) (by omega)).trans (by omega)]; rfl) ?_
        refine yi_G_run 6 (52, [(0, .inl (yi_ushr (yi_iand (yi_ixor x (-1)) (yi_w (x - 1))) 8)), (1, .inl 9)], [.inl 16, .inl (yi_ushr (yi_iand (yi_ixor x (-1)) (yi_w (x - 1))) 8)], (I, L, R, Y), 0, 0) (fun _ => rfl) ?_
        by_cases h7 : (yi_ushr (yi_iand (yi_ixor x (-1)) (yi_w (x - 1))) 8) ≤ 16
        · refine yi_G_if2 true rfl (yi_le_t h7) ?_
          refine yi_G_run 2 (64, [(0, .inl (yi_ushr (yi_iand (yi_ixor x (-1)) (yi_w (x - 1))) 8)), (1, .inl 9)], [.inl 4, .inl (yi_ushr (yi_iand (yi_ixor x (-1)) (yi_w (x - 1))) 8)], (I, L, R, Y), 0, 0) (fun _ => rfl) ?_
          by_cases h8 : (yi_ushr (yi_iand (yi_ixor x (-1)) (yi_w (x - 1))) 8) ≤ 4
          · refine yi_G_if2 true rfl (yi_le_t h8) ?_
            refine yi_G_run 5 (79, [(0, .inl (yi_ushr (yi_iand (yi_ixor x (-1)) (yi_w (x - 1))) 8)), (1, .inl 9)], [.inl (yi_w (9 + (yi_ushr (yi_ushr (yi_iand (yi_ixor x (-1)) (yi_w (x - 1))) 8) 1)))], (I, L, R, Y), 0, 0) (fun _ => rfl) ?_
            exact yi_G_reti rfl rfl (⟨_, rfl⟩)
          · refine yi_G_if2 false rfl (yi_le_f h8) ?_
            refine yi_G_iinc [(1, .inl 11), (0, .inl (yi_ushr (yi_iand (yi_ixor x (-1)) (yi_w (x - 1))) 8))] rfl rfl rfl (by rw [show yi_w (9 + 2) = 11 from (yi_wn (by omega) (by omega)).trans (by omega)]; rfl) ?_
            refine yi_G_run 9 (79, [(0, .inl (yi_ushr (yi_ushr (yi_iand (yi_ixor x (-1)) (yi_w (x - 1))) 8) 2)), (1, .inl 11)], [.inl (yi_w (11 + (yi_ushr (yi_ushr (yi_ushr (yi_iand (yi_ixor x (-1)) (yi_w (x - 1))) 8) 2) 1)))], (I, L, R, Y), 0, 0) (fun _ => rfl) ?_
            exact yi_G_reti rfl rfl (⟨_, rfl⟩)
        · refine yi_G_if2 false rfl (yi_le_f h7) ?_
          refine yi_G_iinc [(1, .inl 13), (0, .inl (yi_ushr (yi_iand (yi_ixor x (-1)) (yi_w (x - 1))) 8))] rfl rfl rfl (by rw [show yi_w (9 + 4) = 13 from (yi_wn (by omega) (by omega)).trans (by omega)]; rfl) ?_
          refine yi_G_run 6 (64, [(0, .inl (yi_ushr (yi_ushr (yi_iand (yi_ixor x (-1)) (yi_w (x - 1))) 8) 4)), (1, .inl 13)], [.inl 4, .inl (yi_ushr (yi_ushr (yi_iand (yi_ixor x (-1)) (yi_w (x - 1))) 8) 4)], (I, L, R, Y), 0, 0) (fun _ => rfl) ?_
          by_cases h9 : (yi_ushr (yi_ushr (yi_iand (yi_ixor x (-1)) (yi_w (x - 1))) 8) 4) ≤ 4
          · refine yi_G_if2 true rfl (yi_le_t h9) ?_
            refine yi_G_run 5 (79, [(0, .inl (yi_ushr (yi_ushr (yi_iand (yi_ixor x (-1)) (yi_w (x - 1))) 8) 4)), (1, .inl 13)], [.inl (yi_w (13 + (yi_ushr (yi_ushr (yi_ushr (yi_iand (yi_ixor x (-1)) (yi_w (x - 1))) 8) 4) 1)))], (I, L, R, Y), 0, 0) (fun _ => rfl) ?_
            exact yi_G_reti rfl rfl (⟨_, rfl⟩)
          · refine yi_G_if2 false rfl (yi_le_f h9) ?_
            refine yi_G_iinc [(1, .inl 15), (0, .inl (yi_ushr (yi_ushr (yi_iand (yi_ixor x (-1)) (yi_w (x - 1))) 8) 4))] rfl rfl rfl (by rw [show yi_w (13 + 2) = 15 from (yi_wn (by omega) (by omega)).trans (by omega)]; rfl) ?_
            refine yi_G_run 9 (79, [(0, .inl (yi_ushr (yi_ushr (yi_ushr (yi_iand (yi_ixor x (-1)) (yi_w (x - 1))) 8) 4) 2)), (1, .inl 15)], [.inl (yi_w (15 + (yi_ushr (yi_ushr (yi_ushr (yi_ushr (yi_iand (yi_ixor x (-1)) (yi_w (x - 1))) 8) 4) 2) 1)))], (I, L, R, Y), 0, 0) (fun _ => rfl) ?_
            exact yi_G_reti rfl rfl (⟨_, rfl⟩)
    · refine yi_G_if2 false rfl (yi_le_f h2) ?_
      refine yi_G_iinc [(1, .inl 17), (0, .inl (yi_iand (yi_ixor x (-1)) (yi_w (x - 1))))] rfl rfl rfl (by rw [show yi_w (1 + 16) = 17 from (yi_wn (by omega) (by omega)).trans (by omega)]; rfl) ?_
      refine yi_G_run 6 (38, [(0, .inl (yi_ushr (yi_iand (yi_ixor x (-1)) (yi_w (x - 1))) 16)), (1, .inl 17)], [.inl 256, .inl (yi_ushr (yi_iand (yi_ixor x (-1)) (yi_w (x - 1))) 16)], (I, L, R, Y), 0, 0) (fun _ => rfl) ?_
      by_cases h10 : (yi_ushr (yi_iand (yi_ixor x (-1)) (yi_w (x - 1))) 16) ≤ 256
      · refine yi_G_if2 true rfl (yi_le_t h10) ?_
        refine yi_G_run 2 (52, [(0, .inl (yi_ushr (yi_iand (yi_ixor x (-1)) (yi_w (x - 1))) 16)), (1, .inl 17)], [.inl 16, .inl (yi_ushr (yi_iand (yi_ixor x (-1)) (yi_w (x - 1))) 16)], (I, L, R, Y), 0, 0) (fun _ => rfl) ?_
        by_cases h11 : (yi_ushr (yi_iand (yi_ixor x (-1)) (yi_w (x - 1))) 16) ≤ 16
        · refine yi_G_if2 true rfl (yi_le_t h11) ?_
          refine yi_G_run 2 (64, [(0, .inl (yi_ushr (yi_iand (yi_ixor x (-1)) (yi_w (x - 1))) 16)), (1, .inl 17)], [.inl 4, .inl (yi_ushr (yi_iand (yi_ixor x (-1)) (yi_w (x - 1))) 16)], (I, L, R, Y), 0, 0) (fun _ => rfl) ?_
          by_cases h12 : (yi_ushr (yi_iand (yi_ixor x (-1)) (yi_w (x - 1))) 16) ≤ 4
          · refine yi_G_if2 true rfl (yi_le_t h12) ?_
            refine yi_G_run 5 (79, [(0, .inl (yi_ushr (yi_iand (yi_ixor x (-1)) (yi_w (x - 1))) 16)), (1, .inl 17)], [.inl (yi_w (17 + (yi_ushr (yi_ushr (yi_iand (yi_ixor x (-1)) (yi_w (x - 1))) 16) 1)))], (I, L, R, Y), 0, 0) (fun _ => rfl) ?_
            exact yi_G_reti rfl rfl (⟨_, rfl⟩)
          · refine yi_G_if2 false rfl (yi_le_f h12) ?_
            refine yi_G_iinc [(1, .inl 19), (0, .inl (yi_ushr (yi_iand (yi_ixor x (-1)) (yi_w (x - 1))) 16))] rfl rfl rfl (by rw [show yi_w (17 + 2) = 19 from (yi_wn (by omega) (by omega)).trans (by omega)]; rfl) ?_
            refine yi_G_run 9 (79, [(0, .inl (yi_ushr (yi_ushr (yi_iand (yi_ixor x (-1)) (yi_w (x - 1))) 16) 2)), (1, .inl 19)], [.inl (yi_w (19 + (yi_ushr (yi_ushr (yi_ushr (yi_iand (yi_ixor x (-1)) (yi_w (x - 1))) 16) 2) 1)))], (I, L, R, Y), 0, 0) (fun _ => rfl) ?_
            exact yi_G_reti rfl rfl (⟨_, rfl⟩)
        · refine yi_G_if2 false rfl (yi_le_f h11) ?_
          refine yi_G_iinc [(1, .inl 21), (0, .inl (yi_ushr (yi_iand (yi_ixor x (-1)) (yi_w (x - 1))) 16))] rfl rfl rfl (by rw [show yi_w (17 + 4) = 21 from (yi_wn (by omega) (by omega)).trans (by omega)]; rfl) ?_
          refine yi_G_run 6 (64, [(0, .inl (yi_ushr (yi_ushr (yi_iand (yi_ixor x (-1)) (yi_w (x - 1))) 16) 4)), (1, .inl 21)], [.inl 4, .inl (yi_ushr (yi_ushr (yi_iand (yi_ixor x (-1)) (yi_w (x - 1))) 16) 4)], (I, L, R, Y), 0, 0) (fun _ => rfl) ?_
          by_cases h13 : (yi_ushr (yi_ushr (yi_iand (yi_ixor x (-1)) (yi_w (x - 1))) 16) 4) ≤ 4
          · refine yi_G_if2 true rfl (yi_le_t h13) ?_
            refine yi_G_run 5 (79, [(0, .inl (yi_ushr (yi_ushr (yi_iand (yi_ixor x (-1)) (yi_w (x - 1))) 16) 4)), (1, .inl 21)], [.inl (yi_w (21 + (yi_ushr (yi_ushr (yi_ushr (yi_iand (yi_ixor x (-1)) (yi_w (x - 1))) 16) 4) 1)))], (I, L, R, Y), 0, 0) (fun _ => rfl) ?_
            exact yi_G_reti rfl rfl (⟨_, rfl⟩)
          · refine yi_G_if2 false rfl (yi_le_f h13) ?_
            refine yi_G_iinc [(1, .inl 23), (0, .inl (yi_ushr (yi_ushr (yi_iand (yi_ixor x (-1)) (yi_w (x - 1))) 16) 4))] rfl rfl rfl (by rw [show yi_w (21 + 2) = 23 from (yi_wn (by omega) (by omega)).trans (by omega)]; rfl) ?_
            refine yi_G_run 9 (79, [(0, .inl (yi_ushr (yi_ushr (yi_ushr (yi_iand (yi_ixor x (-1)) (yi_w (x - 1))) 16) 4) 2)), (1, .inl 23)], [.inl (yi_w (23 + (yi_ushr (yi_ushr (yi_ushr (yi_ushr (yi_iand (yi_ixor x (-1)) (yi_w (x - 1))) 16) 4) 2) 1)))], (I, L, R, Y), 0, 0) (fun _ => rfl) ?_
            exact yi_G_reti rfl rfl (⟨_, rfl⟩)
      · refine yi_G_if2 false rfl (yi_le_f h10) ?_
        refine yi_G_iinc [(1, .inl 25), (0, .inl (yi_ushr (yi_iand (yi_ixor x (-1)) (yi_w (x - 1))) 16))] rfl rfl rfl (by rw [show yi_w (17 + 8) = 25 from (yi_wn (by omega) (by omega)).trans (by omega)]; rfl) ?_
        refine yi_G_run 6 (52, [(0, .inl (yi_ushr (yi_ushr (yi_iand (yi_ixor x (-1)) (yi_w (x - 1))) 16) 8)), (1, .inl 25)], [.inl 16, .inl (yi_ushr (yi_ushr (yi_iand (yi_ixor x (-1)) (yi_w (x - 1))) 16) 8)], (I, L, R, Y), 0, 0) (fun _ => rfl) ?_
        by_cases h14 : (yi_ushr (yi_ushr (yi_iand (yi_ixor x (-1)) (yi_w (x - 1))) 16) 8) ≤ 16
        · refine yi_G_if2 true rfl (yi_le_t h14) ?_
          refine yi_G_run 2 (64, [(0, .inl (yi_ushr (yi_ushr (yi_iand (yi_ixor x (-1)) (yi_w (x - 1))) 16) 8)), (1, .inl 25)], [.inl 4, .inl (yi_ushr (yi_ushr (yi_iand (yi_ixor x (-1)) (yi_w (x - 1))) 16) 8)], (I, L, R, Y), 0, 0) (fun _ => rfl) ?_
          by_cases h15 : (yi_ushr (yi_ushr (yi_iand (yi_ixor x (-1)) (yi_w (x - 1))) 16) 8) ≤ 4
          · refine yi_G_if2 true rfl (yi_le_t h15) ?_
            refine yi_G_run 5 (79, [(0, .inl (yi_ushr (yi_ushr (yi_iand (yi_ixor x (-1)) (yi_w (x - 1))) 16) 8)), (1, .inl 25)], [.inl (yi_w (25 + (yi_ushr (yi_ushr (yi_ushr (yi_iand (yi_ixor x (-1)) (yi_w (x - 1))) 16) 8) 1)))], (I, L, R, Y), 0, 0) (fun _ => rfl) ?_
            exact yi_G_reti rfl rfl (⟨_, rfl⟩)
          · refine yi_G_if2 false rfl (yi_le_f h15) ?_
            refine yi_G_iinc [(1, .inl 27), (0, .inl (yi_ushr (yi_ushr (yi_iand (yi_ixor x (-1)) (yi_w (x - 1))) 16) 8))] rfl rfl rfl (by rw [show yi_w (25 + 2) = 27 from (yi_wn (by omega) (by omega)).trans (by omega)]; rfl) ?_
            refine yi_G_run 9 (79, [(0, .inl (yi_ushr (yi_ushr (yi_ushr (yi_iand (yi_ixor x (-1)) (yi_w (x - 1))) 16) 8) 2)), (1, .inl 27)], [.inl (yi_w (27 + (yi_ushr (yi_ushr (yi_ushr (yi_ushr (yi_iand (yi_ixor x (-1)) (yi_w (x - 1))) 16) 8) 2) 1)))], (I, L, R, Y), 0, 0) (fun _ => rfl) ?_
            exact yi_G_reti rfl rfl (⟨_, rfl⟩)
        · refine yi_G_if2 false rfl (yi_le_f h14) ?_
          refine yi_G_iinc [(1, .inl 29), (0, .inl (yi_ushr (yi_ushr (yi_iand (yi_ixor x (-1)) (yi_w (x - 1))) 16) 8))] rfl rfl rfl (by rw [show yi_w (25 + 4) = 29 from (yi_wn (by omega) (by omega)).trans (by omega)]; rfl) ?_
          refine yi_G_run 6 (64, [(0, .inl (yi_ushr (yi_ushr (yi_ushr (yi_iand (yi_ixor x (-1)) (yi_w (x - 1))) 16) 8) 4)), (1, .inl 29)], [.inl 4, .inl (yi_ushr (yi_ushr (yi_ushr (yi_iand (yi_ixor x (-1)) (yi_w (x - 1))) 16) 8) 4)], (I, L, R, Y), 0, 0) (fun _ => rfl) ?_
          by_cases h16 : (yi_ushr (yi_ushr (yi_ushr (yi_iand (yi_ixor x (-1)) (yi_w (x - 1))) 16) 8) 4) ≤ 4
          · refine yi_G_if2 true rfl (yi_le_t h16) ?_
            refine yi_G_run 5 (79, [(0, .inl (yi_ushr (yi_ushr (yi_ushr (yi_iand (yi_ixor x (-1)) (yi_w (x - 1))) 16) 8) 4)), (1, .inl 29)], [.inl (yi_w (29 + (yi_ushr (yi_ushr (yi_ushr (yi_ushr (yi_iand (yi_ixor x (-1)) (yi_w (x - 1))) 16) 8) 4) 1)))], (I, L, R, Y), 0, 0) (fun _ => rfl) ?_
            exact yi_G_reti rfl rfl (⟨_, rfl⟩)
          · refine yi_G_if2 false rfl (yi_le_f h16) ?_
            refine yi_G_iinc [(1, .inl 31), (0, .inl (yi_ushr (yi_ushr (yi_ushr (yi_iand (yi_ixor x (-1)) (yi_w (x - 1))) 16) 8) 4))] rfl rfl rfl (by rw [show yi_w (29 + 2) = 31 from (yi_wn (by omega) (by omega)).trans (by omega)]; rfl) ?_
            refine yi_G_run 9 (79, [(0, .inl (yi_ushr (yi_ushr (yi_ushr (yi_ushr (yi_iand (yi_ixor x (-1)) (yi_w (x - 1))) 16) 8) 4) 2)), (1, .inl 31)], [.inl (yi_w (31 + (yi_ushr (yi_ushr (yi_ushr (yi_ushr (yi_ushr (yi_iand (yi_ixor x (-1)) (yi_w (x - 1))) 16) 8) 4) 2) 1)))], (I, L, R, Y), 0, 0) (fun _ => rfl) ?_
            exact yi_G_reti rfl rfl (⟨_, rfl⟩)
  · refine yi_G_if1 false rfl (yi_gt_f h1) ?_
    refine yi_G_run 3 (16, [(0, .inl (yi_iand (yi_ixor x (-1)) (yi_w (x - 1))))], [.inl (yi_iand (yi_iand (yi_ixor x (-1)) (yi_w (x - 1))) 32)], (I, L, R, Y), 0, 0) (fun _ => rfl) ?_
    exact yi_G_reti rfl rfl (⟨_, rfl⟩)
theorem k_ntzL (D : Nat) (hD : 2 ≤ D) {E : List Nat} {I L : cl_I} {R : cl_Rr} {Y : cl_Y} (hC : cl_C E I L R Y) {x : Int} : yi_E zi_Ms D 318 [.inr (.inl x)] (I, L, R, Y) (fun r => ∃ z, r = (some (.inl z), (I, L, R, Y), 0, 0)) := by
  obtain ⟨d, rfl⟩ : ∃ d, D = d + 1 := ⟨D - 1, by omega⟩
  refine yi_E_of (M := zi_m318) rfl rfl ?_
  have hP : cl_P E I L R Y I L R Y := cl_P_r hC
  show yi_G zi_Ms d zi_m318 (0, [(0, .inr (.inl x))], [], (I, L, R, Y), 0, 0) _
  refine yi_G_run 4 (4, [(2, .inl (yi_w x)), (0, .inr (.inl x))], [.inl (yi_w x)], (I, L, R, Y), 0, 0) (fun _ => rfl) ?_
  by_cases h1 : (yi_w x) = 0
  · refine yi_G_if1 false rfl (yi_ne_f h1) ?_
    refine yi_G_run 5 (14, [(2, .inl (yi_w x)), (0, .inr (.inl x))], [.inl (yi_w (yi_lushr x 32)), .inl 32], (I, L, R, Y), 0, 0) (fun _ => rfl) ?_
    refine yi_G_calls rfl rfl (k_ntzI d (by omega) hP.1  ) ?_
    rintro _ ⟨z2, rfl⟩
    show yi_G zi_Ms d zi_m318 (17, [(2, .inl (yi_w x)), (0, .inr (.inl x))], [.inl z2, .inl 32], (I, L, R, Y), 0, 0) _
    refine yi_G_run 2 (25, [(2, .inl (yi_w x)), (0, .inr (.inl x))], [.inl (yi_w (32 + z2))], (I, L, R, Y), 0, 0) (fun _ => rfl) ?_
    exact yi_G_reti rfl rfl (⟨_, rfl⟩)
  · refine yi_G_if1 true rfl (yi_ne_t h1) ?_
    refine yi_G_run 1 (22, [(2, .inl (yi_w x)), (0, .inr (.inl x))], [.inl (yi_w x)], (I, L, R, Y), 0, 0) (fun _ => rfl) ?_
    refine yi_G_calls rfl rfl (k_ntzI d (by omega) hP.1  ) ?_
    rintro _ ⟨z3, rfl⟩
    show yi_G zi_Ms d zi_m318 (25, [(2, .inl (yi_w x)), (0, .inr (.inl x))], [.inl z3], (I, L, R, Y), 0, 0) _
    exact yi_G_reti rfl rfl (⟨_, rfl⟩)
theorem k_cellAt (D : Nat) (hD : 1 ≤ D) {E : List Nat} {I L : cl_I} {R : cl_Rr} {Y : cl_Y} (hC : cl_C E I L R Y) {p : Nat} (tp : cl_T E Y p 5) {x : Int} : yi_E zi_Ms D 198 [.inr (.inr (some p)), .inl x] (I, L, R, Y) (fun r => ∃ z, r = (some (.inr (.inl z)), (I, L, R, Y), 0, 0)) := by
  obtain ⟨d, rfl⟩ : ∃ d, D = d + 1 := ⟨D - 1, by omega⟩
  refine yi_E_of (M := zi_m198) rfl rfl ?_
  have hP : cl_P E I L R Y I L R Y := cl_P_r hC
  show yi_G zi_Ms d zi_m198 (0, [(0, .inr (.inr (some p))), (1, .inl x)], [], (I, L, R, Y), 0, 0) _
  refine yi_G_run 1 (1, [(0, .inr (.inr (some p))), (1, .inl x)], [.inl x], (I, L, R, Y), 0, 0) (fun _ => rfl) ?_
  by_cases h1 : x < 0
  · refine yi_G_if1 true rfl (yi_lt_t h1) ?_
    refine yi_G_run 1 (31, [(0, .inr (.inr (some p))), (1, .inl x)], [.inr (.inl 0)], (I, L, R, Y), 0, 0) (fun _ => rfl) ?_
    exact yi_G_retl rfl rfl (⟨_, rfl⟩)
  · refine yi_G_if1 false rfl (yi_lt_f h1) ?_
    refine yi_G_run 2 (6, [(0, .inr (.inr (some p))), (1, .inl x)], [.inr (.inr (some p)), .inl x], (I, L, R, Y), 0, 0) (fun _ => rfl) ?_
    have b2 := cl_rd hP.1 tp (k := 1) (lo := 1) (hi := 513) rfl
    refine cl_G_gi rfl (cl_T_K tp) rfl rfl rfl ?_
    by_cases h3 : (I p 1) ≤ x
    · refine yi_G_if2 true rfl (yi_ge_t h3) ?_
      refine yi_G_run 1 (31, [(0, .inr (.inr (some p))), (1, .inl x)], [.inr (.inl 0)], (I, L, R, Y), 0, 0) (fun _ => rfl) ?_
      exact yi_G_retl rfl rfl (⟨_, rfl⟩)
    · refine yi_G_if2 false rfl (yi_ge_f h3) ?_
      refine yi_G_run 2 (14, [(0, .inr (.inr (some p))), (1, .inl x)], [.inr (.inr (some p)), .inl x], (I, L, R, Y), 0, 0) (fun _ => rfl) ?_
      obtain ⟨q4, e5, t6⟩ := cl_rf hP.1 tp (k := 0) rfl
      have n7 := cl_nb hP.1 t6
      refine cl_G_gr rfl (cl_T_K tp) rfl rfl rfl e5 ?_
      refine cl_G_len rfl t6 (by omega) ?_
      by_cases h8 : ((Y.2.1 q4 : Int)) ≤ x
      · refine yi_G_if2 true rfl (yi_ge_t h8) ?_
        refine yi_G_run 1 (31, [(0, .inr (.inr (some p))), (1, .inl x)], [.inr (.inl 0)], (I, L, R, Y), 0, 0) (fun _ => rfl) ?_
        exact yi_G_retl rfl rfl (⟨_, rfl⟩)
      · refine yi_G_if2 false rfl (yi_ge_f h8) ?_
        refine yi_G_run 1 (22, [(0, .inr (.inr (some p))), (1, .inl x)], [.inr (.inr (some p))], (I, L, R, Y), 0, 0) (fun _ => rfl) ?_
        refine cl_G_gr rfl (cl_T_K tp) rfl rfl rfl e5 ?_
        refine yi_G_run 1 (26, [(0, .inr (.inr (some p))), (1, .inl x)], [.inl x, .inr (.inr (some q4))], (I, L, R, Y), 0, 0) (fun _ => rfl) ?_
        refine cl_G_lald rfl t6 (by omega) (by omega) ?_
        refine yi_G_run 1 (31, [(0, .inr (.inr (some p))), (1, .inl x)], [.inr (.inl (L q4 (x.toNat)))], (I, L, R, Y), 0, 0) (fun _ => rfl) ?_
        exact yi_G_retl rfl rfl (⟨_, rfl⟩)
theorem k_bitAt (D : Nat) (hD : 3 ≤ D) {E : List Nat} {I L : cl_I} {R : cl_Rr} {Y : cl_Y} (hC : cl_C E I L R Y) {x : Int} {k : Int} : yi_E zi_Ms D 197 [.inr (.inl x), .inl k] (I, L, R, Y) (fun r => ∃ z, r = (some (.inl z), (I, L, R, Y), 0, 0)) := by
  obtain ⟨d, rfl⟩ : ∃ d, D = d + 1 := ⟨D - 1, by omega⟩
  refine yi_E_of (M := zi_m197) rfl rfl ?_
  have hP : cl_P E I L R Y I L R Y := cl_P_r hC
  show yi_G zi_Ms d zi_m197 (0, [(0, .inr (.inl x)), (2, .inl k)], [], (I, L, R, Y), 0, 0) _
  refine yi_G_run 4 (5, [(5, .inl 0), (3, .inr (.inl x)), (0, .inr (.inl x)), (2, .inl k)], [], (I, L, R, Y), 0, 0) (fun _ => rfl) ?_
  have pt5 : ∀ (m_ : Nat) (y : Int) (j : Int), (0 ≤ j ∧ j ≤ 64) → (64 - j).toNat = m_ → yi_G zi_Ms d zi_m197 (5, [(5, .inl j), (3, .inr (.inl y)), (0, .inr (.inl x)), (2, .inl k)], [], (I, L, R, Y), 0, 0) (fun r => ∃ z, r = (some (.inl z), (I, L, R, Y), 0, 0)) := by
    intro m5
    induction m5 using Nat.strongRecOn with
    | _ m5 ih5 =>
    intro y j j0 hm5
    refine yi_G_run 2 (8, [(5, .inl j), (3, .inr (.inl y)), (0, .inr (.inl x)), (2, .inl k)], [.inl k, .inl j], (I, L, R, Y), 0, 0) (fun _ => rfl) ?_
    by_cases h1 : k ≤ j
    · refine yi_G_if2 true rfl (yi_ge_t h1) ?_
      refine yi_G_run 1 (31, [(5, .inl j), (3, .inr (.inl y)), (0, .inr (.inl x)), (2, .inl k)], [.inr (.inl y)], (I, L, R, Y), 0, 0) (fun _ => rfl) ?_
      refine yi_G_calls rfl rfl (k_ntzL d (by omega) hP.1  ) ?_
      rintro _ ⟨z2, rfl⟩
      show yi_G zi_Ms d zi_m197 (34, [(5, .inl j), (3, .inr (.inl y)), (0, .inr (.inl x)), (2, .inl k)], [.inl z2], (I, L, R, Y), 0, 0) _
      exact yi_G_reti rfl rfl (⟨_, rfl⟩)
    · refine yi_G_if2 false rfl (yi_ge_f h1) ?_
      refine yi_G_run 2 (15, [(5, .inl j), (3, .inr (.inl y)), (0, .inr (.inl x)), (2, .inl k)], [.inl 64, .inl j], (I, L, R, Y), 0, 0) (fun _ => rfl) ?_
      by_cases h3 : 64 ≤ j
      · refine yi_G_if2 true rfl (yi_ge_t h3) ?_
        refine yi_G_run 1 (31, [(5, .inl j), (3, .inr (.inl y)), (0, .inr (.inl x)), (2, .inl k)], [.inr (.inl y)], (I, L, R, Y), 0, 0) (fun _ => rfl) ?_
        refine yi_G_calls rfl rfl (k_ntzL d (by omega) hP.1  ) ?_
        rintro _ ⟨z4, rfl⟩
        show yi_G zi_Ms d zi_m197 (34, [(5, .inl j), (3, .inr (.inl y)), (0, .inr (.inl x)), (2, .inl k)], [.inl z4], (I, L, R, Y), 0, 0) _
        exact yi_G_reti rfl rfl (⟨_, rfl⟩)
      · refine yi_G_if2 false rfl (yi_ge_f h3) ?_
        refine yi_G_run 6 (24, [(3, .inr (.inl (yi_land y (yi_W (y - 1))))), (5, .inl j), (0, .inr (.inl x)), (2, .inl k)], [], (I, L, R, Y), 0, 0) (fun _ => rfl) ?_
        refine yi_G_iinc [(5, .inl (j + 1)), (3, .inr (.inl (yi_land y (yi_W (y - 1))))), (0, .inr (.inl x)), (2, .inl k)] rfl rfl rfl (by rw [show yi_w (j + 1) = j + 1 from (yi_wn (by omega) (by omega)).trans (by omega)]; rfl) ?_
        refine yi_G_run 1 (5, [(5, .inl (j + 1)), (3, .inr (.inl (yi_land y (yi_W (y - 1))))), (0, .inr (.inl x)), (2, .inl k)], [], (I, L, R, Y), 0, 0) (fun _ => rfl) ?_
        exact ih5 _ (by omega) (yi_land y (yi_W (y - 1))) (j + 1) (by omega) rfl
  exact pt5 _ x 0 (by omega) rfl
theorem k_sizeWith (D : Nat) (hD : 2 ≤ D) {E : List Nat} {I L : cl_I} {R : cl_Rr} {Y : cl_Y} (hC : cl_C E I L R Y) {p : Nat} (tp : cl_T E Y p 5) {u : Nat} (tu : cl_T E Y u 5) : yi_E zi_Ms D 209 [.inr (.inr (some p)), .inr (.inr (some u))] (I, L, R, Y) (fun r => ∃ z, r = (some (.inl z), (I, L, R, Y), 0, 0)) := by
  obtain ⟨d, rfl⟩ : ∃ d, D = d + 1 := ⟨D - 1, by omega⟩
  refine yi_E_of (M := zi_m209) rfl rfl ?_
  have hP : cl_P E I L R Y I L R Y := cl_P_r hC
  show yi_G zi_Ms d zi_m209 (0, [(0, .inr (.inr (some p))), (1, .inr (.inr (some u)))], [], (I, L, R, Y), 0, 0) _
  refine yi_G_run 4 (4, [(3, .inl 0), (2, .inl 0), (0, .inr (.inr (some p))), (1, .inr (.inr (some u)))], [], (I, L, R, Y), 0, 0) (fun _ => rfl) ?_
  have pt4 : ∀ (m_ : Nat) (j : Int) (y : Int), (0 ≤ j ∧ j ≤ 513) → (513 - j).toNat = m_ → yi_G zi_Ms d zi_m209 (4, [(3, .inl j), (2, .inl y), (0, .inr (.inr (some p))), (1, .inr (.inr (some u)))], [], (I, L, R, Y), 0, 0) (fun r => ∃ z, r = (some (.inl z), (I, L, R, Y), 0, 0)) := by
    intro m4
    induction m4 using Nat.strongRecOn with
    | _ m4 ih4 =>
    intro j y j0 hm4
    refine yi_G_run 2 (6, [(3, .inl j), (2, .inl y), (0, .inr (.inr (some p))), (1, .inr (.inr (some u)))], [.inr (.inr (some p)), .inl j], (I, L, R, Y), 0, 0) (fun _ => rfl) ?_
    have b1 := cl_rd hP.1 tp (k := 1) (lo := 1) (hi := 513) rfl
    refine cl_G_gi rfl (cl_T_K tp) rfl rfl rfl ?_
    by_cases h2 : (I p 1) ≤ j
    · refine yi_G_if2 true rfl (yi_ge_t h2) ?_
      refine yi_G_run 1 (46, [(3, .inl j), (2, .inl y), (0, .inr (.inr (some p))), (1, .inr (.inr (some u)))], [.inl y], (I, L, R, Y), 0, 0) (fun _ => rfl) ?_
      exact yi_G_reti rfl rfl (⟨_, rfl⟩)
    · refine yi_G_if2 false rfl (yi_ge_f h2) ?_
      refine yi_G_run 2 (14, [(3, .inl j), (2, .inl y), (0, .inr (.inr (some p))), (1, .inr (.inr (some u)))], [.inr (.inr (some p)), .inl j], (I, L, R, Y), 0, 0) (fun _ => rfl) ?_
      obtain ⟨q3, e4, t5⟩ := cl_rf hP.1 tp (k := 0) rfl
      have n6 := cl_nb hP.1 t5
      refine cl_G_gr rfl (cl_T_K tp) rfl rfl rfl e4 ?_
      refine cl_G_len rfl t5 (by omega) ?_
      by_cases h7 : ((Y.2.1 q3 : Int)) ≤ j
      · refine yi_G_if2 true rfl (yi_ge_t h7) ?_
        refine yi_G_run 1 (46, [(3, .inl j), (2, .inl y), (0, .inr (.inr (some p))), (1, .inr (.inr (some u)))], [.inl y], (I, L, R, Y), 0, 0) (fun _ => rfl) ?_
        exact yi_G_reti rfl rfl (⟨_, rfl⟩)
      · refine yi_G_if2 false rfl (yi_ge_f h7) ?_
        refine yi_G_run 2 (23, [(3, .inl j), (2, .inl y), (0, .inr (.inr (some p))), (1, .inr (.inr (some u)))], [.inr (.inr (some p)), .inl y], (I, L, R, Y), 0, 0) (fun _ => rfl) ?_
        refine cl_G_gr rfl (cl_T_K tp) rfl rfl rfl e4 ?_
        refine yi_G_run 1 (27, [(3, .inl j), (2, .inl y), (0, .inr (.inr (some p))), (1, .inr (.inr (some u)))], [.inl j, .inr (.inr (some q3)), .inl y], (I, L, R, Y), 0, 0) (fun _ => rfl) ?_
        refine cl_G_lald rfl t5 (by omega) (by omega) ?_
        refine yi_G_run 2 (30, [(3, .inl j), (2, .inl y), (0, .inr (.inr (some p))), (1, .inr (.inr (some u)))], [.inl j, .inr (.inr (some u)), .inr (.inl (L q3 (j.toNat))), .inl y], (I, L, R, Y), 0, 0) (fun _ => rfl) ?_
        refine yi_G_callv rfl rfl (cl_rcv tu rfl) rfl (k_cellAt d (by omega) hP.1 tu ) ?_
        rintro _ ⟨z8, rfl⟩
        show yi_G zi_Ms d zi_m209 (33, [(3, .inl j), (2, .inl y), (0, .inr (.inr (some p))), (1, .inr (.inr (some u)))], [.inr (.inl z8), .inr (.inl (L q3 (j.toNat))), .inl y], (I, L, R, Y), 0, 0) _
        refine yi_G_run 1 (34, [(3, .inl j), (2, .inl y), (0, .inr (.inr (some p))), (1, .inr (.inr (some u)))], [.inr (.inl (yi_land (L q3 (j.toNat)) z8)), .inl y], (I, L, R, Y), 0, 0) (fun _ => rfl) ?_
        refine yi_G_calls rfl rfl (k_bitCountL d (by omega) hP.1  ) ?_
        rintro _ ⟨z9, rfl⟩
        show yi_G zi_Ms d zi_m209 (37, [(3, .inl j), (2, .inl y), (0, .inr (.inr (some p))), (1, .inr (.inr (some u)))], [.inl z9, .inl y], (I, L, R, Y), 0, 0) _
        refine yi_G_run 2 (39, [(2, .inl (yi_w (y + z9))), (3, .inl j), (0, .inr (.inr (some p))), (1, .inr (.inr (some u)))], [], (I, L, R, Y), 0, 0) (fun _ => rfl) ?_
        refine yi_G_iinc [(3, .inl (j + 1)), (2, .inl (yi_w (y + z9))), (0, .inr (.inr (some p))), (1, .inr (.inr (some u)))] rfl rfl rfl (by rw [show yi_w (j + 1) = j + 1 from (yi_wn (by omega) (by omega)).trans (by omega)]; rfl) ?_
        refine yi_G_run 1 (4, [(3, .inl (j + 1)), (2, .inl (yi_w (y + z9))), (0, .inr (.inr (some p))), (1, .inr (.inr (some u)))], [], (I, L, R, Y), 0, 0) (fun _ => rfl) ?_
        exact ih4 _ (by omega) (j + 1) (yi_w (y + z9)) (by omega) rfl
  exact pt4 _ 0 0 (by omega) rfl
theorem k_size (D : Nat) (hD : 3 ≤ D) {E : List Nat} {I L : cl_I} {R : cl_Rr} {Y : cl_Y} (hC : cl_C E I L R Y) {p : Nat} (tp : cl_T E Y p 5) : yi_E zi_Ms D 208 [.inr (.inr (some p))] (I, L, R, Y) (fun r => ∃ z, r = (some (.inl z), (I, L, R, Y), 0, 0)) := by
  obtain ⟨d, rfl⟩ : ∃ d, D = d + 1 := ⟨D - 1, by omega⟩
  refine yi_E_of (M := zi_m208) rfl rfl ?_
  have hP : cl_P E I L R Y I L R Y := cl_P_r hC
  show yi_G zi_Ms d zi_m208 (0, [(0, .inr (.inr (some p)))], [], (I, L, R, Y), 0, 0) _
  refine yi_G_run 2 (2, [(0, .inr (.inr (some p)))], [.inr (.inr (some p)), .inr (.inr (some p))], (I, L, R, Y), 0, 0) (fun _ => rfl) ?_
  refine yi_G_callv rfl rfl (cl_rcv tp rfl) rfl (k_sizeWith d (by omega) hP.1 tp tp ) ?_
  rintro _ ⟨z1, rfl⟩
  show yi_G zi_Ms d zi_m208 (5, [(0, .inr (.inr (some p)))], [.inl z1], (I, L, R, Y), 0, 0) _
  exact yi_G_reti rfl rfl (⟨_, rfl⟩)
theorem k_meets (D : Nat) (hD : 2 ≤ D) {E : List Nat} {I L : cl_I} {R : cl_Rr} {Y : cl_Y} (hC : cl_C E I L R Y) {p : Nat} (tp : cl_T E Y p 5) {u : Nat} (tu : cl_T E Y u 5) : yi_E zi_Ms D 205 [.inr (.inr (some p)), .inr (.inr (some u))] (I, L, R, Y) (fun r => ∃ z, r = (some (.inl z), (I, L, R, Y), 0, 0) ∧ (z = 0 ∨ z = 1)) := by
  obtain ⟨d, rfl⟩ : ∃ d, D = d + 1 := ⟨D - 1, by omega⟩
  refine yi_E_of (M := zi_m205) rfl rfl ?_
  have hP : cl_P E I L R Y I L R Y := cl_P_r hC
  show yi_G zi_Ms d zi_m205 (0, [(0, .inr (.inr (some p))), (1, .inr (.inr (some u)))], [], (I, L, R, Y), 0, 0) _
  refine yi_G_run 2 (2, [(2, .inl 0), (0, .inr (.inr (some p))), (1, .inr (.inr (some u)))], [], (I, L, R, Y), 0, 0) (fun _ => rfl) ?_
  have pt2 : ∀ (m_ : Nat) (j : Int), (0 ≤ j ∧ j ≤ 513) → (513 - j).toNat = m_ → yi_G zi_Ms d zi_m205 (2, [(2, .inl j), (0, .inr (.inr (some p))), (1, .inr (.inr (some u)))], [], (I, L, R, Y), 0, 0) (fun r => ∃ z, r = (some (.inl z), (I, L, R, Y), 0, 0) ∧ (z = 0 ∨ z = 1)) := by
    intro m2
    induction m2 using Nat.strongRecOn with
    | _ m2 ih2 =>
    intro j j0 hm2
    refine yi_G_run 2 (4, [(2, .inl j), (0, .inr (.inr (some p))), (1, .inr (.inr (some u)))], [.inr (.inr (some p)), .inl j], (I, L, R, Y), 0, 0) (fun _ => rfl) ?_
    have b1 := cl_rd hP.1 tp (k := 1) (lo := 1) (hi := 513) rfl
    refine cl_G_gi rfl (cl_T_K tp) rfl rfl rfl ?_
    by_cases h2 : (I p 1) ≤ j
    · refine yi_G_if2 true rfl (yi_ge_t h2) ?_
      refine yi_G_run 1 (45, [(2, .inl j), (0, .inr (.inr (some p))), (1, .inr (.inr (some u)))], [.inl 0], (I, L, R, Y), 0, 0) (fun _ => rfl) ?_
      exact yi_G_retb rfl rfl (by decide) (⟨_, rfl, by decide⟩)
    · refine yi_G_if2 false rfl (yi_ge_f h2) ?_
      refine yi_G_run 2 (12, [(2, .inl j), (0, .inr (.inr (some p))), (1, .inr (.inr (some u)))], [.inr (.inr (some p)), .inl j], (I, L, R, Y), 0, 0) (fun _ => rfl) ?_
      obtain ⟨q3, e4, t5⟩ := cl_rf hP.1 tp (k := 0) rfl
      have n6 := cl_nb hP.1 t5
      refine cl_G_gr rfl (cl_T_K tp) rfl rfl rfl e4 ?_
      refine cl_G_len rfl t5 (by omega) ?_
      by_cases h7 : ((Y.2.1 q3 : Int)) ≤ j
      · refine yi_G_if2 true rfl (yi_ge_t h7) ?_
        refine yi_G_run 1 (45, [(2, .inl j), (0, .inr (.inr (some p))), (1, .inr (.inr (some u)))], [.inl 0], (I, L, R, Y), 0, 0) (fun _ => rfl) ?_
        exact yi_G_retb rfl rfl (by decide) (⟨_, rfl, by decide⟩)
      · refine yi_G_if2 false rfl (yi_ge_f h7) ?_
        refine yi_G_run 1 (20, [(2, .inl j), (0, .inr (.inr (some p))), (1, .inr (.inr (some u)))], [.inr (.inr (some p))], (I, L, R, Y), 0, 0) (fun _ => rfl) ?_
        refine cl_G_gr rfl (cl_T_K tp) rfl rfl rfl e4 ?_
        refine yi_G_run 1 (24, [(2, .inl j), (0, .inr (.inr (some p))), (1, .inr (.inr (some u)))], [.inl j, .inr (.inr (some q3))], (I, L, R, Y), 0, 0) (fun _ => rfl) ?_
        refine cl_G_lald rfl t5 (by omega) (by omega) ?_
        refine yi_G_run 2 (27, [(2, .inl j), (0, .inr (.inr (some p))), (1, .inr (.inr (some u)))], [.inl j, .inr (.inr (some u)), .inr (.inl (L q3 (j.toNat)))], (I, L, R, Y), 0, 0) (fun _ => rfl) ?_
        refine yi_G_callv rfl rfl (cl_rcv tu rfl) rfl (k_cellAt d (by omega) hP.1 tu ) ?_
        rintro _ ⟨z8, rfl⟩
        show yi_G zi_Ms d zi_m205 (30, [(2, .inl j), (0, .inr (.inr (some p))), (1, .inr (.inr (some u)))], [.inr (.inl z8), .inr (.inl (L q3 (j.toNat)))], (I, L, R, Y), 0, 0) _
        refine yi_G_run 3 (33, [(2, .inl j), (0, .inr (.inr (some p))), (1, .inr (.inr (some u)))], [.inl (yi_lcmp (yi_land (L q3 (j.toNat)) z8) 0)], (I, L, R, Y), 0, 0) (fun _ => rfl) ?_
        by_cases h9 : ((yi_land (L q3 (j.toNat)) z8)) = 0
        · refine yi_G_if1 true rfl (yi_Leq_t h9) ?_
          refine yi_G_iinc [(2, .inl (j + 1)), (0, .inr (.inr (some p))), (1, .inr (.inr (some u)))] rfl rfl rfl (by rw [show yi_w (j + 1) = j + 1 from (yi_wn (by omega) (by omega)).trans (by omega)]; rfl) ?_
          refine yi_G_run 1 (2, [(2, .inl (j + 1)), (0, .inr (.inr (some p))), (1, .inr (.inr (some u)))], [], (I, L, R, Y), 0, 0) (fun _ => rfl) ?_
          exact ih2 _ (by omega) (j + 1) (by omega) rfl
        · refine yi_G_if1 false rfl (yi_Leq_f h9) ?_
          refine yi_G_run 1 (37, [(2, .inl j), (0, .inr (.inr (some p))), (1, .inr (.inr (some u)))], [.inl 1], (I, L, R, Y), 0, 0) (fun _ => rfl) ?_
          exact yi_G_retb rfl rfl (by decide) (⟨_, rfl, by decide⟩)
  exact pt2 _ 0 (by omega) rfl
theorem k_isEmpty (D : Nat) (hD : 3 ≤ D) {E : List Nat} {I L : cl_I} {R : cl_Rr} {Y : cl_Y} (hC : cl_C E I L R Y) {p : Nat} (tp : cl_T E Y p 5) : yi_E zi_Ms D 203 [.inr (.inr (some p))] (I, L, R, Y) (fun r => ∃ z, r = (some (.inl z), (I, L, R, Y), 0, 0) ∧ (z = 0 ∨ z = 1)) := by
  obtain ⟨d, rfl⟩ : ∃ d, D = d + 1 := ⟨D - 1, by omega⟩
  refine yi_E_of (M := zi_m203) rfl rfl ?_
  have hP : cl_P E I L R Y I L R Y := cl_P_r hC
  show yi_G zi_Ms d zi_m203 (0, [(0, .inr (.inr (some p)))], [], (I, L, R, Y), 0, 0) _
  refine yi_G_run 2 (2, [(0, .inr (.inr (some p)))], [.inr (.inr (some p)), .inr (.inr (some p))], (I, L, R, Y), 0, 0) (fun _ => rfl) ?_
  refine yi_G_callv rfl rfl (cl_rcv tp rfl) rfl (k_meets d (by omega) hP.1 tp tp ) ?_
  rintro _ ⟨z1, rfl, hz1⟩
  show yi_G zi_Ms d zi_m203 (5, [(0, .inr (.inr (some p)))], [.inl z1], (I, L, R, Y), 0, 0) _
  by_cases h2 : z1 = 0
  · refine yi_G_if1 false rfl (yi_ne_f h2) ?_
    refine yi_G_run 2 (13, [(0, .inr (.inr (some p)))], [.inl 1], (I, L, R, Y), 0, 0) (fun _ => rfl) ?_
    exact yi_G_retb rfl rfl (by decide) (⟨_, rfl, by decide⟩)
  · refine yi_G_if1 true rfl (yi_ne_t h2) ?_
    refine yi_G_run 1 (13, [(0, .inr (.inr (some p)))], [.inl 0], (I, L, R, Y), 0, 0) (fun _ => rfl) ?_
    exact yi_G_retb rfl rfl (by decide) (⟨_, rfl, by decide⟩)
theorem k_withinBy (D : Nat) (hD : 2 ≤ D) {E : List Nat} {I L : cl_I} {R : cl_Rr} {Y : cl_Y} (hC : cl_C E I L R Y) {p : Nat} (tp : cl_T E Y p 5) {u : Nat} (tu : cl_T E Y u 5) {v : Nat} (tv : cl_T E Y v 5) : yi_E zi_Ms D 211 [.inr (.inr (some p)), .inr (.inr (some u)), .inr (.inr (some v))] (I, L, R, Y) (fun r => ∃ z, r = (some (.inl z), (I, L, R, Y), 0, 0) ∧ (z = 0 ∨ z = 1)) := by
  obtain ⟨d, rfl⟩ : ∃ d, D = d + 1 := ⟨D - 1, by omega⟩
  refine yi_E_of (M := zi_m211) rfl rfl ?_
  have hP : cl_P E I L R Y I L R Y := cl_P_r hC
  show yi_G zi_Ms d zi_m211 (0, [(0, .inr (.inr (some p))), (1, .inr (.inr (some u))), (2, .inr (.inr (some v)))], [], (I, L, R, Y), 0, 0) _
  refine yi_G_run 2 (2, [(3, .inl 0), (0, .inr (.inr (some p))), (1, .inr (.inr (some u))), (2, .inr (.inr (some v)))], [], (I, L, R, Y), 0, 0) (fun _ => rfl) ?_
  have pt2 : ∀ (m_ : Nat) (j : Int), (0 ≤ j ∧ j ≤ 513) → (513 - j).toNat = m_ → yi_G zi_Ms d zi_m211 (2, [(3, .inl j), (0, .inr (.inr (some p))), (1, .inr (.inr (some u))), (2, .inr (.inr (some v)))], [], (I, L, R, Y), 0, 0) (fun r => ∃ z, r = (some (.inl z), (I, L, R, Y), 0, 0) ∧ (z = 0 ∨ z = 1)) := by
    intro m2
    induction m2 using Nat.strongRecOn with
    | _ m2 ih2 =>
    intro j j0 hm2
    refine yi_G_run 2 (4, [(3, .inl j), (0, .inr (.inr (some p))), (1, .inr (.inr (some u))), (2, .inr (.inr (some v)))], [.inr (.inr (some p)), .inl j], (I, L, R, Y), 0, 0) (fun _ => rfl) ?_
    have b1 := cl_rd hP.1 tp (k := 1) (lo := 1) (hi := 513) rfl
    refine cl_G_gi rfl (cl_T_K tp) rfl rfl rfl ?_
    by_cases h2 : (I p 1) ≤ j
    · refine yi_G_if2 true rfl (yi_ge_t h2) ?_
      refine yi_G_run 1 (55, [(3, .inl j), (0, .inr (.inr (some p))), (1, .inr (.inr (some u))), (2, .inr (.inr (some v)))], [.inl 1], (I, L, R, Y), 0, 0) (fun _ => rfl) ?_
      exact yi_G_retb rfl rfl (by decide) (⟨_, rfl, by decide⟩)
    · refine yi_G_if2 false rfl (yi_ge_f h2) ?_
      refine yi_G_run 2 (12, [(3, .inl j), (0, .inr (.inr (some p))), (1, .inr (.inr (some u))), (2, .inr (.inr (some v)))], [.inr (.inr (some p)), .inl j], (I, L, R, Y), 0, 0) (fun _ => rfl) ?_
      obtain ⟨q3, e4, t5⟩ := cl_rf hP.1 tp (k := 0) rfl
      have n6 := cl_nb hP.1 t5
      refine cl_G_gr rfl (cl_T_K tp) rfl rfl rfl e4 ?_
      refine cl_G_len rfl t5 (by omega) ?_
      by_cases h7 : ((Y.2.1 q3 : Int)) ≤ j
      · refine yi_G_if2 true rfl (yi_ge_t h7) ?_
        refine yi_G_run 1 (55, [(3, .inl j), (0, .inr (.inr (some p))), (1, .inr (.inr (some u))), (2, .inr (.inr (some v)))], [.inl 1], (I, L, R, Y), 0, 0) (fun _ => rfl) ?_
        exact yi_G_retb rfl rfl (by decide) (⟨_, rfl, by decide⟩)
      · refine yi_G_if2 false rfl (yi_ge_f h7) ?_
        refine yi_G_run 1 (20, [(3, .inl j), (0, .inr (.inr (some p))), (1, .inr (.inr (some u))), (2, .inr (.inr (some v)))], [.inr (.inr (some p))], (I, L, R, Y), 0, 0) (fun _ => rfl) ?_
        refine cl_G_gr rfl (cl_T_K tp) rfl rfl rfl e4 ?_
        refine yi_G_run 1 (24, [(3, .inl j), (0, .inr (.inr (some p))), (1, .inr (.inr (some u))), (2, .inr (.inr (some v)))], [.inl j, .inr (.inr (some q3))], (I, L, R, Y), 0, 0) (fun _ => rfl) ?_
        refine cl_G_lald rfl t5 (by omega) (by omega) ?_
        refine yi_G_run 2 (27, [(3, .inl j), (0, .inr (.inr (some p))), (1, .inr (.inr (some u))), (2, .inr (.inr (some v)))], [.inl j, .inr (.inr (some u)), .inr (.inl (L q3 (j.toNat)))], (I, L, R, Y), 0, 0) (fun _ => rfl) ?_
        refine yi_G_callv rfl rfl (cl_rcv tu rfl) rfl (k_cellAt d (by omega) hP.1 tu ) ?_
        rintro _ ⟨z8, rfl⟩
        show yi_G zi_Ms d zi_m211 (30, [(3, .inl j), (0, .inr (.inr (some p))), (1, .inr (.inr (some u))), (2, .inr (.inr (some v)))], [.inr (.inl z8), .inr (.inl (L q3 (j.toNat)))], (I, L, R, Y), 0, 0) _
        refine yi_G_run 3 (33, [(3, .inl j), (0, .inr (.inr (some p))), (1, .inr (.inr (some u))), (2, .inr (.inr (some v)))], [.inl j, .inr (.inr (some v)), .inr (.inl (yi_land (L q3 (j.toNat)) z8))], (I, L, R, Y), 0, 0) (fun _ => rfl) ?_
        refine yi_G_callv rfl rfl (cl_rcv tv rfl) rfl (k_cellAt d (by omega) hP.1 tv ) ?_
        rintro _ ⟨z9, rfl⟩
        show yi_G zi_Ms d zi_m211 (36, [(3, .inl j), (0, .inr (.inr (some p))), (1, .inr (.inr (some u))), (2, .inr (.inr (some v)))], [.inr (.inl z9), .inr (.inl (yi_land (L q3 (j.toNat)) z8))], (I, L, R, Y), 0, 0) _
        refine yi_G_ldc2 ((-1)) rfl (by decide +kernel) ?_
        refine yi_G_run 4 (43, [(3, .inl j), (0, .inr (.inr (some p))), (1, .inr (.inr (some u))), (2, .inr (.inr (some v)))], [.inl (yi_lcmp (yi_land (yi_land (L q3 (j.toNat)) z8) (yi_lxor z9 (-1))) 0)], (I, L, R, Y), 0, 0) (fun _ => rfl) ?_
        by_cases h10 : ((yi_land (yi_land (L q3 (j.toNat)) z8) (yi_lxor z9 (-1)))) = 0
        · refine yi_G_if1 true rfl (yi_Leq_t h10) ?_
          refine yi_G_iinc [(3, .inl (j + 1)), (0, .inr (.inr (some p))), (1, .inr (.inr (some u))), (2, .inr (.inr (some v)))] rfl rfl rfl (by rw [show yi_w (j + 1) = j + 1 from (yi_wn (by omega) (by omega)).trans (by omega)]; rfl) ?_
          refine yi_G_run 1 (2, [(3, .inl (j + 1)), (0, .inr (.inr (some p))), (1, .inr (.inr (some u))), (2, .inr (.inr (some v)))], [], (I, L, R, Y), 0, 0) (fun _ => rfl) ?_
          exact ih2 _ (by omega) (j + 1) (by omega) rfl
        · refine yi_G_if1 false rfl (yi_Leq_f h10) ?_
          refine yi_G_run 1 (47, [(3, .inl j), (0, .inr (.inr (some p))), (1, .inr (.inr (some u))), (2, .inr (.inr (some v)))], [.inl 0], (I, L, R, Y), 0, 0) (fun _ => rfl) ?_
          exact yi_G_retb rfl rfl (by decide) (⟨_, rfl, by decide⟩)
  exact pt2 _ 0 (by omega) rfl
theorem k_within (D : Nat) (hD : 3 ≤ D) {E : List Nat} {I L : cl_I} {R : cl_Rr} {Y : cl_Y} (hC : cl_C E I L R Y) {p : Nat} (tp : cl_T E Y p 5) {u : Nat} (tu : cl_T E Y u 5) : yi_E zi_Ms D 210 [.inr (.inr (some p)), .inr (.inr (some u))] (I, L, R, Y) (fun r => ∃ z, r = (some (.inl z), (I, L, R, Y), 0, 0) ∧ (z = 0 ∨ z = 1)) := by
  obtain ⟨d, rfl⟩ : ∃ d, D = d + 1 := ⟨D - 1, by omega⟩
  refine yi_E_of (M := zi_m210) rfl rfl ?_
  have hP : cl_P E I L R Y I L R Y := cl_P_r hC
  show yi_G zi_Ms d zi_m210 (0, [(0, .inr (.inr (some p))), (1, .inr (.inr (some u)))], [], (I, L, R, Y), 0, 0) _
  refine yi_G_run 3 (3, [(0, .inr (.inr (some p))), (1, .inr (.inr (some u)))], [.inr (.inr (some u)), .inr (.inr (some p)), .inr (.inr (some p))], (I, L, R, Y), 0, 0) (fun _ => rfl) ?_
  refine yi_G_callv rfl rfl (cl_rcv tp rfl) rfl (k_withinBy d (by omega) hP.1 tp tp tu ) ?_
  rintro _ ⟨z1, rfl, hz1⟩
  show yi_G zi_Ms d zi_m210 (6, [(0, .inr (.inr (some p))), (1, .inr (.inr (some u)))], [.inl z1], (I, L, R, Y), 0, 0) _
  exact yi_G_retb rfl rfl (by omega) (⟨_, rfl, by omega⟩)
theorem k_has (D : Nat) (hD : 2 ≤ D) {E : List Nat} {I L : cl_I} {R : cl_Rr} {Y : cl_Y} (hC : cl_C E I L R Y) {p : Nat} (tp : cl_T E Y p 5) {x : Int} (hx : x ≤ 2147483647) : yi_E zi_Ms D 202 [.inr (.inr (some p)), .inl x] (I, L, R, Y) (fun r => ∃ z, r = (some (.inl z), (I, L, R, Y), 0, 0) ∧ (z = 0 ∨ z = 1)) := by
  obtain ⟨d, rfl⟩ : ∃ d, D = d + 1 := ⟨D - 1, by omega⟩
  refine yi_E_of (M := zi_m202) rfl rfl ?_
  have hP : cl_P E I L R Y I L R Y := cl_P_r hC
  show yi_G zi_Ms d zi_m202 (0, [(0, .inr (.inr (some p))), (1, .inl x)], [], (I, L, R, Y), 0, 0) _
  refine yi_G_run 1 (1, [(0, .inr (.inr (some p))), (1, .inl x)], [.inl x], (I, L, R, Y), 0, 0) (fun _ => rfl) ?_
  by_cases h1 : x < 0
  · refine yi_G_if1 true rfl (yi_lt_t h1) ?_
    refine yi_G_run 1 (29, [(0, .inr (.inr (some p))), (1, .inl x)], [.inl 0], (I, L, R, Y), 0, 0) (fun _ => rfl) ?_
    exact yi_G_retb rfl rfl (by decide) (⟨_, rfl, by decide⟩)
  · refine yi_G_if1 false rfl (yi_lt_f h1) ?_
    refine yi_G_run 3 (8, [(0, .inr (.inr (some p))), (1, .inl x)], [.inl 64, .inl x, .inr (.inr (some p))], (I, L, R, Y), 0, 0) (fun _ => rfl) ?_
    refine yi_G_idiv rfl (by decide) (x / 64) (yi_dv (by omega) rfl (by omega) (by omega)) ?_
    refine yi_G_callv rfl rfl (cl_rcv tp rfl) rfl (k_cellAt d (by omega) hP.1 tp ) ?_
    rintro _ ⟨z2, rfl⟩
    show yi_G zi_Ms d zi_m202 (12, [(0, .inr (.inr (some p))), (1, .inl x)], [.inr (.inl z2)], (I, L, R, Y), 0, 0) _
    refine yi_G_run 2 (15, [(0, .inr (.inr (some p))), (1, .inl x)], [.inl 64, .inl x, .inr (.inl z2)], (I, L, R, Y), 0, 0) (fun _ => rfl) ?_
    refine yi_G_irem rfl (by decide) (x % 64) (yi_md (by omega) rfl) ?_
    refine yi_G_run 5 (21, [(0, .inr (.inr (some p))), (1, .inl x)], [.inl (yi_lcmp (yi_land (yi_lushr z2 (x % 64)) 1) 0)], (I, L, R, Y), 0, 0) (fun _ => rfl) ?_
    by_cases h3 : ((yi_land (yi_lushr z2 (x % 64)) 1)) = 0
    · refine yi_G_if1 true rfl (yi_Leq_t h3) ?_
      refine yi_G_run 1 (29, [(0, .inr (.inr (some p))), (1, .inl x)], [.inl 0], (I, L, R, Y), 0, 0) (fun _ => rfl) ?_
      exact yi_G_retb rfl rfl (by decide) (⟨_, rfl, by decide⟩)
    · refine yi_G_if1 false rfl (yi_Leq_f h3) ?_
      refine yi_G_run 2 (29, [(0, .inr (.inr (some p))), (1, .inl x)], [.inl 1], (I, L, R, Y), 0, 0) (fun _ => rfl) ?_
      exact yi_G_retb rfl rfl (by decide) (⟨_, rfl, by decide⟩)
theorem k_memberAt (D : Nat) (hD : 4 ≤ D) {E : List Nat} {I L : cl_I} {R : cl_Rr} {Y : cl_Y} (hC : cl_C E I L R Y) {p : Nat} (tp : cl_T E Y p 5) {x : Int} : yi_E zi_Ms D 206 [.inr (.inr (some p)), .inl x] (I, L, R, Y) (fun r => ∃ z, r = (some (.inl z), (I, L, R, Y), 0, 0) ∧ (z ≤ 2147483647)) := by
  obtain ⟨d, rfl⟩ : ∃ d, D = d + 1 := ⟨D - 1, by omega⟩
  refine yi_E_of (M := zi_m206) rfl rfl ?_
  have hP : cl_P E I L R Y I L R Y := cl_P_r hC
  show yi_G zi_Ms d zi_m206 (0, [(0, .inr (.inr (some p))), (1, .inl x)], [], (I, L, R, Y), 0, 0) _
  refine yi_G_run 4 (4, [(3, .inl 0), (2, .inl 0), (0, .inr (.inr (some p))), (1, .inl x)], [], (I, L, R, Y), 0, 0) (fun _ => rfl) ?_
  have pt4 : ∀ (m_ : Nat) (j : Int) (y : Int), (0 ≤ j ∧ j ≤ 513) → (513 - j).toNat = m_ → yi_G zi_Ms d zi_m206 (4, [(3, .inl j), (2, .inl y), (0, .inr (.inr (some p))), (1, .inl x)], [], (I, L, R, Y), 0, 0) (fun r => ∃ z, r = (some (.inl z), (I, L, R, Y), 0, 0) ∧ (z ≤ 2147483647)) := by
    intro m4
    induction m4 using Nat.strongRecOn with
    | _ m4 ih4 =>
    intro j y j0 hm4
    refine yi_G_run 2 (6, [(3, .inl j), (2, .inl y), (0, .inr (.inr (some p))), (1, .inl x)], [.inr (.inr (some p)), .inl j], (I, L, R, Y), 0, 0) (fun _ => rfl) ?_
    have b1 := cl_rd hP.1 tp (k := 1) (lo := 1) (hi := 513) rfl
    refine cl_G_gi rfl (cl_T_K tp) rfl rfl rfl ?_
    by_cases h2 : (I p 1) ≤ j
    · refine yi_G_if2 true rfl (yi_ge_t h2) ?_
      refine yi_G_run 1 (70, [(3, .inl j), (2, .inl y), (0, .inr (.inr (some p))), (1, .inl x)], [.inl (-1)], (I, L, R, Y), 0, 0) (fun _ => rfl) ?_
      exact yi_G_reti rfl rfl (⟨_, rfl, by first | omega | (unfold yi_w; omega)⟩)
    · refine yi_G_if2 false rfl (yi_ge_f h2) ?_
      refine yi_G_run 2 (14, [(3, .inl j), (2, .inl y), (0, .inr (.inr (some p))), (1, .inl x)], [.inr (.inr (some p)), .inl j], (I, L, R, Y), 0, 0) (fun _ => rfl) ?_
      obtain ⟨q3, e4, t5⟩ := cl_rf hP.1 tp (k := 0) rfl
      have n6 := cl_nb hP.1 t5
      refine cl_G_gr rfl (cl_T_K tp) rfl rfl rfl e4 ?_
      refine cl_G_len rfl t5 (by omega) ?_
      by_cases h7 : ((Y.2.1 q3 : Int)) ≤ j
      · refine yi_G_if2 true rfl (yi_ge_t h7) ?_
        refine yi_G_run 1 (70, [(3, .inl j), (2, .inl y), (0, .inr (.inr (some p))), (1, .inl x)], [.inl (-1)], (I, L, R, Y), 0, 0) (fun _ => rfl) ?_
        exact yi_G_reti rfl rfl (⟨_, rfl, by first | omega | (unfold yi_w; omega)⟩)
      · refine yi_G_if2 false rfl (yi_ge_f h7) ?_
        refine yi_G_run 1 (22, [(3, .inl j), (2, .inl y), (0, .inr (.inr (some p))), (1, .inl x)], [.inr (.inr (some p))], (I, L, R, Y), 0, 0) (fun _ => rfl) ?_
        refine cl_G_gr rfl (cl_T_K tp) rfl rfl rfl e4 ?_
        refine yi_G_run 1 (26, [(3, .inl j), (2, .inl y), (0, .inr (.inr (some p))), (1, .inl x)], [.inl j, .inr (.inr (some q3))], (I, L, R, Y), 0, 0) (fun _ => rfl) ?_
        refine cl_G_lald rfl t5 (by omega) (by omega) ?_
        refine yi_G_calls rfl rfl (k_bitCountL d (by omega) hP.1  ) ?_
        rintro _ ⟨z8, rfl⟩
        show yi_G zi_Ms d zi_m206 (30, [(3, .inl j), (2, .inl y), (0, .inr (.inr (some p))), (1, .inl x)], [.inl z8], (I, L, R, Y), 0, 0) _
        refine yi_G_run 5 (37, [(4, .inl z8), (3, .inl j), (2, .inl y), (0, .inr (.inr (some p))), (1, .inl x)], [.inl (yi_w (y + z8)), .inl x], (I, L, R, Y), 0, 0) (fun _ => rfl) ?_
        by_cases h9 : (yi_w (y + z8)) ≤ x
        · refine yi_G_if2 true rfl (yi_ge_t h9) ?_
          refine yi_G_run 4 (63, [(2, .inl (yi_w (y + z8))), (4, .inl z8), (3, .inl j), (0, .inr (.inr (some p))), (1, .inl x)], [], (I, L, R, Y), 0, 0) (fun _ => rfl) ?_
          refine yi_G_iinc [(3, .inl (j + 1)), (2, .inl (yi_w (y + z8))), (4, .inl z8), (0, .inr (.inr (some p))), (1, .inl x)] rfl rfl rfl (by rw [show yi_w (j + 1) = j + 1 from (yi_wn (by omega) (by omega)).trans (by omega)]; rfl) ?_
          refine yi_G_run 1 (4, [(3, .inl (j + 1)), (2, .inl (yi_w (y + z8))), (4, .inl z8), (0, .inr (.inr (some p))), (1, .inl x)], [], (I, L, R, Y), 0, 0) (fun _ => rfl) ?_
          refine yi_G_al (al := [(3, .inl (j + 1)), (2, .inl (yi_w (y + z8))), (0, .inr (.inr (some p))), (1, .inl x)]) (show ([3, 2, 0, 1] : List Nat).Nodup by decide) (show ([3, 2, 4, 0, 1] : List Nat).Nodup by decide) (yi_mc (List.mem_of_getElem? (i := 0) rfl) (yi_mc (List.mem_of_getElem? (i := 1) rfl) (yi_mc (List.mem_of_getElem? (i := 3) rfl) (yi_mc (List.mem_of_getElem? (i := 4) rfl) yi_mn)))) ?_
          exact ih4 _ (by omega) (j + 1) (yi_w (y + z8)) (by omega) rfl
        · refine yi_G_if2 false rfl (yi_ge_f h9) ?_
          refine yi_G_run 4 (45, [(4, .inl z8), (3, .inl j), (2, .inl y), (0, .inr (.inr (some p))), (1, .inl x)], [.inr (.inr (some p)), .inl (yi_w (j * 64))], (I, L, R, Y), 0, 0) (fun _ => rfl) ?_
          refine cl_G_gr rfl (cl_T_K tp) rfl rfl rfl e4 ?_
          refine yi_G_run 1 (49, [(4, .inl z8), (3, .inl j), (2, .inl y), (0, .inr (.inr (some p))), (1, .inl x)], [.inl j, .inr (.inr (some q3)), .inl (yi_w (j * 64))], (I, L, R, Y), 0, 0) (fun _ => rfl) ?_
          refine cl_G_lald rfl t5 (by omega) (by omega) ?_
          refine yi_G_run 3 (53, [(4, .inl z8), (3, .inl j), (2, .inl y), (0, .inr (.inr (some p))), (1, .inl x)], [.inl (yi_w (x - y)), .inr (.inl (L q3 (j.toNat))), .inl (yi_w (j * 64))], (I, L, R, Y), 0, 0) (fun _ => rfl) ?_
          refine yi_G_calls rfl rfl (k_bitAt d (by omega) hP.1  ) ?_
          rintro _ ⟨z10, rfl⟩
          show yi_G zi_Ms d zi_m206 (56, [(4, .inl z8), (3, .inl j), (2, .inl y), (0, .inr (.inr (some p))), (1, .inl x)], [.inl z10, .inl (yi_w (j * 64))], (I, L, R, Y), 0, 0) _
          refine yi_G_run 1 (57, [(4, .inl z8), (3, .inl j), (2, .inl y), (0, .inr (.inr (some p))), (1, .inl x)], [.inl (yi_w ((yi_w (j * 64)) + z10))], (I, L, R, Y), 0, 0) (fun _ => rfl) ?_
          exact yi_G_reti rfl rfl (⟨_, rfl, by first | omega | (unfold yi_w; omega)⟩)
  exact pt4 _ 0 0 (by omega) rfl
theorem k_fillL (D : Nat) (hD : 1 ≤ D) {E : List Nat} {I L : cl_I} {R : cl_Rr} {Y : cl_Y} (hC : cl_C E I L R Y) {p : Nat} (tp : cl_T E Y p 21) {v : Int} : yi_E zi_Ms D 332 [.inr (.inr (some p)), .inr (.inl v)] (I, L, R, Y) (fun r => ∃ L', r = (none, (I, L', R, Y), 0, 0) ∧ cl_P E I L R Y I L' R Y) := by
  obtain ⟨d, rfl⟩ : ∃ d, D = d + 1 := ⟨D - 1, by omega⟩
  refine yi_E_of (M := zi_m332) rfl rfl ?_
  have hP : cl_P E I L R Y I L R Y := cl_P_r hC
  have np := cl_nb hP.1 tp
  show yi_G zi_Ms d zi_m332 (0, [(0, .inr (.inr (some p))), (1, .inr (.inl v))], [], (I, L, R, Y), 0, 0) _
  refine yi_G_run 3 (3, [(3, .inl 0), (0, .inr (.inr (some p))), (1, .inr (.inl v))], [.inr (.inr (some p))], (I, L, R, Y), 0, 0) (fun _ => rfl) ?_
  refine cl_G_len rfl tp (by omega) ?_
  refine yi_G_run 1 (6, [(4, .inl ((Y.2.1 p : Int))), (3, .inl 0), (0, .inr (.inr (some p))), (1, .inr (.inl v))], [], (I, L, R, Y), 0, 0) (fun _ => rfl) ?_
  have pt6 : ∀ (m_ : Nat) (j : Int) (Lp6 : cl_I), (cl_P E I L R Y I Lp6 R Y) → (0 ≤ j ∧ j ≤ (Y.2.1 p : Int)) → ((Y.2.1 p : Int) - j).toNat = m_ → yi_G zi_Ms d zi_m332 (6, [(4, .inl ((Y.2.1 p : Int))), (3, .inl j), (0, .inr (.inr (some p))), (1, .inr (.inl v))], [], (I, Lp6, R, Y), 0, 0) (fun r => ∃ L', r = (none, (I, L', R, Y), 0, 0) ∧ cl_P E I L R Y I L' R Y) := by
    intro m6
    induction m6 using Nat.strongRecOn with
    | _ m6 ih6 =>
    intro j Lp6 hPp6 j0 hm6
    refine yi_G_run 2 (9, [(4, .inl ((Y.2.1 p : Int))), (3, .inl j), (0, .inr (.inr (some p))), (1, .inr (.inl v))], [.inl ((Y.2.1 p : Int)), .inl j], (I, Lp6, R, Y), 0, 0) (fun _ => rfl) ?_
    by_cases h1 : ((Y.2.1 p : Int)) ≤ j
    · refine yi_G_if2 true rfl (yi_ge_t h1) ?_
      exact yi_G_retv rfl rfl (⟨_, rfl, hPp6⟩)
    · refine yi_G_if2 false rfl (yi_ge_f h1) ?_
      refine yi_G_run 3 (15, [(4, .inl ((Y.2.1 p : Int))), (3, .inl j), (0, .inr (.inr (some p))), (1, .inr (.inl v))], [.inr (.inl v), .inl j, .inr (.inr (some p))], (I, Lp6, R, Y), 0, 0) (fun _ => rfl) ?_
      refine cl_G_last rfl tp (by omega) (by omega) ?_
      have hP2 := cl_P_uL (k := (j.toNat)) (v := v) hPp6 tp (by omega)
      generalize w3 : yi_u Lp6 p (j.toNat) v = L4 at hP2 ⊢
      refine yi_G_iinc [(3, .inl (j + 1)), (4, .inl ((Y.2.1 p : Int))), (0, .inr (.inr (some p))), (1, .inr (.inl v))] rfl rfl rfl (by rw [show yi_w (j + 1) = j + 1 from (yi_wn (by omega) (by omega)).trans (by omega)]; rfl) ?_
      refine yi_G_run 1 (6, [(3, .inl (j + 1)), (4, .inl ((Y.2.1 p : Int))), (0, .inr (.inr (some p))), (1, .inr (.inl v))], [], (I, L4, R, Y), 0, 0) (fun _ => rfl) ?_
      refine yi_G_al (al := [(4, .inl ((Y.2.1 p : Int))), (3, .inl (j + 1)), (0, .inr (.inr (some p))), (1, .inr (.inl v))]) (show ([4, 3, 0, 1] : List Nat).Nodup by decide) (show ([3, 4, 0, 1] : List Nat).Nodup by decide) (yi_mc (List.mem_of_getElem? (i := 1) rfl) (yi_mc (List.mem_of_getElem? (i := 0) rfl) (yi_mc (List.mem_of_getElem? (i := 2) rfl) (yi_mc (List.mem_of_getElem? (i := 3) rfl) yi_mn)))) ?_
      exact ih6 _ (by omega) (j + 1) L4 hP2 (by omega) rfl
  exact pt6 _ 0 L hP (by omega) rfl
theorem k_clear (D : Nat) (hD : 2 ≤ D) {E : List Nat} {I L : cl_I} {R : cl_Rr} {Y : cl_Y} (hC : cl_C E I L R Y) {p : Nat} (tp : cl_T E Y p 5) : yi_E zi_Ms D 199 [.inr (.inr (some p))] (I, L, R, Y) (fun r => ∃ L', r = (none, (I, L', R, Y), 0, 0) ∧ cl_P E I L R Y I L' R Y) := by
  obtain ⟨d, rfl⟩ : ∃ d, D = d + 1 := ⟨D - 1, by omega⟩
  refine yi_E_of (M := zi_m199) rfl rfl ?_
  have hP : cl_P E I L R Y I L R Y := cl_P_r hC
  show yi_G zi_Ms d zi_m199 (0, [(0, .inr (.inr (some p)))], [], (I, L, R, Y), 0, 0) _
  refine yi_G_run 1 (1, [(0, .inr (.inr (some p)))], [.inr (.inr (some p))], (I, L, R, Y), 0, 0) (fun _ => rfl) ?_
  obtain ⟨q1, e2, t3⟩ := cl_rf hP.1 tp (k := 0) rfl
  have n4 := cl_nb hP.1 t3
  refine cl_G_gr rfl (cl_T_K tp) rfl rfl rfl e2 ?_
  refine yi_G_run 1 (5, [(0, .inr (.inr (some p)))], [.inr (.inl 0), .inr (.inr (some q1))], (I, L, R, Y), 0, 0) (fun _ => rfl) ?_
  refine yi_G_calls rfl rfl (k_fillL d (by omega) hP.1 t3 ) ?_
  rintro _ ⟨L5, rfl, hQ5⟩
  have hP5 := cl_P_t hP hQ5
  show yi_G zi_Ms d zi_m199 (8, [(0, .inr (.inr (some p)))], [], (I, L5, R, Y), 0, 0) _
  exact yi_G_retv rfl rfl (⟨_, rfl, hP5⟩)
theorem k_addRange (D : Nat) (hD : 1 ≤ D) {E : List Nat} {I L : cl_I} {R : cl_Rr} {Y : cl_Y} (hC : cl_C E I L R Y) {p : Nat} (tp : cl_T E Y p 5) {a : Int} {b : Int} (hb : b ≤ 2147483647) : yi_E zi_Ms D 196 [.inr (.inr (some p)), .inl a, .inl b] (I, L, R, Y) (fun r => ∃ L', r = (none, (I, L', R, Y), 0, 0) ∧ cl_P E I L R Y I L' R Y) := by
  obtain ⟨d, rfl⟩ : ∃ d, D = d + 1 := ⟨D - 1, by omega⟩
  refine yi_E_of (M := zi_m196) rfl rfl ?_
  have hP : cl_P E I L R Y I L R Y := cl_P_r hC
  show yi_G zi_Ms d zi_m196 (0, [(0, .inr (.inr (some p))), (1, .inl a), (2, .inl b)], [], (I, L, R, Y), 0, 0) _
  refine yi_G_run 1 (1, [(0, .inr (.inr (some p))), (1, .inl a), (2, .inl b)], [.inl a], (I, L, R, Y), 0, 0) (fun _ => rfl) ?_
  by_cases h1 : a < 0
  · refine yi_G_if1 true rfl (yi_lt_t h1) ?_
    exact yi_G_retv rfl rfl (⟨_, rfl, hP⟩)
  · refine yi_G_if1 false rfl (yi_lt_f h1) ?_
    refine yi_G_run 2 (6, [(0, .inr (.inr (some p))), (1, .inl a), (2, .inl b)], [.inl b, .inl a], (I, L, R, Y), 0, 0) (fun _ => rfl) ?_
    by_cases h2 : b ≤ a
    · refine yi_G_if2 true rfl (yi_ge_t h2) ?_
      exact yi_G_retv rfl rfl (⟨_, rfl, hP⟩)
    · refine yi_G_if2 false rfl (yi_ge_f h2) ?_
      refine yi_G_run 2 (11, [(0, .inr (.inr (some p))), (1, .inl a), (2, .inl b)], [.inr (.inr (some p)), .inl b], (I, L, R, Y), 0, 0) (fun _ => rfl) ?_
      have b3 := cl_rd hP.1 tp (k := 1) (lo := 1) (hi := 513) rfl
      refine cl_G_gi rfl (cl_T_K tp) rfl rfl rfl ?_
      refine yi_G_run 2 (17, [(0, .inr (.inr (some p))), (1, .inl a), (2, .inl b)], [.inl (yi_w ((I p 1) * 64)), .inl b], (I, L, R, Y), 0, 0) (fun _ => rfl) ?_
      by_cases h4 : b ≤ (yi_w ((I p 1) * 64))
      · refine yi_G_if2 true rfl (yi_le_t h4) ?_
        refine yi_G_run 2 (24, [(0, .inr (.inr (some p))), (1, .inl a), (2, .inl b)], [.inl 64, .inl a], (I, L, R, Y), 0, 0) (fun _ => rfl) ?_
        refine yi_G_idiv rfl (by decide) (a / 64) (yi_dv (by omega) rfl (by omega) (by omega)) ?_
        refine yi_G_run 3 (28, [(3, .inl (a / 64)), (0, .inr (.inr (some p))), (1, .inl a), (2, .inl b)], [.inl 1, .inl b], (I, L, R, Y), 0, 0) (fun _ => rfl) ?_
        refine yi_G_isub rfl (b - 1) (yi_wn (by omega) (by omega)) ?_
        refine yi_G_run 1 (31, [(3, .inl (a / 64)), (0, .inr (.inr (some p))), (1, .inl a), (2, .inl b)], [.inl 64, .inl (b - 1)], (I, L, R, Y), 0, 0) (fun _ => rfl) ?_
        refine yi_G_idiv rfl (by decide) ((b - 1) / 64) (yi_dv (by omega) rfl (by omega) (by omega)) ?_
        refine yi_G_run 3 (37, [(5, .inl (a / 64)), (4, .inl ((b - 1) / 64)), (3, .inl (a / 64)), (0, .inr (.inr (some p))), (1, .inl a), (2, .inl b)], [], (I, L, R, Y), 0, 0) (fun _ => rfl) ?_
        have pt37 : ∀ (m_ : Nat) (j : Int) (Lp37 : cl_I), (cl_P E I L R Y I Lp37 R Y) → (0 ≤ j ∧ j ≤ 33554433) → (33554433 - j).toNat = m_ → yi_G zi_Ms d zi_m196 (37, [(5, .inl j), (4, .inl ((b - 1) / 64)), (3, .inl (a / 64)), (0, .inr (.inr (some p))), (1, .inl a), (2, .inl b)], [], (I, Lp37, R, Y), 0, 0) (fun r => ∃ L', r = (none, (I, L', R, Y), 0, 0) ∧ cl_P E I L R Y I L' R Y) := by
          intro m37
          induction m37 using Nat.strongRecOn with
          | _ m37 ih37 =>
          intro j Lp37 hPp37 j0 hm37
          refine yi_G_run 2 (41, [(5, .inl j), (4, .inl ((b - 1) / 64)), (3, .inl (a / 64)), (0, .inr (.inr (some p))), (1, .inl a), (2, .inl b)], [.inl ((b - 1) / 64), .inl j], (I, Lp37, R, Y), 0, 0) (fun _ => rfl) ?_
          by_cases h5 : ((b - 1) / 64) < j
          · refine yi_G_if2 true rfl (yi_gt_t h5) ?_
            exact yi_G_retv rfl rfl (⟨_, rfl, hPp37⟩)
          · refine yi_G_if2 false rfl (yi_gt_f h5) ?_
            refine yi_G_run 2 (47, [(5, .inl j), (4, .inl ((b - 1) / 64)), (3, .inl (a / 64)), (0, .inr (.inr (some p))), (1, .inl a), (2, .inl b)], [.inr (.inr (some p)), .inl j], (I, Lp37, R, Y), 0, 0) (fun _ => rfl) ?_
            obtain ⟨q6, e7, t8⟩ := cl_rf hPp37.1 tp (k := 0) rfl
            have n9 := cl_nb hPp37.1 t8
            refine cl_G_gr rfl (cl_T_K tp) rfl rfl rfl e7 ?_
            refine cl_G_len rfl t8 (by omega) ?_
            by_cases h10 : ((Y.2.1 q6 : Int)) ≤ j
            · refine yi_G_if2 true rfl (yi_ge_t h10) ?_
              exact yi_G_retv rfl rfl (⟨_, rfl, hPp37⟩)
            · refine yi_G_if2 false rfl (yi_ge_f h10) ?_
              refine yi_G_ldc2 ((-1)) rfl (by decide +kernel) ?_
              refine yi_G_run 3 (62, [(6, .inr (.inl (-1))), (5, .inl j), (4, .inl ((b - 1) / 64)), (3, .inl (a / 64)), (0, .inr (.inr (some p))), (1, .inl a), (2, .inl b)], [.inl (a / 64), .inl j], (I, Lp37, R, Y), 0, 0) (fun _ => rfl) ?_
              by_cases h11 : j = (a / 64)
              · refine yi_G_if2 false rfl (yi_ne_f h11) ?_
                refine yi_G_run 1 (67, [(6, .inr (.inl (-1))), (5, .inl j), (4, .inl ((b - 1) / 64)), (3, .inl (a / 64)), (0, .inr (.inr (some p))), (1, .inl a), (2, .inl b)], [.inr (.inl (-1))], (I, Lp37, R, Y), 0, 0) (fun _ => rfl) ?_
                refine yi_G_ldc2 ((-1)) rfl (by decide +kernel) ?_
                refine yi_G_run 2 (73, [(6, .inr (.inl (-1))), (5, .inl j), (4, .inl ((b - 1) / 64)), (3, .inl (a / 64)), (0, .inr (.inr (some p))), (1, .inl a), (2, .inl b)], [.inl 64, .inl a, .inr (.inl (-1)), .inr (.inl (-1))], (I, Lp37, R, Y), 0, 0) (fun _ => rfl) ?_
                refine yi_G_irem rfl (by decide) (a % 64) (yi_md (by omega) rfl) ?_
                refine yi_G_run 3 (78, [(6, .inr (.inl (yi_land (-1) (yi_lshl (-1) (a % 64))))), (5, .inl j), (4, .inl ((b - 1) / 64)), (3, .inl (a / 64)), (0, .inr (.inr (some p))), (1, .inl a), (2, .inl b)], [], (I, Lp37, R, Y), 0, 0) (fun _ => rfl) ?_
                have pt78 : ∀ (y : Int), yi_G zi_Ms d zi_m196 (78, [(6, .inr (.inl y)), (5, .inl j), (4, .inl ((b - 1) / 64)), (3, .inl (a / 64)), (0, .inr (.inr (some p))), (1, .inl a), (2, .inl b)], [], (I, Lp37, R, Y), 0, 0) (fun r => ∃ L', r = (none, (I, L', R, Y), 0, 0) ∧ cl_P E I L R Y I L' R Y) := by
                  intro y
                  refine yi_G_run 2 (82, [(6, .inr (.inl y)), (5, .inl j), (4, .inl ((b - 1) / 64)), (3, .inl (a / 64)), (0, .inr (.inr (some p))), (1, .inl a), (2, .inl b)], [.inl ((b - 1) / 64), .inl j], (I, Lp37, R, Y), 0, 0) (fun _ => rfl) ?_
                  by_cases h12 : j = ((b - 1) / 64)
                  · refine yi_G_if2 false rfl (yi_ne_f h12) ?_
                    refine yi_G_run 1 (87, [(6, .inr (.inl y)), (5, .inl j), (4, .inl ((b - 1) / 64)), (3, .inl (a / 64)), (0, .inr (.inr (some p))), (1, .inl a), (2, .inl b)], [.inr (.inl y)], (I, Lp37, R, Y), 0, 0) (fun _ => rfl) ?_
                    refine yi_G_ldc2 ((-1)) rfl (by decide +kernel) ?_
                    refine yi_G_run 3 (94, [(6, .inr (.inl y)), (5, .inl j), (4, .inl ((b - 1) / 64)), (3, .inl (a / 64)), (0, .inr (.inr (some p))), (1, .inl a), (2, .inl b)], [.inl 1, .inl b, .inl 63, .inr (.inl (-1)), .inr (.inl y)], (I, Lp37, R, Y), 0, 0) (fun _ => rfl) ?_
                    refine yi_G_isub rfl (b - 1) (yi_wn (by omega) (by omega)) ?_
                    refine yi_G_run 1 (97, [(6, .inr (.inl y)), (5, .inl j), (4, .inl ((b - 1) / 64)), (3, .inl (a / 64)), (0, .inr (.inr (some p))), (1, .inl a), (2, .inl b)], [.inl 64, .inl (b - 1), .inl 63, .inr (.inl (-1)), .inr (.inl y)], (I, Lp37, R, Y), 0, 0) (fun _ => rfl) ?_
                    refine yi_G_irem rfl (by decide) ((b - 1) % 64) (yi_md (by omega) rfl) ?_
                    refine yi_G_run 4 (103, [(6, .inr (.inl (yi_land y (yi_lushr (-1) (yi_w (63 - ((b - 1) % 64))))))), (5, .inl j), (4, .inl ((b - 1) / 64)), (3, .inl (a / 64)), (0, .inr (.inr (some p))), (1, .inl a), (2, .inl b)], [], (I, Lp37, R, Y), 0, 0) (fun _ => rfl) ?_
                    have pt103 : ∀ (y2 : Int), yi_G zi_Ms d zi_m196 (103, [(6, .inr (.inl y2)), (5, .inl j), (4, .inl ((b - 1) / 64)), (3, .inl (a / 64)), (0, .inr (.inr (some p))), (1, .inl a), (2, .inl b)], [], (I, Lp37, R, Y), 0, 0) (fun r => ∃ L', r = (none, (I, L', R, Y), 0, 0) ∧ cl_P E I L R Y I L' R Y) := by
                      intro y2
                      refine yi_G_run 1 (104, [(6, .inr (.inl y2)), (5, .inl j), (4, .inl ((b - 1) / 64)), (3, .inl (a / 64)), (0, .inr (.inr (some p))), (1, .inl a), (2, .inl b)], [.inr (.inr (some p))], (I, Lp37, R, Y), 0, 0) (fun _ => rfl) ?_
                      refine cl_G_gr rfl (cl_T_K tp) rfl rfl rfl e7 ?_
                      refine yi_G_run 2 (110, [(6, .inr (.inl y2)), (5, .inl j), (4, .inl ((b - 1) / 64)), (3, .inl (a / 64)), (0, .inr (.inr (some p))), (1, .inl a), (2, .inl b)], [.inl j, .inr (.inr (some q6)), .inl j, .inr (.inr (some q6))], (I, Lp37, R, Y), 0, 0) (fun _ => rfl) ?_
                      refine cl_G_lald rfl t8 (by omega) (by omega) ?_
                      refine yi_G_run 2 (114, [(6, .inr (.inl y2)), (5, .inl j), (4, .inl ((b - 1) / 64)), (3, .inl (a / 64)), (0, .inr (.inr (some p))), (1, .inl a), (2, .inl b)], [.inr (.inl (yi_lor (Lp37 q6 (j.toNat)) y2)), .inl j, .inr (.inr (some q6))], (I, Lp37, R, Y), 0, 0) (fun _ => rfl) ?_
                      refine cl_G_last rfl t8 (by omega) (by omega) ?_
                      have hP13 := cl_P_uL (k := (j.toNat)) (v := yi_lor (Lp37 q6 (j.toNat)) y2) hPp37 t8 (by omega)
                      generalize w14 : yi_u Lp37 q6 (j.toNat) (yi_lor (Lp37 q6 (j.toNat)) y2) = L15 at hP13 ⊢
                      refine yi_G_iinc [(5, .inl (j + 1)), (6, .inr (.inl y2)), (4, .inl ((b - 1) / 64)), (3, .inl (a / 64)), (0, .inr (.inr (some p))), (1, .inl a), (2, .inl b)] rfl rfl rfl (by rw [show yi_w (j + 1) = j + 1 from (yi_wn (by omega) (by omega)).trans (by omega)]; rfl) ?_
                      refine yi_G_run 1 (37, [(5, .inl (j + 1)), (6, .inr (.inl y2)), (4, .inl ((b - 1) / 64)), (3, .inl (a / 64)), (0, .inr (.inr (some p))), (1, .inl a), (2, .inl b)], [], (I, L15, R, Y), 0, 0) (fun _ => rfl) ?_
                      refine yi_G_al (al := [(5, .inl (j + 1)), (4, .inl ((b - 1) / 64)), (3, .inl (a / 64)), (0, .inr (.inr (some p))), (1, .inl a), (2, .inl b)]) (show ([5, 4, 3, 0, 1, 2] : List Nat).Nodup by decide) (show ([5, 6, 4, 3, 0, 1, 2] : List Nat).Nodup by decide) (yi_mc (List.mem_of_getElem? (i := 0) rfl) (yi_mc (List.mem_of_getElem? (i := 2) rfl) (yi_mc (List.mem_of_getElem? (i := 3) rfl) (yi_mc (List.mem_of_getElem? (i := 4) rfl) (yi_mc (List.mem_of_getElem? (i := 5) rfl) (yi_mc (List.mem_of_getElem? (i := 6) rfl) yi_mn)))))) ?_
                      exact ih37 _ (by omega) (j + 1) L15 hP13 (by omega) rfl
                    exact pt103 (yi_land y (yi_lushr (-1) (yi_w (63 - ((b - 1) % 64))))) 
                  · refine yi_G_if2 true rfl (yi_ne_t h12) ?_
                    have pt103 : ∀ (y2 : Int), yi_G zi_Ms d zi_m196 (103, [(6, .inr (.inl y2)), (5, .inl j), (4, .inl ((b - 1) / 64)), (3, .inl (a / 64)), (0, .inr (.inr (some p))), (1, .inl a), (2, .inl b)], [], (I, Lp37, R, Y), 0, 0) (fun r => ∃ L', r = (none, (I, L', R, Y), 0, 0) ∧ cl_P E I L R Y I L' R Y) := by
                      intro y2
                      refine yi_G_run 1 (104, [(6, .inr (.inl y2)), (5, .inl j), (4, .inl ((b - 1) / 64)), (3, .inl (a / 64)), (0, .inr (.inr (some p))), (1, .inl a), (2, .inl b)], [.inr (.inr (some p))], (I, Lp37, R, Y), 0, 0) (fun _ => rfl) ?_
                      refine cl_G_gr rfl (cl_T_K tp) rfl rfl rfl e7 ?_
                      refine yi_G_run 2 (110, [(6, .inr (.inl y2)), (5, .inl j), (4, .inl ((b - 1) / 64)), (3, .inl (a / 64)), (0, .inr (.inr (some p))), (1, .inl a), (2, .inl b)], [.inl j, .inr (.inr (some q6)), .inl j, .inr (.inr (some q6))], (I, Lp37, R, Y), 0, 0) (fun _ => rfl) ?_
                      refine cl_G_lald rfl t8 (by omega) (by omega) ?_
                      refine yi_G_run 2 (114, [(6, .inr (.inl y2)), (5, .inl j), (4, .inl ((b - 1) / 64)), (3, .inl (a / 64)), (0, .inr (.inr (some p))), (1, .inl a), (2, .inl b)], [.inr (.inl (yi_lor (Lp37 q6 (j.toNat)) y2)), .inl j, .inr (.inr (some q6))], (I, Lp37, R, Y), 0, 0) (fun _ => rfl) ?_
                      refine cl_G_last rfl t8 (by omega) (by omega) ?_
                      have hP16 := cl_P_uL (k := (j.toNat)) (v := yi_lor (Lp37 q6 (j.toNat)) y2) hPp37 t8 (by omega)
                      generalize w17 : yi_u Lp37 q6 (j.toNat) (yi_lor (Lp37 q6 (j.toNat)) y2) = L18 at hP16 ⊢
                      refine yi_G_iinc [(5, .inl (j + 1)), (6, .inr (.inl y2)), (4, .inl ((b - 1) / 64)), (3, .inl (a / 64)), (0, .inr (.inr (some p))), (1, .inl a), (2, .inl b)] rfl rfl rfl (by rw [show yi_w (j + 1) = j + 1 from (yi_wn (by omega) (by omega)).trans (by omega)]; rfl) ?_
                      refine yi_G_run 1 (37, [(5, .inl (j + 1)), (6, .inr (.inl y2)), (4, .inl ((b - 1) / 64)), (3, .inl (a / 64)), (0, .inr (.inr (some p))), (1, .inl a), (2, .inl b)], [], (I, L18, R, Y), 0, 0) (fun _ => rfl) ?_
                      refine yi_G_al (al := [(5, .inl (j + 1)), (4, .inl ((b - 1) / 64)), (3, .inl (a / 64)), (0, .inr (.inr (some p))), (1, .inl a), (2, .inl b)]) (show ([5, 4, 3, 0, 1, 2] : List Nat).Nodup by decide) (show ([5, 6, 4, 3, 0, 1, 2] : List Nat).Nodup by decide) (yi_mc (List.mem_of_getElem? (i := 0) rfl) (yi_mc (List.mem_of_getElem? (i := 2) rfl) (yi_mc (List.mem_of_getElem? (i := 3) rfl) (yi_mc (List.mem_of_getElem? (i := 4) rfl) (yi_mc (List.mem_of_getElem? (i := 5) rfl) (yi_mc (List.mem_of_getElem? (i := 6) rfl) yi_mn)))))) ?_
                      exact ih37 _ (by omega) (j + 1) L18 hP16 (by omega) rfl
                    exact pt103 y 
                exact pt78 (yi_land (-1) (yi_lshl (-1) (a % 64))) 
              · refine yi_G_if2 true rfl (yi_ne_t h11) ?_
                have pt78 : ∀ (y : Int), yi_G zi_Ms d zi_m196 (78, [(6, .inr (.inl y)), (5, .inl j), (4, .inl ((b - 1) / 64)), (3, .inl (a / 64)), (0, .inr (.inr (some p))), (1, .inl a), (2, .inl b)], [], (I, Lp37, R, Y), 0, 0) (fun r => ∃ L', r = (none, (I, L', R, Y), 0, 0) ∧ cl_P E I L R Y I L' R Y) := by
                  intro y
                  refine yi_G_run 2 (82, [(6, .inr (.inl y)), (5, .inl j), (4, .inl ((b - 1) / 64)), (3, .inl (a / 64)), (0, .inr (.inr (some p))), (1, .inl a), (2, .inl b)], [.inl ((b - 1) / 64), .inl j], (I, Lp37, R, Y), 0, 0) (fun _ => rfl) ?_
                  by_cases h19 : j = ((b - 1) / 64)
                  · refine yi_G_if2 false rfl (yi_ne_f h19) ?_
                    refine yi_G_run 1 (87, [(6, .inr (.inl y)), (5, .inl j), (4, .inl ((b - 1) / 64)), (3, .inl (a / 64)), (0, .inr (.inr (some p))), (1, .inl a), (2, .inl b)], [.inr (.inl y)], (I, Lp37, R, Y), 0, 0) (fun _ => rfl) ?_
                    refine yi_G_ldc2 ((-1)) rfl (by decide +kernel) ?_
                    refine yi_G_run 3 (94, [(6, .inr (.inl y)), (5, .inl j), (4, .inl ((b - 1) / 64)), (3, .inl (a / 64)), (0, .inr (.inr (some p))), (1, .inl a), (2, .inl b)], [.inl 1, .inl b, .inl 63, .inr (.inl (-1)), .inr (.inl y)], (I, Lp37, R, Y), 0, 0) (fun _ => rfl) ?_
                    refine yi_G_isub rfl (b - 1) (yi_wn (by omega) (by omega)) ?_
                    refine yi_G_run 1 (97, [(6, .inr (.inl y)), (5, .inl j), (4, .inl ((b - 1) / 64)), (3, .inl (a / 64)), (0, .inr (.inr (some p))), (1, .inl a), (2, .inl b)], [.inl 64, .inl (b - 1), .inl 63, .inr (.inl (-1)), .inr (.inl y)], (I, Lp37, R, Y), 0, 0) (fun _ => rfl) ?_
                    refine yi_G_irem rfl (by decide) ((b - 1) % 64) (yi_md (by omega) rfl) ?_
                    refine yi_G_run 4 (103, [(6, .inr (.inl (yi_land y (yi_lushr (-1) (yi_w (63 - ((b - 1) % 64))))))), (5, .inl j), (4, .inl ((b - 1) / 64)), (3, .inl (a / 64)), (0, .inr (.inr (some p))), (1, .inl a), (2, .inl b)], [], (I, Lp37, R, Y), 0, 0) (fun _ => rfl) ?_
                    have pt103 : ∀ (y2 : Int), yi_G zi_Ms d zi_m196 (103, [(6, .inr (.inl y2)), (5, .inl j), (4, .inl ((b - 1) / 64)), (3, .inl (a / 64)), (0, .inr (.inr (some p))), (1, .inl a), (2, .inl b)], [], (I, Lp37, R, Y), 0, 0) (fun r => ∃ L', r = (none, (I, L', R, Y), 0, 0) ∧ cl_P E I L R Y I L' R Y) := by
                      intro y2
                      refine yi_G_run 1 (104, [(6, .inr (.inl y2)), (5, .inl j), (4, .inl ((b - 1) / 64)), (3, .inl (a / 64)), (0, .inr (.inr (some p))), (1, .inl a), (2, .inl b)], [.inr (.inr (some p))], (I, Lp37, R, Y), 0, 0) (fun _ => rfl) ?_
                      refine cl_G_gr rfl (cl_T_K tp) rfl rfl rfl e7 ?_
                      refine yi_G_run 2 (110, [(6, .inr (.inl y2)), (5, .inl j), (4, .inl ((b - 1) / 64)), (3, .inl (a / 64)), (0, .inr (.inr (some p))), (1, .inl a), (2, .inl b)], [.inl j, .inr (.inr (some q6)), .inl j, .inr (.inr (some q6))], (I, Lp37, R, Y), 0, 0) (fun _ => rfl) ?_
                      refine cl_G_lald rfl t8 (by omega) (by omega) ?_
                      refine yi_G_run 2 (114, [(6, .inr (.inl y2)), (5, .inl j), (4, .inl ((b - 1) / 64)), (3, .inl (a / 64)), (0, .inr (.inr (some p))), (1, .inl a), (2, .inl b)], [.inr (.inl (yi_lor (Lp37 q6 (j.toNat)) y2)), .inl j, .inr (.inr (some q6))], (I, Lp37, R, Y), 0, 0) (fun _ => rfl) ?_
                      refine cl_G_last rfl t8 (by omega) (by omega) ?_
                      have hP20 := cl_P_uL (k := (j.toNat)) (v := yi_lor (Lp37 q6 (j.toNat)) y2) hPp37 t8 (by omega)
                      generalize w21 : yi_u Lp37 q6 (j.toNat) (yi_lor (Lp37 q6 (j.toNat)) y2) = L22 at hP20 ⊢
                      refine yi_G_iinc [(5, .inl (j + 1)), (6, .inr (.inl y2)), (4, .inl ((b - 1) / 64)), (3, .inl (a / 64)), (0, .inr (.inr (some p))), (1, .inl a), (2, .inl b)] rfl rfl rfl (by rw [show yi_w (j + 1) = j + 1 from (yi_wn (by omega) (by omega)).trans (by omega)]; rfl) ?_
                      refine yi_G_run 1 (37, [(5, .inl (j + 1)), (6, .inr (.inl y2)), (4, .inl ((b - 1) / 64)), (3, .inl (a / 64)), (0, .inr (.inr (some p))), (1, .inl a), (2, .inl b)], [], (I, L22, R, Y), 0, 0) (fun _ => rfl) ?_
                      refine yi_G_al (al := [(5, .inl (j + 1)), (4, .inl ((b - 1) / 64)), (3, .inl (a / 64)), (0, .inr (.inr (some p))), (1, .inl a), (2, .inl b)]) (show ([5, 4, 3, 0, 1, 2] : List Nat).Nodup by decide) (show ([5, 6, 4, 3, 0, 1, 2] : List Nat).Nodup by decide) (yi_mc (List.mem_of_getElem? (i := 0) rfl) (yi_mc (List.mem_of_getElem? (i := 2) rfl) (yi_mc (List.mem_of_getElem? (i := 3) rfl) (yi_mc (List.mem_of_getElem? (i := 4) rfl) (yi_mc (List.mem_of_getElem? (i := 5) rfl) (yi_mc (List.mem_of_getElem? (i := 6) rfl) yi_mn)))))) ?_
                      exact ih37 _ (by omega) (j + 1) L22 hP20 (by omega) rfl
                    exact pt103 (yi_land y (yi_lushr (-1) (yi_w (63 - ((b - 1) % 64))))) 
                  · refine yi_G_if2 true rfl (yi_ne_t h19) ?_
                    have pt103 : ∀ (y2 : Int), yi_G zi_Ms d zi_m196 (103, [(6, .inr (.inl y2)), (5, .inl j), (4, .inl ((b - 1) / 64)), (3, .inl (a / 64)), (0, .inr (.inr (some p))), (1, .inl a), (2, .inl b)], [], (I, Lp37, R, Y), 0, 0) (fun r => ∃ L', r = (none, (I, L', R, Y), 0, 0) ∧ cl_P E I L R Y I L' R Y) := by
                      intro y2
                      refine yi_G_run 1 (104, [(6, .inr (.inl y2)), (5, .inl j), (4, .inl ((b - 1) / 64)), (3, .inl (a / 64)), (0, .inr (.inr (some p))), (1, .inl a), (2, .inl b)], [.inr (.inr (some p))], (I, Lp37, R, Y), 0, 0) (fun _ => rfl) ?_
                      refine cl_G_gr rfl (cl_T_K tp) rfl rfl rfl e7 ?_
                      refine yi_G_run 2 (110, [(6, .inr (.inl y2)), (5, .inl j), (4, .inl ((b - 1) / 64)), (3, .inl (a / 64)), (0, .inr (.inr (some p))), (1, .inl a), (2, .inl b)], [.inl j, .inr (.inr (some q6)), .inl j, .inr (.inr (some q6))], (I, Lp37, R, Y), 0, 0) (fun _ => rfl) ?_
                      refine cl_G_lald rfl t8 (by omega) (by omega) ?_
                      refine yi_G_run 2 (114, [(6, .inr (.inl y2)), (5, .inl j), (4, .inl ((b - 1) / 64)), (3, .inl (a / 64)), (0, .inr (.inr (some p))), (1, .inl a), (2, .inl b)], [.inr (.inl (yi_lor (Lp37 q6 (j.toNat)) y2)), .inl j, .inr (.inr (some q6))], (I, Lp37, R, Y), 0, 0) (fun _ => rfl) ?_
                      refine cl_G_last rfl t8 (by omega) (by omega) ?_
                      have hP23 := cl_P_uL (k := (j.toNat)) (v := yi_lor (Lp37 q6 (j.toNat)) y2) hPp37 t8 (by omega)
                      generalize w24 : yi_u Lp37 q6 (j.toNat) (yi_lor (Lp37 q6 (j.toNat)) y2) = L25 at hP23 ⊢
                      refine yi_G_iinc [(5, .inl (j + 1)), (6, .inr (.inl y2)), (4, .inl ((b - 1) / 64)), (3, .inl (a / 64)), (0, .inr (.inr (some p))), (1, .inl a), (2, .inl b)] rfl rfl rfl (by rw [show yi_w (j + 1) = j + 1 from (yi_wn (by omega) (by omega)).trans (by omega)]; rfl) ?_
                      refine yi_G_run 1 (37, [(5, .inl (j + 1)), (6, .inr (.inl y2)), (4, .inl ((b - 1) / 64)), (3, .inl (a / 64)), (0, .inr (.inr (some p))), (1, .inl a), (2, .inl b)], [], (I, L25, R, Y), 0, 0) (fun _ => rfl) ?_
                      refine yi_G_al (al := [(5, .inl (j + 1)), (4, .inl ((b - 1) / 64)), (3, .inl (a / 64)), (0, .inr (.inr (some p))), (1, .inl a), (2, .inl b)]) (show ([5, 4, 3, 0, 1, 2] : List Nat).Nodup by decide) (show ([5, 6, 4, 3, 0, 1, 2] : List Nat).Nodup by decide) (yi_mc (List.mem_of_getElem? (i := 0) rfl) (yi_mc (List.mem_of_getElem? (i := 2) rfl) (yi_mc (List.mem_of_getElem? (i := 3) rfl) (yi_mc (List.mem_of_getElem? (i := 4) rfl) (yi_mc (List.mem_of_getElem? (i := 5) rfl) (yi_mc (List.mem_of_getElem? (i := 6) rfl) yi_mn)))))) ?_
                      exact ih37 _ (by omega) (j + 1) L25 hP23 (by omega) rfl
                    exact pt103 y 
                exact pt78 (-1) 
        exact pt37 _ (a / 64) L hP (by omega) rfl
      · refine yi_G_if2 false rfl (yi_le_f h4) ?_
        exact yi_G_retv rfl rfl (⟨_, rfl, hP⟩)
theorem k_keep (D : Nat) (hD : 2 ≤ D) {E : List Nat} {I L : cl_I} {R : cl_Rr} {Y : cl_Y} (hC : cl_C E I L R Y) {p : Nat} (tp : cl_T E Y p 5) {u : Nat} (tu : cl_T E Y u 5) : yi_E zi_Ms D 204 [.inr (.inr (some p)), .inr (.inr (some u))] (I, L, R, Y) (fun r => ∃ L', r = (none, (I, L', R, Y), 0, 0) ∧ cl_P E I L R Y I L' R Y) := by
  obtain ⟨d, rfl⟩ : ∃ d, D = d + 1 := ⟨D - 1, by omega⟩
  refine yi_E_of (M := zi_m204) rfl rfl ?_
  have hP : cl_P E I L R Y I L R Y := cl_P_r hC
  show yi_G zi_Ms d zi_m204 (0, [(0, .inr (.inr (some p))), (1, .inr (.inr (some u)))], [], (I, L, R, Y), 0, 0) _
  refine yi_G_run 2 (2, [(2, .inl 0), (0, .inr (.inr (some p))), (1, .inr (.inr (some u)))], [], (I, L, R, Y), 0, 0) (fun _ => rfl) ?_
  have pt2 : ∀ (m_ : Nat) (j : Int) (Lp2 : cl_I), (cl_P E I L R Y I Lp2 R Y) → (0 ≤ j ∧ j ≤ 513) → (513 - j).toNat = m_ → yi_G zi_Ms d zi_m204 (2, [(2, .inl j), (0, .inr (.inr (some p))), (1, .inr (.inr (some u)))], [], (I, Lp2, R, Y), 0, 0) (fun r => ∃ L', r = (none, (I, L', R, Y), 0, 0) ∧ cl_P E I L R Y I L' R Y) := by
    intro m2
    induction m2 using Nat.strongRecOn with
    | _ m2 ih2 =>
    intro j Lp2 hPp2 j0 hm2
    refine yi_G_run 2 (4, [(2, .inl j), (0, .inr (.inr (some p))), (1, .inr (.inr (some u)))], [.inr (.inr (some p)), .inl j], (I, Lp2, R, Y), 0, 0) (fun _ => rfl) ?_
    have b1 := cl_rd hPp2.1 tp (k := 1) (lo := 1) (hi := 513) rfl
    refine cl_G_gi rfl (cl_T_K tp) rfl rfl rfl ?_
    by_cases h2 : (I p 1) ≤ j
    · refine yi_G_if2 true rfl (yi_ge_t h2) ?_
      exact yi_G_retv rfl rfl (⟨_, rfl, hPp2⟩)
    · refine yi_G_if2 false rfl (yi_ge_f h2) ?_
      refine yi_G_run 2 (12, [(2, .inl j), (0, .inr (.inr (some p))), (1, .inr (.inr (some u)))], [.inr (.inr (some p)), .inl j], (I, Lp2, R, Y), 0, 0) (fun _ => rfl) ?_
      obtain ⟨q3, e4, t5⟩ := cl_rf hPp2.1 tp (k := 0) rfl
      have n6 := cl_nb hPp2.1 t5
      refine cl_G_gr rfl (cl_T_K tp) rfl rfl rfl e4 ?_
      refine cl_G_len rfl t5 (by omega) ?_
      by_cases h7 : ((Y.2.1 q3 : Int)) ≤ j
      · refine yi_G_if2 true rfl (yi_ge_t h7) ?_
        exact yi_G_retv rfl rfl (⟨_, rfl, hPp2⟩)
      · refine yi_G_if2 false rfl (yi_ge_f h7) ?_
        refine yi_G_run 1 (20, [(2, .inl j), (0, .inr (.inr (some p))), (1, .inr (.inr (some u)))], [.inr (.inr (some p))], (I, Lp2, R, Y), 0, 0) (fun _ => rfl) ?_
        refine cl_G_gr rfl (cl_T_K tp) rfl rfl rfl e4 ?_
        refine yi_G_run 2 (25, [(2, .inl j), (0, .inr (.inr (some p))), (1, .inr (.inr (some u)))], [.inl j, .inr (.inr (some q3)), .inl j, .inr (.inr (some q3))], (I, Lp2, R, Y), 0, 0) (fun _ => rfl) ?_
        refine cl_G_lald rfl t5 (by omega) (by omega) ?_
        refine yi_G_run 2 (28, [(2, .inl j), (0, .inr (.inr (some p))), (1, .inr (.inr (some u)))], [.inl j, .inr (.inr (some u)), .inr (.inl (Lp2 q3 (j.toNat))), .inl j, .inr (.inr (some q3))], (I, Lp2, R, Y), 0, 0) (fun _ => rfl) ?_
        refine yi_G_callv rfl rfl (cl_rcv tu rfl) rfl (k_cellAt d (by omega) hPp2.1 tu ) ?_
        rintro _ ⟨z8, rfl⟩
        show yi_G zi_Ms d zi_m204 (31, [(2, .inl j), (0, .inr (.inr (some p))), (1, .inr (.inr (some u)))], [.inr (.inl z8), .inr (.inl (Lp2 q3 (j.toNat))), .inl j, .inr (.inr (some q3))], (I, Lp2, R, Y), 0, 0) _
        refine yi_G_run 1 (32, [(2, .inl j), (0, .inr (.inr (some p))), (1, .inr (.inr (some u)))], [.inr (.inl (yi_land (Lp2 q3 (j.toNat)) z8)), .inl j, .inr (.inr (some q3))], (I, Lp2, R, Y), 0, 0) (fun _ => rfl) ?_
        refine cl_G_last rfl t5 (by omega) (by omega) ?_
        have hP9 := cl_P_uL (k := (j.toNat)) (v := yi_land (Lp2 q3 (j.toNat)) z8) hPp2 t5 (by omega)
        generalize w10 : yi_u Lp2 q3 (j.toNat) (yi_land (Lp2 q3 (j.toNat)) z8) = L11 at hP9 ⊢
        refine yi_G_iinc [(2, .inl (j + 1)), (0, .inr (.inr (some p))), (1, .inr (.inr (some u)))] rfl rfl rfl (by rw [show yi_w (j + 1) = j + 1 from (yi_wn (by omega) (by omega)).trans (by omega)]; rfl) ?_
        refine yi_G_run 1 (2, [(2, .inl (j + 1)), (0, .inr (.inr (some p))), (1, .inr (.inr (some u)))], [], (I, L11, R, Y), 0, 0) (fun _ => rfl) ?_
        exact ih2 _ (by omega) (j + 1) L11 hP9 (by omega) rfl
  exact pt2 _ 0 L hP (by omega) rfl
theorem k_FS0 (D : Nat) (hD : 1 ≤ D) {E : List Nat} {e : Nat} {I L : cl_I} {R : cl_Rr} {Y : cl_Y} (hC : cl_C (e :: E) I L R Y) (ge : 10 ≤ e ∧ e < Y.2.2 ∧ 108 < e) (ke : Y.1 e = 5) (em : e ∉ E) (ez : ∀ k, I e k = 0) (ey : ∀ k, R e k = none) : yi_E zi_Ms D 195 [.inr (.inr (some e))] (I, L, R, Y) (fun r => ∃ I', ∃ L', ∃ R', ∃ Y', ∃ nc ns, r = (none, (I', L', R', Y'), nc, ns) ∧ cl_P E I L R Y I' L' R' Y' ∧ nc ≤ 1 ∧ ns ≤ 1 ∧ cl_T E Y' e 5 ∧ (∀ q k, q < Y.2.2 → q ≠ e → I' q k = I q k ∧ R' q k = R q k)) := by
  obtain ⟨d, rfl⟩ : ∃ d, D = d + 1 := ⟨D - 1, by omega⟩
  refine yi_E_of (M := zi_m195) rfl rfl ?_
  have hP : cl_P (e :: E) I L R Y I L R Y := cl_P_r hC
  show yi_G zi_Ms d zi_m195 (0, [(0, .inr (.inr (some e)))], [], (I, L, R, Y), 0, 0) _
  refine yi_G_run 1 (1, [(0, .inr (.inr (some e)))], [.inr (.inr (some e))], (I, L, R, Y), 0, 0) (fun _ => rfl) ?_
  refine cl_G_obj rfl rfl ?_
  refine yi_G_run 2 (6, [(0, .inr (.inr (some e)))], [.inl 1, .inr (.inr (some e))], (I, L, R, Y), 0, 0) (fun _ => rfl) ?_
  refine cl_G_mka rfl hP (by decide) (by decide) (by decide) (fun e1x I1 L1 R1 Y1 ee1 hP1 x1 t1 n1 o1 => ?_)
  have g2 : 10 ≤ e ∧ e < _ ∧ 108 < e := ⟨ge.1, Nat.lt_of_lt_of_le ge.2.1 (x1).1, ge.2.2⟩
  have k3 := ((x1).2 e ge.2.1).1.trans ke
  refine cl_G_pr rfl ⟨g2.1, k3⟩ rfl rfl rfl ?_
  have hP4 := cl_P_mR (p := e) (k := 0) (v := (some e1x)) hP1 (by simp)
  generalize w5 : cl_u R1 e 0 (some e1x) = R6 at hP4 ⊢
  have e7 : R6 e 0 = some e1x := by rw [← w5, cl_u_eq]
  refine yi_G_run 2 (13, [(0, .inr (.inr (some e)))], [.inl 1, .inr (.inr (some e))], (I1, L1, R6, Y1), 0 + 1, 0 + (1 : Int).toNat) (fun _ => rfl) ?_
  refine cl_G_pi rfl ⟨g2.1, k3⟩ rfl rfl rfl ?_
  have hP8 := cl_P_mI (p := e) (k := 1) (v := 1) hP4 (by simp)
  generalize w9 : yi_u I1 e 1 1 = I10 at hP8 ⊢
  have r11 : I10 e 1 = 1 := by rw [← w9, yi_u_eq]
  have z12 := ez 1
  have ib1 : 1 ≤ I10 e 1 ∧ I10 e 1 ≤ 513 := by omega
  exact yi_G_retv rfl rfl (⟨_, _, _, _, _, _, rfl, ⟨cl_C_d hP8.1 em ⟨g2.1, g2.2.1, Or.inr g2.2.2, k3⟩ (by decide) (fun k b hb => match k, hb with | 0, hb => by cases hb | 1, hb => by cases hb; exact ib1 | (_ + 2), hb => by cases hb) (fun k q hq => match k, hq with | 0, hq => by cases hq; exact Or.inr ⟨e1x, e7, cl_T_d t1, Or.inl rfl⟩ | (_ + 1), hq => by cases hq), hP8.2⟩, by omega, by omega, ⟨g2.1, g2.2.1, Or.inr g2.2.2, em, k3⟩, (fun q k hq hn => by have b0 := hP.2.1.1; exact ⟨by rw [← w9, yi_u_ne _ _ (fun z => hn z.1), (o1 q k (Nat.lt_of_lt_of_le hq hP.2.1.1)).2], by rw [← w5, cl_u_ne _ _ (fun z => hn z.1), (o1 q k (Nat.lt_of_lt_of_le hq hP.2.1.1)).1]⟩)⟩)
theorem k_resize (D : Nat) (hD : 1 ≤ D) {E : List Nat} {I L : cl_I} {R : cl_Rr} {Y : cl_Y} (hC : cl_C E I L R Y) {p : Nat} (tp : cl_T E Y p 5) {x : Int} (hx : x ≤ 513) : yi_E zi_Ms D 207 [.inr (.inr (some p)), .inl x] (I, L, R, Y) (fun r => ∃ I', ∃ L', ∃ R', ∃ Y', ∃ nc ns, r = (none, (I', L', R', Y'), nc, ns) ∧ cl_P E I L R Y I' L' R' Y' ∧ nc ≤ 1 ∧ ns ≤ (max x 1).toNat ∧ (∀ q, R p 0 = some q → max x 1 ≤ (Y.2.1 q : Int) → nc = 0 ∧ ns = 0) ∧ (cl_F R' Y' p (max x 1)) ∧ (∀ q k, q < Y.2.2 → q ≠ p → I' q k = I q k ∧ R' q k = R q k) ∧ (I' p 1 = max x 1)) := by
  obtain ⟨d, rfl⟩ : ∃ d, D = d + 1 := ⟨D - 1, by omega⟩
  refine yi_E_of (M := zi_m207) rfl rfl ?_
  have hP : cl_P E I L R Y I L R Y := cl_P_r hC
  show yi_G zi_Ms d zi_m207 (0, [(0, .inr (.inr (some p))), (1, .inl x)], [], (I, L, R, Y), 0, 0) _
  have pt22 : ∀ (y : Int) (Ip22 : cl_I) (Lp22 : cl_I) (Rp22 : cl_Rr) (Yp22 : cl_Y) (ncp22 : Nat) (nsp22 : Nat), (cl_P E I L R Y Ip22 Lp22 Rp22 Yp22) → (cl_T E Yp22 p 5) → (y = max x 1) → (ncp22 ≤ 1 ∧ nsp22 ≤ (max x 1).toNat) → (∀ q, R p 0 = some q → max x 1 ≤ (Y.2.1 q : Int) → ncp22 = 0 ∧ nsp22 = 0) → (cl_F Rp22 Yp22 p (max x 1)) → (∀ q k, q < Y.2.2 → q ≠ p → Ip22 q k = I q k ∧ Rp22 q k = R q k) → yi_G zi_Ms d zi_m207 (22, [(0, .inr (.inr (some p))), (1, .inl x), (2, .inl y)], [], (Ip22, Lp22, Rp22, Yp22), ncp22, nsp22) (fun r => ∃ I', ∃ L', ∃ R', ∃ Y', ∃ nc ns, r = (none, (I', L', R', Y'), nc, ns) ∧ cl_P E I L R Y I' L' R' Y' ∧ nc ≤ 1 ∧ ns ≤ (max x 1).toNat ∧ (∀ q, R p 0 = some q → max x 1 ≤ (Y.2.1 q : Int) → nc = 0 ∧ ns = 0) ∧ (cl_F R' Y' p (max x 1)) ∧ (∀ q k, q < Y.2.2 → q ≠ p → I' q k = I q k ∧ R' q k = R q k) ∧ (I' p 1 = max x 1)) := by
    intro y Ip22 Lp22 Rp22 Yp22 ncp22 nsp22 hPp22 tpp22 y0 n0 f1 f2 fx22
    refine yi_G_run 2 (24, [(0, .inr (.inr (some p))), (1, .inl x), (2, .inl y)], [.inl y, .inr (.inr (some p))], (Ip22, Lp22, Rp22, Yp22), ncp22, nsp22) (fun _ => rfl) ?_
    refine cl_G_pi rfl (cl_T_K tpp22) rfl rfl rfl ?_
    have hP1 := cl_P_uI (k := 1) (v := y) hPp22 tpp22 (by decide) (cl_hv rfl (by omega) (by omega))
    generalize w2 : yi_u Ip22 p 1 y = I3 at hP1 ⊢
    exact yi_G_retv rfl rfl (⟨_, _, _, _, _, _, rfl, hP1, by omega, by omega, f1, f2, (fun q k hq hn => ⟨by rw [← w2, yi_u_ne _ _ (fun z => hn z.1), (fx22 q k hq hn).1], by rw [(fx22 q k hq hn).2]⟩), (by rw [← w2, yi_u_eq]; exact y0)⟩)
  refine yi_G_run 2 (2, [(0, .inr (.inr (some p))), (1, .inl x)], [.inl 1, .inl x], (I, L, R, Y), 0, 0) (fun _ => rfl) ?_
  refine cl_G_max rfl rfl cl_max ?_
  refine yi_G_run 2 (7, [(2, .inl (max x 1)), (0, .inr (.inr (some p))), (1, .inl x)], [.inr (.inr (some p))], (I, L, R, Y), 0, 0) (fun _ => rfl) ?_
  obtain ⟨q4, e5, t6⟩ := cl_rf hP.1 tp (k := 0) rfl
  have n7 := cl_nb hP.1 t6
  refine cl_G_gr rfl (cl_T_K tp) rfl rfl rfl e5 ?_
  refine cl_G_len rfl t6 (by omega) ?_
  refine yi_G_run 1 (12, [(2, .inl (max x 1)), (0, .inr (.inr (some p))), (1, .inl x)], [.inl (max x 1), .inl ((Y.2.1 q4 : Int))], (I, L, R, Y), 0, 0) (fun _ => rfl) ?_
  skip
  by_cases h8 : (max x 1) ≤ ((Y.2.1 q4 : Int))
  · refine yi_G_if2 true rfl (yi_ge_t h8) ?_
    refine yi_G_al (al := [(0, .inr (.inr (some p))), (1, .inl x), (2, .inl (max x 1))]) (show ([0, 1, 2] : List Nat).Nodup by decide) (show ([2, 0, 1] : List Nat).Nodup by decide) (yi_mc (List.mem_of_getElem? (i := 1) rfl) (yi_mc (List.mem_of_getElem? (i := 2) rfl) (yi_mc (List.mem_of_getElem? (i := 0) rfl) yi_mn))) ?_
    exact pt22 (max x 1) I L R Y (0) (0) hP tp (by omega) (by omega) (fun _ _ _ => ⟨rfl, rfl⟩) ⟨q4, e5, by omega⟩ (fun q k hq hn => ⟨rfl, rfl⟩)
  · refine yi_G_if2 false rfl (yi_ge_f h8) ?_
    refine yi_G_run 2 (17, [(2, .inl (max x 1)), (0, .inr (.inr (some p))), (1, .inl x)], [.inl (max x 1), .inr (.inr (some p))], (I, L, R, Y), 0, 0) (fun _ => rfl) ?_
    have hnew : ¬ max x 1 ≤ (Y.2.1 q4 : Int) := by assumption
    refine cl_G_mka rfl hP (by omega) (by omega) (by decide) (fun e9x I9 L9 R9 Y9 ee9 hP9 x9 t9 n9 o9 => ?_)
    have t10 := cl_T_x tp x9
    have t11 := cl_T_x t6 x9
    have n12 := cl_T_n t6 x9
    have e13 := (o9 p 0 (tp).2.1).1.trans e5
    refine cl_G_pr rfl (cl_T_K t10) rfl rfl rfl ?_
    have hP14 := cl_P_uR (k := 0) (v := (some e9x)) hP9 t10 (by decide) (by decide) (cl_hrf rfl t9)
    generalize w15 : cl_u R9 p 0 (some e9x) = R16 at hP14 ⊢
    have e17 : R16 p 0 = some e9x := by rw [← w15, cl_u_eq]
    refine yi_G_al (al := [(0, .inr (.inr (some p))), (1, .inl x), (2, .inl (max x 1))]) (show ([0, 1, 2] : List Nat).Nodup by decide) (show ([2, 0, 1] : List Nat).Nodup by decide) (yi_mc (List.mem_of_getElem? (i := 1) rfl) (yi_mc (List.mem_of_getElem? (i := 2) rfl) (yi_mc (List.mem_of_getElem? (i := 0) rfl) yi_mn))) ?_
    exact pt22 (max x 1) I9 L9 R16 Y9 (0 + 1) (0 + (max x 1 : Int).toNat) hP14 t10 (by omega) (by omega) (fun q hq hn => by have e := hq.symm.trans e5; cases e; exact absurd hn hnew) ⟨e9x, e17, by omega⟩ (fun q k hq hn => ⟨by rw [(o9 q k (Nat.lt_of_lt_of_le hq hP.2.1.1)).2], by rw [← w15, cl_u_ne _ _ (fun z => hn z.1), (o9 q k (Nat.lt_of_lt_of_le hq hP.2.1.1)).1]⟩)
theorem k_copyFrom (D : Nat) (hD : 2 ≤ D) {E : List Nat} {I L : cl_I} {R : cl_Rr} {Y : cl_Y} (hC : cl_C E I L R Y) {p : Nat} (tp : cl_T E Y p 5) {u : Nat} (tu : cl_T E Y u 5) : yi_E zi_Ms D 200 [.inr (.inr (some p)), .inr (.inr (some u))] (I, L, R, Y) (fun r => ∃ I', ∃ L', ∃ R', ∃ Y', ∃ nc ns, r = (none, (I', L', R', Y'), nc, ns) ∧ cl_P E I L R Y I' L' R' Y' ∧ nc ≤ 1 ∧ ns ≤ 513 ∧ (∀ q, R p 0 = some q → max (I u 1) 1 ≤ (Y.2.1 q : Int) → nc = 0 ∧ ns = 0) ∧ (cl_F R' Y' p (max (I u 1) 1)) ∧ (∀ q k, q < Y.2.2 → q ≠ p → I' q k = I q k ∧ R' q k = R q k)) := by
  obtain ⟨d, rfl⟩ : ∃ d, D = d + 1 := ⟨D - 1, by omega⟩
  refine yi_E_of (M := zi_m200) rfl rfl ?_
  have hP : cl_P E I L R Y I L R Y := cl_P_r hC
  show yi_G zi_Ms d zi_m200 (0, [(0, .inr (.inr (some p))), (1, .inr (.inr (some u)))], [], (I, L, R, Y), 0, 0) _
  refine yi_G_run 2 (2, [(0, .inr (.inr (some p))), (1, .inr (.inr (some u)))], [.inr (.inr (some u)), .inr (.inr (some p))], (I, L, R, Y), 0, 0) (fun _ => rfl) ?_
  have b1 := cl_rd hP.1 tu (k := 1) (lo := 1) (hi := 513) rfl
  refine cl_G_gi rfl (cl_T_K tu) rfl rfl rfl ?_
  refine yi_G_callv rfl rfl (cl_rcv tp rfl) rfl (k_resize d (by omega) hP.1 tp (by omega)) ?_
  rintro _ ⟨I2, L2, R2, Y2, nc2, ns2, rfl, hQ2, ca2, cb2, x2a, x2b, x2c, x2d⟩
  have hP2 := cl_P_t hP hQ2
  have t3 := cl_T_x tp hQ2.2.1
  have t4 := cl_T_x tu hQ2.2.1
  show yi_G zi_Ms d zi_m200 (8, [(0, .inr (.inr (some p))), (1, .inr (.inr (some u)))], [], (I2, L2, R2, Y2), 0 + nc2, 0 + ns2) _
  refine yi_G_run 2 (10, [(2, .inl 0), (0, .inr (.inr (some p))), (1, .inr (.inr (some u)))], [], (I2, L2, R2, Y2), 0 + nc2, 0 + ns2) (fun _ => rfl) ?_
  have pt10 : ∀ (m_ : Nat) (j : Int) (Lp10 : cl_I), (cl_P E I L R Y I2 Lp10 R2 Y2) → (0 ≤ j ∧ j ≤ 513) → (513 - j).toNat = m_ → yi_G zi_Ms d zi_m200 (10, [(2, .inl j), (0, .inr (.inr (some p))), (1, .inr (.inr (some u)))], [], (I2, Lp10, R2, Y2), 0 + nc2, 0 + ns2) (fun r => ∃ I', ∃ L', ∃ R', ∃ Y', ∃ nc ns, r = (none, (I', L', R', Y'), nc, ns) ∧ cl_P E I L R Y I' L' R' Y' ∧ nc ≤ 1 ∧ ns ≤ 513 ∧ (∀ q, R p 0 = some q → max (I u 1) 1 ≤ (Y.2.1 q : Int) → nc = 0 ∧ ns = 0) ∧ (cl_F R' Y' p (max (I u 1) 1)) ∧ (∀ q k, q < Y.2.2 → q ≠ p → I' q k = I q k ∧ R' q k = R q k)) := by
    intro m10
    induction m10 using Nat.strongRecOn with
    | _ m10 ih10 =>
    intro j Lp10 hPp10 j0 hm10
    refine yi_G_run 2 (12, [(2, .inl j), (0, .inr (.inr (some p))), (1, .inr (.inr (some u)))], [.inr (.inr (some p)), .inl j], (I2, Lp10, R2, Y2), 0 + nc2, 0 + ns2) (fun _ => rfl) ?_
    skip
    have b5 := cl_rd hPp10.1 t3 (k := 1) (lo := 1) (hi := 513) rfl
    refine cl_G_gi rfl (cl_T_K t3) rfl rfl rfl ?_
    by_cases h6 : (I2 p 1) ≤ j
    · refine yi_G_if2 true rfl (yi_ge_t h6) ?_
      exact yi_G_retv rfl rfl (⟨_, _, _, _, _, _, rfl, hPp10, by omega, by omega, (fun q a b => by have := x2a q a b; omega), x2b, (fun q k hq hn => ⟨by rw [(x2c q k (Nat.lt_of_lt_of_le hq hP.2.1.1) hn).1], by rw [(x2c q k (Nat.lt_of_lt_of_le hq hP.2.1.1) hn).2]⟩)⟩)
    · refine yi_G_if2 false rfl (yi_ge_f h6) ?_
      refine yi_G_run 2 (20, [(2, .inl j), (0, .inr (.inr (some p))), (1, .inr (.inr (some u)))], [.inr (.inr (some p)), .inl j], (I2, Lp10, R2, Y2), 0 + nc2, 0 + ns2) (fun _ => rfl) ?_
      obtain ⟨q7, e8, t9⟩ := cl_rf hPp10.1 t3 (k := 0) rfl
      have n10 := cl_nb hPp10.1 t9
      refine cl_G_gr rfl (cl_T_K t3) rfl rfl rfl e8 ?_
      refine cl_G_len rfl t9 (by omega) ?_
      by_cases h11 : ((Y2.2.1 q7 : Int)) ≤ j
      · refine yi_G_if2 true rfl (yi_ge_t h11) ?_
        exact yi_G_retv rfl rfl (⟨_, _, _, _, _, _, rfl, hPp10, by omega, by omega, (fun q a b => by have := x2a q a b; omega), x2b, (fun q k hq hn => ⟨by rw [(x2c q k (Nat.lt_of_lt_of_le hq hP.2.1.1) hn).1], by rw [(x2c q k (Nat.lt_of_lt_of_le hq hP.2.1.1) hn).2]⟩)⟩)
      · refine yi_G_if2 false rfl (yi_ge_f h11) ?_
        refine yi_G_run 2 (29, [(2, .inl j), (0, .inr (.inr (some p))), (1, .inr (.inr (some u)))], [.inr (.inr (some u)), .inl j], (I2, Lp10, R2, Y2), 0 + nc2, 0 + ns2) (fun _ => rfl) ?_
        obtain ⟨q12, e13, t14⟩ := cl_rf hPp10.1 t4 (k := 0) rfl
        have n15 := cl_nb hPp10.1 t14
        refine cl_G_gr rfl (cl_T_K t4) rfl rfl rfl e13 ?_
        refine cl_G_len rfl t14 (by omega) ?_
        by_cases h16 : ((Y2.2.1 q12 : Int)) ≤ j
        · refine yi_G_if2 true rfl (yi_ge_t h16) ?_
          exact yi_G_retv rfl rfl (⟨_, _, _, _, _, _, rfl, hPp10, by omega, by omega, (fun q a b => by have := x2a q a b; omega), x2b, (fun q k hq hn => ⟨by rw [(x2c q k (Nat.lt_of_lt_of_le hq hP.2.1.1) hn).1], by rw [(x2c q k (Nat.lt_of_lt_of_le hq hP.2.1.1) hn).2]⟩)⟩)
        · refine yi_G_if2 false rfl (yi_ge_f h16) ?_
          refine yi_G_run 1 (37, [(2, .inl j), (0, .inr (.inr (some p))), (1, .inr (.inr (some u)))], [.inr (.inr (some p))], (I2, Lp10, R2, Y2), 0 + nc2, 0 + ns2) (fun _ => rfl) ?_
          refine cl_G_gr rfl (cl_T_K t3) rfl rfl rfl e8 ?_
          refine yi_G_run 2 (42, [(2, .inl j), (0, .inr (.inr (some p))), (1, .inr (.inr (some u)))], [.inr (.inr (some u)), .inl j, .inr (.inr (some q7))], (I2, Lp10, R2, Y2), 0 + nc2, 0 + ns2) (fun _ => rfl) ?_
          refine cl_G_gr rfl (cl_T_K t4) rfl rfl rfl e13 ?_
          refine yi_G_run 1 (46, [(2, .inl j), (0, .inr (.inr (some p))), (1, .inr (.inr (some u)))], [.inl j, .inr (.inr (some q12)), .inl j, .inr (.inr (some q7))], (I2, Lp10, R2, Y2), 0 + nc2, 0 + ns2) (fun _ => rfl) ?_
          refine cl_G_lald rfl t14 (by omega) (by omega) ?_
          refine cl_G_last rfl t9 (by omega) (by omega) ?_
          have hP17 := cl_P_uL (k := (j.toNat)) (v := Lp10 q12 (j.toNat)) hPp10 t9 (by omega)
          generalize w18 : yi_u Lp10 q7 (j.toNat) (Lp10 q12 (j.toNat)) = L19 at hP17 ⊢
          refine yi_G_iinc [(2, .inl (j + 1)), (0, .inr (.inr (some p))), (1, .inr (.inr (some u)))] rfl rfl rfl (by rw [show yi_w (j + 1) = j + 1 from (yi_wn (by omega) (by omega)).trans (by omega)]; rfl) ?_
          refine yi_G_run 1 (10, [(2, .inl (j + 1)), (0, .inr (.inr (some p))), (1, .inr (.inr (some u)))], [], (I2, L19, R2, Y2), 0 + nc2, 0 + ns2) (fun _ => rfl) ?_
          exact ih10 _ (by omega) (j + 1) L19 hP17 (by omega) rfl
  exact pt10 _ 0 L2 hP2 (by omega) rfl
theorem k_copyOut (D : Nat) (hD : 3 ≤ D) {E : List Nat} {I L : cl_I} {R : cl_Rr} {Y : cl_Y} (hC : cl_C E I L R Y) {p : Nat} (tp : cl_T E Y p 5) : yi_E zi_Ms D 201 [.inr (.inr (some p))] (I, L, R, Y) (fun r => ∃ q, ∃ I', ∃ L', ∃ R', ∃ Y', ∃ nc ns, r = (some (.inr (.inr (some q))), (I', L', R', Y'), nc, ns) ∧ cl_P E I L R Y I' L' R' Y' ∧ nc ≤ 3 ∧ ns ≤ 516 ∧ cl_T E Y' q 5) := by
  obtain ⟨d, rfl⟩ : ∃ d, D = d + 1 := ⟨D - 1, by omega⟩
  refine yi_E_of (M := zi_m201) rfl rfl ?_
  have hP : cl_P E I L R Y I L R Y := cl_P_r hC
  show yi_G zi_Ms d zi_m201 (0, [(0, .inr (.inr (some p)))], [], (I, L, R, Y), 0, 0) _
  refine cl_G_mko (m := 2) rfl hP rfl rfl (fun e1x I1 L1 R1 Y1 ee1 hP1 x1 tt1 z1 y1 k1 g1 m1 o1 => ?_)
  have t2 := tt1 _ _ tp
  refine yi_G_run 1 (4, [(0, .inr (.inr (some p)))], [.inr (.inr (some e1x)), .inr (.inr (some e1x))], (I1, L1, R1, Y1), 0 + 1, 0 + 2) (fun _ => rfl) ?_
  refine cl_G_callx rfl rfl rfl rfl (k_FS0 d (by omega) hP1.1 g1 k1 m1 z1 y1  ) ?_
  rintro _ ⟨I3, L3, R3, Y3, nc3, ns3, rfl, hQ3, ca3, cb3, t3, x3a⟩
  have hP3 := cl_P_t hP1 hQ3
  have t4 := cl_T_x (cl_T_d t2) hQ3.2.1
  show yi_G zi_Ms d zi_m201 (7, [(0, .inr (.inr (some p)))], [.inr (.inr (some e1x))], (I3, L3, R3, Y3), 0 + 1 + nc3, 0 + 2 + ns3) _
  refine yi_G_run 3 (10, [(1, .inr (.inr (some e1x))), (0, .inr (.inr (some p)))], [.inr (.inr (some p)), .inr (.inr (some e1x))], (I3, L3, R3, Y3), 0 + 1 + nc3, 0 + 2 + ns3) (fun _ => rfl) ?_
  refine yi_G_callv rfl rfl (cl_rcv t3 rfl) rfl (k_copyFrom d (by omega) hP3.1 t3 t4 ) ?_
  rintro _ ⟨I5, L5, R5, Y5, nc5, ns5, rfl, hQ5, ca5, cb5, x5a, x5b, x5c⟩
  have hP5 := cl_P_t hP3 hQ5
  have t6 := cl_T_x t4 hQ5.2.1
  have t7 := cl_T_x t3 hQ5.2.1
  show yi_G zi_Ms d zi_m201 (13, [(1, .inr (.inr (some e1x))), (0, .inr (.inr (some p)))], [], (I5, L5, R5, Y5), 0 + 1 + nc3 + nc5, 0 + 2 + ns3 + ns5) _
  refine yi_G_run 1 (14, [(1, .inr (.inr (some e1x))), (0, .inr (.inr (some p)))], [.inr (.inr (some e1x))], (I5, L5, R5, Y5), 0 + 1 + nc3 + nc5, 0 + 2 + ns3 + ns5) (fun _ => rfl) ?_
  exact cl_G_reta rfl rfl rfl (⟨_, _, _, _, _, _, _, rfl, hP5, by omega, by omega, t7⟩)
