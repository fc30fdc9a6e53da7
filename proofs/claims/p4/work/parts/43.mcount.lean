/-! The check's rows: counts and compares. -/
/-- how many bits, as the check counts them -/
def ym_on (v : Int) : Int := (yi_w (yi_lushr (yi_W ((yi_land (yi_W ((yi_W ((yi_land (yi_W (v - (yi_land (yi_lushr v 1) 6148914691236517205))) 3689348814741910323) + (yi_land (yi_lushr (yi_W (v - (yi_land (yi_lushr v 1) 6148914691236517205))) 2) 3689348814741910323))) + (yi_lushr (yi_W ((yi_land (yi_W (v - (yi_land (yi_lushr v 1) 6148914691236517205))) 3689348814741910323) + (yi_land (yi_lushr (yi_W (v - (yi_land (yi_lushr v 1) 6148914691236517205))) 2) 3689348814741910323))) 4))) 1085102592571150095) * 72340172838076673)) 56))
def ym_ct (g : Nat → Int) : Nat → Int
  | 0 => 0
  | k + 1 => yi_w (ym_ct g k + ym_on (g k))
theorem c_ones (D : Nat) (hD : 1 ≤ D) {I L : Nat → Nat → Int} {X : ym_X} (hS : ym_S X) {v : Int} : yi_E zi_Ms D 86 [.inr (.inl v)] (I, L, X) (fun r => r = (some (.inl (ym_on v)), (I, L, X), 0, 0)) := by
  obtain ⟨d, rfl⟩ : ∃ d, D = d + 1 := ⟨D - 1, by omega⟩
  refine yi_E_of (M := zi_m86) rfl rfl ?_
  show yi_G zi_Ms d zi_m86 (0, [(0, .inr (.inl v))], [], (I, L, X), 0, 0) _
  refine yi_G_run 4 (4, [(0, .inr (.inl v))], [.inr (.inl (yi_lushr v 1)), .inr (.inl v)], (I, L, X), 0, 0) (fun _ => rfl) ?_
  refine yi_G_ldc2 (6148914691236517205) rfl (by decide +kernel) ?_
  refine yi_G_run 4 (11, [(2, .inr (.inl (yi_W (v - (yi_land (yi_lushr v 1) 6148914691236517205))))), (0, .inr (.inl v))], [.inr (.inl (yi_W (v - (yi_land (yi_lushr v 1) 6148914691236517205))))], (I, L, X), 0, 0) (fun _ => rfl) ?_
  refine yi_G_ldc2 (3689348814741910323) rfl (by decide +kernel) ?_
  refine yi_G_run 4 (18, [(2, .inr (.inl (yi_W (v - (yi_land (yi_lushr v 1) 6148914691236517205))))), (0, .inr (.inl v))], [.inr (.inl (yi_lushr (yi_W (v - (yi_land (yi_lushr v 1) 6148914691236517205))) 2)), .inr (.inl (yi_land (yi_W (v - (yi_land (yi_lushr v 1) 6148914691236517205))) 3689348814741910323))], (I, L, X), 0, 0) (fun _ => rfl) ?_
  refine yi_G_ldc2 (3689348814741910323) rfl (by decide +kernel) ?_
  refine yi_G_run 8 (29, [(2, .inr (.inl (yi_W ((yi_land (yi_W (v - (yi_land (yi_lushr v 1) 6148914691236517205))) 3689348814741910323) + (yi_land (yi_lushr (yi_W (v - (yi_land (yi_lushr v 1) 6148914691236517205))) 2) 3689348814741910323))))), (0, .inr (.inl v))], [.inr (.inl (yi_W ((yi_W ((yi_land (yi_W (v - (yi_land (yi_lushr v 1) 6148914691236517205))) 3689348814741910323) + (yi_land (yi_lushr (yi_W (v - (yi_land (yi_lushr v 1) 6148914691236517205))) 2) 3689348814741910323))) + (yi_lushr (yi_W ((yi_land (yi_W (v - (yi_land (yi_lushr v 1) 6148914691236517205))) 3689348814741910323) + (yi_land (yi_lushr (yi_W (v - (yi_land (yi_lushr v 1) 6148914691236517205))) 2) 3689348814741910323))) 4))))], (I, L, X), 0, 0) (fun _ => rfl) ?_
  refine yi_G_ldc2 (1085102592571150095) rfl (by decide +kernel) ?_
  refine yi_G_run 3 (35, [(2, .inr (.inl (yi_land (yi_W ((yi_W ((yi_land (yi_W (v - (yi_land (yi_lushr v 1) 6148914691236517205))) 3689348814741910323) + (yi_land (yi_lushr (yi_W (v - (yi_land (yi_lushr v 1) 6148914691236517205))) 2) 3689348814741910323))) + (yi_lushr (yi_W ((yi_land (yi_W (v - (yi_land (yi_lushr v 1) 6148914691236517205))) 3689348814741910323) + (yi_land (yi_lushr (yi_W (v - (yi_land (yi_lushr v 1) 6148914691236517205))) 2) 3689348814741910323))) 4))) 1085102592571150095))), (0, .inr (.inl v))], [.inr (.inl (yi_land (yi_W ((yi_W ((yi_land (yi_W (v - (yi_land (yi_lushr v 1) 6148914691236517205))) 3689348814741910323) + (yi_land (yi_lushr (yi_W (v - (yi_land (yi_lushr v 1) 6148914691236517205))) 2) 3689348814741910323))) + (yi_lushr (yi_W ((yi_land (yi_W (v - (yi_land (yi_lushr v 1) 6148914691236517205))) 3689348814741910323) + (yi_land (yi_lushr (yi_W (v - (yi_land (yi_lushr v 1) 6148914691236517205))) 2) 3689348814741910323))) 4))) 1085102592571150095))], (I, L, X), 0, 0) (fun _ => rfl) ?_
  refine yi_G_ldc2 (72340172838076673) rfl (by decide +kernel) ?_
  refine yi_G_run 4 (43, [(2, .inr (.inl (yi_land (yi_W ((yi_W ((yi_land (yi_W (v - (yi_land (yi_lushr v 1) 6148914691236517205))) 3689348814741910323) + (yi_land (yi_lushr (yi_W (v - (yi_land (yi_lushr v 1) 6148914691236517205))) 2) 3689348814741910323))) + (yi_lushr (yi_W ((yi_land (yi_W (v - (yi_land (yi_lushr v 1) 6148914691236517205))) 3689348814741910323) + (yi_land (yi_lushr (yi_W (v - (yi_land (yi_lushr v 1) 6148914691236517205))) 2) 3689348814741910323))) 4))) 1085102592571150095))), (0, .inr (.inl v))], [.inl (yi_w (yi_lushr (yi_W ((yi_land (yi_W ((yi_W ((yi_land (yi_W (v - (yi_land (yi_lushr v 1) 6148914691236517205))) 3689348814741910323) + (yi_land (yi_lushr (yi_W (v - (yi_land (yi_lushr v 1) 6148914691236517205))) 2) 3689348814741910323))) + (yi_lushr (yi_W ((yi_land (yi_W (v - (yi_land (yi_lushr v 1) 6148914691236517205))) 3689348814741910323) + (yi_land (yi_lushr (yi_W (v - (yi_land (yi_lushr v 1) 6148914691236517205))) 2) 3689348814741910323))) 4))) 1085102592571150095) * 72340172838076673)) 56))], (I, L, X), 0, 0) (fun _ => rfl) ?_
  exact yi_G_reti rfl rfl (rfl)
theorem c_many (D : Nat) (hD : 2 ≤ D) {I L : Nat → Nat → Int} {X : ym_X} (hS : ym_S X) {row : Int} (h0 : 0 ≤ row) (h1 : row ≤ 311) (hl : 0 ≤ I 82 25) (hl2 : I 82 25 ≤ 512) : yi_E zi_Ms D 80 [.inr (.inr (some 82)), .inl row] (I, L, X) (fun r => r = (some (.inl (ym_ct (fun j => L 97 (512 * row + j).toNat) (I 82 25).toNat)), (I, L, X), 0, 0)) := by
  obtain ⟨d, rfl⟩ : ∃ d, D = d + 1 := ⟨D - 1, by omega⟩
  refine yi_E_of (M := zi_m80) rfl rfl ?_
  have pt4 : ∀ (m : Nat) (k : Int) (n : Int), (0 ≤ k) → (k ≤ I 82 25) → (n = ym_ct (fun j => L 97 (512 * row + j).toNat) k.toNat) → (I 82 25 - k).toNat = m → yi_G zi_Ms d zi_m80 (4, [(3, .inl k), (2, .inl n), (0, .inr (.inr (some 82))), (1, .inl row)], [], (I, L, X), 0, 0) (fun r => r = (some (.inl (ym_ct (fun j => L 97 (512 * row + j).toNat) (I 82 25).toNat)), (I, L, X), 0, 0)) := by
    intro m
    induction m using Nat.strongRecOn with
    | _ m ih =>
    intro k n k0 k1 hn hm
    refine yi_G_run 2 (6, [(3, .inl k), (2, .inl n), (0, .inr (.inr (some 82))), (1, .inl row)], [.inr (.inr (some 82)), .inl k], (I, L, X), 0, 0) (fun _ => rfl) ?_
    refine yi_G_get (9, [(3, .inl k), (2, .inl n), (0, .inr (.inr (some 82))), (1, .inl row)], [.inl (I 82 25), .inl k], (I, L, X), 0, 0) rfl (ym_gi hS rfl rfl rfl) ?_
    by_cases h1 : (I 82 25) ≤ k
    · refine yi_G_if2 true rfl (yi_ge_t h1) ?_
      refine yi_G_run 1 (37, [(3, .inl k), (2, .inl n), (0, .inr (.inr (some 82))), (1, .inl row)], [.inl n], (I, L, X), 0, 0) (fun _ => rfl) ?_
      exact yi_G_reti rfl rfl (by rw [hn, show k = I 82 25 by omega])
    · refine yi_G_if2 false rfl (yi_ge_f h1) ?_
      refine yi_G_run 2 (14, [(3, .inl k), (2, .inl n), (0, .inr (.inr (some 82))), (1, .inl row)], [.inr (.inr (some 82)), .inl n], (I, L, X), 0, 0) (fun _ => rfl) ?_
      refine yi_G_get (17, [(3, .inl k), (2, .inl n), (0, .inr (.inr (some 82))), (1, .inl row)], [.inr (.inr (some 97)), .inl n], (I, L, X), 0, 0) rfl (ym_gr hS 14 rfl rfl rfl) ?_
      refine yi_G_run 2 (21, [(3, .inl k), (2, .inl n), (0, .inr (.inr (some 82))), (1, .inl row)], [.inl row, .inl 512, .inr (.inr (some 97)), .inl n], (I, L, X), 0, 0) (fun _ => rfl) ?_
      refine yi_G_imul rfl (512 * row) (yi_wn (by omega) (by omega)) ?_
      refine yi_G_run 1 (23, [(3, .inl k), (2, .inl n), (0, .inr (.inr (some 82))), (1, .inl row)], [.inl k, .inl (512 * row), .inr (.inr (some 97)), .inl n], (I, L, X), 0, 0) (fun _ => rfl) ?_
      refine yi_G_iadd rfl ((512 * row) + k) (yi_wn (by omega) (by omega)) ?_
      refine yi_G_lald (25, [(3, .inl k), (2, .inl n), (0, .inr (.inr (some 82))), (1, .inl row)], [.inr (.inl (L 97 (((512 * row) + k).toNat))), .inl n], (I, L, X), 0, 0) rfl (ym_ll hS 14 rfl (by omega) (by omega) rfl) ?_
      refine yi_G_calls rfl rfl (c_ones d (by omega) hS) ?_
      rintro _ rfl
      show yi_G zi_Ms d zi_m80 (28, [(3, .inl k), (2, .inl n), (0, .inr (.inr (some 82))), (1, .inl row)], [.inl (ym_on (L 97 (((512 * row) + k).toNat))), .inl n], (I, L, X), 0, 0) _
      refine yi_G_run 2 (30, [(2, .inl (yi_w (n + (ym_on (L 97 (((512 * row) + k).toNat)))))), (3, .inl k), (0, .inr (.inr (some 82))), (1, .inl row)], [], (I, L, X), 0, 0) (fun _ => rfl) ?_
      refine yi_G_iinc [(3, .inl (k + 1)), (2, .inl (yi_w (n + (ym_on (L 97 (((512 * row) + k).toNat)))))), (0, .inr (.inr (some 82))), (1, .inl row)] rfl rfl rfl (by rw [show yi_w (k + 1) = k + 1 from (yi_wn (by omega) (by omega)).trans (by omega)]; rfl) ?_
      refine yi_G_run 1 (4, [(3, .inl (k + 1)), (2, .inl (yi_w (n + (ym_on (L 97 (((512 * row) + k).toNat)))))), (0, .inr (.inr (some 82))), (1, .inl row)], [], (I, L, X), 0, 0) (fun _ => rfl) ?_
      exact ih _ (by omega) (k + 1) (yi_w (n + (ym_on (L 97 (((512 * row) + k).toNat))))) (by omega) (by omega) (by rw [show (k + 1).toNat = k.toNat + 1 by omega, hn]; show _ = yi_w (_ + ym_on (L 97 (512 * row + (k.toNat : Int)).toNat)); rw [show (k.toNat : Int) = k by omega]) rfl
  show yi_G zi_Ms d zi_m80 (0, [(0, .inr (.inr (some 82))), (1, .inl row)], [], (I, L, X), 0, 0) _
  refine yi_G_run 4 (4, [(3, .inl 0), (2, .inl 0), (0, .inr (.inr (some 82))), (1, .inl row)], [], (I, L, X), 0, 0) (fun _ => rfl) ?_
  exact pt4 _  0 0 (by omega) (by omega) rfl rfl
theorem c_manyBoth (D : Nat) (hD : 2 ≤ D) {I L : Nat → Nat → Int} {X : ym_X} (hS : ym_S X) {row ot : Int} (h0 : 0 ≤ row) (h1 : row ≤ 311) (h2 : 0 ≤ ot) (h3 : ot ≤ 311) (hl : 0 ≤ I 82 25) (hl2 : I 82 25 ≤ 512) : yi_E zi_Ms D 81 [.inr (.inr (some 82)), .inl row, .inl ot] (I, L, X) (fun r => r = (some (.inl (ym_ct (fun j => yi_land (L 97 (512 * row + j).toNat) (L 97 (512 * ot + j).toNat)) (I 82 25).toNat)), (I, L, X), 0, 0)) := by
  obtain ⟨d, rfl⟩ : ∃ d, D = d + 1 := ⟨D - 1, by omega⟩
  refine yi_E_of (M := zi_m81) rfl rfl ?_
  have pt5 : ∀ (m : Nat) (k : Int) (n : Int), (0 ≤ k) → (k ≤ I 82 25) → (n = ym_ct (fun j => yi_land (L 97 (512 * row + j).toNat) (L 97 (512 * ot + j).toNat)) k.toNat) → (I 82 25 - k).toNat = m → yi_G zi_Ms d zi_m81 (5, [(4, .inl k), (3, .inl n), (0, .inr (.inr (some 82))), (1, .inl row), (2, .inl ot)], [], (I, L, X), 0, 0) (fun r => r = (some (.inl (ym_ct (fun j => yi_land (L 97 (512 * row + j).toNat) (L 97 (512 * ot + j).toNat)) (I 82 25).toNat)), (I, L, X), 0, 0)) := by
    intro m
    induction m using Nat.strongRecOn with
    | _ m ih =>
    intro k n k0 k1 hn hm
    refine yi_G_run 2 (8, [(4, .inl k), (3, .inl n), (0, .inr (.inr (some 82))), (1, .inl row), (2, .inl ot)], [.inr (.inr (some 82)), .inl k], (I, L, X), 0, 0) (fun _ => rfl) ?_
    refine yi_G_get (11, [(4, .inl k), (3, .inl n), (0, .inr (.inr (some 82))), (1, .inl row), (2, .inl ot)], [.inl (I 82 25), .inl k], (I, L, X), 0, 0) rfl (ym_gi hS rfl rfl rfl) ?_
    by_cases h1 : (I 82 25) ≤ k
    · refine yi_G_if2 true rfl (yi_ge_t h1) ?_
      refine yi_G_run 1 (54, [(4, .inl k), (3, .inl n), (0, .inr (.inr (some 82))), (1, .inl row), (2, .inl ot)], [.inl n], (I, L, X), 0, 0) (fun _ => rfl) ?_
      exact yi_G_reti rfl rfl (by rw [hn, show k = I 82 25 by omega])
    · refine yi_G_if2 false rfl (yi_ge_f h1) ?_
      refine yi_G_run 2 (16, [(4, .inl k), (3, .inl n), (0, .inr (.inr (some 82))), (1, .inl row), (2, .inl ot)], [.inr (.inr (some 82)), .inl n], (I, L, X), 0, 0) (fun _ => rfl) ?_
      refine yi_G_get (19, [(4, .inl k), (3, .inl n), (0, .inr (.inr (some 82))), (1, .inl row), (2, .inl ot)], [.inr (.inr (some 97)), .inl n], (I, L, X), 0, 0) rfl (ym_gr hS 14 rfl rfl rfl) ?_
      refine yi_G_run 2 (23, [(4, .inl k), (3, .inl n), (0, .inr (.inr (some 82))), (1, .inl row), (2, .inl ot)], [.inl row, .inl 512, .inr (.inr (some 97)), .inl n], (I, L, X), 0, 0) (fun _ => rfl) ?_
      refine yi_G_imul rfl (512 * row) (yi_wn (by omega) (by omega)) ?_
      refine yi_G_run 1 (26, [(4, .inl k), (3, .inl n), (0, .inr (.inr (some 82))), (1, .inl row), (2, .inl ot)], [.inl k, .inl (512 * row), .inr (.inr (some 97)), .inl n], (I, L, X), 0, 0) (fun _ => rfl) ?_
      refine yi_G_iadd rfl ((512 * row) + k) (yi_wn (by omega) (by omega)) ?_
      refine yi_G_lald (28, [(4, .inl k), (3, .inl n), (0, .inr (.inr (some 82))), (1, .inl row), (2, .inl ot)], [.inr (.inl (L 97 (((512 * row) + k).toNat))), .inl n], (I, L, X), 0, 0) rfl (ym_ll hS 14 rfl (by omega) (by omega) rfl) ?_
      refine yi_G_run 1 (29, [(4, .inl k), (3, .inl n), (0, .inr (.inr (some 82))), (1, .inl row), (2, .inl ot)], [.inr (.inr (some 82)), .inr (.inl (L 97 (((512 * row) + k).toNat))), .inl n], (I, L, X), 0, 0) (fun _ => rfl) ?_
      refine yi_G_get (32, [(4, .inl k), (3, .inl n), (0, .inr (.inr (some 82))), (1, .inl row), (2, .inl ot)], [.inr (.inr (some 97)), .inr (.inl (L 97 (((512 * row) + k).toNat))), .inl n], (I, L, X), 0, 0) rfl (ym_gr hS 14 rfl rfl rfl) ?_
      refine yi_G_run 2 (36, [(4, .inl k), (3, .inl n), (0, .inr (.inr (some 82))), (1, .inl row), (2, .inl ot)], [.inl ot, .inl 512, .inr (.inr (some 97)), .inr (.inl (L 97 (((512 * row) + k).toNat))), .inl n], (I, L, X), 0, 0) (fun _ => rfl) ?_
      refine yi_G_imul rfl (512 * ot) (yi_wn (by omega) (by omega)) ?_
      refine yi_G_run 1 (39, [(4, .inl k), (3, .inl n), (0, .inr (.inr (some 82))), (1, .inl row), (2, .inl ot)], [.inl k, .inl (512 * ot), .inr (.inr (some 97)), .inr (.inl (L 97 (((512 * row) + k).toNat))), .inl n], (I, L, X), 0, 0) (fun _ => rfl) ?_
      refine yi_G_iadd rfl ((512 * ot) + k) (yi_wn (by omega) (by omega)) ?_
      refine yi_G_lald (41, [(4, .inl k), (3, .inl n), (0, .inr (.inr (some 82))), (1, .inl row), (2, .inl ot)], [.inr (.inl (L 97 (((512 * ot) + k).toNat))), .inr (.inl (L 97 (((512 * row) + k).toNat))), .inl n], (I, L, X), 0, 0) rfl (ym_ll hS 14 rfl (by omega) (by omega) rfl) ?_
      refine yi_G_run 1 (42, [(4, .inl k), (3, .inl n), (0, .inr (.inr (some 82))), (1, .inl row), (2, .inl ot)], [.inr (.inl (yi_land (L 97 (((512 * row) + k).toNat)) (L 97 (((512 * ot) + k).toNat)))), .inl n], (I, L, X), 0, 0) (fun _ => rfl) ?_
      refine yi_G_calls rfl rfl (c_ones d (by omega) hS) ?_
      rintro _ rfl
      show yi_G zi_Ms d zi_m81 (45, [(4, .inl k), (3, .inl n), (0, .inr (.inr (some 82))), (1, .inl row), (2, .inl ot)], [.inl (ym_on (yi_land (L 97 (((512 * row) + k).toNat)) (L 97 (((512 * ot) + k).toNat)))), .inl n], (I, L, X), 0, 0) _
      refine yi_G_run 2 (47, [(3, .inl (yi_w (n + (ym_on (yi_land (L 97 (((512 * row) + k).toNat)) (L 97 (((512 * ot) + k).toNat))))))), (4, .inl k), (0, .inr (.inr (some 82))), (1, .inl row), (2, .inl ot)], [], (I, L, X), 0, 0) (fun _ => rfl) ?_
      refine yi_G_iinc [(4, .inl (k + 1)), (3, .inl (yi_w (n + (ym_on (yi_land (L 97 (((512 * row) + k).toNat)) (L 97 (((512 * ot) + k).toNat))))))), (0, .inr (.inr (some 82))), (1, .inl row), (2, .inl ot)] rfl rfl rfl (by rw [show yi_w (k + 1) = k + 1 from (yi_wn (by omega) (by omega)).trans (by omega)]; rfl) ?_
      refine yi_G_run 1 (5, [(4, .inl (k + 1)), (3, .inl (yi_w (n + (ym_on (yi_land (L 97 (((512 * row) + k).toNat)) (L 97 (((512 * ot) + k).toNat))))))), (0, .inr (.inr (some 82))), (1, .inl row), (2, .inl ot)], [], (I, L, X), 0, 0) (fun _ => rfl) ?_
      exact ih _ (by omega) (k + 1) (yi_w (n + (ym_on (yi_land (L 97 (((512 * row) + k).toNat)) (L 97 (((512 * ot) + k).toNat)))))) (by omega) (by omega) (by rw [show (k + 1).toNat = k.toNat + 1 by omega, hn]; show _ = yi_w (_ + ym_on (yi_land (L 97 (512 * row + (k.toNat : Int)).toNat) (L 97 (512 * ot + (k.toNat : Int)).toNat))); rw [show (k.toNat : Int) = k by omega]) rfl
  show yi_G zi_Ms d zi_m81 (0, [(0, .inr (.inr (some 82))), (1, .inl row), (2, .inl ot)], [], (I, L, X), 0, 0) _
  refine yi_G_run 4 (5, [(4, .inl 0), (3, .inl 0), (0, .inr (.inr (some 82))), (1, .inl row), (2, .inl ot)], [], (I, L, X), 0, 0) (fun _ => rfl) ?_
  exact pt5 _  0 0 (by omega) (by omega) rfl rfl
theorem c_isAny (D : Nat) (hD : 1 ≤ D) {I L : Nat → Nat → Int} {X : ym_X} (hS : ym_S X) {row ot : Int} (h0 : 0 ≤ row) (h1 : row ≤ 311) (h2 : 0 ≤ ot) (h3 : ot ≤ 311) (hl : 0 ≤ I 82 25) (hl2 : I 82 25 ≤ 512) : yi_E zi_Ms D 47 [.inr (.inr (some 82)), .inl row, .inl ot] (I, L, X) (fun r => ((∃ j : Int, 0 ≤ j ∧ j < I 82 25 ∧ ¬ yi_land (L 97 (512 * row + j).toNat) (L 97 (512 * ot + j).toNat) = 0) ∧ r = (some (.inl 1), (I, L, X), 0, 0)) ∨ (¬ (∃ j : Int, 0 ≤ j ∧ j < I 82 25 ∧ ¬ yi_land (L 97 (512 * row + j).toNat) (L 97 (512 * ot + j).toNat) = 0) ∧ r = (some (.inl 0), (I, L, X), 0, 0))) := by
  obtain ⟨d, rfl⟩ : ∃ d, D = d + 1 := ⟨D - 1, by omega⟩
  refine yi_E_of (M := zi_m47) rfl rfl ?_
  have pt5 : ∀ (m : Nat) (k : Int) (an : Int), (0 ≤ k) → (k ≤ I 82 25) → ((an = 0 ∧ ∀ j : Int, 0 ≤ j → j < k → yi_land (L 97 (512 * row + j).toNat) (L 97 (512 * ot + j).toNat) = 0) ∨ (an = 1 ∧ ∃ j : Int, 0 ≤ j ∧ j < I 82 25 ∧ ¬ yi_land (L 97 (512 * row + j).toNat) (L 97 (512 * ot + j).toNat) = 0)) → (I 82 25 - k).toNat = m → yi_G zi_Ms d zi_m47 (5, [(4, .inl k), (3, .inl an), (0, .inr (.inr (some 82))), (1, .inl row), (2, .inl ot)], [], (I, L, X), 0, 0) (fun r => ((∃ j : Int, 0 ≤ j ∧ j < I 82 25 ∧ ¬ yi_land (L 97 (512 * row + j).toNat) (L 97 (512 * ot + j).toNat) = 0) ∧ r = (some (.inl 1), (I, L, X), 0, 0)) ∨ (¬ (∃ j : Int, 0 ≤ j ∧ j < I 82 25 ∧ ¬ yi_land (L 97 (512 * row + j).toNat) (L 97 (512 * ot + j).toNat) = 0) ∧ r = (some (.inl 0), (I, L, X), 0, 0))) := by
    intro m
    induction m using Nat.strongRecOn with
    | _ m ih =>
    intro k an k0 k1 ha hm
    refine yi_G_run 2 (8, [(4, .inl k), (3, .inl an), (0, .inr (.inr (some 82))), (1, .inl row), (2, .inl ot)], [.inr (.inr (some 82)), .inl k], (I, L, X), 0, 0) (fun _ => rfl) ?_
    refine yi_G_get (11, [(4, .inl k), (3, .inl an), (0, .inr (.inr (some 82))), (1, .inl row), (2, .inl ot)], [.inl (I 82 25), .inl k], (I, L, X), 0, 0) rfl (ym_gi hS rfl rfl rfl) ?_
    by_cases h1 : (I 82 25) ≤ k
    · refine yi_G_if2 true rfl (yi_ge_t h1) ?_
      refine yi_G_run 1 (63, [(4, .inl k), (3, .inl an), (0, .inr (.inr (some 82))), (1, .inl row), (2, .inl ot)], [.inl an], (I, L, X), 0, 0) (fun _ => rfl) ?_
      exact yi_G_retb rfl rfl (by rcases ha with ⟨z, -⟩ | ⟨z, -⟩ <;> omega) (by
        rcases ha with ⟨rfl, h⟩ | ⟨rfl, h⟩
        · first | (exfalso; omega) | exact Or.inr ⟨fun ⟨j, a, b, c⟩ => c (h j a (by omega)), rfl⟩
        · exact Or.inl ⟨h, rfl⟩)
    · refine yi_G_if2 false rfl (yi_ge_f h1) ?_
      refine yi_G_run 1 (15, [(4, .inl k), (3, .inl an), (0, .inr (.inr (some 82))), (1, .inl row), (2, .inl ot)], [.inl an], (I, L, X), 0, 0) (fun _ => rfl) ?_
      by_cases h2 : an = 0
      · refine yi_G_if1 false rfl (yi_ne_f h2) ?_
        refine yi_G_run 1 (19, [(4, .inl k), (3, .inl an), (0, .inr (.inr (some 82))), (1, .inl row), (2, .inl ot)], [.inr (.inr (some 82))], (I, L, X), 0, 0) (fun _ => rfl) ?_
        refine yi_G_get (22, [(4, .inl k), (3, .inl an), (0, .inr (.inr (some 82))), (1, .inl row), (2, .inl ot)], [.inr (.inr (some 97))], (I, L, X), 0, 0) rfl (ym_gr hS 14 rfl rfl rfl) ?_
        refine yi_G_run 2 (26, [(4, .inl k), (3, .inl an), (0, .inr (.inr (some 82))), (1, .inl row), (2, .inl ot)], [.inl row, .inl 512, .inr (.inr (some 97))], (I, L, X), 0, 0) (fun _ => rfl) ?_
        refine yi_G_imul rfl (512 * row) (yi_wn (by omega) (by omega)) ?_
        refine yi_G_run 1 (29, [(4, .inl k), (3, .inl an), (0, .inr (.inr (some 82))), (1, .inl row), (2, .inl ot)], [.inl k, .inl (512 * row), .inr (.inr (some 97))], (I, L, X), 0, 0) (fun _ => rfl) ?_
        refine yi_G_iadd rfl ((512 * row) + k) (yi_wn (by omega) (by omega)) ?_
        refine yi_G_lald (31, [(4, .inl k), (3, .inl an), (0, .inr (.inr (some 82))), (1, .inl row), (2, .inl ot)], [.inr (.inl (L 97 (((512 * row) + k).toNat)))], (I, L, X), 0, 0) rfl (ym_ll hS 14 rfl (by omega) (by omega) rfl) ?_
        refine yi_G_run 1 (32, [(4, .inl k), (3, .inl an), (0, .inr (.inr (some 82))), (1, .inl row), (2, .inl ot)], [.inr (.inr (some 82)), .inr (.inl (L 97 (((512 * row) + k).toNat)))], (I, L, X), 0, 0) (fun _ => rfl) ?_
        refine yi_G_get (35, [(4, .inl k), (3, .inl an), (0, .inr (.inr (some 82))), (1, .inl row), (2, .inl ot)], [.inr (.inr (some 97)), .inr (.inl (L 97 (((512 * row) + k).toNat)))], (I, L, X), 0, 0) rfl (ym_gr hS 14 rfl rfl rfl) ?_
        refine yi_G_run 2 (39, [(4, .inl k), (3, .inl an), (0, .inr (.inr (some 82))), (1, .inl row), (2, .inl ot)], [.inl ot, .inl 512, .inr (.inr (some 97)), .inr (.inl (L 97 (((512 * row) + k).toNat)))], (I, L, X), 0, 0) (fun _ => rfl) ?_
        refine yi_G_imul rfl (512 * ot) (yi_wn (by omega) (by omega)) ?_
        refine yi_G_run 1 (42, [(4, .inl k), (3, .inl an), (0, .inr (.inr (some 82))), (1, .inl row), (2, .inl ot)], [.inl k, .inl (512 * ot), .inr (.inr (some 97)), .inr (.inl (L 97 (((512 * row) + k).toNat)))], (I, L, X), 0, 0) (fun _ => rfl) ?_
        refine yi_G_iadd rfl ((512 * ot) + k) (yi_wn (by omega) (by omega)) ?_
        refine yi_G_lald (44, [(4, .inl k), (3, .inl an), (0, .inr (.inr (some 82))), (1, .inl row), (2, .inl ot)], [.inr (.inl (L 97 (((512 * ot) + k).toNat))), .inr (.inl (L 97 (((512 * row) + k).toNat)))], (I, L, X), 0, 0) rfl (ym_ll hS 14 rfl (by omega) (by omega) rfl) ?_
        refine yi_G_run 3 (47, [(4, .inl k), (3, .inl an), (0, .inr (.inr (some 82))), (1, .inl row), (2, .inl ot)], [.inl (yi_lcmp (yi_land (L 97 (((512 * row) + k).toNat)) (L 97 (((512 * ot) + k).toNat))) 0)], (I, L, X), 0, 0) (fun _ => rfl) ?_
        by_cases h3 : ((yi_land (L 97 (((512 * row) + k).toNat)) (L 97 (((512 * ot) + k).toNat)))) = 0
        · refine yi_G_if1 true rfl (yi_Leq_t h3) ?_
          refine yi_G_run 2 (56, [(3, .inl 0), (4, .inl k), (0, .inr (.inr (some 82))), (1, .inl row), (2, .inl ot)], [], (I, L, X), 0, 0) (fun _ => rfl) ?_
          refine yi_G_iinc [(4, .inl (k + 1)), (3, .inl 0), (0, .inr (.inr (some 82))), (1, .inl row), (2, .inl ot)] rfl rfl rfl (by rw [show yi_w (k + 1) = k + 1 from (yi_wn (by omega) (by omega)).trans (by omega)]; rfl) ?_
          refine yi_G_run 1 (5, [(4, .inl (k + 1)), (3, .inl 0), (0, .inr (.inr (some 82))), (1, .inl row), (2, .inl ot)], [], (I, L, X), 0, 0) (fun _ => rfl) ?_
          exact ih _ (by omega) (k + 1) 0 (by omega) (by omega) (Or.inl ⟨rfl, fun j a b => by
          by_cases e : j = k
          · subst e; assumption
          · exact (ha.resolve_right (fun z => by omega)).2 j a (by omega)⟩) rfl
        · refine yi_G_if1 false rfl (yi_Leq_f h3) ?_
          refine yi_G_run 3 (56, [(3, .inl 1), (4, .inl k), (0, .inr (.inr (some 82))), (1, .inl row), (2, .inl ot)], [], (I, L, X), 0, 0) (fun _ => rfl) ?_
          refine yi_G_iinc [(4, .inl (k + 1)), (3, .inl 1), (0, .inr (.inr (some 82))), (1, .inl row), (2, .inl ot)] rfl rfl rfl (by rw [show yi_w (k + 1) = k + 1 from (yi_wn (by omega) (by omega)).trans (by omega)]; rfl) ?_
          refine yi_G_run 1 (5, [(4, .inl (k + 1)), (3, .inl 1), (0, .inr (.inr (some 82))), (1, .inl row), (2, .inl ot)], [], (I, L, X), 0, 0) (fun _ => rfl) ?_
          exact ih _ (by omega) (k + 1) 1 (by omega) (by omega) (Or.inr ⟨rfl, k, k0, by omega, by assumption⟩) rfl
      · refine yi_G_if1 true rfl (yi_ne_t h2) ?_
        refine yi_G_run 1 (63, [(4, .inl k), (3, .inl an), (0, .inr (.inr (some 82))), (1, .inl row), (2, .inl ot)], [.inl an], (I, L, X), 0, 0) (fun _ => rfl) ?_
        exact yi_G_retb rfl rfl (by rcases ha with ⟨z, -⟩ | ⟨z, -⟩ <;> omega) (by
        rcases ha with ⟨rfl, h⟩ | ⟨rfl, h⟩
        · first | (exfalso; omega) | exact Or.inr ⟨fun ⟨j, a, b, c⟩ => c (h j a (by omega)), rfl⟩
        · exact Or.inl ⟨h, rfl⟩)
  show yi_G zi_Ms d zi_m47 (0, [(0, .inr (.inr (some 82))), (1, .inl row), (2, .inl ot)], [], (I, L, X), 0, 0) _
  refine yi_G_run 4 (5, [(4, .inl 0), (3, .inl 0), (0, .inr (.inr (some 82))), (1, .inl row), (2, .inl ot)], [], (I, L, X), 0, 0) (fun _ => rfl) ?_
  exact pt5 _  0 0 (by omega) (by omega) (Or.inl ⟨rfl, fun j a b => absurd b (by omega)⟩) rfl
theorem c_isAll (D : Nat) (hD : 1 ≤ D) {I L : Nat → Nat → Int} {X : ym_X} (hS : ym_S X) {row ot : Int} (h0 : 0 ≤ row) (h1 : row ≤ 311) (h2 : 0 ≤ ot) (h3 : ot ≤ 311) (hl : 0 ≤ I 82 25) (hl2 : I 82 25 ≤ 512) : yi_E zi_Ms D 46 [.inr (.inr (some 82)), .inl row, .inl ot] (I, L, X) (fun r => ((∀ j : Int, 0 ≤ j → j < I 82 25 → yi_land (L 97 (512 * row + j).toNat) (yi_lxor (L 97 (512 * ot + j).toNat) (-1)) = 0) ∧ r = (some (.inl 1), (I, L, X), 0, 0)) ∨ (¬ (∀ j : Int, 0 ≤ j → j < I 82 25 → yi_land (L 97 (512 * row + j).toNat) (yi_lxor (L 97 (512 * ot + j).toNat) (-1)) = 0) ∧ r = (some (.inl 0), (I, L, X), 0, 0))) := by
  obtain ⟨d, rfl⟩ : ∃ d, D = d + 1 := ⟨D - 1, by omega⟩
  refine yi_E_of (M := zi_m46) rfl rfl ?_
  have pt5 : ∀ (m : Nat) (k : Int) (an : Int), (0 ≤ k) → (k ≤ I 82 25) → ((an = 1 ∧ ∀ j : Int, 0 ≤ j → j < k → yi_land (L 97 (512 * row + j).toNat) (yi_lxor (L 97 (512 * ot + j).toNat) (-1)) = 0) ∨ (an = 0 ∧ ¬ (∀ j : Int, 0 ≤ j → j < I 82 25 → yi_land (L 97 (512 * row + j).toNat) (yi_lxor (L 97 (512 * ot + j).toNat) (-1)) = 0))) → (I 82 25 - k).toNat = m → yi_G zi_Ms d zi_m46 (5, [(4, .inl k), (3, .inl an), (0, .inr (.inr (some 82))), (1, .inl row), (2, .inl ot)], [], (I, L, X), 0, 0) (fun r => ((∀ j : Int, 0 ≤ j → j < I 82 25 → yi_land (L 97 (512 * row + j).toNat) (yi_lxor (L 97 (512 * ot + j).toNat) (-1)) = 0) ∧ r = (some (.inl 1), (I, L, X), 0, 0)) ∨ (¬ (∀ j : Int, 0 ≤ j → j < I 82 25 → yi_land (L 97 (512 * row + j).toNat) (yi_lxor (L 97 (512 * ot + j).toNat) (-1)) = 0) ∧ r = (some (.inl 0), (I, L, X), 0, 0))) := by
    intro m
    induction m using Nat.strongRecOn with
    | _ m ih =>
    intro k an k0 k1 ha hm
    refine yi_G_run 2 (8, [(4, .inl k), (3, .inl an), (0, .inr (.inr (some 82))), (1, .inl row), (2, .inl ot)], [.inr (.inr (some 82)), .inl k], (I, L, X), 0, 0) (fun _ => rfl) ?_
    refine yi_G_get (11, [(4, .inl k), (3, .inl an), (0, .inr (.inr (some 82))), (1, .inl row), (2, .inl ot)], [.inl (I 82 25), .inl k], (I, L, X), 0, 0) rfl (ym_gi hS rfl rfl rfl) ?_
    by_cases h1 : (I 82 25) ≤ k
    · refine yi_G_if2 true rfl (yi_ge_t h1) ?_
      refine yi_G_run 1 (67, [(4, .inl k), (3, .inl an), (0, .inr (.inr (some 82))), (1, .inl row), (2, .inl ot)], [.inl an], (I, L, X), 0, 0) (fun _ => rfl) ?_
      exact yi_G_retb rfl rfl (by rcases ha with ⟨z, -⟩ | ⟨z, -⟩ <;> omega) (by
        rcases ha with ⟨rfl, h⟩ | ⟨rfl, h⟩
        · first | (exfalso; omega) | exact Or.inl ⟨fun j a b => h j a (by omega), rfl⟩
        · exact Or.inr ⟨h, rfl⟩)
    · refine yi_G_if2 false rfl (yi_ge_f h1) ?_
      refine yi_G_run 1 (15, [(4, .inl k), (3, .inl an), (0, .inr (.inr (some 82))), (1, .inl row), (2, .inl ot)], [.inl an], (I, L, X), 0, 0) (fun _ => rfl) ?_
      by_cases h2 : an = 0
      · refine yi_G_if1 true rfl (yi_eq_t h2) ?_
        refine yi_G_run 1 (67, [(4, .inl k), (3, .inl an), (0, .inr (.inr (some 82))), (1, .inl row), (2, .inl ot)], [.inl an], (I, L, X), 0, 0) (fun _ => rfl) ?_
        exact yi_G_retb rfl rfl (by rcases ha with ⟨z, -⟩ | ⟨z, -⟩ <;> omega) (by
        rcases ha with ⟨rfl, h⟩ | ⟨rfl, h⟩
        · first | (exfalso; omega) | exact Or.inl ⟨fun j a b => h j a (by omega), rfl⟩
        · exact Or.inr ⟨h, rfl⟩)
      · refine yi_G_if1 false rfl (yi_eq_f h2) ?_
        refine yi_G_run 1 (19, [(4, .inl k), (3, .inl an), (0, .inr (.inr (some 82))), (1, .inl row), (2, .inl ot)], [.inr (.inr (some 82))], (I, L, X), 0, 0) (fun _ => rfl) ?_
        refine yi_G_get (22, [(4, .inl k), (3, .inl an), (0, .inr (.inr (some 82))), (1, .inl row), (2, .inl ot)], [.inr (.inr (some 97))], (I, L, X), 0, 0) rfl (ym_gr hS 14 rfl rfl rfl) ?_
        refine yi_G_run 2 (26, [(4, .inl k), (3, .inl an), (0, .inr (.inr (some 82))), (1, .inl row), (2, .inl ot)], [.inl row, .inl 512, .inr (.inr (some 97))], (I, L, X), 0, 0) (fun _ => rfl) ?_
        refine yi_G_imul rfl (512 * row) (yi_wn (by omega) (by omega)) ?_
        refine yi_G_run 1 (29, [(4, .inl k), (3, .inl an), (0, .inr (.inr (some 82))), (1, .inl row), (2, .inl ot)], [.inl k, .inl (512 * row), .inr (.inr (some 97))], (I, L, X), 0, 0) (fun _ => rfl) ?_
        refine yi_G_iadd rfl ((512 * row) + k) (yi_wn (by omega) (by omega)) ?_
        refine yi_G_lald (31, [(4, .inl k), (3, .inl an), (0, .inr (.inr (some 82))), (1, .inl row), (2, .inl ot)], [.inr (.inl (L 97 (((512 * row) + k).toNat)))], (I, L, X), 0, 0) rfl (ym_ll hS 14 rfl (by omega) (by omega) rfl) ?_
        refine yi_G_run 1 (32, [(4, .inl k), (3, .inl an), (0, .inr (.inr (some 82))), (1, .inl row), (2, .inl ot)], [.inr (.inr (some 82)), .inr (.inl (L 97 (((512 * row) + k).toNat)))], (I, L, X), 0, 0) (fun _ => rfl) ?_
        refine yi_G_get (35, [(4, .inl k), (3, .inl an), (0, .inr (.inr (some 82))), (1, .inl row), (2, .inl ot)], [.inr (.inr (some 97)), .inr (.inl (L 97 (((512 * row) + k).toNat)))], (I, L, X), 0, 0) rfl (ym_gr hS 14 rfl rfl rfl) ?_
        refine yi_G_run 2 (39, [(4, .inl k), (3, .inl an), (0, .inr (.inr (some 82))), (1, .inl row), (2, .inl ot)], [.inl ot, .inl 512, .inr (.inr (some 97)), .inr (.inl (L 97 (((512 * row) + k).toNat)))], (I, L, X), 0, 0) (fun _ => rfl) ?_
        refine yi_G_imul rfl (512 * ot) (yi_wn (by omega) (by omega)) ?_
        refine yi_G_run 1 (42, [(4, .inl k), (3, .inl an), (0, .inr (.inr (some 82))), (1, .inl row), (2, .inl ot)], [.inl k, .inl (512 * ot), .inr (.inr (some 97)), .inr (.inl (L 97 (((512 * row) + k).toNat)))], (I, L, X), 0, 0) (fun _ => rfl) ?_
        refine yi_G_iadd rfl ((512 * ot) + k) (yi_wn (by omega) (by omega)) ?_
        refine yi_G_lald (44, [(4, .inl k), (3, .inl an), (0, .inr (.inr (some 82))), (1, .inl row), (2, .inl ot)], [.inr (.inl (L 97 (((512 * ot) + k).toNat))), .inr (.inl (L 97 (((512 * row) + k).toNat)))], (I, L, X), 0, 0) rfl (ym_ll hS 14 rfl (by omega) (by omega) rfl) ?_
        refine yi_G_ldc2 ((-1)) rfl (by decide +kernel) ?_
        refine yi_G_run 4 (51, [(4, .inl k), (3, .inl an), (0, .inr (.inr (some 82))), (1, .inl row), (2, .inl ot)], [.inl (yi_lcmp (yi_land (L 97 (((512 * row) + k).toNat)) (yi_lxor (L 97 (((512 * ot) + k).toNat)) (-1))) 0)], (I, L, X), 0, 0) (fun _ => rfl) ?_
        by_cases h3 : ((yi_land (L 97 (((512 * row) + k).toNat)) (yi_lxor (L 97 (((512 * ot) + k).toNat)) (-1)))) = 0
        · refine yi_G_if1 false rfl (yi_Lne_f h3) ?_
          refine yi_G_run 3 (60, [(3, .inl 1), (4, .inl k), (0, .inr (.inr (some 82))), (1, .inl row), (2, .inl ot)], [], (I, L, X), 0, 0) (fun _ => rfl) ?_
          refine yi_G_iinc [(4, .inl (k + 1)), (3, .inl 1), (0, .inr (.inr (some 82))), (1, .inl row), (2, .inl ot)] rfl rfl rfl (by rw [show yi_w (k + 1) = k + 1 from (yi_wn (by omega) (by omega)).trans (by omega)]; rfl) ?_
          refine yi_G_run 1 (5, [(4, .inl (k + 1)), (3, .inl 1), (0, .inr (.inr (some 82))), (1, .inl row), (2, .inl ot)], [], (I, L, X), 0, 0) (fun _ => rfl) ?_
          exact ih _ (by omega) (k + 1) 1 (by omega) (by omega) (Or.inl ⟨rfl, fun j a b => by
          by_cases e : j = k
          · subst e; assumption
          · exact (ha.resolve_right (fun z => by omega)).2 j a (by omega)⟩) rfl
        · refine yi_G_if1 true rfl (yi_Lne_t h3) ?_
          refine yi_G_run 2 (60, [(3, .inl 0), (4, .inl k), (0, .inr (.inr (some 82))), (1, .inl row), (2, .inl ot)], [], (I, L, X), 0, 0) (fun _ => rfl) ?_
          refine yi_G_iinc [(4, .inl (k + 1)), (3, .inl 0), (0, .inr (.inr (some 82))), (1, .inl row), (2, .inl ot)] rfl rfl rfl (by rw [show yi_w (k + 1) = k + 1 from (yi_wn (by omega) (by omega)).trans (by omega)]; rfl) ?_
          refine yi_G_run 1 (5, [(4, .inl (k + 1)), (3, .inl 0), (0, .inr (.inr (some 82))), (1, .inl row), (2, .inl ot)], [], (I, L, X), 0, 0) (fun _ => rfl) ?_
          exact ih _ (by omega) (k + 1) 0 (by omega) (by omega) (Or.inr ⟨rfl, fun z => absurd (z k k0 (by omega)) (by assumption)⟩) rfl
  show yi_G zi_Ms d zi_m46 (0, [(0, .inr (.inr (some 82))), (1, .inl row), (2, .inl ot)], [], (I, L, X), 0, 0) _
  refine yi_G_run 4 (5, [(4, .inl 0), (3, .inl 1), (0, .inr (.inr (some 82))), (1, .inl row), (2, .inl ot)], [], (I, L, X), 0, 0) (fun _ => rfl) ?_
  exact pt5 _  0 1 (by omega) (by omega) (Or.inl ⟨rfl, fun j a b => absurd b (by omega)⟩) rfl
