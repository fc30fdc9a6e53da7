/-! The check's rows: what each does. -/
theorem c_clears (D : Nat) (hD : 1 ≤ D) {I L : Nat → Nat → Int} {X : ym_X} (hS : ym_S X) {row : Int} (h0 : 0 ≤ row) (h1 : row ≤ 311) (hl : 0 ≤ I 82 25) (hl2 : I 82 25 ≤ 512) : yi_E zi_Ms D 11 [.inr (.inr (some 82)), .inl row] (I, L, X) (fun r => r = (none, (I, ym_rw L row (I 82 25) (fun _ => 0), X), 0, 0)) := by
  obtain ⟨d, rfl⟩ : ∃ d, D = d + 1 := ⟨D - 1, by omega⟩
  refine yi_E_of (M := zi_m11) rfl rfl ?_
  have pt2 : ∀ (m : Nat) (k : Int) (L1 : Nat → Nat → Int), (0 ≤ k) → (k ≤ I 82 25) → (L1 = ym_rw L row k (fun _ => 0)) → (I 82 25 - k).toNat = m → yi_G zi_Ms d zi_m11 (2, [(2, .inl k), (0, .inr (.inr (some 82))), (1, .inl row)], [], (I, L1, X), 0, 0) (fun r => r = (none, (I, ym_rw L row (I 82 25) (fun _ => 0), X), 0, 0)) := by
    intro m
    induction m using Nat.strongRecOn with
    | _ m ih =>
    intro k L1 k0 k1 hL hm
    refine yi_G_run 2 (4, [(2, .inl k), (0, .inr (.inr (some 82))), (1, .inl row)], [.inr (.inr (some 82)), .inl k], (I, L1, X), 0, 0) (fun _ => rfl) ?_
    refine yi_G_get (7, [(2, .inl k), (0, .inr (.inr (some 82))), (1, .inl row)], [.inl (I 82 25), .inl k], (I, L1, X), 0, 0) rfl (ym_gi hS rfl rfl rfl) ?_
    by_cases h1 : (I 82 25) ≤ k
    · refine yi_G_if2 true rfl (yi_ge_t h1) ?_
      exact yi_G_retv rfl rfl (by rw [hL, show k = I 82 25 by omega])
    · refine yi_G_if2 false rfl (yi_ge_f h1) ?_
      refine yi_G_run 1 (11, [(2, .inl k), (0, .inr (.inr (some 82))), (1, .inl row)], [.inr (.inr (some 82))], (I, L1, X), 0, 0) (fun _ => rfl) ?_
      refine yi_G_get (14, [(2, .inl k), (0, .inr (.inr (some 82))), (1, .inl row)], [.inr (.inr (some 97))], (I, L1, X), 0, 0) rfl (ym_gr hS 14 rfl rfl rfl) ?_
      refine yi_G_run 2 (18, [(2, .inl k), (0, .inr (.inr (some 82))), (1, .inl row)], [.inl row, .inl 512, .inr (.inr (some 97))], (I, L1, X), 0, 0) (fun _ => rfl) ?_
      refine yi_G_imul rfl (512 * row) (yi_wn (by omega) (by omega)) ?_
      refine yi_G_run 1 (20, [(2, .inl k), (0, .inr (.inr (some 82))), (1, .inl row)], [.inl k, .inl (512 * row), .inr (.inr (some 97))], (I, L1, X), 0, 0) (fun _ => rfl) ?_
      refine yi_G_iadd rfl ((512 * row) + k) (yi_wn (by omega) (by omega)) ?_
      refine yi_G_run 1 (22, [(2, .inl k), (0, .inr (.inr (some 82))), (1, .inl row)], [.inr (.inl 0), .inl ((512 * row) + k), .inr (.inr (some 97))], (I, L1, X), 0, 0) (fun _ => rfl) ?_
      refine yi_G_last (23, [(2, .inl k), (0, .inr (.inr (some 82))), (1, .inl row)], [], (I, (yi_u L1 97 (((512 * row) + k).toNat) 0), X), 0, 0) rfl (ym_sl hS 14 rfl (by omega) (by omega)) ?_
      generalize w3 : yi_u L1 97 (((512 * row) + k).toNat) 0 = L2
      refine yi_G_iinc [(2, .inl (k + 1)), (0, .inr (.inr (some 82))), (1, .inl row)] rfl rfl rfl (by rw [show yi_w (k + 1) = k + 1 from (yi_wn (by omega) (by omega)).trans (by omega)]; rfl) ?_
      refine yi_G_run 1 (2, [(2, .inl (k + 1)), (0, .inr (.inr (some 82))), (1, .inl row)], [], (I, L2, X), 0, 0) (fun _ => rfl) ?_
      exact ih _ (by omega) (k + 1) L2 (by omega) (by omega) (by rw [← w3, hL]; exact ym_rw_s (by omega) (by omega) (by rfl)) rfl
  show yi_G zi_Ms d zi_m11 (0, [(0, .inr (.inr (some 82))), (1, .inl row)], [], (I, L, X), 0, 0) _
  refine yi_G_run 2 (2, [(2, .inl 0), (0, .inr (.inr (some 82))), (1, .inl row)], [], (I, L, X), 0, 0) (fun _ => rfl) ?_
  exact pt2 _  0 L (by omega) (by omega) (by rw [ym_rw_0]) rfl
theorem c_copiesRow (D : Nat) (hD : 1 ≤ D) {I L : Nat → Nat → Int} {X : ym_X} (hS : ym_S X) {fr to : Int} (h0 : 0 ≤ fr) (h1 : fr ≤ 311) (h2 : 0 ≤ to) (h3 : to ≤ 311) (hl : 0 ≤ I 82 25) (hl2 : I 82 25 ≤ 512) : yi_E zi_Ms D 14 [.inr (.inr (some 82)), .inl fr, .inl to] (I, L, X) (fun r => r = (none, (I, ym_rw L to (I 82 25) (fun j => L 97 (512 * fr + j).toNat), X), 0, 0)) := by
  obtain ⟨d, rfl⟩ : ∃ d, D = d + 1 := ⟨D - 1, by omega⟩
  refine yi_E_of (M := zi_m14) rfl rfl ?_
  have pt2 : ∀ (m : Nat) (k : Int) (L1 : Nat → Nat → Int), (0 ≤ k) → (k ≤ I 82 25) → (L1 = ym_rw L to k (fun j => L 97 (512 * fr + j).toNat)) → (I 82 25 - k).toNat = m → yi_G zi_Ms d zi_m14 (2, [(3, .inl k), (0, .inr (.inr (some 82))), (1, .inl fr), (2, .inl to)], [], (I, L1, X), 0, 0) (fun r => r = (none, (I, ym_rw L to (I 82 25) (fun j => L 97 (512 * fr + j).toNat), X), 0, 0)) := by
    intro m
    induction m using Nat.strongRecOn with
    | _ m ih =>
    intro k L1 k0 k1 hL hm
    refine yi_G_run 2 (4, [(3, .inl k), (0, .inr (.inr (some 82))), (1, .inl fr), (2, .inl to)], [.inr (.inr (some 82)), .inl k], (I, L1, X), 0, 0) (fun _ => rfl) ?_
    refine yi_G_get (7, [(3, .inl k), (0, .inr (.inr (some 82))), (1, .inl fr), (2, .inl to)], [.inl (I 82 25), .inl k], (I, L1, X), 0, 0) rfl (ym_gi hS rfl rfl rfl) ?_
    by_cases h1 : (I 82 25) ≤ k
    · refine yi_G_if2 true rfl (yi_ge_t h1) ?_
      exact yi_G_retv rfl rfl (by rw [hL, show k = I 82 25 by omega])
    · refine yi_G_if2 false rfl (yi_ge_f h1) ?_
      refine yi_G_run 1 (11, [(3, .inl k), (0, .inr (.inr (some 82))), (1, .inl fr), (2, .inl to)], [.inr (.inr (some 82))], (I, L1, X), 0, 0) (fun _ => rfl) ?_
      refine yi_G_get (14, [(3, .inl k), (0, .inr (.inr (some 82))), (1, .inl fr), (2, .inl to)], [.inr (.inr (some 97))], (I, L1, X), 0, 0) rfl (ym_gr hS 14 rfl rfl rfl) ?_
      refine yi_G_run 2 (18, [(3, .inl k), (0, .inr (.inr (some 82))), (1, .inl fr), (2, .inl to)], [.inl to, .inl 512, .inr (.inr (some 97))], (I, L1, X), 0, 0) (fun _ => rfl) ?_
      refine yi_G_imul rfl (512 * to) (yi_wn (by omega) (by omega)) ?_
      refine yi_G_run 1 (20, [(3, .inl k), (0, .inr (.inr (some 82))), (1, .inl fr), (2, .inl to)], [.inl k, .inl (512 * to), .inr (.inr (some 97))], (I, L1, X), 0, 0) (fun _ => rfl) ?_
      refine yi_G_iadd rfl ((512 * to) + k) (yi_wn (by omega) (by omega)) ?_
      refine yi_G_run 1 (22, [(3, .inl k), (0, .inr (.inr (some 82))), (1, .inl fr), (2, .inl to)], [.inr (.inr (some 82)), .inl ((512 * to) + k), .inr (.inr (some 97))], (I, L1, X), 0, 0) (fun _ => rfl) ?_
      refine yi_G_get (25, [(3, .inl k), (0, .inr (.inr (some 82))), (1, .inl fr), (2, .inl to)], [.inr (.inr (some 97)), .inl ((512 * to) + k), .inr (.inr (some 97))], (I, L1, X), 0, 0) rfl (ym_gr hS 14 rfl rfl rfl) ?_
      refine yi_G_run 2 (29, [(3, .inl k), (0, .inr (.inr (some 82))), (1, .inl fr), (2, .inl to)], [.inl fr, .inl 512, .inr (.inr (some 97)), .inl ((512 * to) + k), .inr (.inr (some 97))], (I, L1, X), 0, 0) (fun _ => rfl) ?_
      refine yi_G_imul rfl (512 * fr) (yi_wn (by omega) (by omega)) ?_
      refine yi_G_run 1 (31, [(3, .inl k), (0, .inr (.inr (some 82))), (1, .inl fr), (2, .inl to)], [.inl k, .inl (512 * fr), .inr (.inr (some 97)), .inl ((512 * to) + k), .inr (.inr (some 97))], (I, L1, X), 0, 0) (fun _ => rfl) ?_
      refine yi_G_iadd rfl ((512 * fr) + k) (yi_wn (by omega) (by omega)) ?_
      refine yi_G_lald (33, [(3, .inl k), (0, .inr (.inr (some 82))), (1, .inl fr), (2, .inl to)], [.inr (.inl (L1 97 (((512 * fr) + k).toNat))), .inl ((512 * to) + k), .inr (.inr (some 97))], (I, L1, X), 0, 0) rfl (ym_ll hS 14 rfl (by omega) (by omega) rfl) ?_
      refine yi_G_last (34, [(3, .inl k), (0, .inr (.inr (some 82))), (1, .inl fr), (2, .inl to)], [], (I, (yi_u L1 97 (((512 * to) + k).toNat) (L1 97 (((512 * fr) + k).toNat))), X), 0, 0) rfl (ym_sl hS 14 rfl (by omega) (by omega)) ?_
      generalize w3 : yi_u L1 97 (((512 * to) + k).toNat) (L1 97 (((512 * fr) + k).toNat)) = L2
      refine yi_G_iinc [(3, .inl (k + 1)), (0, .inr (.inr (some 82))), (1, .inl fr), (2, .inl to)] rfl rfl rfl (by rw [show yi_w (k + 1) = k + 1 from (yi_wn (by omega) (by omega)).trans (by omega)]; rfl) ?_
      refine yi_G_run 1 (2, [(3, .inl (k + 1)), (0, .inr (.inr (some 82))), (1, .inl fr), (2, .inl to)], [], (I, L2, X), 0, 0) (fun _ => rfl) ?_
      exact ih _ (by omega) (k + 1) L2 (by omega) (by omega) (by rw [← w3, hL]; exact ym_rw_s (by omega) (by omega) (by rw [ym_rw_o _ _ _ _ (by omega)]; congr 1; omega)) rfl
  show yi_G zi_Ms d zi_m14 (0, [(0, .inr (.inr (some 82))), (1, .inl fr), (2, .inl to)], [], (I, L, X), 0, 0) _
  refine yi_G_run 2 (2, [(3, .inl 0), (0, .inr (.inr (some 82))), (1, .inl fr), (2, .inl to)], [], (I, L, X), 0, 0) (fun _ => rfl) ?_
  exact pt2 _  0 L (by omega) (by omega) (by rw [ym_rw_0]) rfl
theorem c_meets (D : Nat) (hD : 1 ≤ D) {I L : Nat → Nat → Int} {X : ym_X} (hS : ym_S X) {row ot : Int} (h0 : 0 ≤ row) (h1 : row ≤ 311) (h2 : 0 ≤ ot) (h3 : ot ≤ 311) (hl : 0 ≤ I 82 25) (hl2 : I 82 25 ≤ 512) : yi_E zi_Ms D 84 [.inr (.inr (some 82)), .inl row, .inl ot] (I, L, X) (fun r => r = (none, (I, ym_rw L row (I 82 25) (fun j => yi_land (L 97 (512 * row + j).toNat) (L 97 (512 * ot + j).toNat)), X), 0, 0)) := by
  obtain ⟨d, rfl⟩ : ∃ d, D = d + 1 := ⟨D - 1, by omega⟩
  refine yi_E_of (M := zi_m84) rfl rfl ?_
  have pt2 : ∀ (m : Nat) (k : Int) (L1 : Nat → Nat → Int), (0 ≤ k) → (k ≤ I 82 25) → (L1 = ym_rw L row k (fun j => yi_land (L 97 (512 * row + j).toNat) (L 97 (512 * ot + j).toNat))) → (I 82 25 - k).toNat = m → yi_G zi_Ms d zi_m84 (2, [(3, .inl k), (0, .inr (.inr (some 82))), (1, .inl row), (2, .inl ot)], [], (I, L1, X), 0, 0) (fun r => r = (none, (I, ym_rw L row (I 82 25) (fun j => yi_land (L 97 (512 * row + j).toNat) (L 97 (512 * ot + j).toNat)), X), 0, 0)) := by
    intro m
    induction m using Nat.strongRecOn with
    | _ m ih =>
    intro k L1 k0 k1 hL hm
    refine yi_G_run 2 (4, [(3, .inl k), (0, .inr (.inr (some 82))), (1, .inl row), (2, .inl ot)], [.inr (.inr (some 82)), .inl k], (I, L1, X), 0, 0) (fun _ => rfl) ?_
    refine yi_G_get (7, [(3, .inl k), (0, .inr (.inr (some 82))), (1, .inl row), (2, .inl ot)], [.inl (I 82 25), .inl k], (I, L1, X), 0, 0) rfl (ym_gi hS rfl rfl rfl) ?_
    by_cases h1 : (I 82 25) ≤ k
    · refine yi_G_if2 true rfl (yi_ge_t h1) ?_
      exact yi_G_retv rfl rfl (by rw [hL, show k = I 82 25 by omega])
    · refine yi_G_if2 false rfl (yi_ge_f h1) ?_
      refine yi_G_run 1 (11, [(3, .inl k), (0, .inr (.inr (some 82))), (1, .inl row), (2, .inl ot)], [.inr (.inr (some 82))], (I, L1, X), 0, 0) (fun _ => rfl) ?_
      refine yi_G_get (14, [(3, .inl k), (0, .inr (.inr (some 82))), (1, .inl row), (2, .inl ot)], [.inr (.inr (some 97))], (I, L1, X), 0, 0) rfl (ym_gr hS 14 rfl rfl rfl) ?_
      refine yi_G_run 2 (18, [(3, .inl k), (0, .inr (.inr (some 82))), (1, .inl row), (2, .inl ot)], [.inl row, .inl 512, .inr (.inr (some 97))], (I, L1, X), 0, 0) (fun _ => rfl) ?_
      refine yi_G_imul rfl (512 * row) (yi_wn (by omega) (by omega)) ?_
      refine yi_G_run 1 (20, [(3, .inl k), (0, .inr (.inr (some 82))), (1, .inl row), (2, .inl ot)], [.inl k, .inl (512 * row), .inr (.inr (some 97))], (I, L1, X), 0, 0) (fun _ => rfl) ?_
      refine yi_G_iadd rfl ((512 * row) + k) (yi_wn (by omega) (by omega)) ?_
      refine yi_G_run 1 (22, [(3, .inl k), (0, .inr (.inr (some 82))), (1, .inl row), (2, .inl ot)], [.inl ((512 * row) + k), .inr (.inr (some 97)), .inl ((512 * row) + k), .inr (.inr (some 97))], (I, L1, X), 0, 0) (fun _ => rfl) ?_
      refine yi_G_lald (23, [(3, .inl k), (0, .inr (.inr (some 82))), (1, .inl row), (2, .inl ot)], [.inr (.inl (L1 97 (((512 * row) + k).toNat))), .inl ((512 * row) + k), .inr (.inr (some 97))], (I, L1, X), 0, 0) rfl (ym_ll hS 14 rfl (by omega) (by omega) rfl) ?_
      refine yi_G_run 1 (24, [(3, .inl k), (0, .inr (.inr (some 82))), (1, .inl row), (2, .inl ot)], [.inr (.inr (some 82)), .inr (.inl (L1 97 (((512 * row) + k).toNat))), .inl ((512 * row) + k), .inr (.inr (some 97))], (I, L1, X), 0, 0) (fun _ => rfl) ?_
      refine yi_G_get (27, [(3, .inl k), (0, .inr (.inr (some 82))), (1, .inl row), (2, .inl ot)], [.inr (.inr (some 97)), .inr (.inl (L1 97 (((512 * row) + k).toNat))), .inl ((512 * row) + k), .inr (.inr (some 97))], (I, L1, X), 0, 0) rfl (ym_gr hS 14 rfl rfl rfl) ?_
      refine yi_G_run 2 (31, [(3, .inl k), (0, .inr (.inr (some 82))), (1, .inl row), (2, .inl ot)], [.inl ot, .inl 512, .inr (.inr (some 97)), .inr (.inl (L1 97 (((512 * row) + k).toNat))), .inl ((512 * row) + k), .inr (.inr (some 97))], (I, L1, X), 0, 0) (fun _ => rfl) ?_
      refine yi_G_imul rfl (512 * ot) (yi_wn (by omega) (by omega)) ?_
      refine yi_G_run 1 (33, [(3, .inl k), (0, .inr (.inr (some 82))), (1, .inl row), (2, .inl ot)], [.inl k, .inl (512 * ot), .inr (.inr (some 97)), .inr (.inl (L1 97 (((512 * row) + k).toNat))), .inl ((512 * row) + k), .inr (.inr (some 97))], (I, L1, X), 0, 0) (fun _ => rfl) ?_
      refine yi_G_iadd rfl ((512 * ot) + k) (yi_wn (by omega) (by omega)) ?_
      refine yi_G_lald (35, [(3, .inl k), (0, .inr (.inr (some 82))), (1, .inl row), (2, .inl ot)], [.inr (.inl (L1 97 (((512 * ot) + k).toNat))), .inr (.inl (L1 97 (((512 * row) + k).toNat))), .inl ((512 * row) + k), .inr (.inr (some 97))], (I, L1, X), 0, 0) rfl (ym_ll hS 14 rfl (by omega) (by omega) rfl) ?_
      refine yi_G_run 1 (36, [(3, .inl k), (0, .inr (.inr (some 82))), (1, .inl row), (2, .inl ot)], [.inr (.inl (yi_land (L1 97 (((512 * row) + k).toNat)) (L1 97 (((512 * ot) + k).toNat)))), .inl ((512 * row) + k), .inr (.inr (some 97))], (I, L1, X), 0, 0) (fun _ => rfl) ?_
      refine yi_G_last (37, [(3, .inl k), (0, .inr (.inr (some 82))), (1, .inl row), (2, .inl ot)], [], (I, (yi_u L1 97 (((512 * row) + k).toNat) (yi_land (L1 97 (((512 * row) + k).toNat)) (L1 97 (((512 * ot) + k).toNat)))), X), 0, 0) rfl (ym_sl hS 14 rfl (by omega) (by omega)) ?_
      generalize w3 : yi_u L1 97 (((512 * row) + k).toNat) (yi_land (L1 97 (((512 * row) + k).toNat)) (L1 97 (((512 * ot) + k).toNat))) = L2
      refine yi_G_iinc [(3, .inl (k + 1)), (0, .inr (.inr (some 82))), (1, .inl row), (2, .inl ot)] rfl rfl rfl (by rw [show yi_w (k + 1) = k + 1 from (yi_wn (by omega) (by omega)).trans (by omega)]; rfl) ?_
      refine yi_G_run 1 (2, [(3, .inl (k + 1)), (0, .inr (.inr (some 82))), (1, .inl row), (2, .inl ot)], [], (I, L2, X), 0, 0) (fun _ => rfl) ?_
      exact ih _ (by omega) (k + 1) L2 (by omega) (by omega) (by rw [← w3, hL]; exact ym_rw_s (by omega) (by omega) (by rw [ym_rw_o _ _ _ _ (by omega), ym_rw_o _ _ _ _ (by omega), show (512 * row + k).toNat = (512 * row + (k.toNat : Int)).toNat by omega, show (512 * ot + k).toNat = (512 * ot + (k.toNat : Int)).toNat by omega])) rfl
  show yi_G zi_Ms d zi_m84 (0, [(0, .inr (.inr (some 82))), (1, .inl row), (2, .inl ot)], [], (I, L, X), 0, 0) _
  refine yi_G_run 2 (2, [(3, .inl 0), (0, .inr (.inr (some 82))), (1, .inl row), (2, .inl ot)], [], (I, L, X), 0, 0) (fun _ => rfl) ?_
  exact pt2 _  0 L (by omega) (by omega) (by rw [ym_rw_0]) rfl
theorem c_joins (D : Nat) (hD : 1 ≤ D) {I L : Nat → Nat → Int} {X : ym_X} (hS : ym_S X) {row ot : Int} (h0 : 0 ≤ row) (h1 : row ≤ 311) (h2 : 0 ≤ ot) (h3 : ot ≤ 311) (hl : 0 ≤ I 82 25) (hl2 : I 82 25 ≤ 512) : yi_E zi_Ms D 66 [.inr (.inr (some 82)), .inl row, .inl ot] (I, L, X) (fun r => r = (none, (I, ym_rw L row (I 82 25) (fun j => yi_lor (L 97 (512 * row + j).toNat) (L 97 (512 * ot + j).toNat)), X), 0, 0)) := by
  obtain ⟨d, rfl⟩ : ∃ d, D = d + 1 := ⟨D - 1, by omega⟩
  refine yi_E_of (M := zi_m66) rfl rfl ?_
  have pt2 : ∀ (m : Nat) (k : Int) (L1 : Nat → Nat → Int), (0 ≤ k) → (k ≤ I 82 25) → (L1 = ym_rw L row k (fun j => yi_lor (L 97 (512 * row + j).toNat) (L 97 (512 * ot + j).toNat))) → (I 82 25 - k).toNat = m → yi_G zi_Ms d zi_m66 (2, [(3, .inl k), (0, .inr (.inr (some 82))), (1, .inl row), (2, .inl ot)], [], (I, L1, X), 0, 0) (fun r => r = (none, (I, ym_rw L row (I 82 25) (fun j => yi_lor (L 97 (512 * row + j).toNat) (L 97 (512 * ot + j).toNat)), X), 0, 0)) := by
    intro m
    induction m using Nat.strongRecOn with
    | _ m ih =>
    intro k L1 k0 k1 hL hm
    refine yi_G_run 2 (4, [(3, .inl k), (0, .inr (.inr (some 82))), (1, .inl row), (2, .inl ot)], [.inr (.inr (some 82)), .inl k], (I, L1, X), 0, 0) (fun _ => rfl) ?_
    refine yi_G_get (7, [(3, .inl k), (0, .inr (.inr (some 82))), (1, .inl row), (2, .inl ot)], [.inl (I 82 25), .inl k], (I, L1, X), 0, 0) rfl (ym_gi hS rfl rfl rfl) ?_
    by_cases h1 : (I 82 25) ≤ k
    · refine yi_G_if2 true rfl (yi_ge_t h1) ?_
      exact yi_G_retv rfl rfl (by rw [hL, show k = I 82 25 by omega])
    · refine yi_G_if2 false rfl (yi_ge_f h1) ?_
      refine yi_G_run 1 (11, [(3, .inl k), (0, .inr (.inr (some 82))), (1, .inl row), (2, .inl ot)], [.inr (.inr (some 82))], (I, L1, X), 0, 0) (fun _ => rfl) ?_
      refine yi_G_get (14, [(3, .inl k), (0, .inr (.inr (some 82))), (1, .inl row), (2, .inl ot)], [.inr (.inr (some 97))], (I, L1, X), 0, 0) rfl (ym_gr hS 14 rfl rfl rfl) ?_
      refine yi_G_run 2 (18, [(3, .inl k), (0, .inr (.inr (some 82))), (1, .inl row), (2, .inl ot)], [.inl row, .inl 512, .inr (.inr (some 97))], (I, L1, X), 0, 0) (fun _ => rfl) ?_
      refine yi_G_imul rfl (512 * row) (yi_wn (by omega) (by omega)) ?_
      refine yi_G_run 1 (20, [(3, .inl k), (0, .inr (.inr (some 82))), (1, .inl row), (2, .inl ot)], [.inl k, .inl (512 * row), .inr (.inr (some 97))], (I, L1, X), 0, 0) (fun _ => rfl) ?_
      refine yi_G_iadd rfl ((512 * row) + k) (yi_wn (by omega) (by omega)) ?_
      refine yi_G_run 1 (22, [(3, .inl k), (0, .inr (.inr (some 82))), (1, .inl row), (2, .inl ot)], [.inl ((512 * row) + k), .inr (.inr (some 97)), .inl ((512 * row) + k), .inr (.inr (some 97))], (I, L1, X), 0, 0) (fun _ => rfl) ?_
      refine yi_G_lald (23, [(3, .inl k), (0, .inr (.inr (some 82))), (1, .inl row), (2, .inl ot)], [.inr (.inl (L1 97 (((512 * row) + k).toNat))), .inl ((512 * row) + k), .inr (.inr (some 97))], (I, L1, X), 0, 0) rfl (ym_ll hS 14 rfl (by omega) (by omega) rfl) ?_
      refine yi_G_run 1 (24, [(3, .inl k), (0, .inr (.inr (some 82))), (1, .inl row), (2, .inl ot)], [.inr (.inr (some 82)), .inr (.inl (L1 97 (((512 * row) + k).toNat))), .inl ((512 * row) + k), .inr (.inr (some 97))], (I, L1, X), 0, 0) (fun _ => rfl) ?_
      refine yi_G_get (27, [(3, .inl k), (0, .inr (.inr (some 82))), (1, .inl row), (2, .inl ot)], [.inr (.inr (some 97)), .inr (.inl (L1 97 (((512 * row) + k).toNat))), .inl ((512 * row) + k), .inr (.inr (some 97))], (I, L1, X), 0, 0) rfl (ym_gr hS 14 rfl rfl rfl) ?_
      refine yi_G_run 2 (31, [(3, .inl k), (0, .inr (.inr (some 82))), (1, .inl row), (2, .inl ot)], [.inl ot, .inl 512, .inr (.inr (some 97)), .inr (.inl (L1 97 (((512 * row) + k).toNat))), .inl ((512 * row) + k), .inr (.inr (some 97))], (I, L1, X), 0, 0) (fun _ => rfl) ?_
      refine yi_G_imul rfl (512 * ot) (yi_wn (by omega) (by omega)) ?_
      refine yi_G_run 1 (33, [(3, .inl k), (0, .inr (.inr (some 82))), (1, .inl row), (2, .inl ot)], [.inl k, .inl (512 * ot), .inr (.inr (some 97)), .inr (.inl (L1 97 (((512 * row) + k).toNat))), .inl ((512 * row) + k), .inr (.inr (some 97))], (I, L1, X), 0, 0) (fun _ => rfl) ?_
      refine yi_G_iadd rfl ((512 * ot) + k) (yi_wn (by omega) (by omega)) ?_
      refine yi_G_lald (35, [(3, .inl k), (0, .inr (.inr (some 82))), (1, .inl row), (2, .inl ot)], [.inr (.inl (L1 97 (((512 * ot) + k).toNat))), .inr (.inl (L1 97 (((512 * row) + k).toNat))), .inl ((512 * row) + k), .inr (.inr (some 97))], (I, L1, X), 0, 0) rfl (ym_ll hS 14 rfl (by omega) (by omega) rfl) ?_
      refine yi_G_run 1 (36, [(3, .inl k), (0, .inr (.inr (some 82))), (1, .inl row), (2, .inl ot)], [.inr (.inl (yi_lor (L1 97 (((512 * row) + k).toNat)) (L1 97 (((512 * ot) + k).toNat)))), .inl ((512 * row) + k), .inr (.inr (some 97))], (I, L1, X), 0, 0) (fun _ => rfl) ?_
      refine yi_G_last (37, [(3, .inl k), (0, .inr (.inr (some 82))), (1, .inl row), (2, .inl ot)], [], (I, (yi_u L1 97 (((512 * row) + k).toNat) (yi_lor (L1 97 (((512 * row) + k).toNat)) (L1 97 (((512 * ot) + k).toNat)))), X), 0, 0) rfl (ym_sl hS 14 rfl (by omega) (by omega)) ?_
      generalize w3 : yi_u L1 97 (((512 * row) + k).toNat) (yi_lor (L1 97 (((512 * row) + k).toNat)) (L1 97 (((512 * ot) + k).toNat))) = L2
      refine yi_G_iinc [(3, .inl (k + 1)), (0, .inr (.inr (some 82))), (1, .inl row), (2, .inl ot)] rfl rfl rfl (by rw [show yi_w (k + 1) = k + 1 from (yi_wn (by omega) (by omega)).trans (by omega)]; rfl) ?_
      refine yi_G_run 1 (2, [(3, .inl (k + 1)), (0, .inr (.inr (some 82))), (1, .inl row), (2, .inl ot)], [], (I, L2, X), 0, 0) (fun _ => rfl) ?_
      exact ih _ (by omega) (k + 1) L2 (by omega) (by omega) (by rw [← w3, hL]; exact ym_rw_s (by omega) (by omega) (by rw [ym_rw_o _ _ _ _ (by omega), ym_rw_o _ _ _ _ (by omega), show (512 * row + k).toNat = (512 * row + (k.toNat : Int)).toNat by omega, show (512 * ot + k).toNat = (512 * ot + (k.toNat : Int)).toNat by omega])) rfl
  show yi_G zi_Ms d zi_m66 (0, [(0, .inr (.inr (some 82))), (1, .inl row), (2, .inl ot)], [], (I, L, X), 0, 0) _
  refine yi_G_run 2 (2, [(3, .inl 0), (0, .inr (.inr (some 82))), (1, .inl row), (2, .inl ot)], [], (I, L, X), 0, 0) (fun _ => rfl) ?_
  exact pt2 _  0 L (by omega) (by omega) (by rw [ym_rw_0]) rfl
theorem c_sets (D : Nat) (hD : 1 ≤ D) {I L : Nat → Nat → Int} {X : ym_X} (hS : ym_S X) {row f : Int} (h0 : 0 ≤ row) (h1 : row ≤ 311) (h2 : 0 ≤ f) (h3 : f < 32768) : yi_E zi_Ms D 108 [.inr (.inr (some 82)), .inl row, .inl f] (I, L, X) (fun r => r = (none, (I, yi_u L 97 (512 * row + f / 64).toNat (yi_lor (L 97 (512 * row + f / 64).toNat) (yi_lshl 1 (f % 64))), X), 0, 0)) := by
  obtain ⟨d, rfl⟩ : ∃ d, D = d + 1 := ⟨D - 1, by omega⟩
  refine yi_E_of (M := zi_m108) rfl rfl ?_
  show yi_G zi_Ms d zi_m108 (0, [(0, .inr (.inr (some 82))), (1, .inl row), (2, .inl f)], [], (I, L, X), 0, 0) _
  refine yi_G_run 1 (1, [(0, .inr (.inr (some 82))), (1, .inl row), (2, .inl f)], [.inr (.inr (some 82))], (I, L, X), 0, 0) (fun _ => rfl) ?_
  refine yi_G_get (4, [(0, .inr (.inr (some 82))), (1, .inl row), (2, .inl f)], [.inr (.inr (some 97))], (I, L, X), 0, 0) rfl (ym_gr hS 14 rfl rfl rfl) ?_
  refine yi_G_run 2 (8, [(0, .inr (.inr (some 82))), (1, .inl row), (2, .inl f)], [.inl row, .inl 512, .inr (.inr (some 97))], (I, L, X), 0, 0) (fun _ => rfl) ?_
  refine yi_G_imul rfl (512 * row) (yi_wn (by omega) (by omega)) ?_
  refine yi_G_run 2 (12, [(0, .inr (.inr (some 82))), (1, .inl row), (2, .inl f)], [.inl 64, .inl f, .inl (512 * row), .inr (.inr (some 97))], (I, L, X), 0, 0) (fun _ => rfl) ?_
  refine yi_G_idiv rfl (by decide) (f / 64) (yi_dv (by omega) rfl (by omega) (by omega)) ?_
  refine yi_G_iadd rfl ((512 * row) + (f / 64)) (yi_wn (by omega) (by omega)) ?_
  refine yi_G_run 1 (15, [(0, .inr (.inr (some 82))), (1, .inl row), (2, .inl f)], [.inl ((512 * row) + (f / 64)), .inr (.inr (some 97)), .inl ((512 * row) + (f / 64)), .inr (.inr (some 97))], (I, L, X), 0, 0) (fun _ => rfl) ?_
  refine yi_G_lald (16, [(0, .inr (.inr (some 82))), (1, .inl row), (2, .inl f)], [.inr (.inl (L 97 (((512 * row) + (f / 64)).toNat))), .inl ((512 * row) + (f / 64)), .inr (.inr (some 97))], (I, L, X), 0, 0) rfl (ym_ll hS 14 rfl (by omega) (by omega) rfl) ?_
  refine yi_G_run 3 (20, [(0, .inr (.inr (some 82))), (1, .inl row), (2, .inl f)], [.inl 64, .inl f, .inr (.inl 1), .inr (.inl (L 97 (((512 * row) + (f / 64)).toNat))), .inl ((512 * row) + (f / 64)), .inr (.inr (some 97))], (I, L, X), 0, 0) (fun _ => rfl) ?_
  refine yi_G_irem rfl (by decide) (f % 64) (yi_md (by omega) rfl) ?_
  refine yi_G_run 2 (23, [(0, .inr (.inr (some 82))), (1, .inl row), (2, .inl f)], [.inr (.inl (yi_lor (L 97 (((512 * row) + (f / 64)).toNat)) (yi_lshl 1 (f % 64)))), .inl ((512 * row) + (f / 64)), .inr (.inr (some 97))], (I, L, X), 0, 0) (fun _ => rfl) ?_
  refine yi_G_last (24, [(0, .inr (.inr (some 82))), (1, .inl row), (2, .inl f)], [], (I, (yi_u L 97 (((512 * row) + (f / 64)).toNat) (yi_lor (L 97 (((512 * row) + (f / 64)).toNat)) (yi_lshl 1 (f % 64)))), X), 0, 0) rfl (ym_sl hS 14 rfl (by omega) (by omega)) ?_
  generalize w2 : yi_u L 97 (((512 * row) + (f / 64)).toNat) (yi_lor (L 97 (((512 * row) + (f / 64)).toNat)) (yi_lshl 1 (f % 64))) = L1
  exact yi_G_retv rfl rfl (by subst w2; rfl)
theorem c_isSet (D : Nat) (hD : 1 ≤ D) {I L : Nat → Nat → Int} {X : ym_X} (hS : ym_S X) {row f : Int} (h0 : 0 ≤ row) (h1 : row ≤ 311) (h2 : 0 ≤ f) (h3 : 512 * row + f / 64 < 159744) (h4 : f ≤ 100000000) : yi_E zi_Ms D 61 [.inr (.inr (some 82)), .inl row, .inl f] (I, L, X) (fun r => ((yi_land (yi_lshr (L 97 (512 * row + f / 64).toNat) (f % 64)) 1 = 1) ∧ r = (some (.inl 1), (I, L, X), 0, 0)) ∨ (¬ (yi_land (yi_lshr (L 97 (512 * row + f / 64).toNat) (f % 64)) 1 = 1) ∧ r = (some (.inl 0), (I, L, X), 0, 0))) := by
  obtain ⟨d, rfl⟩ : ∃ d, D = d + 1 := ⟨D - 1, by omega⟩
  refine yi_E_of (M := zi_m61) rfl rfl ?_
  show yi_G zi_Ms d zi_m61 (0, [(0, .inr (.inr (some 82))), (1, .inl row), (2, .inl f)], [], (I, L, X), 0, 0) _
  refine yi_G_run 1 (1, [(0, .inr (.inr (some 82))), (1, .inl row), (2, .inl f)], [.inr (.inr (some 82))], (I, L, X), 0, 0) (fun _ => rfl) ?_
  refine yi_G_get (4, [(0, .inr (.inr (some 82))), (1, .inl row), (2, .inl f)], [.inr (.inr (some 97))], (I, L, X), 0, 0) rfl (ym_gr hS 14 rfl rfl rfl) ?_
  refine yi_G_run 2 (8, [(0, .inr (.inr (some 82))), (1, .inl row), (2, .inl f)], [.inl row, .inl 512, .inr (.inr (some 97))], (I, L, X), 0, 0) (fun _ => rfl) ?_
  refine yi_G_imul rfl (512 * row) (yi_wn (by omega) (by omega)) ?_
  refine yi_G_run 2 (12, [(0, .inr (.inr (some 82))), (1, .inl row), (2, .inl f)], [.inl 64, .inl f, .inl (512 * row), .inr (.inr (some 97))], (I, L, X), 0, 0) (fun _ => rfl) ?_
  refine yi_G_idiv rfl (by decide) (f / 64) (yi_dv (by omega) rfl (by omega) (by omega)) ?_
  refine yi_G_iadd rfl ((512 * row) + (f / 64)) (yi_wn (by omega) (by omega)) ?_
  refine yi_G_lald (15, [(0, .inr (.inr (some 82))), (1, .inl row), (2, .inl f)], [.inr (.inl (L 97 (((512 * row) + (f / 64)).toNat)))], (I, L, X), 0, 0) rfl (ym_ll hS 14 rfl (by omega) (by omega) rfl) ?_
  refine yi_G_run 2 (18, [(0, .inr (.inr (some 82))), (1, .inl row), (2, .inl f)], [.inl 64, .inl f, .inr (.inl (L 97 (((512 * row) + (f / 64)).toNat)))], (I, L, X), 0, 0) (fun _ => rfl) ?_
  refine yi_G_irem rfl (by decide) (f % 64) (yi_md (by omega) rfl) ?_
  refine yi_G_run 5 (24, [(0, .inr (.inr (some 82))), (1, .inl row), (2, .inl f)], [.inl (yi_lcmp (yi_land (yi_lshr (L 97 (((512 * row) + (f / 64)).toNat)) (f % 64)) 1) 1)], (I, L, X), 0, 0) (fun _ => rfl) ?_
  by_cases h1 : ((yi_land (yi_lshr (L 97 (((512 * row) + (f / 64)).toNat)) (f % 64)) 1)) = 1
  · refine yi_G_if1 false rfl (yi_Lne_f h1) ?_
    refine yi_G_run 2 (32, [(0, .inr (.inr (some 82))), (1, .inl row), (2, .inl f)], [.inl 1], (I, L, X), 0, 0) (fun _ => rfl) ?_
    exact yi_G_retb rfl rfl (by decide) (Or.inl ⟨by assumption, rfl⟩)
  · refine yi_G_if1 true rfl (yi_Lne_t h1) ?_
    refine yi_G_run 1 (32, [(0, .inr (.inr (some 82))), (1, .inl row), (2, .inl f)], [.inl 0], (I, L, X), 0, 0) (fun _ => rfl) ?_
    exact yi_G_retb rfl rfl (by decide) (Or.inr ⟨by assumption, rfl⟩)
