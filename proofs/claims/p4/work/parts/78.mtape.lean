/-! The tape, what is read of it. -/
theorem c_lay (D : Nat) (hD : 1 ≤ D) {I L : Nat → Nat → Int} {X : ym_X} (hS : ym_S X) {v : Int} (t0 : 0 ≤ I 82 2 ∧ I 82 2 ≤ 1000) : yi_E zi_Ms D 73 [.inr (.inr (some 82)), .inr (.inl v)] (I, L, X) (fun r => ∃ I', r = (none, (I', L, X), 0, 0) ∧ (∀ p k, ¬ (p = 82 ∧ k = 2) ∧ p ≠ 83 → I' p k = I p k) ∧ I' 82 2 = ym_ly (fun k => yi_iand (yi_w (yi_lshr v k)) 255) (I 82 2) 8 ∧ (0 ≤ I' 82 2 ∧ I' 82 2 ≤ 1000)) := by
  obtain ⟨d, rfl⟩ : ∃ d, D = d + 1 := ⟨D - 1, by omega⟩
  refine yi_E_of (M := zi_m73) rfl rfl ?_
  show yi_G zi_Ms d zi_m73 (0, [(0, .inr (.inr (some 82))), (1, .inr (.inl v))], [], (I, L, X), 0, 0) _
  have pt3 : ∀ (m : Nat) (k : Int) (Ja : Nat → Nat → Int), (∀ p k, ¬ (p = 82 ∧ k = 2) ∧ p ≠ 83 → Ja p k = I p k) → (-8 ≤ k ∧ k ≤ 56 ∧ k % 8 = 0) → (Ja 82 2 = ym_ly (fun k => yi_iand (yi_w (yi_lshr v k)) 255) (I 82 2) ((56 - k) / 8).toNat) → (k + 8).toNat = m → yi_G zi_Ms d zi_m73 (3, [(0, .inr (.inr (some 82))), (1, .inr (.inl v)), (3, .inl k)], [], (Ja, L, X), 0, 0) (fun r => ∃ I', r = (none, (I', L, X), 0, 0) ∧ (∀ p k, ¬ (p = 82 ∧ k = 2) ∧ p ≠ 83 → I' p k = I p k) ∧ I' 82 2 = ym_ly (fun k => yi_iand (yi_w (yi_lshr v k)) 255) (I 82 2) 8 ∧ (0 ≤ I' 82 2 ∧ I' 82 2 ≤ 1000)) := by
    intro m3
    induction m3 using Nat.strongRecOn with
    | _ m3 ih3 =>
    intro k Ja fJa k0 hx hm3
    have tb := ym_ly_b (b := (fun k => yi_iand (yi_w (yi_lshr v k)) 255)) t0 ((56 - k) / 8).toNat
    rw [← hx] at tb
    refine yi_G_run 1 (4, [(0, .inr (.inr (some 82))), (1, .inr (.inl v)), (3, .inl k)], [.inl k], (Ja, L, X), 0, 0) (fun _ => rfl) ?_
    by_cases h1 : k < 0
    · refine yi_G_if1 true rfl (yi_lt_t h1) ?_
      exact yi_G_retv rfl rfl (⟨_, rfl, (fun p k hp => by rw [fJa p k (by omega)]), by rw [hx, show ((56 - k) / 8).toNat = 8 by omega], tb⟩)
    · refine yi_G_if1 false rfl (yi_lt_f h1) ?_
      refine yi_G_run 9 (21, [(4, .inl (yi_iand (yi_w (yi_lshr v k)) 255)), (0, .inr (.inr (some 82))), (1, .inr (.inl v)), (3, .inl k)], [.inl 10, .inl (yi_iand (yi_w (yi_lshr v k)) 255)], (Ja, L, X), 0, 0) (fun _ => rfl) ?_
      by_cases h2 : (yi_iand (yi_w (yi_lshr v k)) 255) = 10
      · refine yi_G_if2 true rfl (yi_eq_t h2) ?_
        refine yi_G_run 1 (39, [(4, .inl (yi_iand (yi_w (yi_lshr v k)) 255)), (0, .inr (.inr (some 82))), (1, .inr (.inl v)), (3, .inl k)], [.inr (.inr (some 82))], (Ja, L, X), 0, 0) (fun _ => rfl) ?_
        refine yi_G_get (42, [(4, .inl (yi_iand (yi_w (yi_lshr v k)) 255)), (0, .inr (.inr (some 82))), (1, .inr (.inl v)), (3, .inl k)], [.inl (Ja 82 2)], (Ja, L, X), 0, 0) rfl (ym_gi hS rfl rfl rfl) ?_
        refine yi_G_run 1 (45, [(4, .inl (yi_iand (yi_w (yi_lshr v k)) 255)), (0, .inr (.inr (some 82))), (1, .inr (.inl v)), (3, .inl k)], [.inl 1000, .inl (Ja 82 2)], (Ja, L, X), 0, 0) (fun _ => rfl) ?_
        by_cases h3 : 1000 ≤ (Ja 82 2)
        · refine yi_G_if2 true rfl (yi_ge_t h3) ?_
          refine yi_G_iinc [(3, .inl (k - 8)), (4, .inl (yi_iand (yi_w (yi_lshr v k)) 255)), (0, .inr (.inr (some 82))), (1, .inr (.inl v))] rfl rfl rfl (by rw [show yi_w (k + (-8)) = k - 8 from (yi_wn (by omega) (by omega)).trans (by omega)]; rfl) ?_
          refine yi_G_run 1 (3, [(3, .inl (k - 8)), (4, .inl (yi_iand (yi_w (yi_lshr v k)) 255)), (0, .inr (.inr (some 82))), (1, .inr (.inl v))], [], (Ja, L, X), 0, 0) (fun _ => rfl) ?_
          refine yi_G_al (al := [(0, .inr (.inr (some 82))), (1, .inr (.inl v)), (3, .inl (k - 8))]) (show ([0, 1, 3] : List Nat).Nodup by decide) (show ([3, 4, 0, 1] : List Nat).Nodup by decide) (yi_mc (List.mem_of_getElem? (i := 2) rfl) (yi_mc (List.mem_of_getElem? (i := 3) rfl) (yi_mc (List.mem_of_getElem? (i := 0) rfl) yi_mn))) ?_
          exact ih3 _ (by omega) (k - 8) Ja (fun p k hp => by rw [fJa p k (by omega)]) (by omega) (by have e := ym_ly_s (b := (fun k => yi_iand (yi_w (yi_lshr v k)) 255)) (t := I 82 2) (k := k) (x := Ja 82 2) (by omega) (by omega) (by omega) hx; rw [← e, if_neg (by omega)]) rfl
        · refine yi_G_if2 false rfl (yi_ge_f h3) ?_
          refine yi_G_run 1 (49, [(4, .inl (yi_iand (yi_w (yi_lshr v k)) 255)), (0, .inr (.inr (some 82))), (1, .inr (.inl v)), (3, .inl k)], [.inr (.inr (some 82))], (Ja, L, X), 0, 0) (fun _ => rfl) ?_
          refine yi_G_get (52, [(4, .inl (yi_iand (yi_w (yi_lshr v k)) 255)), (0, .inr (.inr (some 82))), (1, .inr (.inl v)), (3, .inl k)], [.inr (.inr (some 83))], (Ja, L, X), 0, 0) rfl (ym_gr hS 0 rfl rfl rfl) ?_
          refine yi_G_run 1 (53, [(4, .inl (yi_iand (yi_w (yi_lshr v k)) 255)), (0, .inr (.inr (some 82))), (1, .inr (.inl v)), (3, .inl k)], [.inr (.inr (some 82)), .inr (.inr (some 83))], (Ja, L, X), 0, 0) (fun _ => rfl) ?_
          refine yi_G_get (56, [(4, .inl (yi_iand (yi_w (yi_lshr v k)) 255)), (0, .inr (.inr (some 82))), (1, .inr (.inl v)), (3, .inl k)], [.inl (Ja 82 2), .inr (.inr (some 83))], (Ja, L, X), 0, 0) rfl (ym_gi hS rfl rfl rfl) ?_
          refine yi_G_run 1 (58, [(4, .inl (yi_iand (yi_w (yi_lshr v k)) 255)), (0, .inr (.inr (some 82))), (1, .inr (.inl v)), (3, .inl k)], [.inl (yi_iand (yi_w (yi_lshr v k)) 255), .inl (Ja 82 2), .inr (.inr (some 83))], (Ja, L, X), 0, 0) (fun _ => rfl) ?_
          refine yi_G_iast (59, [(4, .inl (yi_iand (yi_w (yi_lshr v k)) 255)), (0, .inr (.inr (some 82))), (1, .inr (.inl v)), (3, .inl k)], [], ((yi_u Ja 83 ((Ja 82 2).toNat) (yi_iand (yi_w (yi_lshr v k)) 255)), L, X), 0, 0) rfl (ym_si hS 0 rfl (by omega) (by omega)) ?_
          generalize w5 : yi_u Ja 83 ((Ja 82 2).toNat) (yi_iand (yi_w (yi_lshr v k)) 255) = I4
          refine yi_G_run 2 (61, [(4, .inl (yi_iand (yi_w (yi_lshr v k)) 255)), (0, .inr (.inr (some 82))), (1, .inr (.inl v)), (3, .inl k)], [.inr (.inr (some 82)), .inr (.inr (some 82))], (I4, L, X), 0, 0) (fun _ => rfl) ?_
          have r6 : I4 82 2 = Ja 82 2 := by rw [← w5, yi_u_ne _ _ (by omega)]
          refine yi_G_get (64, [(4, .inl (yi_iand (yi_w (yi_lshr v k)) 255)), (0, .inr (.inr (some 82))), (1, .inr (.inl v)), (3, .inl k)], [.inl (Ja 82 2), .inr (.inr (some 82))], (I4, L, X), 0, 0) rfl (ym_gi hS rfl rfl r6) ?_
          refine yi_G_run 1 (65, [(4, .inl (yi_iand (yi_w (yi_lshr v k)) 255)), (0, .inr (.inr (some 82))), (1, .inr (.inl v)), (3, .inl k)], [.inl 1, .inl (Ja 82 2), .inr (.inr (some 82))], (I4, L, X), 0, 0) (fun _ => rfl) ?_
          refine yi_G_iadd rfl ((Ja 82 2) + 1) (yi_wn (by omega) (by omega)) ?_
          refine yi_G_put (69, [(4, .inl (yi_iand (yi_w (yi_lshr v k)) 255)), (0, .inr (.inr (some 82))), (1, .inr (.inl v)), (3, .inl k)], [], ((yi_u I4 82 2 ((Ja 82 2) + 1)), L, X), 0, 0) rfl (ym_pi hS rfl rfl) ?_
          generalize w8 : yi_u I4 82 2 ((Ja 82 2) + 1) = I7
          refine yi_G_iinc [(3, .inl (k - 8)), (4, .inl (yi_iand (yi_w (yi_lshr v k)) 255)), (0, .inr (.inr (some 82))), (1, .inr (.inl v))] rfl rfl rfl (by rw [show yi_w (k + (-8)) = k - 8 from (yi_wn (by omega) (by omega)).trans (by omega)]; rfl) ?_
          refine yi_G_run 1 (3, [(3, .inl (k - 8)), (4, .inl (yi_iand (yi_w (yi_lshr v k)) 255)), (0, .inr (.inr (some 82))), (1, .inr (.inl v))], [], (I7, L, X), 0, 0) (fun _ => rfl) ?_
          refine yi_G_al (al := [(0, .inr (.inr (some 82))), (1, .inr (.inl v)), (3, .inl (k - 8))]) (show ([0, 1, 3] : List Nat).Nodup by decide) (show ([3, 4, 0, 1] : List Nat).Nodup by decide) (yi_mc (List.mem_of_getElem? (i := 2) rfl) (yi_mc (List.mem_of_getElem? (i := 3) rfl) (yi_mc (List.mem_of_getElem? (i := 0) rfl) yi_mn))) ?_
          have r9 : I7 82 2 = (Ja 82 2) + 1 := by rw [← w8, yi_u_eq]
          exact ih3 _ (by omega) (k - 8) I7 (fun p k hp => by rw [← w8, yi_u_ne _ _ (fun z => by omega), ← w5, yi_u_ne _ _ (fun z => by omega), fJa p k (by omega)]) (by omega) (by rw [r9]; have e := ym_ly_s (b := (fun k => yi_iand (yi_w (yi_lshr v k)) 255)) (t := I 82 2) (k := k) (x := Ja 82 2) (by omega) (by omega) (by omega) hx; rw [← e, if_pos (by omega)]) rfl
      · refine yi_G_if2 false rfl (yi_eq_f h2) ?_
        refine yi_G_run 2 (28, [(4, .inl (yi_iand (yi_w (yi_lshr v k)) 255)), (0, .inr (.inr (some 82))), (1, .inr (.inl v)), (3, .inl k)], [.inl 32, .inl (yi_iand (yi_w (yi_lshr v k)) 255)], (Ja, L, X), 0, 0) (fun _ => rfl) ?_
        by_cases h10 : (yi_iand (yi_w (yi_lshr v k)) 255) < 32
        · refine yi_G_if2 true rfl (yi_lt_t h10) ?_
          refine yi_G_iinc [(3, .inl (k - 8)), (4, .inl (yi_iand (yi_w (yi_lshr v k)) 255)), (0, .inr (.inr (some 82))), (1, .inr (.inl v))] rfl rfl rfl (by rw [show yi_w (k + (-8)) = k - 8 from (yi_wn (by omega) (by omega)).trans (by omega)]; rfl) ?_
          refine yi_G_run 1 (3, [(3, .inl (k - 8)), (4, .inl (yi_iand (yi_w (yi_lshr v k)) 255)), (0, .inr (.inr (some 82))), (1, .inr (.inl v))], [], (Ja, L, X), 0, 0) (fun _ => rfl) ?_
          refine yi_G_al (al := [(0, .inr (.inr (some 82))), (1, .inr (.inl v)), (3, .inl (k - 8))]) (show ([0, 1, 3] : List Nat).Nodup by decide) (show ([3, 4, 0, 1] : List Nat).Nodup by decide) (yi_mc (List.mem_of_getElem? (i := 2) rfl) (yi_mc (List.mem_of_getElem? (i := 3) rfl) (yi_mc (List.mem_of_getElem? (i := 0) rfl) yi_mn))) ?_
          exact ih3 _ (by omega) (k - 8) Ja (fun p k hp => by rw [fJa p k (by omega)]) (by omega) (by have e := ym_ly_s (b := (fun k => yi_iand (yi_w (yi_lshr v k)) 255)) (t := I 82 2) (k := k) (x := Ja 82 2) (by omega) (by omega) (by omega) hx; rw [← e, if_neg (by omega)]) rfl
        · refine yi_G_if2 false rfl (yi_lt_f h10) ?_
          refine yi_G_run 2 (35, [(4, .inl (yi_iand (yi_w (yi_lshr v k)) 255)), (0, .inr (.inr (some 82))), (1, .inr (.inl v)), (3, .inl k)], [.inl 126, .inl (yi_iand (yi_w (yi_lshr v k)) 255)], (Ja, L, X), 0, 0) (fun _ => rfl) ?_
          by_cases h11 : 126 < (yi_iand (yi_w (yi_lshr v k)) 255)
          · refine yi_G_if2 true rfl (yi_gt_t h11) ?_
            refine yi_G_iinc [(3, .inl (k - 8)), (4, .inl (yi_iand (yi_w (yi_lshr v k)) 255)), (0, .inr (.inr (some 82))), (1, .inr (.inl v))] rfl rfl rfl (by rw [show yi_w (k + (-8)) = k - 8 from (yi_wn (by omega) (by omega)).trans (by omega)]; rfl) ?_
            refine yi_G_run 1 (3, [(3, .inl (k - 8)), (4, .inl (yi_iand (yi_w (yi_lshr v k)) 255)), (0, .inr (.inr (some 82))), (1, .inr (.inl v))], [], (Ja, L, X), 0, 0) (fun _ => rfl) ?_
            refine yi_G_al (al := [(0, .inr (.inr (some 82))), (1, .inr (.inl v)), (3, .inl (k - 8))]) (show ([0, 1, 3] : List Nat).Nodup by decide) (show ([3, 4, 0, 1] : List Nat).Nodup by decide) (yi_mc (List.mem_of_getElem? (i := 2) rfl) (yi_mc (List.mem_of_getElem? (i := 3) rfl) (yi_mc (List.mem_of_getElem? (i := 0) rfl) yi_mn))) ?_
            exact ih3 _ (by omega) (k - 8) Ja (fun p k hp => by rw [fJa p k (by omega)]) (by omega) (by have e := ym_ly_s (b := (fun k => yi_iand (yi_w (yi_lshr v k)) 255)) (t := I 82 2) (k := k) (x := Ja 82 2) (by omega) (by omega) (by omega) hx; rw [← e, if_neg (by omega)]) rfl
          · refine yi_G_if2 false rfl (yi_gt_f h11) ?_
            refine yi_G_run 1 (39, [(4, .inl (yi_iand (yi_w (yi_lshr v k)) 255)), (0, .inr (.inr (some 82))), (1, .inr (.inl v)), (3, .inl k)], [.inr (.inr (some 82))], (Ja, L, X), 0, 0) (fun _ => rfl) ?_
            refine yi_G_get (42, [(4, .inl (yi_iand (yi_w (yi_lshr v k)) 255)), (0, .inr (.inr (some 82))), (1, .inr (.inl v)), (3, .inl k)], [.inl (Ja 82 2)], (Ja, L, X), 0, 0) rfl (ym_gi hS rfl rfl rfl) ?_
            refine yi_G_run 1 (45, [(4, .inl (yi_iand (yi_w (yi_lshr v k)) 255)), (0, .inr (.inr (some 82))), (1, .inr (.inl v)), (3, .inl k)], [.inl 1000, .inl (Ja 82 2)], (Ja, L, X), 0, 0) (fun _ => rfl) ?_
            by_cases h12 : 1000 ≤ (Ja 82 2)
            · refine yi_G_if2 true rfl (yi_ge_t h12) ?_
              refine yi_G_iinc [(3, .inl (k - 8)), (4, .inl (yi_iand (yi_w (yi_lshr v k)) 255)), (0, .inr (.inr (some 82))), (1, .inr (.inl v))] rfl rfl rfl (by rw [show yi_w (k + (-8)) = k - 8 from (yi_wn (by omega) (by omega)).trans (by omega)]; rfl) ?_
              refine yi_G_run 1 (3, [(3, .inl (k - 8)), (4, .inl (yi_iand (yi_w (yi_lshr v k)) 255)), (0, .inr (.inr (some 82))), (1, .inr (.inl v))], [], (Ja, L, X), 0, 0) (fun _ => rfl) ?_
              refine yi_G_al (al := [(0, .inr (.inr (some 82))), (1, .inr (.inl v)), (3, .inl (k - 8))]) (show ([0, 1, 3] : List Nat).Nodup by decide) (show ([3, 4, 0, 1] : List Nat).Nodup by decide) (yi_mc (List.mem_of_getElem? (i := 2) rfl) (yi_mc (List.mem_of_getElem? (i := 3) rfl) (yi_mc (List.mem_of_getElem? (i := 0) rfl) yi_mn))) ?_
              exact ih3 _ (by omega) (k - 8) Ja (fun p k hp => by rw [fJa p k (by omega)]) (by omega) (by have e := ym_ly_s (b := (fun k => yi_iand (yi_w (yi_lshr v k)) 255)) (t := I 82 2) (k := k) (x := Ja 82 2) (by omega) (by omega) (by omega) hx; rw [← e, if_neg (by omega)]) rfl
            · refine yi_G_if2 false rfl (yi_ge_f h12) ?_
              refine yi_G_run 1 (49, [(4, .inl (yi_iand (yi_w (yi_lshr v k)) 255)), (0, .inr (.inr (some 82))), (1, .inr (.inl v)), (3, .inl k)], [.inr (.inr (some 82))], (Ja, L, X), 0, 0) (fun _ => rfl) ?_
              refine yi_G_get (52, [(4, .inl (yi_iand (yi_w (yi_lshr v k)) 255)), (0, .inr (.inr (some 82))), (1, .inr (.inl v)), (3, .inl k)], [.inr (.inr (some 83))], (Ja, L, X), 0, 0) rfl (ym_gr hS 0 rfl rfl rfl) ?_
              refine yi_G_run 1 (53, [(4, .inl (yi_iand (yi_w (yi_lshr v k)) 255)), (0, .inr (.inr (some 82))), (1, .inr (.inl v)), (3, .inl k)], [.inr (.inr (some 82)), .inr (.inr (some 83))], (Ja, L, X), 0, 0) (fun _ => rfl) ?_
              refine yi_G_get (56, [(4, .inl (yi_iand (yi_w (yi_lshr v k)) 255)), (0, .inr (.inr (some 82))), (1, .inr (.inl v)), (3, .inl k)], [.inl (Ja 82 2), .inr (.inr (some 83))], (Ja, L, X), 0, 0) rfl (ym_gi hS rfl rfl rfl) ?_
              refine yi_G_run 1 (58, [(4, .inl (yi_iand (yi_w (yi_lshr v k)) 255)), (0, .inr (.inr (some 82))), (1, .inr (.inl v)), (3, .inl k)], [.inl (yi_iand (yi_w (yi_lshr v k)) 255), .inl (Ja 82 2), .inr (.inr (some 83))], (Ja, L, X), 0, 0) (fun _ => rfl) ?_
              refine yi_G_iast (59, [(4, .inl (yi_iand (yi_w (yi_lshr v k)) 255)), (0, .inr (.inr (some 82))), (1, .inr (.inl v)), (3, .inl k)], [], ((yi_u Ja 83 ((Ja 82 2).toNat) (yi_iand (yi_w (yi_lshr v k)) 255)), L, X), 0, 0) rfl (ym_si hS 0 rfl (by omega) (by omega)) ?_
              generalize w14 : yi_u Ja 83 ((Ja 82 2).toNat) (yi_iand (yi_w (yi_lshr v k)) 255) = I13
              refine yi_G_run 2 (61, [(4, .inl (yi_iand (yi_w (yi_lshr v k)) 255)), (0, .inr (.inr (some 82))), (1, .inr (.inl v)), (3, .inl k)], [.inr (.inr (some 82)), .inr (.inr (some 82))], (I13, L, X), 0, 0) (fun _ => rfl) ?_
              have r15 : I13 82 2 = Ja 82 2 := by rw [← w14, yi_u_ne _ _ (by omega)]
              refine yi_G_get (64, [(4, .inl (yi_iand (yi_w (yi_lshr v k)) 255)), (0, .inr (.inr (some 82))), (1, .inr (.inl v)), (3, .inl k)], [.inl (Ja 82 2), .inr (.inr (some 82))], (I13, L, X), 0, 0) rfl (ym_gi hS rfl rfl r15) ?_
              refine yi_G_run 1 (65, [(4, .inl (yi_iand (yi_w (yi_lshr v k)) 255)), (0, .inr (.inr (some 82))), (1, .inr (.inl v)), (3, .inl k)], [.inl 1, .inl (Ja 82 2), .inr (.inr (some 82))], (I13, L, X), 0, 0) (fun _ => rfl) ?_
              refine yi_G_iadd rfl ((Ja 82 2) + 1) (yi_wn (by omega) (by omega)) ?_
              refine yi_G_put (69, [(4, .inl (yi_iand (yi_w (yi_lshr v k)) 255)), (0, .inr (.inr (some 82))), (1, .inr (.inl v)), (3, .inl k)], [], ((yi_u I13 82 2 ((Ja 82 2) + 1)), L, X), 0, 0) rfl (ym_pi hS rfl rfl) ?_
              generalize w17 : yi_u I13 82 2 ((Ja 82 2) + 1) = I16
              refine yi_G_iinc [(3, .inl (k - 8)), (4, .inl (yi_iand (yi_w (yi_lshr v k)) 255)), (0, .inr (.inr (some 82))), (1, .inr (.inl v))] rfl rfl rfl (by rw [show yi_w (k + (-8)) = k - 8 from (yi_wn (by omega) (by omega)).trans (by omega)]; rfl) ?_
              refine yi_G_run 1 (3, [(3, .inl (k - 8)), (4, .inl (yi_iand (yi_w (yi_lshr v k)) 255)), (0, .inr (.inr (some 82))), (1, .inr (.inl v))], [], (I16, L, X), 0, 0) (fun _ => rfl) ?_
              refine yi_G_al (al := [(0, .inr (.inr (some 82))), (1, .inr (.inl v)), (3, .inl (k - 8))]) (show ([0, 1, 3] : List Nat).Nodup by decide) (show ([3, 4, 0, 1] : List Nat).Nodup by decide) (yi_mc (List.mem_of_getElem? (i := 2) rfl) (yi_mc (List.mem_of_getElem? (i := 3) rfl) (yi_mc (List.mem_of_getElem? (i := 0) rfl) yi_mn))) ?_
              have r18 : I16 82 2 = (Ja 82 2) + 1 := by rw [← w17, yi_u_eq]
              exact ih3 _ (by omega) (k - 8) I16 (fun p k hp => by rw [← w17, yi_u_ne _ _ (fun z => by omega), ← w14, yi_u_ne _ _ (fun z => by omega), fJa p k (by omega)]) (by omega) (by rw [r18]; have e := ym_ly_s (b := (fun k => yi_iand (yi_w (yi_lshr v k)) 255)) (t := I 82 2) (k := k) (x := Ja 82 2) (by omega) (by omega) (by omega) hx; rw [← e, if_pos (by omega)]) rfl
  refine yi_G_run 2 (3, [(3, .inl 56), (0, .inr (.inr (some 82))), (1, .inr (.inl v))], [], (I, L, X), 0, 0) (fun _ => rfl) ?_
  refine yi_G_al (al := [(0, .inr (.inr (some 82))), (1, .inr (.inl v)), (3, .inl 56)]) (show ([0, 1, 3] : List Nat).Nodup by decide) (show ([3, 0, 1] : List Nat).Nodup by decide) (yi_mc (List.mem_of_getElem? (i := 1) rfl) (yi_mc (List.mem_of_getElem? (i := 2) rfl) (yi_mc (List.mem_of_getElem? (i := 0) rfl) yi_mn))) ?_
  exact pt3 _ 56 I (fun _ _ _ => rfl) (by omega) rfl rfl
theorem c_feed (D : Nat) (hD : 2 ≤ D) {I L : Nat → Nat → Int} {X : ym_X} (hS : ym_S X) {va vb vc : Int} (t0 : 0 ≤ I 82 2 ∧ I 82 2 ≤ 1000) : yi_E zi_Ms D 25 [.inr (.inr (some 82)), .inr (.inl va), .inr (.inl vb), .inr (.inl vc)] (I, L, X) (fun r => ∃ I', r = (some (.inl (I' 82 2)), (I', L, X), 0, 0) ∧ (∀ p k, ¬ (p = 82 ∧ k = 0) ∧ ¬ (p = 82 ∧ k = 2) ∧ p ≠ 83 → I' p k = I p k) ∧ I' 82 2 = ym_ly (fun k => yi_iand (yi_w (yi_lshr vc k)) 255) (ym_ly (fun k => yi_iand (yi_w (yi_lshr vb k)) 255) (ym_ly (fun k => yi_iand (yi_w (yi_lshr va k)) 255) (I 82 2) 8) 8) 8 ∧ (0 ≤ I' 82 2 ∧ I' 82 2 ≤ 1000)) := by
  obtain ⟨d, rfl⟩ : ∃ d, D = d + 1 := ⟨D - 1, by omega⟩
  refine yi_E_of (M := zi_m25) rfl rfl ?_
  show yi_G zi_Ms d zi_m25 (0, [(0, .inr (.inr (some 82))), (1, .inr (.inl va)), (3, .inr (.inl vb)), (5, .inr (.inl vc))], [], (I, L, X), 0, 0) _
  refine yi_G_run 2 (2, [(0, .inr (.inr (some 82))), (1, .inr (.inl va)), (3, .inr (.inl vb)), (5, .inr (.inl vc))], [.inl 0, .inr (.inr (some 82))], (I, L, X), 0, 0) (fun _ => rfl) ?_
  refine yi_G_put (5, [(0, .inr (.inr (some 82))), (1, .inr (.inl va)), (3, .inr (.inl vb)), (5, .inr (.inl vc))], [], ((yi_u I 82 0 0), L, X), 0, 0) rfl (ym_pi hS rfl rfl) ?_
  generalize w2 : yi_u I 82 0 0 = I1
  refine yi_G_run 2 (7, [(0, .inr (.inr (some 82))), (1, .inr (.inl va)), (3, .inr (.inl vb)), (5, .inr (.inl vc))], [.inr (.inl va), .inr (.inr (some 82))], (I1, L, X), 0, 0) (fun _ => rfl) ?_
  have r3 : I1 82 2 = I 82 2 := by rw [← w2, yi_u_ne _ _ (by omega)]
  refine yi_G_callv rfl rfl (ym_rcv hS) rfl (c_lay d (by omega) hS ⟨by omega, by omega⟩) ?_
  rintro _ ⟨I4, rfl, f5, eI4, bI4⟩
  show yi_G zi_Ms d zi_m25 (10, [(0, .inr (.inr (some 82))), (1, .inr (.inl va)), (3, .inr (.inl vb)), (5, .inr (.inl vc))], [], (I4, L, X), 0, 0) _
  refine yi_G_run 2 (12, [(0, .inr (.inr (some 82))), (1, .inr (.inl va)), (3, .inr (.inl vb)), (5, .inr (.inl vc))], [.inr (.inl vb), .inr (.inr (some 82))], (I4, L, X), 0, 0) (fun _ => rfl) ?_
  refine yi_G_callv rfl rfl (ym_rcv hS) rfl (c_lay d (by omega) hS ⟨by omega, by omega⟩) ?_
  rintro _ ⟨I6, rfl, f7, eI6, bI6⟩
  show yi_G zi_Ms d zi_m25 (15, [(0, .inr (.inr (some 82))), (1, .inr (.inl va)), (3, .inr (.inl vb)), (5, .inr (.inl vc))], [], (I6, L, X), 0, 0) _
  refine yi_G_run 2 (18, [(0, .inr (.inr (some 82))), (1, .inr (.inl va)), (3, .inr (.inl vb)), (5, .inr (.inl vc))], [.inr (.inl vc), .inr (.inr (some 82))], (I6, L, X), 0, 0) (fun _ => rfl) ?_
  refine yi_G_callv rfl rfl (ym_rcv hS) rfl (c_lay d (by omega) hS ⟨by omega, by omega⟩) ?_
  rintro _ ⟨I8, rfl, f9, eI8, bI8⟩
  show yi_G zi_Ms d zi_m25 (21, [(0, .inr (.inr (some 82))), (1, .inr (.inl va)), (3, .inr (.inl vb)), (5, .inr (.inl vc))], [], (I8, L, X), 0, 0) _
  refine yi_G_run 1 (22, [(0, .inr (.inr (some 82))), (1, .inr (.inl va)), (3, .inr (.inl vb)), (5, .inr (.inl vc))], [.inr (.inr (some 82))], (I8, L, X), 0, 0) (fun _ => rfl) ?_
  refine yi_G_get (25, [(0, .inr (.inr (some 82))), (1, .inr (.inl va)), (3, .inr (.inl vb)), (5, .inr (.inl vc))], [.inl (I8 82 2)], (I8, L, X), 0, 0) rfl (ym_gi hS rfl rfl rfl) ?_
  have r10 : I1 82 2 = I 82 2 := by rw [← w2, yi_u_ne _ _ (by omega)]
  exact yi_G_reti rfl rfl (⟨_, rfl, (fun p k hp => by rw [f9 p k (by omega), f7 p k (by omega), f5 p k (by omega), ← w2, yi_u_ne _ _ (fun z => by omega)]), by rw [eI8, eI6, eI4, r10], bI8⟩)
theorem c_cutAll (D : Nat) (hD : 3 ≤ D) {I L : Nat → Nat → Int} {X : ym_X} (hS : ym_S X) (t0 : 0 ≤ I 82 2 ∧ I 82 2 ≤ 1000) : yi_E zi_Ms D 16 [.inr (.inr (some 82))] (I, L, X) (fun r => ∃ I' L' te, r = (none, (I', L', X), 0, 0) ∧ (∀ p k, ¬ (p = 82 ∧ k = 2) ∧ ¬ (p = 82 ∧ k = 3) ∧ ¬ (p = 82 ∧ k = 7) ∧ ¬ (p = 82 ∧ k = 8) ∧ p ≠ 84 ∧ p ≠ 85 → I' p k = I p k) ∧ (∀ p k, p ≠ 86 → L' p k = L p k) ∧ ym_TK I' te ∧ I' 82 2 = 0 ∧ I' 82 7 = 0 ∧ I' 82 8 = 0) := by
  obtain ⟨d, rfl⟩ : ∃ d, D = d + 1 := ⟨D - 1, by omega⟩
  refine yi_E_of (M := zi_m16) rfl rfl ?_
  show yi_G zi_Ms d zi_m16 (0, [(0, .inr (.inr (some 82)))], [], (I, L, X), 0, 0) _
  refine yi_G_run 2 (2, [(0, .inr (.inr (some 82)))], [.inr (.inr (some 82)), .inr (.inr (some 82))], (I, L, X), 0, 0) (fun _ => rfl) ?_
  refine yi_G_get (5, [(0, .inr (.inr (some 82)))], [.inl (I 82 2), .inr (.inr (some 82))], (I, L, X), 0, 0) rfl (ym_gi hS rfl rfl rfl) ?_
  refine yi_G_put (8, [(0, .inr (.inr (some 82)))], [], ((yi_u I 82 3 (I 82 2)), L, X), 0, 0) rfl (ym_pi hS rfl rfl) ?_
  generalize w2 : yi_u I 82 3 (I 82 2) = I1
  refine yi_G_run 2 (10, [(0, .inr (.inr (some 82)))], [.inl 0, .inr (.inr (some 82))], (I1, L, X), 0, 0) (fun _ => rfl) ?_
  refine yi_G_put (13, [(0, .inr (.inr (some 82)))], [], ((yi_u I1 82 2 0), L, X), 0, 0) rfl (ym_pi hS rfl rfl) ?_
  generalize w4 : yi_u I1 82 2 0 = I3
  have pt17 : ∀ (m : Nat) (nn : Int) (k : Int) (Ja : Nat → Nat → Int) (Ka : Nat → Nat → Int), (∀ p k, p ≠ 84 ∧ p ≠ 85 → Ja p k = I3 p k) → (∀ p k, p ≠ 86 → Ka p k = L p k) → (0 ≤ nn ∧ nn ≤ k) → (k ≤ I 82 2) → (∀ j : Int, 0 ≤ j → j < nn → 0 ≤ Ja 85 j.toNat ∧ Ja 85 j.toNat ≤ 1000) → (I 82 2 - k).toNat = m → yi_G zi_Ms d zi_m16 (17, [(0, .inr (.inr (some 82))), (1, .inl nn), (2, .inl k)], [], (Ja, Ka, X), 0, 0) (fun r => ∃ I' L' te, r = (none, (I', L', X), 0, 0) ∧ (∀ p k, ¬ (p = 82 ∧ k = 2) ∧ ¬ (p = 82 ∧ k = 3) ∧ ¬ (p = 82 ∧ k = 7) ∧ ¬ (p = 82 ∧ k = 8) ∧ p ≠ 84 ∧ p ≠ 85 → I' p k = I p k) ∧ (∀ p k, p ≠ 86 → L' p k = L p k) ∧ ym_TK I' te ∧ I' 82 2 = 0 ∧ I' 82 7 = 0 ∧ I' 82 8 = 0) := by
    intro m17
    induction m17 using Nat.strongRecOn with
    | _ m17 ih17 =>
    intro nn k Ja Ka fJa fKa n0 k0 hp hm17
    refine yi_G_run 2 (19, [(0, .inr (.inr (some 82))), (1, .inl nn), (2, .inl k)], [.inr (.inr (some 82)), .inl k], (Ja, Ka, X), 0, 0) (fun _ => rfl) ?_
    have r5 : Ja 82 3 = I 82 2 := by rw [fJa 82 (3) (by omega), ← w4, yi_u_ne _ _ (by omega), ← w2, yi_u_eq]
    refine yi_G_get (22, [(0, .inr (.inr (some 82))), (1, .inl nn), (2, .inl k)], [.inl (I 82 2), .inl k], (Ja, Ka, X), 0, 0) rfl (ym_gi hS rfl rfl r5) ?_
    by_cases h6 : (I 82 2) ≤ k
    · refine yi_G_if2 true rfl (yi_ge_t h6) ?_
      refine yi_G_run 1 (280, [(0, .inr (.inr (some 82))), (1, .inl nn), (2, .inl k)], [.inr (.inr (some 82))], (Ja, Ka, X), 0, 0) (fun _ => rfl) ?_
      refine yi_G_get (283, [(0, .inr (.inr (some 82))), (1, .inl nn), (2, .inl k)], [.inr (.inr (some 84))], (Ja, Ka, X), 0, 0) rfl (ym_gr hS 1 rfl rfl rfl) ?_
      refine yi_G_run 2 (285, [(0, .inr (.inr (some 82))), (1, .inl nn), (2, .inl k)], [.inl 0, .inl nn, .inr (.inr (some 84))], (Ja, Ka, X), 0, 0) (fun _ => rfl) ?_
      refine yi_G_iast (286, [(0, .inr (.inr (some 82))), (1, .inl nn), (2, .inl k)], [], ((yi_u Ja 84 (nn.toNat) 0), Ka, X), 0, 0) rfl (ym_si hS 1 rfl (by omega) (by omega)) ?_
      generalize w8 : yi_u Ja 84 (nn.toNat) 0 = I7
      refine yi_G_run 1 (287, [(0, .inr (.inr (some 82))), (1, .inl nn), (2, .inl k)], [.inr (.inr (some 82))], (I7, Ka, X), 0, 0) (fun _ => rfl) ?_
      refine yi_G_get (290, [(0, .inr (.inr (some 82))), (1, .inl nn), (2, .inl k)], [.inr (.inr (some 85))], (I7, Ka, X), 0, 0) rfl (ym_gr hS 2 rfl rfl rfl) ?_
      refine yi_G_run 2 (292, [(0, .inr (.inr (some 82))), (1, .inl nn), (2, .inl k)], [.inr (.inr (some 82)), .inl nn, .inr (.inr (some 85))], (I7, Ka, X), 0, 0) (fun _ => rfl) ?_
      have r9 : I7 82 3 = I 82 2 := by rw [← w8, yi_u_ne _ _ (by omega), fJa 82 (3) (by omega), ← w4, yi_u_ne _ _ (by omega), ← w2, yi_u_eq]
      refine yi_G_get (295, [(0, .inr (.inr (some 82))), (1, .inl nn), (2, .inl k)], [.inl (I 82 2), .inl nn, .inr (.inr (some 85))], (I7, Ka, X), 0, 0) rfl (ym_gi hS rfl rfl r9) ?_
      refine yi_G_iast (296, [(0, .inr (.inr (some 82))), (1, .inl nn), (2, .inl k)], [], ((yi_u I7 85 (nn.toNat) (I 82 2)), Ka, X), 0, 0) rfl (ym_si hS 2 rfl (by omega) (by omega)) ?_
      generalize w11 : yi_u I7 85 (nn.toNat) (I 82 2) = I10
      refine yi_G_run 2 (298, [(0, .inr (.inr (some 82))), (1, .inl nn), (2, .inl k)], [.inl 0, .inr (.inr (some 82))], (I10, Ka, X), 0, 0) (fun _ => rfl) ?_
      refine yi_G_put (301, [(0, .inr (.inr (some 82))), (1, .inl nn), (2, .inl k)], [], ((yi_u I10 82 7 0), Ka, X), 0, 0) rfl (ym_pi hS rfl rfl) ?_
      generalize w13 : yi_u I10 82 7 0 = I12
      refine yi_G_run 2 (303, [(0, .inr (.inr (some 82))), (1, .inl nn), (2, .inl k)], [.inl 0, .inr (.inr (some 82))], (I12, Ka, X), 0, 0) (fun _ => rfl) ?_
      refine yi_G_put (306, [(0, .inr (.inr (some 82))), (1, .inl nn), (2, .inl k)], [], ((yi_u I12 82 8 0), Ka, X), 0, 0) rfl (ym_pi hS rfl rfl) ?_
      generalize w15 : yi_u I12 82 8 0 = I14
      have r16 : I14 82 2 = 0 := by rw [← w15, yi_u_ne _ _ (by omega), ← w13, yi_u_ne _ _ (by omega), ← w11, yi_u_ne _ _ (by omega), ← w8, yi_u_ne _ _ (by omega), fJa 82 (2) (by omega), ← w4, yi_u_eq]
      have r17 : I14 82 7 = 0 := by rw [← w15, yi_u_ne _ _ (by omega), ← w13, yi_u_eq]
      have r18 : I14 82 8 = 0 := by rw [← w15, yi_u_eq]
      exact yi_G_retv rfl rfl (⟨_, _, nn, rfl, (fun p k hp => by rw [← w15, yi_u_ne _ _ (fun z => by omega), ← w13, yi_u_ne _ _ (fun z => by omega), ← w11, yi_u_ne _ _ (fun z => by omega), ← w8, yi_u_ne _ _ (fun z => by omega), fJa p k (by omega), ← w4, yi_u_ne _ _ (fun z => by omega), ← w2, yi_u_ne _ _ (fun z => by omega)]), (fun p k hp => by rw [fKa p k (by omega)]), ⟨⟨by omega, by omega⟩, by rw [← w15, yi_u_ne _ _ (by omega), ← w13, yi_u_ne _ _ (by omega), ← w11, yi_u_ne _ _ (by omega), ← w8, yi_u_eq], fun j a b => by
          rw [← w15, yi_u_ne _ _ (by omega), ← w13, yi_u_ne _ _ (by omega), ← w11]
          by_cases e : j = nn
          · subst e; rw [yi_u_eq]; omega
          · rw [yi_u_ne _ _ (by omega), ← w8, yi_u_ne _ _ (by omega)]; exact hp j a (by omega)⟩, by omega, by omega, by omega⟩)
    · refine yi_G_if2 false rfl (yi_ge_f h6) ?_
      refine yi_G_run 1 (26, [(0, .inr (.inr (some 82))), (1, .inl nn), (2, .inl k)], [.inr (.inr (some 82))], (Ja, Ka, X), 0, 0) (fun _ => rfl) ?_
      refine yi_G_get (29, [(0, .inr (.inr (some 82))), (1, .inl nn), (2, .inl k)], [.inr (.inr (some 83))], (Ja, Ka, X), 0, 0) rfl (ym_gr hS 0 rfl rfl rfl) ?_
      refine yi_G_run 1 (30, [(0, .inr (.inr (some 82))), (1, .inl nn), (2, .inl k)], [.inl k, .inr (.inr (some 83))], (Ja, Ka, X), 0, 0) (fun _ => rfl) ?_
      have r19 : Ja 83 (k.toNat) = I 83 (k.toNat) := by rw [fJa 83 (k.toNat) (by omega), ← w4, yi_u_ne _ _ (by omega), ← w2, yi_u_ne _ _ (by omega)]
      refine yi_G_iald (31, [(0, .inr (.inr (some 82))), (1, .inl nn), (2, .inl k)], [.inl (I 83 (k.toNat))], (Ja, Ka, X), 0, 0) rfl (ym_li hS 0 rfl (by omega) (by omega) r19) ?_
      refine yi_G_run 3 (35, [(3, .inl (I 83 (k.toNat))), (0, .inr (.inr (some 82))), (1, .inl nn), (2, .inl k)], [.inl 10, .inl (I 83 (k.toNat))], (Ja, Ka, X), 0, 0) (fun _ => rfl) ?_
      by_cases h20 : (I 83 (k.toNat)) = 10
      · refine yi_G_if2 true rfl (yi_eq_t h20) ?_
        refine yi_G_iinc [(2, .inl (k + 1)), (3, .inl (I 83 (k.toNat))), (0, .inr (.inr (some 82))), (1, .inl nn)] rfl rfl rfl (by rw [show yi_w (k + 1) = k + 1 from (yi_wn (by omega) (by omega)).trans (by omega)]; rfl) ?_
        refine yi_G_run 1 (17, [(2, .inl (k + 1)), (3, .inl (I 83 (k.toNat))), (0, .inr (.inr (some 82))), (1, .inl nn)], [], (Ja, Ka, X), 0, 0) (fun _ => rfl) ?_
        refine yi_G_al (al := [(0, .inr (.inr (some 82))), (1, .inl nn), (2, .inl (k + 1))]) (show ([0, 1, 2] : List Nat).Nodup by decide) (show ([2, 3, 0, 1] : List Nat).Nodup by decide) (yi_mc (List.mem_of_getElem? (i := 2) rfl) (yi_mc (List.mem_of_getElem? (i := 3) rfl) (yi_mc (List.mem_of_getElem? (i := 0) rfl) yi_mn))) ?_
        exact ih17 _ (by omega) nn (k + 1) Ja Ka (fun p k hp => by rw [fJa p k (by omega)]) (fun p k hp => by rw [fKa p k (by omega)]) (by omega) (by omega) hp rfl
      · refine yi_G_if2 false rfl (yi_eq_f h20) ?_
        refine yi_G_run 2 (41, [(3, .inl (I 83 (k.toNat))), (0, .inr (.inr (some 82))), (1, .inl nn), (2, .inl k)], [.inl 32, .inl (I 83 (k.toNat))], (Ja, Ka, X), 0, 0) (fun _ => rfl) ?_
        by_cases h21 : (I 83 (k.toNat)) = 32
        · refine yi_G_if2 false rfl (yi_ne_f h21) ?_
          refine yi_G_iinc [(2, .inl (k + 1)), (3, .inl (I 83 (k.toNat))), (0, .inr (.inr (some 82))), (1, .inl nn)] rfl rfl rfl (by rw [show yi_w (k + 1) = k + 1 from (yi_wn (by omega) (by omega)).trans (by omega)]; rfl) ?_
          refine yi_G_run 1 (17, [(2, .inl (k + 1)), (3, .inl (I 83 (k.toNat))), (0, .inr (.inr (some 82))), (1, .inl nn)], [], (Ja, Ka, X), 0, 0) (fun _ => rfl) ?_
          refine yi_G_al (al := [(0, .inr (.inr (some 82))), (1, .inl nn), (2, .inl (k + 1))]) (show ([0, 1, 2] : List Nat).Nodup by decide) (show ([2, 3, 0, 1] : List Nat).Nodup by decide) (yi_mc (List.mem_of_getElem? (i := 2) rfl) (yi_mc (List.mem_of_getElem? (i := 3) rfl) (yi_mc (List.mem_of_getElem? (i := 0) rfl) yi_mn))) ?_
          exact ih17 _ (by omega) nn (k + 1) Ja Ka (fun p k hp => by rw [fJa p k (by omega)]) (fun p k hp => by rw [fKa p k (by omega)]) (by omega) (by omega) hp rfl
        · refine yi_G_if2 true rfl (yi_ne_t h21) ?_
          refine yi_G_run 5 (57, [(5, .inr (.inl 0)), (4, .inl k), (3, .inl (I 83 (k.toNat))), (0, .inr (.inr (some 82))), (1, .inl nn), (2, .inl k)], [.inr (.inr (some 82))], (Ja, Ka, X), 0, 0) (fun _ => rfl) ?_
          refine yi_G_get (60, [(5, .inr (.inl 0)), (4, .inl k), (3, .inl (I 83 (k.toNat))), (0, .inr (.inr (some 82))), (1, .inl nn), (2, .inl k)], [.inr (.inr (some 85))], (Ja, Ka, X), 0, 0) rfl (ym_gr hS 2 rfl rfl rfl) ?_
          refine yi_G_run 2 (62, [(5, .inr (.inl 0)), (4, .inl k), (3, .inl (I 83 (k.toNat))), (0, .inr (.inr (some 82))), (1, .inl nn), (2, .inl k)], [.inl k, .inl nn, .inr (.inr (some 85))], (Ja, Ka, X), 0, 0) (fun _ => rfl) ?_
          refine yi_G_iast (63, [(5, .inr (.inl 0)), (4, .inl k), (3, .inl (I 83 (k.toNat))), (0, .inr (.inr (some 82))), (1, .inl nn), (2, .inl k)], [], ((yi_u Ja 85 (nn.toNat) k), Ka, X), 0, 0) rfl (ym_si hS 2 rfl (by omega) (by omega)) ?_
          generalize w23 : yi_u Ja 85 (nn.toNat) k = I22
          refine yi_G_run 1 (64, [(5, .inr (.inl 0)), (4, .inl k), (3, .inl (I 83 (k.toNat))), (0, .inr (.inr (some 82))), (1, .inl nn), (2, .inl k)], [.inl (I 83 (k.toNat))], (I22, Ka, X), 0, 0) (fun _ => rfl) ?_
          refine yi_G_calls rfl rfl (c_isLetter d (by omega) hS) ?_
          rintro _ (⟨c24, rfl⟩ | ⟨c24, rfl⟩)
          · show yi_G zi_Ms d zi_m16 (67, [(5, .inr (.inl 0)), (4, .inl k), (3, .inl (I 83 (k.toNat))), (0, .inr (.inr (some 82))), (1, .inl nn), (2, .inl k)], [.inl 1], (I22, Ka, X), 0, 0) _
            refine yi_G_if1 false rfl (by decide) ?_
            have pt70 : ∀ (m : Nat) (k2 : Int) (vv : Int), (k ≤ k2 ∧ k2 ≤ I 82 2) → (k < k2 ∨ (k2 = k ∧ 97 ≤ I 83 k2.toNat ∧ I 83 k2.toNat ≤ 122)) → (I 82 2 - k2).toNat = m → yi_G zi_Ms d zi_m16 (70, [(5, .inr (.inl vv)), (4, .inl k), (3, .inl (I 83 (k.toNat))), (0, .inr (.inr (some 82))), (1, .inl nn), (2, .inl k2)], [], (I22, Ka, X), 0, 0) (fun r => ∃ I' L' te, r = (none, (I', L', X), 0, 0) ∧ (∀ p k, ¬ (p = 82 ∧ k = 2) ∧ ¬ (p = 82 ∧ k = 3) ∧ ¬ (p = 82 ∧ k = 7) ∧ ¬ (p = 82 ∧ k = 8) ∧ p ≠ 84 ∧ p ≠ 85 → I' p k = I p k) ∧ (∀ p k, p ≠ 86 → L' p k = L p k) ∧ ym_TK I' te ∧ I' 82 2 = 0 ∧ I' 82 7 = 0 ∧ I' 82 8 = 0) := by
              intro m70
              induction m70 using Nat.strongRecOn with
              | _ m70 ih70 =>
              intro k2 vv p0 p1 hm70
              refine yi_G_run 2 (72, [(5, .inr (.inl vv)), (4, .inl k), (3, .inl (I 83 (k.toNat))), (0, .inr (.inr (some 82))), (1, .inl nn), (2, .inl k2)], [.inr (.inr (some 82)), .inl k2], (I22, Ka, X), 0, 0) (fun _ => rfl) ?_
              have r25 : I22 82 3 = I 82 2 := by rw [← w23, yi_u_ne _ _ (by omega), fJa 82 (3) (by omega), ← w4, yi_u_ne _ _ (by omega), ← w2, yi_u_eq]
              refine yi_G_get (75, [(5, .inr (.inl vv)), (4, .inl k), (3, .inl (I 83 (k.toNat))), (0, .inr (.inr (some 82))), (1, .inl nn), (2, .inl k2)], [.inl (I 82 2), .inl k2], (I22, Ka, X), 0, 0) rfl (ym_gi hS rfl rfl r25) ?_
              by_cases h26 : (I 82 2) ≤ k2
              · refine yi_G_if2 true rfl (yi_ge_t h26) ?_
                refine yi_G_run 1 (130, [(5, .inr (.inl vv)), (4, .inl k), (3, .inl (I 83 (k.toNat))), (0, .inr (.inr (some 82))), (1, .inl nn), (2, .inl k2)], [.inr (.inr (some 82))], (I22, Ka, X), 0, 0) (fun _ => rfl) ?_
                refine yi_G_get (133, [(5, .inr (.inl vv)), (4, .inl k), (3, .inl (I 83 (k.toNat))), (0, .inr (.inr (some 82))), (1, .inl nn), (2, .inl k2)], [.inr (.inr (some 84))], (I22, Ka, X), 0, 0) rfl (ym_gr hS 1 rfl rfl rfl) ?_
                refine yi_G_run 3 (137, [(5, .inr (.inl vv)), (4, .inl k), (3, .inl (I 83 (k.toNat))), (0, .inr (.inr (some 82))), (1, .inl nn), (2, .inl k2)], [.inl k, .inl k2, .inl nn, .inr (.inr (some 84))], (I22, Ka, X), 0, 0) (fun _ => rfl) ?_
                refine yi_G_isub rfl (k2 - k) (yi_wn (by omega) (by omega)) ?_
                refine yi_G_run 1 (140, [(5, .inr (.inl vv)), (4, .inl k), (3, .inl (I 83 (k.toNat))), (0, .inr (.inr (some 82))), (1, .inl nn), (2, .inl k2)], [.inl 8, .inl (k2 - k), .inl nn, .inr (.inr (some 84))], (I22, Ka, X), 0, 0) (fun _ => rfl) ?_
                by_cases h27 : (k2 - k) ≤ 8
                · refine yi_G_if2 true rfl (yi_le_t h27) ?_
                  refine yi_G_run 1 (148, [(5, .inr (.inl vv)), (4, .inl k), (3, .inl (I 83 (k.toNat))), (0, .inr (.inr (some 82))), (1, .inl nn), (2, .inl k2)], [.inl 1, .inl nn, .inr (.inr (some 84))], (I22, Ka, X), 0, 0) (fun _ => rfl) ?_
                  refine yi_G_iast (149, [(5, .inr (.inl vv)), (4, .inl k), (3, .inl (I 83 (k.toNat))), (0, .inr (.inr (some 82))), (1, .inl nn), (2, .inl k2)], [], ((yi_u I22 84 (nn.toNat) 1), Ka, X), 0, 0) rfl (ym_si hS 1 rfl (by omega) (by omega)) ?_
                  generalize w29 : yi_u I22 84 (nn.toNat) 1 = I28
                  refine yi_G_run 2 (266, [(5, .inr (.inl vv)), (4, .inl k), (3, .inl (I 83 (k.toNat))), (0, .inr (.inr (some 82))), (1, .inl nn), (2, .inl k2)], [.inr (.inr (some 82))], (I28, Ka, X), 0, 0) (fun _ => rfl) ?_
                  refine yi_G_get (269, [(5, .inr (.inl vv)), (4, .inl k), (3, .inl (I 83 (k.toNat))), (0, .inr (.inr (some 82))), (1, .inl nn), (2, .inl k2)], [.inr (.inr (some 86))], (I28, Ka, X), 0, 0) rfl (ym_gr hS 3 rfl rfl rfl) ?_
                  refine yi_G_run 2 (272, [(5, .inr (.inl vv)), (4, .inl k), (3, .inl (I 83 (k.toNat))), (0, .inr (.inr (some 82))), (1, .inl nn), (2, .inl k2)], [.inr (.inl vv), .inl nn, .inr (.inr (some 86))], (I28, Ka, X), 0, 0) (fun _ => rfl) ?_
                  refine yi_G_last (273, [(5, .inr (.inl vv)), (4, .inl k), (3, .inl (I 83 (k.toNat))), (0, .inr (.inr (some 82))), (1, .inl nn), (2, .inl k2)], [], (I28, (yi_u Ka 86 (nn.toNat) vv), X), 0, 0) rfl (ym_sl hS 3 rfl (by omega) (by omega)) ?_
                  generalize w31 : yi_u Ka 86 (nn.toNat) vv = L30
                  refine yi_G_iinc [(1, .inl (nn + 1)), (5, .inr (.inl vv)), (4, .inl k), (3, .inl (I 83 (k.toNat))), (0, .inr (.inr (some 82))), (2, .inl k2)] rfl rfl rfl (by rw [show yi_w (nn + 1) = nn + 1 from (yi_wn (by omega) (by omega)).trans (by omega)]; rfl) ?_
                  refine yi_G_run 1 (17, [(1, .inl (nn + 1)), (5, .inr (.inl vv)), (4, .inl k), (3, .inl (I 83 (k.toNat))), (0, .inr (.inr (some 82))), (2, .inl k2)], [], (I28, L30, X), 0, 0) (fun _ => rfl) ?_
                  refine yi_G_al (al := [(0, .inr (.inr (some 82))), (1, .inl (nn + 1)), (2, .inl k2)]) (show ([0, 1, 2] : List Nat).Nodup by decide) (show ([1, 5, 4, 3, 0, 2] : List Nat).Nodup by decide) (yi_mc (List.mem_of_getElem? (i := 4) rfl) (yi_mc (List.mem_of_getElem? (i := 0) rfl) (yi_mc (List.mem_of_getElem? (i := 5) rfl) yi_mn))) ?_
                  exact ih17 _ (by omega) (nn + 1) k2 I28 L30 (fun p k hp => by rw [← w29, yi_u_ne _ _ (fun z => by omega), ← w23, yi_u_ne _ _ (fun z => by omega), fJa p k (by omega)]) (fun p k hp => by rw [← w31, yi_u_ne _ _ (fun z => by omega), fKa p k (by omega)]) (by omega) (by omega) (fun j a b => by
          rw [← w29, yi_u_ne _ _ (by omega), ← w23]
          by_cases e : j = nn
          · subst e; rw [yi_u_eq]; omega
          · rw [yi_u_ne _ _ (by omega)]; exact hp j a (by omega)) rfl
                · refine yi_G_if2 false rfl (yi_le_f h27) ?_
                  refine yi_G_run 2 (148, [(5, .inr (.inl vv)), (4, .inl k), (3, .inl (I 83 (k.toNat))), (0, .inr (.inr (some 82))), (1, .inl nn), (2, .inl k2)], [.inl 4, .inl nn, .inr (.inr (some 84))], (I22, Ka, X), 0, 0) (fun _ => rfl) ?_
                  refine yi_G_iast (149, [(5, .inr (.inl vv)), (4, .inl k), (3, .inl (I 83 (k.toNat))), (0, .inr (.inr (some 82))), (1, .inl nn), (2, .inl k2)], [], ((yi_u I22 84 (nn.toNat) 4), Ka, X), 0, 0) rfl (ym_si hS 1 rfl (by omega) (by omega)) ?_
                  generalize w33 : yi_u I22 84 (nn.toNat) 4 = I32
                  refine yi_G_run 2 (266, [(5, .inr (.inl vv)), (4, .inl k), (3, .inl (I 83 (k.toNat))), (0, .inr (.inr (some 82))), (1, .inl nn), (2, .inl k2)], [.inr (.inr (some 82))], (I32, Ka, X), 0, 0) (fun _ => rfl) ?_
                  refine yi_G_get (269, [(5, .inr (.inl vv)), (4, .inl k), (3, .inl (I 83 (k.toNat))), (0, .inr (.inr (some 82))), (1, .inl nn), (2, .inl k2)], [.inr (.inr (some 86))], (I32, Ka, X), 0, 0) rfl (ym_gr hS 3 rfl rfl rfl) ?_
                  refine yi_G_run 2 (272, [(5, .inr (.inl vv)), (4, .inl k), (3, .inl (I 83 (k.toNat))), (0, .inr (.inr (some 82))), (1, .inl nn), (2, .inl k2)], [.inr (.inl vv), .inl nn, .inr (.inr (some 86))], (I32, Ka, X), 0, 0) (fun _ => rfl) ?_
                  refine yi_G_last (273, [(5, .inr (.inl vv)), (4, .inl k), (3, .inl (I 83 (k.toNat))), (0, .inr (.inr (some 82))), (1, .inl nn), (2, .inl k2)], [], (I32, (yi_u Ka 86 (nn.toNat) vv), X), 0, 0) rfl (ym_sl hS 3 rfl (by omega) (by omega)) ?_
                  generalize w35 : yi_u Ka 86 (nn.toNat) vv = L34
                  refine yi_G_iinc [(1, .inl (nn + 1)), (5, .inr (.inl vv)), (4, .inl k), (3, .inl (I 83 (k.toNat))), (0, .inr (.inr (some 82))), (2, .inl k2)] rfl rfl rfl (by rw [show yi_w (nn + 1) = nn + 1 from (yi_wn (by omega) (by omega)).trans (by omega)]; rfl) ?_
                  refine yi_G_run 1 (17, [(1, .inl (nn + 1)), (5, .inr (.inl vv)), (4, .inl k), (3, .inl (I 83 (k.toNat))), (0, .inr (.inr (some 82))), (2, .inl k2)], [], (I32, L34, X), 0, 0) (fun _ => rfl) ?_
                  refine yi_G_al (al := [(0, .inr (.inr (some 82))), (1, .inl (nn + 1)), (2, .inl k2)]) (show ([0, 1, 2] : List Nat).Nodup by decide) (show ([1, 5, 4, 3, 0, 2] : List Nat).Nodup by decide) (yi_mc (List.mem_of_getElem? (i := 4) rfl) (yi_mc (List.mem_of_getElem? (i := 0) rfl) (yi_mc (List.mem_of_getElem? (i := 5) rfl) yi_mn))) ?_
                  exact ih17 _ (by omega) (nn + 1) k2 I32 L34 (fun p k hp => by rw [← w33, yi_u_ne _ _ (fun z => by omega), ← w23, yi_u_ne _ _ (fun z => by omega), fJa p k (by omega)]) (fun p k hp => by rw [← w35, yi_u_ne _ _ (fun z => by omega), fKa p k (by omega)]) (by omega) (by omega) (fun j a b => by
          rw [← w33, yi_u_ne _ _ (by omega), ← w23]
          by_cases e : j = nn
          · subst e; rw [yi_u_eq]; omega
          · rw [yi_u_ne _ _ (by omega)]; exact hp j a (by omega)) rfl
              · refine yi_G_if2 false rfl (yi_ge_f h26) ?_
                refine yi_G_run 1 (79, [(5, .inr (.inl vv)), (4, .inl k), (3, .inl (I 83 (k.toNat))), (0, .inr (.inr (some 82))), (1, .inl nn), (2, .inl k2)], [.inr (.inr (some 82))], (I22, Ka, X), 0, 0) (fun _ => rfl) ?_
                refine yi_G_get (82, [(5, .inr (.inl vv)), (4, .inl k), (3, .inl (I 83 (k.toNat))), (0, .inr (.inr (some 82))), (1, .inl nn), (2, .inl k2)], [.inr (.inr (some 83))], (I22, Ka, X), 0, 0) rfl (ym_gr hS 0 rfl rfl rfl) ?_
                refine yi_G_run 1 (83, [(5, .inr (.inl vv)), (4, .inl k), (3, .inl (I 83 (k.toNat))), (0, .inr (.inr (some 82))), (1, .inl nn), (2, .inl k2)], [.inl k2, .inr (.inr (some 83))], (I22, Ka, X), 0, 0) (fun _ => rfl) ?_
                have r36 : I22 83 (k2.toNat) = I 83 (k2.toNat) := by rw [← w23, yi_u_ne _ _ (by omega), fJa 83 (k2.toNat) (by omega), ← w4, yi_u_ne _ _ (by omega), ← w2, yi_u_ne _ _ (by omega)]
                refine yi_G_iald (84, [(5, .inr (.inl vv)), (4, .inl k), (3, .inl (I 83 (k.toNat))), (0, .inr (.inr (some 82))), (1, .inl nn), (2, .inl k2)], [.inl (I 83 (k2.toNat))], (I22, Ka, X), 0, 0) rfl (ym_li hS 0 rfl (by omega) (by omega) r36) ?_
                refine yi_G_calls rfl rfl (c_isLetter d (by omega) hS) ?_
                rintro _ (⟨c37, rfl⟩ | ⟨c37, rfl⟩)
                · show yi_G zi_Ms d zi_m16 (87, [(5, .inr (.inl vv)), (4, .inl k), (3, .inl (I 83 (k.toNat))), (0, .inr (.inr (some 82))), (1, .inl nn), (2, .inl k2)], [.inl 1], (I22, Ka, X), 0, 0) _
                  refine yi_G_if1 false rfl (by decide) ?_
                  refine yi_G_run 2 (93, [(5, .inr (.inl vv)), (4, .inl k), (3, .inl (I 83 (k.toNat))), (0, .inr (.inr (some 82))), (1, .inl nn), (2, .inl k2)], [.inl k, .inl k2], (I22, Ka, X), 0, 0) (fun _ => rfl) ?_
                  refine yi_G_isub rfl (k2 - k) (yi_wn (by omega) (by omega)) ?_
                  refine yi_G_run 1 (96, [(5, .inr (.inl vv)), (4, .inl k), (3, .inl (I 83 (k.toNat))), (0, .inr (.inr (some 82))), (1, .inl nn), (2, .inl k2)], [.inl 8, .inl (k2 - k)], (I22, Ka, X), 0, 0) (fun _ => rfl) ?_
                  by_cases h38 : 8 ≤ (k2 - k)
                  · refine yi_G_if2 true rfl (yi_ge_t h38) ?_
                    refine yi_G_run 2 (123, [(5, .inr (.inl vv)), (4, .inl k), (3, .inl (I 83 (k.toNat))), (0, .inr (.inr (some 82))), (1, .inl nn), (2, .inl k2)], [], (I22, Ka, X), 0, 0) (fun _ => rfl) ?_
                    refine yi_G_iinc [(2, .inl (k2 + 1)), (5, .inr (.inl vv)), (4, .inl k), (3, .inl (I 83 (k.toNat))), (0, .inr (.inr (some 82))), (1, .inl nn)] rfl rfl rfl (by rw [show yi_w (k2 + 1) = k2 + 1 from (yi_wn (by omega) (by omega)).trans (by omega)]; rfl) ?_
                    refine yi_G_run 1 (70, [(2, .inl (k2 + 1)), (5, .inr (.inl vv)), (4, .inl k), (3, .inl (I 83 (k.toNat))), (0, .inr (.inr (some 82))), (1, .inl nn)], [], (I22, Ka, X), 0, 0) (fun _ => rfl) ?_
                    refine yi_G_al (al := [(5, .inr (.inl vv)), (4, .inl k), (3, .inl (I 83 (k.toNat))), (0, .inr (.inr (some 82))), (1, .inl nn), (2, .inl (k2 + 1))]) (show ([5, 4, 3, 0, 1, 2] : List Nat).Nodup by decide) (show ([2, 5, 4, 3, 0, 1] : List Nat).Nodup by decide) (yi_mc (List.mem_of_getElem? (i := 1) rfl) (yi_mc (List.mem_of_getElem? (i := 2) rfl) (yi_mc (List.mem_of_getElem? (i := 3) rfl) (yi_mc (List.mem_of_getElem? (i := 4) rfl) (yi_mc (List.mem_of_getElem? (i := 5) rfl) (yi_mc (List.mem_of_getElem? (i := 0) rfl) yi_mn)))))) ?_
                    exact ih70 _ (by omega) (k2 + 1) vv (by omega) (by omega) rfl
                  · refine yi_G_if2 false rfl (yi_ge_f h38) ?_
                    refine yi_G_ldc2 (37) rfl (by decide +kernel) ?_
                    refine yi_G_run 3 (106, [(5, .inr (.inl vv)), (4, .inl k), (3, .inl (I 83 (k.toNat))), (0, .inr (.inr (some 82))), (1, .inl nn), (2, .inl k2)], [.inr (.inr (some 82)), .inr (.inl (yi_W (37 * vv)))], (I22, Ka, X), 0, 0) (fun _ => rfl) ?_
                    refine yi_G_get (109, [(5, .inr (.inl vv)), (4, .inl k), (3, .inl (I 83 (k.toNat))), (0, .inr (.inr (some 82))), (1, .inl nn), (2, .inl k2)], [.inr (.inr (some 83)), .inr (.inl (yi_W (37 * vv)))], (I22, Ka, X), 0, 0) rfl (ym_gr hS 0 rfl rfl rfl) ?_
                    refine yi_G_run 1 (110, [(5, .inr (.inl vv)), (4, .inl k), (3, .inl (I 83 (k.toNat))), (0, .inr (.inr (some 82))), (1, .inl nn), (2, .inl k2)], [.inl k2, .inr (.inr (some 83)), .inr (.inl (yi_W (37 * vv)))], (I22, Ka, X), 0, 0) (fun _ => rfl) ?_
                    have r39 : I22 83 (k2.toNat) = I 83 (k2.toNat) := by rw [← w23, yi_u_ne _ _ (by omega), fJa 83 (k2.toNat) (by omega), ← w4, yi_u_ne _ _ (by omega), ← w2, yi_u_ne _ _ (by omega)]
                    refine yi_G_iald (111, [(5, .inr (.inl vv)), (4, .inl k), (3, .inl (I 83 (k.toNat))), (0, .inr (.inr (some 82))), (1, .inl nn), (2, .inl k2)], [.inl (I 83 (k2.toNat)), .inr (.inl (yi_W (37 * vv)))], (I22, Ka, X), 0, 0) rfl (ym_li hS 0 rfl (by omega) (by omega) r39) ?_
                    refine yi_G_calls rfl rfl (c_rank d (by omega) hS (by omega) (by omega)) ?_
                    rintro _ ⟨z40, rfl, h41a, h41b⟩
                    show yi_G zi_Ms d zi_m16 (114, [(5, .inr (.inl vv)), (4, .inl k), (3, .inl (I 83 (k.toNat))), (0, .inr (.inr (some 82))), (1, .inl nn), (2, .inl k2)], [.inl z40, .inr (.inl (yi_W (37 * vv)))], (I22, Ka, X), 0, 0) _
                    refine yi_G_run 4 (123, [(5, .inr (.inl (yi_W ((yi_W (37 * vv)) + z40)))), (4, .inl k), (3, .inl (I 83 (k.toNat))), (0, .inr (.inr (some 82))), (1, .inl nn), (2, .inl k2)], [], (I22, Ka, X), 0, 0) (fun _ => rfl) ?_
                    refine yi_G_iinc [(2, .inl (k2 + 1)), (5, .inr (.inl (yi_W ((yi_W (37 * vv)) + z40)))), (4, .inl k), (3, .inl (I 83 (k.toNat))), (0, .inr (.inr (some 82))), (1, .inl nn)] rfl rfl rfl (by rw [show yi_w (k2 + 1) = k2 + 1 from (yi_wn (by omega) (by omega)).trans (by omega)]; rfl) ?_
                    refine yi_G_run 1 (70, [(2, .inl (k2 + 1)), (5, .inr (.inl (yi_W ((yi_W (37 * vv)) + z40)))), (4, .inl k), (3, .inl (I 83 (k.toNat))), (0, .inr (.inr (some 82))), (1, .inl nn)], [], (I22, Ka, X), 0, 0) (fun _ => rfl) ?_
                    refine yi_G_al (al := [(5, .inr (.inl (yi_W ((yi_W (37 * vv)) + z40)))), (4, .inl k), (3, .inl (I 83 (k.toNat))), (0, .inr (.inr (some 82))), (1, .inl nn), (2, .inl (k2 + 1))]) (show ([5, 4, 3, 0, 1, 2] : List Nat).Nodup by decide) (show ([2, 5, 4, 3, 0, 1] : List Nat).Nodup by decide) (yi_mc (List.mem_of_getElem? (i := 1) rfl) (yi_mc (List.mem_of_getElem? (i := 2) rfl) (yi_mc (List.mem_of_getElem? (i := 3) rfl) (yi_mc (List.mem_of_getElem? (i := 4) rfl) (yi_mc (List.mem_of_getElem? (i := 5) rfl) (yi_mc (List.mem_of_getElem? (i := 0) rfl) yi_mn)))))) ?_
                    exact ih70 _ (by omega) (k2 + 1) (yi_W ((yi_W (37 * vv)) + z40)) (by omega) (by omega) rfl
                · show yi_G zi_Ms d zi_m16 (87, [(5, .inr (.inl vv)), (4, .inl k), (3, .inl (I 83 (k.toNat))), (0, .inr (.inr (some 82))), (1, .inl nn), (2, .inl k2)], [.inl 0], (I22, Ka, X), 0, 0) _
                  refine yi_G_if1 true rfl (by decide) ?_
                  refine yi_G_run 1 (130, [(5, .inr (.inl vv)), (4, .inl k), (3, .inl (I 83 (k.toNat))), (0, .inr (.inr (some 82))), (1, .inl nn), (2, .inl k2)], [.inr (.inr (some 82))], (I22, Ka, X), 0, 0) (fun _ => rfl) ?_
                  refine yi_G_get (133, [(5, .inr (.inl vv)), (4, .inl k), (3, .inl (I 83 (k.toNat))), (0, .inr (.inr (some 82))), (1, .inl nn), (2, .inl k2)], [.inr (.inr (some 84))], (I22, Ka, X), 0, 0) rfl (ym_gr hS 1 rfl rfl rfl) ?_
                  refine yi_G_run 3 (137, [(5, .inr (.inl vv)), (4, .inl k), (3, .inl (I 83 (k.toNat))), (0, .inr (.inr (some 82))), (1, .inl nn), (2, .inl k2)], [.inl k, .inl k2, .inl nn, .inr (.inr (some 84))], (I22, Ka, X), 0, 0) (fun _ => rfl) ?_
                  refine yi_G_isub rfl (k2 - k) (yi_wn (by omega) (by omega)) ?_
                  refine yi_G_run 1 (140, [(5, .inr (.inl vv)), (4, .inl k), (3, .inl (I 83 (k.toNat))), (0, .inr (.inr (some 82))), (1, .inl nn), (2, .inl k2)], [.inl 8, .inl (k2 - k), .inl nn, .inr (.inr (some 84))], (I22, Ka, X), 0, 0) (fun _ => rfl) ?_
                  by_cases h42 : (k2 - k) ≤ 8
                  · refine yi_G_if2 true rfl (yi_le_t h42) ?_
                    refine yi_G_run 1 (148, [(5, .inr (.inl vv)), (4, .inl k), (3, .inl (I 83 (k.toNat))), (0, .inr (.inr (some 82))), (1, .inl nn), (2, .inl k2)], [.inl 1, .inl nn, .inr (.inr (some 84))], (I22, Ka, X), 0, 0) (fun _ => rfl) ?_
                    refine yi_G_iast (149, [(5, .inr (.inl vv)), (4, .inl k), (3, .inl (I 83 (k.toNat))), (0, .inr (.inr (some 82))), (1, .inl nn), (2, .inl k2)], [], ((yi_u I22 84 (nn.toNat) 1), Ka, X), 0, 0) rfl (ym_si hS 1 rfl (by omega) (by omega)) ?_
                    generalize w44 : yi_u I22 84 (nn.toNat) 1 = I43
                    refine yi_G_run 2 (266, [(5, .inr (.inl vv)), (4, .inl k), (3, .inl (I 83 (k.toNat))), (0, .inr (.inr (some 82))), (1, .inl nn), (2, .inl k2)], [.inr (.inr (some 82))], (I43, Ka, X), 0, 0) (fun _ => rfl) ?_
                    refine yi_G_get (269, [(5, .inr (.inl vv)), (4, .inl k), (3, .inl (I 83 (k.toNat))), (0, .inr (.inr (some 82))), (1, .inl nn), (2, .inl k2)], [.inr (.inr (some 86))], (I43, Ka, X), 0, 0) rfl (ym_gr hS 3 rfl rfl rfl) ?_
                    refine yi_G_run 2 (272, [(5, .inr (.inl vv)), (4, .inl k), (3, .inl (I 83 (k.toNat))), (0, .inr (.inr (some 82))), (1, .inl nn), (2, .inl k2)], [.inr (.inl vv), .inl nn, .inr (.inr (some 86))], (I43, Ka, X), 0, 0) (fun _ => rfl) ?_
                    refine yi_G_last (273, [(5, .inr (.inl vv)), (4, .inl k), (3, .inl (I 83 (k.toNat))), (0, .inr (.inr (some 82))), (1, .inl nn), (2, .inl k2)], [], (I43, (yi_u Ka 86 (nn.toNat) vv), X), 0, 0) rfl (ym_sl hS 3 rfl (by omega) (by omega)) ?_
                    generalize w46 : yi_u Ka 86 (nn.toNat) vv = L45
                    refine yi_G_iinc [(1, .inl (nn + 1)), (5, .inr (.inl vv)), (4, .inl k), (3, .inl (I 83 (k.toNat))), (0, .inr (.inr (some 82))), (2, .inl k2)] rfl rfl rfl (by rw [show yi_w (nn + 1) = nn + 1 from (yi_wn (by omega) (by omega)).trans (by omega)]; rfl) ?_
                    refine yi_G_run 1 (17, [(1, .inl (nn + 1)), (5, .inr (.inl vv)), (4, .inl k), (3, .inl (I 83 (k.toNat))), (0, .inr (.inr (some 82))), (2, .inl k2)], [], (I43, L45, X), 0, 0) (fun _ => rfl) ?_
                    refine yi_G_al (al := [(0, .inr (.inr (some 82))), (1, .inl (nn + 1)), (2, .inl k2)]) (show ([0, 1, 2] : List Nat).Nodup by decide) (show ([1, 5, 4, 3, 0, 2] : List Nat).Nodup by decide) (yi_mc (List.mem_of_getElem? (i := 4) rfl) (yi_mc (List.mem_of_getElem? (i := 0) rfl) (yi_mc (List.mem_of_getElem? (i := 5) rfl) yi_mn))) ?_
                    exact ih17 _ (by omega) (nn + 1) k2 I43 L45 (fun p k hp => by rw [← w44, yi_u_ne _ _ (fun z => by omega), ← w23, yi_u_ne _ _ (fun z => by omega), fJa p k (by omega)]) (fun p k hp => by rw [← w46, yi_u_ne _ _ (fun z => by omega), fKa p k (by omega)]) (by omega) (by omega) (fun j a b => by
          rw [← w44, yi_u_ne _ _ (by omega), ← w23]
          by_cases e : j = nn
          · subst e; rw [yi_u_eq]; omega
          · rw [yi_u_ne _ _ (by omega)]; exact hp j a (by omega)) rfl
                  · refine yi_G_if2 false rfl (yi_le_f h42) ?_
                    refine yi_G_run 2 (148, [(5, .inr (.inl vv)), (4, .inl k), (3, .inl (I 83 (k.toNat))), (0, .inr (.inr (some 82))), (1, .inl nn), (2, .inl k2)], [.inl 4, .inl nn, .inr (.inr (some 84))], (I22, Ka, X), 0, 0) (fun _ => rfl) ?_
                    refine yi_G_iast (149, [(5, .inr (.inl vv)), (4, .inl k), (3, .inl (I 83 (k.toNat))), (0, .inr (.inr (some 82))), (1, .inl nn), (2, .inl k2)], [], ((yi_u I22 84 (nn.toNat) 4), Ka, X), 0, 0) rfl (ym_si hS 1 rfl (by omega) (by omega)) ?_
                    generalize w48 : yi_u I22 84 (nn.toNat) 4 = I47
                    refine yi_G_run 2 (266, [(5, .inr (.inl vv)), (4, .inl k), (3, .inl (I 83 (k.toNat))), (0, .inr (.inr (some 82))), (1, .inl nn), (2, .inl k2)], [.inr (.inr (some 82))], (I47, Ka, X), 0, 0) (fun _ => rfl) ?_
                    refine yi_G_get (269, [(5, .inr (.inl vv)), (4, .inl k), (3, .inl (I 83 (k.toNat))), (0, .inr (.inr (some 82))), (1, .inl nn), (2, .inl k2)], [.inr (.inr (some 86))], (I47, Ka, X), 0, 0) rfl (ym_gr hS 3 rfl rfl rfl) ?_
                    refine yi_G_run 2 (272, [(5, .inr (.inl vv)), (4, .inl k), (3, .inl (I 83 (k.toNat))), (0, .inr (.inr (some 82))), (1, .inl nn), (2, .inl k2)], [.inr (.inl vv), .inl nn, .inr (.inr (some 86))], (I47, Ka, X), 0, 0) (fun _ => rfl) ?_
                    refine yi_G_last (273, [(5, .inr (.inl vv)), (4, .inl k), (3, .inl (I 83 (k.toNat))), (0, .inr (.inr (some 82))), (1, .inl nn), (2, .inl k2)], [], (I47, (yi_u Ka 86 (nn.toNat) vv), X), 0, 0) rfl (ym_sl hS 3 rfl (by omega) (by omega)) ?_
                    generalize w50 : yi_u Ka 86 (nn.toNat) vv = L49
                    refine yi_G_iinc [(1, .inl (nn + 1)), (5, .inr (.inl vv)), (4, .inl k), (3, .inl (I 83 (k.toNat))), (0, .inr (.inr (some 82))), (2, .inl k2)] rfl rfl rfl (by rw [show yi_w (nn + 1) = nn + 1 from (yi_wn (by omega) (by omega)).trans (by omega)]; rfl) ?_
                    refine yi_G_run 1 (17, [(1, .inl (nn + 1)), (5, .inr (.inl vv)), (4, .inl k), (3, .inl (I 83 (k.toNat))), (0, .inr (.inr (some 82))), (2, .inl k2)], [], (I47, L49, X), 0, 0) (fun _ => rfl) ?_
                    refine yi_G_al (al := [(0, .inr (.inr (some 82))), (1, .inl (nn + 1)), (2, .inl k2)]) (show ([0, 1, 2] : List Nat).Nodup by decide) (show ([1, 5, 4, 3, 0, 2] : List Nat).Nodup by decide) (yi_mc (List.mem_of_getElem? (i := 4) rfl) (yi_mc (List.mem_of_getElem? (i := 0) rfl) (yi_mc (List.mem_of_getElem? (i := 5) rfl) yi_mn))) ?_
                    exact ih17 _ (by omega) (nn + 1) k2 I47 L49 (fun p k hp => by rw [← w48, yi_u_ne _ _ (fun z => by omega), ← w23, yi_u_ne _ _ (fun z => by omega), fJa p k (by omega)]) (fun p k hp => by rw [← w50, yi_u_ne _ _ (fun z => by omega), fKa p k (by omega)]) (by omega) (by omega) (fun j a b => by
          rw [← w48, yi_u_ne _ _ (by omega), ← w23]
          by_cases e : j = nn
          · subst e; rw [yi_u_eq]; omega
          · rw [yi_u_ne _ _ (by omega)]; exact hp j a (by omega)) rfl
            exact pt70 _ k 0 (by omega) (by omega) rfl
          · show yi_G zi_Ms d zi_m16 (67, [(5, .inr (.inl 0)), (4, .inl k), (3, .inl (I 83 (k.toNat))), (0, .inr (.inr (some 82))), (1, .inl nn), (2, .inl k)], [.inl 0], (I22, Ka, X), 0, 0) _
            refine yi_G_if1 true rfl (by decide) ?_
            refine yi_G_run 1 (153, [(5, .inr (.inl 0)), (4, .inl k), (3, .inl (I 83 (k.toNat))), (0, .inr (.inr (some 82))), (1, .inl nn), (2, .inl k)], [.inl (I 83 (k.toNat))], (I22, Ka, X), 0, 0) (fun _ => rfl) ?_
            refine yi_G_calls rfl rfl (c_isDigit d (by omega) hS) ?_
            rintro _ (⟨c51, rfl⟩ | ⟨c51, rfl⟩)
            · show yi_G zi_Ms d zi_m16 (156, [(5, .inr (.inl 0)), (4, .inl k), (3, .inl (I 83 (k.toNat))), (0, .inr (.inr (some 82))), (1, .inl nn), (2, .inl k)], [.inl 1], (I22, Ka, X), 0, 0) _
              refine yi_G_if1 false rfl (by decide) ?_
              have pt159 : ∀ (m : Nat) (k3 : Int) (vu : Int), (k ≤ k3 ∧ k3 ≤ I 82 2) → (k < k3 ∨ (k3 = k ∧ 48 ≤ I 83 k3.toNat ∧ I 83 k3.toNat ≤ 57)) → (I 82 2 - k3).toNat = m → yi_G zi_Ms d zi_m16 (159, [(5, .inr (.inl vu)), (4, .inl k), (3, .inl (I 83 (k.toNat))), (0, .inr (.inr (some 82))), (1, .inl nn), (2, .inl k3)], [], (I22, Ka, X), 0, 0) (fun r => ∃ I' L' te, r = (none, (I', L', X), 0, 0) ∧ (∀ p k, ¬ (p = 82 ∧ k = 2) ∧ ¬ (p = 82 ∧ k = 3) ∧ ¬ (p = 82 ∧ k = 7) ∧ ¬ (p = 82 ∧ k = 8) ∧ p ≠ 84 ∧ p ≠ 85 → I' p k = I p k) ∧ (∀ p k, p ≠ 86 → L' p k = L p k) ∧ ym_TK I' te ∧ I' 82 2 = 0 ∧ I' 82 7 = 0 ∧ I' 82 8 = 0) := by
                intro m159
                induction m159 using Nat.strongRecOn with
                | _ m159 ih159 =>
                intro k3 vu s0 s1 hm159
                refine yi_G_run 2 (161, [(5, .inr (.inl vu)), (4, .inl k), (3, .inl (I 83 (k.toNat))), (0, .inr (.inr (some 82))), (1, .inl nn), (2, .inl k3)], [.inr (.inr (some 82)), .inl k3], (I22, Ka, X), 0, 0) (fun _ => rfl) ?_
                have r52 : I22 82 3 = I 82 2 := by rw [← w23, yi_u_ne _ _ (by omega), fJa 82 (3) (by omega), ← w4, yi_u_ne _ _ (by omega), ← w2, yi_u_eq]
                refine yi_G_get (164, [(5, .inr (.inl vu)), (4, .inl k), (3, .inl (I 83 (k.toNat))), (0, .inr (.inr (some 82))), (1, .inl nn), (2, .inl k3)], [.inl (I 82 2), .inl k3], (I22, Ka, X), 0, 0) rfl (ym_gi hS rfl rfl r52) ?_
                by_cases h53 : (I 82 2) ≤ k3
                · refine yi_G_if2 true rfl (yi_ge_t h53) ?_
                  refine yi_G_run 1 (219, [(5, .inr (.inl vu)), (4, .inl k), (3, .inl (I 83 (k.toNat))), (0, .inr (.inr (some 82))), (1, .inl nn), (2, .inl k3)], [.inr (.inr (some 82))], (I22, Ka, X), 0, 0) (fun _ => rfl) ?_
                  refine yi_G_get (222, [(5, .inr (.inl vu)), (4, .inl k), (3, .inl (I 83 (k.toNat))), (0, .inr (.inr (some 82))), (1, .inl nn), (2, .inl k3)], [.inr (.inr (some 84))], (I22, Ka, X), 0, 0) rfl (ym_gr hS 1 rfl rfl rfl) ?_
                  refine yi_G_run 3 (226, [(5, .inr (.inl vu)), (4, .inl k), (3, .inl (I 83 (k.toNat))), (0, .inr (.inr (some 82))), (1, .inl nn), (2, .inl k3)], [.inl k, .inl k3, .inl nn, .inr (.inr (some 84))], (I22, Ka, X), 0, 0) (fun _ => rfl) ?_
                  refine yi_G_isub rfl (k3 - k) (yi_wn (by omega) (by omega)) ?_
                  refine yi_G_run 1 (228, [(5, .inr (.inl vu)), (4, .inl k), (3, .inl (I 83 (k.toNat))), (0, .inr (.inr (some 82))), (1, .inl nn), (2, .inl k3)], [.inl 4, .inl (k3 - k), .inl nn, .inr (.inr (some 84))], (I22, Ka, X), 0, 0) (fun _ => rfl) ?_
                  by_cases h54 : (k3 - k) ≤ 4
                  · refine yi_G_if2 true rfl (yi_le_t h54) ?_
                    refine yi_G_run 1 (236, [(5, .inr (.inl vu)), (4, .inl k), (3, .inl (I 83 (k.toNat))), (0, .inr (.inr (some 82))), (1, .inl nn), (2, .inl k3)], [.inl 2, .inl nn, .inr (.inr (some 84))], (I22, Ka, X), 0, 0) (fun _ => rfl) ?_
                    refine yi_G_iast (237, [(5, .inr (.inl vu)), (4, .inl k), (3, .inl (I 83 (k.toNat))), (0, .inr (.inr (some 82))), (1, .inl nn), (2, .inl k3)], [], ((yi_u I22 84 (nn.toNat) 2), Ka, X), 0, 0) rfl (ym_si hS 1 rfl (by omega) (by omega)) ?_
                    generalize w56 : yi_u I22 84 (nn.toNat) 2 = I55
                    refine yi_G_run 2 (266, [(5, .inr (.inl vu)), (4, .inl k), (3, .inl (I 83 (k.toNat))), (0, .inr (.inr (some 82))), (1, .inl nn), (2, .inl k3)], [.inr (.inr (some 82))], (I55, Ka, X), 0, 0) (fun _ => rfl) ?_
                    refine yi_G_get (269, [(5, .inr (.inl vu)), (4, .inl k), (3, .inl (I 83 (k.toNat))), (0, .inr (.inr (some 82))), (1, .inl nn), (2, .inl k3)], [.inr (.inr (some 86))], (I55, Ka, X), 0, 0) rfl (ym_gr hS 3 rfl rfl rfl) ?_
                    refine yi_G_run 2 (272, [(5, .inr (.inl vu)), (4, .inl k), (3, .inl (I 83 (k.toNat))), (0, .inr (.inr (some 82))), (1, .inl nn), (2, .inl k3)], [.inr (.inl vu), .inl nn, .inr (.inr (some 86))], (I55, Ka, X), 0, 0) (fun _ => rfl) ?_
                    refine yi_G_last (273, [(5, .inr (.inl vu)), (4, .inl k), (3, .inl (I 83 (k.toNat))), (0, .inr (.inr (some 82))), (1, .inl nn), (2, .inl k3)], [], (I55, (yi_u Ka 86 (nn.toNat) vu), X), 0, 0) rfl (ym_sl hS 3 rfl (by omega) (by omega)) ?_
                    generalize w58 : yi_u Ka 86 (nn.toNat) vu = L57
                    refine yi_G_iinc [(1, .inl (nn + 1)), (5, .inr (.inl vu)), (4, .inl k), (3, .inl (I 83 (k.toNat))), (0, .inr (.inr (some 82))), (2, .inl k3)] rfl rfl rfl (by rw [show yi_w (nn + 1) = nn + 1 from (yi_wn (by omega) (by omega)).trans (by omega)]; rfl) ?_
                    refine yi_G_run 1 (17, [(1, .inl (nn + 1)), (5, .inr (.inl vu)), (4, .inl k), (3, .inl (I 83 (k.toNat))), (0, .inr (.inr (some 82))), (2, .inl k3)], [], (I55, L57, X), 0, 0) (fun _ => rfl) ?_
                    refine yi_G_al (al := [(0, .inr (.inr (some 82))), (1, .inl (nn + 1)), (2, .inl k3)]) (show ([0, 1, 2] : List Nat).Nodup by decide) (show ([1, 5, 4, 3, 0, 2] : List Nat).Nodup by decide) (yi_mc (List.mem_of_getElem? (i := 4) rfl) (yi_mc (List.mem_of_getElem? (i := 0) rfl) (yi_mc (List.mem_of_getElem? (i := 5) rfl) yi_mn))) ?_
                    exact ih17 _ (by omega) (nn + 1) k3 I55 L57 (fun p k hp => by rw [← w56, yi_u_ne _ _ (fun z => by omega), ← w23, yi_u_ne _ _ (fun z => by omega), fJa p k (by omega)]) (fun p k hp => by rw [← w58, yi_u_ne _ _ (fun z => by omega), fKa p k (by omega)]) (by omega) (by omega) (fun j a b => by
          rw [← w56, yi_u_ne _ _ (by omega), ← w23]
          by_cases e : j = nn
          · subst e; rw [yi_u_eq]; omega
          · rw [yi_u_ne _ _ (by omega)]; exact hp j a (by omega)) rfl
                  · refine yi_G_if2 false rfl (yi_le_f h54) ?_
                    refine yi_G_run 2 (236, [(5, .inr (.inl vu)), (4, .inl k), (3, .inl (I 83 (k.toNat))), (0, .inr (.inr (some 82))), (1, .inl nn), (2, .inl k3)], [.inl 4, .inl nn, .inr (.inr (some 84))], (I22, Ka, X), 0, 0) (fun _ => rfl) ?_
                    refine yi_G_iast (237, [(5, .inr (.inl vu)), (4, .inl k), (3, .inl (I 83 (k.toNat))), (0, .inr (.inr (some 82))), (1, .inl nn), (2, .inl k3)], [], ((yi_u I22 84 (nn.toNat) 4), Ka, X), 0, 0) rfl (ym_si hS 1 rfl (by omega) (by omega)) ?_
                    generalize w60 : yi_u I22 84 (nn.toNat) 4 = I59
                    refine yi_G_run 2 (266, [(5, .inr (.inl vu)), (4, .inl k), (3, .inl (I 83 (k.toNat))), (0, .inr (.inr (some 82))), (1, .inl nn), (2, .inl k3)], [.inr (.inr (some 82))], (I59, Ka, X), 0, 0) (fun _ => rfl) ?_
                    refine yi_G_get (269, [(5, .inr (.inl vu)), (4, .inl k), (3, .inl (I 83 (k.toNat))), (0, .inr (.inr (some 82))), (1, .inl nn), (2, .inl k3)], [.inr (.inr (some 86))], (I59, Ka, X), 0, 0) rfl (ym_gr hS 3 rfl rfl rfl) ?_
                    refine yi_G_run 2 (272, [(5, .inr (.inl vu)), (4, .inl k), (3, .inl (I 83 (k.toNat))), (0, .inr (.inr (some 82))), (1, .inl nn), (2, .inl k3)], [.inr (.inl vu), .inl nn, .inr (.inr (some 86))], (I59, Ka, X), 0, 0) (fun _ => rfl) ?_
                    refine yi_G_last (273, [(5, .inr (.inl vu)), (4, .inl k), (3, .inl (I 83 (k.toNat))), (0, .inr (.inr (some 82))), (1, .inl nn), (2, .inl k3)], [], (I59, (yi_u Ka 86 (nn.toNat) vu), X), 0, 0) rfl (ym_sl hS 3 rfl (by omega) (by omega)) ?_
                    generalize w62 : yi_u Ka 86 (nn.toNat) vu = L61
                    refine yi_G_iinc [(1, .inl (nn + 1)), (5, .inr (.inl vu)), (4, .inl k), (3, .inl (I 83 (k.toNat))), (0, .inr (.inr (some 82))), (2, .inl k3)] rfl rfl rfl (by rw [show yi_w (nn + 1) = nn + 1 from (yi_wn (by omega) (by omega)).trans (by omega)]; rfl) ?_
                    refine yi_G_run 1 (17, [(1, .inl (nn + 1)), (5, .inr (.inl vu)), (4, .inl k), (3, .inl (I 83 (k.toNat))), (0, .inr (.inr (some 82))), (2, .inl k3)], [], (I59, L61, X), 0, 0) (fun _ => rfl) ?_
                    refine yi_G_al (al := [(0, .inr (.inr (some 82))), (1, .inl (nn + 1)), (2, .inl k3)]) (show ([0, 1, 2] : List Nat).Nodup by decide) (show ([1, 5, 4, 3, 0, 2] : List Nat).Nodup by decide) (yi_mc (List.mem_of_getElem? (i := 4) rfl) (yi_mc (List.mem_of_getElem? (i := 0) rfl) (yi_mc (List.mem_of_getElem? (i := 5) rfl) yi_mn))) ?_
                    exact ih17 _ (by omega) (nn + 1) k3 I59 L61 (fun p k hp => by rw [← w60, yi_u_ne _ _ (fun z => by omega), ← w23, yi_u_ne _ _ (fun z => by omega), fJa p k (by omega)]) (fun p k hp => by rw [← w62, yi_u_ne _ _ (fun z => by omega), fKa p k (by omega)]) (by omega) (by omega) (fun j a b => by
          rw [← w60, yi_u_ne _ _ (by omega), ← w23]
          by_cases e : j = nn
          · subst e; rw [yi_u_eq]; omega
          · rw [yi_u_ne _ _ (by omega)]; exact hp j a (by omega)) rfl
                · refine yi_G_if2 false rfl (yi_ge_f h53) ?_
                  refine yi_G_run 1 (168, [(5, .inr (.inl vu)), (4, .inl k), (3, .inl (I 83 (k.toNat))), (0, .inr (.inr (some 82))), (1, .inl nn), (2, .inl k3)], [.inr (.inr (some 82))], (I22, Ka, X), 0, 0) (fun _ => rfl) ?_
                  refine yi_G_get (171, [(5, .inr (.inl vu)), (4, .inl k), (3, .inl (I 83 (k.toNat))), (0, .inr (.inr (some 82))), (1, .inl nn), (2, .inl k3)], [.inr (.inr (some 83))], (I22, Ka, X), 0, 0) rfl (ym_gr hS 0 rfl rfl rfl) ?_
                  refine yi_G_run 1 (172, [(5, .inr (.inl vu)), (4, .inl k), (3, .inl (I 83 (k.toNat))), (0, .inr (.inr (some 82))), (1, .inl nn), (2, .inl k3)], [.inl k3, .inr (.inr (some 83))], (I22, Ka, X), 0, 0) (fun _ => rfl) ?_
                  have r63 : I22 83 (k3.toNat) = I 83 (k3.toNat) := by rw [← w23, yi_u_ne _ _ (by omega), fJa 83 (k3.toNat) (by omega), ← w4, yi_u_ne _ _ (by omega), ← w2, yi_u_ne _ _ (by omega)]
                  refine yi_G_iald (173, [(5, .inr (.inl vu)), (4, .inl k), (3, .inl (I 83 (k.toNat))), (0, .inr (.inr (some 82))), (1, .inl nn), (2, .inl k3)], [.inl (I 83 (k3.toNat))], (I22, Ka, X), 0, 0) rfl (ym_li hS 0 rfl (by omega) (by omega) r63) ?_
                  refine yi_G_calls rfl rfl (c_isDigit d (by omega) hS) ?_
                  rintro _ (⟨c64, rfl⟩ | ⟨c64, rfl⟩)
                  · show yi_G zi_Ms d zi_m16 (176, [(5, .inr (.inl vu)), (4, .inl k), (3, .inl (I 83 (k.toNat))), (0, .inr (.inr (some 82))), (1, .inl nn), (2, .inl k3)], [.inl 1], (I22, Ka, X), 0, 0) _
                    refine yi_G_if1 false rfl (by decide) ?_
                    refine yi_G_run 2 (182, [(5, .inr (.inl vu)), (4, .inl k), (3, .inl (I 83 (k.toNat))), (0, .inr (.inr (some 82))), (1, .inl nn), (2, .inl k3)], [.inl k, .inl k3], (I22, Ka, X), 0, 0) (fun _ => rfl) ?_
                    refine yi_G_isub rfl (k3 - k) (yi_wn (by omega) (by omega)) ?_
                    refine yi_G_run 1 (184, [(5, .inr (.inl vu)), (4, .inl k), (3, .inl (I 83 (k.toNat))), (0, .inr (.inr (some 82))), (1, .inl nn), (2, .inl k3)], [.inl 4, .inl (k3 - k)], (I22, Ka, X), 0, 0) (fun _ => rfl) ?_
                    by_cases h65 : 4 ≤ (k3 - k)
                    · refine yi_G_if2 true rfl (yi_ge_t h65) ?_
                      refine yi_G_run 2 (212, [(5, .inr (.inl vu)), (4, .inl k), (3, .inl (I 83 (k.toNat))), (0, .inr (.inr (some 82))), (1, .inl nn), (2, .inl k3)], [], (I22, Ka, X), 0, 0) (fun _ => rfl) ?_
                      refine yi_G_iinc [(2, .inl (k3 + 1)), (5, .inr (.inl vu)), (4, .inl k), (3, .inl (I 83 (k.toNat))), (0, .inr (.inr (some 82))), (1, .inl nn)] rfl rfl rfl (by rw [show yi_w (k3 + 1) = k3 + 1 from (yi_wn (by omega) (by omega)).trans (by omega)]; rfl) ?_
                      refine yi_G_run 1 (159, [(2, .inl (k3 + 1)), (5, .inr (.inl vu)), (4, .inl k), (3, .inl (I 83 (k.toNat))), (0, .inr (.inr (some 82))), (1, .inl nn)], [], (I22, Ka, X), 0, 0) (fun _ => rfl) ?_
                      refine yi_G_al (al := [(5, .inr (.inl vu)), (4, .inl k), (3, .inl (I 83 (k.toNat))), (0, .inr (.inr (some 82))), (1, .inl nn), (2, .inl (k3 + 1))]) (show ([5, 4, 3, 0, 1, 2] : List Nat).Nodup by decide) (show ([2, 5, 4, 3, 0, 1] : List Nat).Nodup by decide) (yi_mc (List.mem_of_getElem? (i := 1) rfl) (yi_mc (List.mem_of_getElem? (i := 2) rfl) (yi_mc (List.mem_of_getElem? (i := 3) rfl) (yi_mc (List.mem_of_getElem? (i := 4) rfl) (yi_mc (List.mem_of_getElem? (i := 5) rfl) (yi_mc (List.mem_of_getElem? (i := 0) rfl) yi_mn)))))) ?_
                      exact ih159 _ (by omega) (k3 + 1) vu (by omega) (by omega) rfl
                    · refine yi_G_if2 false rfl (yi_ge_f h65) ?_
                      refine yi_G_ldc2 (10) rfl (by decide +kernel) ?_
                      refine yi_G_run 3 (194, [(5, .inr (.inl vu)), (4, .inl k), (3, .inl (I 83 (k.toNat))), (0, .inr (.inr (some 82))), (1, .inl nn), (2, .inl k3)], [.inr (.inr (some 82)), .inr (.inl (yi_W (10 * vu)))], (I22, Ka, X), 0, 0) (fun _ => rfl) ?_
                      refine yi_G_get (197, [(5, .inr (.inl vu)), (4, .inl k), (3, .inl (I 83 (k.toNat))), (0, .inr (.inr (some 82))), (1, .inl nn), (2, .inl k3)], [.inr (.inr (some 83)), .inr (.inl (yi_W (10 * vu)))], (I22, Ka, X), 0, 0) rfl (ym_gr hS 0 rfl rfl rfl) ?_
                      refine yi_G_run 1 (198, [(5, .inr (.inl vu)), (4, .inl k), (3, .inl (I 83 (k.toNat))), (0, .inr (.inr (some 82))), (1, .inl nn), (2, .inl k3)], [.inl k3, .inr (.inr (some 83)), .inr (.inl (yi_W (10 * vu)))], (I22, Ka, X), 0, 0) (fun _ => rfl) ?_
                      have r66 : I22 83 (k3.toNat) = I 83 (k3.toNat) := by rw [← w23, yi_u_ne _ _ (by omega), fJa 83 (k3.toNat) (by omega), ← w4, yi_u_ne _ _ (by omega), ← w2, yi_u_ne _ _ (by omega)]
                      refine yi_G_iald (199, [(5, .inr (.inl vu)), (4, .inl k), (3, .inl (I 83 (k.toNat))), (0, .inr (.inr (some 82))), (1, .inl nn), (2, .inl k3)], [.inl (I 83 (k3.toNat)), .inr (.inl (yi_W (10 * vu)))], (I22, Ka, X), 0, 0) rfl (ym_li hS 0 rfl (by omega) (by omega) r66) ?_
                      refine yi_G_run 2 (201, [(5, .inr (.inl vu)), (4, .inl k), (3, .inl (I 83 (k.toNat))), (0, .inr (.inr (some 82))), (1, .inl nn), (2, .inl k3)], [.inr (.inl (yi_W ((yi_W (10 * vu)) + (I 83 (k3.toNat)))))], (I22, Ka, X), 0, 0) (fun _ => rfl) ?_
                      refine yi_G_ldc2 (48) rfl (by decide +kernel) ?_
                      refine yi_G_run 3 (212, [(5, .inr (.inl (yi_W ((yi_W ((yi_W (10 * vu)) + (I 83 (k3.toNat)))) - 48)))), (4, .inl k), (3, .inl (I 83 (k.toNat))), (0, .inr (.inr (some 82))), (1, .inl nn), (2, .inl k3)], [], (I22, Ka, X), 0, 0) (fun _ => rfl) ?_
                      refine yi_G_iinc [(2, .inl (k3 + 1)), (5, .inr (.inl (yi_W ((yi_W ((yi_W (10 * vu)) + (I 83 (k3.toNat)))) - 48)))), (4, .inl k), (3, .inl (I 83 (k.toNat))), (0, .inr (.inr (some 82))), (1, .inl nn)] rfl rfl rfl (by rw [show yi_w (k3 + 1) = k3 + 1 from (yi_wn (by omega) (by omega)).trans (by omega)]; rfl) ?_
                      refine yi_G_run 1 (159, [(2, .inl (k3 + 1)), (5, .inr (.inl (yi_W ((yi_W ((yi_W (10 * vu)) + (I 83 (k3.toNat)))) - 48)))), (4, .inl k), (3, .inl (I 83 (k.toNat))), (0, .inr (.inr (some 82))), (1, .inl nn)], [], (I22, Ka, X), 0, 0) (fun _ => rfl) ?_
                      refine yi_G_al (al := [(5, .inr (.inl (yi_W ((yi_W ((yi_W (10 * vu)) + (I 83 (k3.toNat)))) - 48)))), (4, .inl k), (3, .inl (I 83 (k.toNat))), (0, .inr (.inr (some 82))), (1, .inl nn), (2, .inl (k3 + 1))]) (show ([5, 4, 3, 0, 1, 2] : List Nat).Nodup by decide) (show ([2, 5, 4, 3, 0, 1] : List Nat).Nodup by decide) (yi_mc (List.mem_of_getElem? (i := 1) rfl) (yi_mc (List.mem_of_getElem? (i := 2) rfl) (yi_mc (List.mem_of_getElem? (i := 3) rfl) (yi_mc (List.mem_of_getElem? (i := 4) rfl) (yi_mc (List.mem_of_getElem? (i := 5) rfl) (yi_mc (List.mem_of_getElem? (i := 0) rfl) yi_mn)))))) ?_
                      exact ih159 _ (by omega) (k3 + 1) (yi_W ((yi_W ((yi_W (10 * vu)) + (I 83 (k3.toNat)))) - 48)) (by omega) (by omega) rfl
                  · show yi_G zi_Ms d zi_m16 (176, [(5, .inr (.inl vu)), (4, .inl k), (3, .inl (I 83 (k.toNat))), (0, .inr (.inr (some 82))), (1, .inl nn), (2, .inl k3)], [.inl 0], (I22, Ka, X), 0, 0) _
                    refine yi_G_if1 true rfl (by decide) ?_
                    refine yi_G_run 1 (219, [(5, .inr (.inl vu)), (4, .inl k), (3, .inl (I 83 (k.toNat))), (0, .inr (.inr (some 82))), (1, .inl nn), (2, .inl k3)], [.inr (.inr (some 82))], (I22, Ka, X), 0, 0) (fun _ => rfl) ?_
                    refine yi_G_get (222, [(5, .inr (.inl vu)), (4, .inl k), (3, .inl (I 83 (k.toNat))), (0, .inr (.inr (some 82))), (1, .inl nn), (2, .inl k3)], [.inr (.inr (some 84))], (I22, Ka, X), 0, 0) rfl (ym_gr hS 1 rfl rfl rfl) ?_
                    refine yi_G_run 3 (226, [(5, .inr (.inl vu)), (4, .inl k), (3, .inl (I 83 (k.toNat))), (0, .inr (.inr (some 82))), (1, .inl nn), (2, .inl k3)], [.inl k, .inl k3, .inl nn, .inr (.inr (some 84))], (I22, Ka, X), 0, 0) (fun _ => rfl) ?_
                    refine yi_G_isub rfl (k3 - k) (yi_wn (by omega) (by omega)) ?_
                    refine yi_G_run 1 (228, [(5, .inr (.inl vu)), (4, .inl k), (3, .inl (I 83 (k.toNat))), (0, .inr (.inr (some 82))), (1, .inl nn), (2, .inl k3)], [.inl 4, .inl (k3 - k), .inl nn, .inr (.inr (some 84))], (I22, Ka, X), 0, 0) (fun _ => rfl) ?_
                    by_cases h67 : (k3 - k) ≤ 4
                    · refine yi_G_if2 true rfl (yi_le_t h67) ?_
                      refine yi_G_run 1 (236, [(5, .inr (.inl vu)), (4, .inl k), (3, .inl (I 83 (k.toNat))), (0, .inr (.inr (some 82))), (1, .inl nn), (2, .inl k3)], [.inl 2, .inl nn, .inr (.inr (some 84))], (I22, Ka, X), 0, 0) (fun _ => rfl) ?_
                      refine yi_G_iast (237, [(5, .inr (.inl vu)), (4, .inl k), (3, .inl (I 83 (k.toNat))), (0, .inr (.inr (some 82))), (1, .inl nn), (2, .inl k3)], [], ((yi_u I22 84 (nn.toNat) 2), Ka, X), 0, 0) rfl (ym_si hS 1 rfl (by omega) (by omega)) ?_
                      generalize w69 : yi_u I22 84 (nn.toNat) 2 = I68
                      refine yi_G_run 2 (266, [(5, .inr (.inl vu)), (4, .inl k), (3, .inl (I 83 (k.toNat))), (0, .inr (.inr (some 82))), (1, .inl nn), (2, .inl k3)], [.inr (.inr (some 82))], (I68, Ka, X), 0, 0) (fun _ => rfl) ?_
                      refine yi_G_get (269, [(5, .inr (.inl vu)), (4, .inl k), (3, .inl (I 83 (k.toNat))), (0, .inr (.inr (some 82))), (1, .inl nn), (2, .inl k3)], [.inr (.inr (some 86))], (I68, Ka, X), 0, 0) rfl (ym_gr hS 3 rfl rfl rfl) ?_
                      refine yi_G_run 2 (272, [(5, .inr (.inl vu)), (4, .inl k), (3, .inl (I 83 (k.toNat))), (0, .inr (.inr (some 82))), (1, .inl nn), (2, .inl k3)], [.inr (.inl vu), .inl nn, .inr (.inr (some 86))], (I68, Ka, X), 0, 0) (fun _ => rfl) ?_
                      refine yi_G_last (273, [(5, .inr (.inl vu)), (4, .inl k), (3, .inl (I 83 (k.toNat))), (0, .inr (.inr (some 82))), (1, .inl nn), (2, .inl k3)], [], (I68, (yi_u Ka 86 (nn.toNat) vu), X), 0, 0) rfl (ym_sl hS 3 rfl (by omega) (by omega)) ?_
                      generalize w71 : yi_u Ka 86 (nn.toNat) vu = L70
                      refine yi_G_iinc [(1, .inl (nn + 1)), (5, .inr (.inl vu)), (4, .inl k), (3, .inl (I 83 (k.toNat))), (0, .inr (.inr (some 82))), (2, .inl k3)] rfl rfl rfl (by rw [show yi_w (nn + 1) = nn + 1 from (yi_wn (by omega) (by omega)).trans (by omega)]; rfl) ?_
                      refine yi_G_run 1 (17, [(1, .inl (nn + 1)), (5, .inr (.inl vu)), (4, .inl k), (3, .inl (I 83 (k.toNat))), (0, .inr (.inr (some 82))), (2, .inl k3)], [], (I68, L70, X), 0, 0) (fun _ => rfl) ?_
                      refine yi_G_al (al := [(0, .inr (.inr (some 82))), (1, .inl (nn + 1)), (2, .inl k3)]) (show ([0, 1, 2] : List Nat).Nodup by decide) (show ([1, 5, 4, 3, 0, 2] : List Nat).Nodup by decide) (yi_mc (List.mem_of_getElem? (i := 4) rfl) (yi_mc (List.mem_of_getElem? (i := 0) rfl) (yi_mc (List.mem_of_getElem? (i := 5) rfl) yi_mn))) ?_
                      exact ih17 _ (by omega) (nn + 1) k3 I68 L70 (fun p k hp => by rw [← w69, yi_u_ne _ _ (fun z => by omega), ← w23, yi_u_ne _ _ (fun z => by omega), fJa p k (by omega)]) (fun p k hp => by rw [← w71, yi_u_ne _ _ (fun z => by omega), fKa p k (by omega)]) (by omega) (by omega) (fun j a b => by
          rw [← w69, yi_u_ne _ _ (by omega), ← w23]
          by_cases e : j = nn
          · subst e; rw [yi_u_eq]; omega
          · rw [yi_u_ne _ _ (by omega)]; exact hp j a (by omega)) rfl
                    · refine yi_G_if2 false rfl (yi_le_f h67) ?_
                      refine yi_G_run 2 (236, [(5, .inr (.inl vu)), (4, .inl k), (3, .inl (I 83 (k.toNat))), (0, .inr (.inr (some 82))), (1, .inl nn), (2, .inl k3)], [.inl 4, .inl nn, .inr (.inr (some 84))], (I22, Ka, X), 0, 0) (fun _ => rfl) ?_
                      refine yi_G_iast (237, [(5, .inr (.inl vu)), (4, .inl k), (3, .inl (I 83 (k.toNat))), (0, .inr (.inr (some 82))), (1, .inl nn), (2, .inl k3)], [], ((yi_u I22 84 (nn.toNat) 4), Ka, X), 0, 0) rfl (ym_si hS 1 rfl (by omega) (by omega)) ?_
                      generalize w73 : yi_u I22 84 (nn.toNat) 4 = I72
                      refine yi_G_run 2 (266, [(5, .inr (.inl vu)), (4, .inl k), (3, .inl (I 83 (k.toNat))), (0, .inr (.inr (some 82))), (1, .inl nn), (2, .inl k3)], [.inr (.inr (some 82))], (I72, Ka, X), 0, 0) (fun _ => rfl) ?_
                      refine yi_G_get (269, [(5, .inr (.inl vu)), (4, .inl k), (3, .inl (I 83 (k.toNat))), (0, .inr (.inr (some 82))), (1, .inl nn), (2, .inl k3)], [.inr (.inr (some 86))], (I72, Ka, X), 0, 0) rfl (ym_gr hS 3 rfl rfl rfl) ?_
                      refine yi_G_run 2 (272, [(5, .inr (.inl vu)), (4, .inl k), (3, .inl (I 83 (k.toNat))), (0, .inr (.inr (some 82))), (1, .inl nn), (2, .inl k3)], [.inr (.inl vu), .inl nn, .inr (.inr (some 86))], (I72, Ka, X), 0, 0) (fun _ => rfl) ?_
                      refine yi_G_last (273, [(5, .inr (.inl vu)), (4, .inl k), (3, .inl (I 83 (k.toNat))), (0, .inr (.inr (some 82))), (1, .inl nn), (2, .inl k3)], [], (I72, (yi_u Ka 86 (nn.toNat) vu), X), 0, 0) rfl (ym_sl hS 3 rfl (by omega) (by omega)) ?_
                      generalize w75 : yi_u Ka 86 (nn.toNat) vu = L74
                      refine yi_G_iinc [(1, .inl (nn + 1)), (5, .inr (.inl vu)), (4, .inl k), (3, .inl (I 83 (k.toNat))), (0, .inr (.inr (some 82))), (2, .inl k3)] rfl rfl rfl (by rw [show yi_w (nn + 1) = nn + 1 from (yi_wn (by omega) (by omega)).trans (by omega)]; rfl) ?_
                      refine yi_G_run 1 (17, [(1, .inl (nn + 1)), (5, .inr (.inl vu)), (4, .inl k), (3, .inl (I 83 (k.toNat))), (0, .inr (.inr (some 82))), (2, .inl k3)], [], (I72, L74, X), 0, 0) (fun _ => rfl) ?_
                      refine yi_G_al (al := [(0, .inr (.inr (some 82))), (1, .inl (nn + 1)), (2, .inl k3)]) (show ([0, 1, 2] : List Nat).Nodup by decide) (show ([1, 5, 4, 3, 0, 2] : List Nat).Nodup by decide) (yi_mc (List.mem_of_getElem? (i := 4) rfl) (yi_mc (List.mem_of_getElem? (i := 0) rfl) (yi_mc (List.mem_of_getElem? (i := 5) rfl) yi_mn))) ?_
                      exact ih17 _ (by omega) (nn + 1) k3 I72 L74 (fun p k hp => by rw [← w73, yi_u_ne _ _ (fun z => by omega), ← w23, yi_u_ne _ _ (fun z => by omega), fJa p k (by omega)]) (fun p k hp => by rw [← w75, yi_u_ne _ _ (fun z => by omega), fKa p k (by omega)]) (by omega) (by omega) (fun j a b => by
          rw [← w73, yi_u_ne _ _ (by omega), ← w23]
          by_cases e : j = nn
          · subst e; rw [yi_u_eq]; omega
          · rw [yi_u_ne _ _ (by omega)]; exact hp j a (by omega)) rfl
              exact pt159 _ k 0 (by omega) (by omega) rfl
            · show yi_G zi_Ms d zi_m16 (156, [(5, .inr (.inl 0)), (4, .inl k), (3, .inl (I 83 (k.toNat))), (0, .inr (.inr (some 82))), (1, .inl nn), (2, .inl k)], [.inl 0], (I22, Ka, X), 0, 0) _
              refine yi_G_if1 true rfl (by decide) ?_
              refine yi_G_run 4 (245, [(5, .inr (.inl (I 83 (k.toNat)))), (4, .inl k), (3, .inl (I 83 (k.toNat))), (0, .inr (.inr (some 82))), (1, .inl nn), (2, .inl k)], [.inr (.inr (some 82))], (I22, Ka, X), 0, 0) (fun _ => rfl) ?_
              refine yi_G_get (248, [(5, .inr (.inl (I 83 (k.toNat)))), (4, .inl k), (3, .inl (I 83 (k.toNat))), (0, .inr (.inr (some 82))), (1, .inl nn), (2, .inl k)], [.inr (.inr (some 84))], (I22, Ka, X), 0, 0) rfl (ym_gr hS 1 rfl rfl rfl) ?_
              refine yi_G_run 2 (250, [(5, .inr (.inl (I 83 (k.toNat)))), (4, .inl k), (3, .inl (I 83 (k.toNat))), (0, .inr (.inr (some 82))), (1, .inl nn), (2, .inl k)], [.inl (I 83 (k.toNat)), .inl nn, .inr (.inr (some 84))], (I22, Ka, X), 0, 0) (fun _ => rfl) ?_
              refine yi_G_calls rfl rfl (c_isSignOf d (by omega) hS) ?_
              rintro _ (⟨c76, rfl⟩ | ⟨c76, rfl⟩)
              · show yi_G zi_Ms d zi_m16 (253, [(5, .inr (.inl (I 83 (k.toNat)))), (4, .inl k), (3, .inl (I 83 (k.toNat))), (0, .inr (.inr (some 82))), (1, .inl nn), (2, .inl k)], [.inl 1, .inl nn, .inr (.inr (some 84))], (I22, Ka, X), 0, 0) _
                refine yi_G_if1 false rfl (by decide) ?_
                refine yi_G_run 2 (261, [(5, .inr (.inl (I 83 (k.toNat)))), (4, .inl k), (3, .inl (I 83 (k.toNat))), (0, .inr (.inr (some 82))), (1, .inl nn), (2, .inl k)], [.inl 3, .inl nn, .inr (.inr (some 84))], (I22, Ka, X), 0, 0) (fun _ => rfl) ?_
                refine yi_G_iast (262, [(5, .inr (.inl (I 83 (k.toNat)))), (4, .inl k), (3, .inl (I 83 (k.toNat))), (0, .inr (.inr (some 82))), (1, .inl nn), (2, .inl k)], [], ((yi_u I22 84 (nn.toNat) 3), Ka, X), 0, 0) rfl (ym_si hS 1 rfl (by omega) (by omega)) ?_
                generalize w78 : yi_u I22 84 (nn.toNat) 3 = I77
                refine yi_G_iinc [(2, .inl (k + 1)), (5, .inr (.inl (I 83 (k.toNat)))), (4, .inl k), (3, .inl (I 83 (k.toNat))), (0, .inr (.inr (some 82))), (1, .inl nn)] rfl rfl rfl (by rw [show yi_w (k + 1) = k + 1 from (yi_wn (by omega) (by omega)).trans (by omega)]; rfl) ?_
                refine yi_G_run 1 (266, [(2, .inl (k + 1)), (5, .inr (.inl (I 83 (k.toNat)))), (4, .inl k), (3, .inl (I 83 (k.toNat))), (0, .inr (.inr (some 82))), (1, .inl nn)], [.inr (.inr (some 82))], (I77, Ka, X), 0, 0) (fun _ => rfl) ?_
                refine yi_G_get (269, [(2, .inl (k + 1)), (5, .inr (.inl (I 83 (k.toNat)))), (4, .inl k), (3, .inl (I 83 (k.toNat))), (0, .inr (.inr (some 82))), (1, .inl nn)], [.inr (.inr (some 86))], (I77, Ka, X), 0, 0) rfl (ym_gr hS 3 rfl rfl rfl) ?_
                refine yi_G_run 2 (272, [(2, .inl (k + 1)), (5, .inr (.inl (I 83 (k.toNat)))), (4, .inl k), (3, .inl (I 83 (k.toNat))), (0, .inr (.inr (some 82))), (1, .inl nn)], [.inr (.inl (I 83 (k.toNat))), .inl nn, .inr (.inr (some 86))], (I77, Ka, X), 0, 0) (fun _ => rfl) ?_
                refine yi_G_last (273, [(2, .inl (k + 1)), (5, .inr (.inl (I 83 (k.toNat)))), (4, .inl k), (3, .inl (I 83 (k.toNat))), (0, .inr (.inr (some 82))), (1, .inl nn)], [], (I77, (yi_u Ka 86 (nn.toNat) (I 83 (k.toNat))), X), 0, 0) rfl (ym_sl hS 3 rfl (by omega) (by omega)) ?_
                generalize w80 : yi_u Ka 86 (nn.toNat) (I 83 (k.toNat)) = L79
                refine yi_G_iinc [(1, .inl (nn + 1)), (2, .inl (k + 1)), (5, .inr (.inl (I 83 (k.toNat)))), (4, .inl k), (3, .inl (I 83 (k.toNat))), (0, .inr (.inr (some 82)))] rfl rfl rfl (by rw [show yi_w (nn + 1) = nn + 1 from (yi_wn (by omega) (by omega)).trans (by omega)]; rfl) ?_
                refine yi_G_run 1 (17, [(1, .inl (nn + 1)), (2, .inl (k + 1)), (5, .inr (.inl (I 83 (k.toNat)))), (4, .inl k), (3, .inl (I 83 (k.toNat))), (0, .inr (.inr (some 82)))], [], (I77, L79, X), 0, 0) (fun _ => rfl) ?_
                refine yi_G_al (al := [(0, .inr (.inr (some 82))), (1, .inl (nn + 1)), (2, .inl (k + 1))]) (show ([0, 1, 2] : List Nat).Nodup by decide) (show ([1, 2, 5, 4, 3, 0] : List Nat).Nodup by decide) (yi_mc (List.mem_of_getElem? (i := 5) rfl) (yi_mc (List.mem_of_getElem? (i := 0) rfl) (yi_mc (List.mem_of_getElem? (i := 1) rfl) yi_mn))) ?_
                exact ih17 _ (by omega) (nn + 1) (k + 1) I77 L79 (fun p k hp => by rw [← w78, yi_u_ne _ _ (fun z => by omega), ← w23, yi_u_ne _ _ (fun z => by omega), fJa p k (by omega)]) (fun p k hp => by rw [← w80, yi_u_ne _ _ (fun z => by omega), fKa p k (by omega)]) (by omega) (by omega) (fun j a b => by
          rw [← w78, yi_u_ne _ _ (by omega), ← w23]
          by_cases e : j = nn
          · subst e; rw [yi_u_eq]; omega
          · rw [yi_u_ne _ _ (by omega)]; exact hp j a (by omega)) rfl
              · show yi_G zi_Ms d zi_m16 (253, [(5, .inr (.inl (I 83 (k.toNat)))), (4, .inl k), (3, .inl (I 83 (k.toNat))), (0, .inr (.inr (some 82))), (1, .inl nn), (2, .inl k)], [.inl 0, .inl nn, .inr (.inr (some 84))], (I22, Ka, X), 0, 0) _
                refine yi_G_if1 true rfl (by decide) ?_
                refine yi_G_run 1 (261, [(5, .inr (.inl (I 83 (k.toNat)))), (4, .inl k), (3, .inl (I 83 (k.toNat))), (0, .inr (.inr (some 82))), (1, .inl nn), (2, .inl k)], [.inl 4, .inl nn, .inr (.inr (some 84))], (I22, Ka, X), 0, 0) (fun _ => rfl) ?_
                refine yi_G_iast (262, [(5, .inr (.inl (I 83 (k.toNat)))), (4, .inl k), (3, .inl (I 83 (k.toNat))), (0, .inr (.inr (some 82))), (1, .inl nn), (2, .inl k)], [], ((yi_u I22 84 (nn.toNat) 4), Ka, X), 0, 0) rfl (ym_si hS 1 rfl (by omega) (by omega)) ?_
                generalize w82 : yi_u I22 84 (nn.toNat) 4 = I81
                refine yi_G_iinc [(2, .inl (k + 1)), (5, .inr (.inl (I 83 (k.toNat)))), (4, .inl k), (3, .inl (I 83 (k.toNat))), (0, .inr (.inr (some 82))), (1, .inl nn)] rfl rfl rfl (by rw [show yi_w (k + 1) = k + 1 from (yi_wn (by omega) (by omega)).trans (by omega)]; rfl) ?_
                refine yi_G_run 1 (266, [(2, .inl (k + 1)), (5, .inr (.inl (I 83 (k.toNat)))), (4, .inl k), (3, .inl (I 83 (k.toNat))), (0, .inr (.inr (some 82))), (1, .inl nn)], [.inr (.inr (some 82))], (I81, Ka, X), 0, 0) (fun _ => rfl) ?_
                refine yi_G_get (269, [(2, .inl (k + 1)), (5, .inr (.inl (I 83 (k.toNat)))), (4, .inl k), (3, .inl (I 83 (k.toNat))), (0, .inr (.inr (some 82))), (1, .inl nn)], [.inr (.inr (some 86))], (I81, Ka, X), 0, 0) rfl (ym_gr hS 3 rfl rfl rfl) ?_
                refine yi_G_run 2 (272, [(2, .inl (k + 1)), (5, .inr (.inl (I 83 (k.toNat)))), (4, .inl k), (3, .inl (I 83 (k.toNat))), (0, .inr (.inr (some 82))), (1, .inl nn)], [.inr (.inl (I 83 (k.toNat))), .inl nn, .inr (.inr (some 86))], (I81, Ka, X), 0, 0) (fun _ => rfl) ?_
                refine yi_G_last (273, [(2, .inl (k + 1)), (5, .inr (.inl (I 83 (k.toNat)))), (4, .inl k), (3, .inl (I 83 (k.toNat))), (0, .inr (.inr (some 82))), (1, .inl nn)], [], (I81, (yi_u Ka 86 (nn.toNat) (I 83 (k.toNat))), X), 0, 0) rfl (ym_sl hS 3 rfl (by omega) (by omega)) ?_
                generalize w84 : yi_u Ka 86 (nn.toNat) (I 83 (k.toNat)) = L83
                refine yi_G_iinc [(1, .inl (nn + 1)), (2, .inl (k + 1)), (5, .inr (.inl (I 83 (k.toNat)))), (4, .inl k), (3, .inl (I 83 (k.toNat))), (0, .inr (.inr (some 82)))] rfl rfl rfl (by rw [show yi_w (nn + 1) = nn + 1 from (yi_wn (by omega) (by omega)).trans (by omega)]; rfl) ?_
                refine yi_G_run 1 (17, [(1, .inl (nn + 1)), (2, .inl (k + 1)), (5, .inr (.inl (I 83 (k.toNat)))), (4, .inl k), (3, .inl (I 83 (k.toNat))), (0, .inr (.inr (some 82)))], [], (I81, L83, X), 0, 0) (fun _ => rfl) ?_
                refine yi_G_al (al := [(0, .inr (.inr (some 82))), (1, .inl (nn + 1)), (2, .inl (k + 1))]) (show ([0, 1, 2] : List Nat).Nodup by decide) (show ([1, 2, 5, 4, 3, 0] : List Nat).Nodup by decide) (yi_mc (List.mem_of_getElem? (i := 5) rfl) (yi_mc (List.mem_of_getElem? (i := 0) rfl) (yi_mc (List.mem_of_getElem? (i := 1) rfl) yi_mn))) ?_
                exact ih17 _ (by omega) (nn + 1) (k + 1) I81 L83 (fun p k hp => by rw [← w82, yi_u_ne _ _ (fun z => by omega), ← w23, yi_u_ne _ _ (fun z => by omega), fJa p k (by omega)]) (fun p k hp => by rw [← w84, yi_u_ne _ _ (fun z => by omega), fKa p k (by omega)]) (by omega) (by omega) (fun j a b => by
          rw [← w82, yi_u_ne _ _ (by omega), ← w23]
          by_cases e : j = nn
          · subst e; rw [yi_u_eq]; omega
          · rw [yi_u_ne _ _ (by omega)]; exact hp j a (by omega)) rfl
  refine yi_G_run 4 (17, [(2, .inl 0), (1, .inl 0), (0, .inr (.inr (some 82)))], [], (I3, L, X), 0, 0) (fun _ => rfl) ?_
  refine yi_G_al (al := [(0, .inr (.inr (some 82))), (1, .inl 0), (2, .inl 0)]) (show ([0, 1, 2] : List Nat).Nodup by decide) (show ([2, 1, 0] : List Nat).Nodup by decide) (yi_mc (List.mem_of_getElem? (i := 2) rfl) (yi_mc (List.mem_of_getElem? (i := 1) rfl) (yi_mc (List.mem_of_getElem? (i := 0) rfl) yi_mn))) ?_
  exact pt17 _ 0 0 I3 L (fun _ _ _ => rfl) (fun _ _ _ => rfl) (by omega) (by omega) (fun j a b => absurd b (by omega)) rfl
theorem c_stands (D : Nat) (hD : 1 ≤ D) {I L : Nat → Nat → Int} {X : ym_X} (hS : ym_S X) : yi_E zi_Ms D 111 [.inr (.inr (some 82)), .inl 50] (I, L, X) (fun r => ∃ I', r = (none, (I', L, X), 0, 0) ∧ (∀ p k, p ≠ 88 → I' p k = I p k) ∧ (∀ k : Nat, k < 50 → I' 88 k = I 88 k) ∧ (∀ k : Nat, 50 ≤ k → k < 100 → I' 88 k = if k = 56 then -1 else 0)) := by
  obtain ⟨d, rfl⟩ : ∃ d, D = d + 1 := ⟨D - 1, by omega⟩
  refine yi_E_of (M := zi_m111) rfl rfl ?_
  show yi_G zi_Ms d zi_m111 (0, [(0, .inr (.inr (some 82))), (1, .inl 50)], [], (I, L, X), 0, 0) _
  have pt2 : ∀ (m : Nat) (k : Int) (Ja : Nat → Nat → Int), (∀ p k, p ≠ 88 → Ja p k = I p k) → (0 ≤ k ∧ k ≤ 50) → (∀ j : Nat, j < 50 → Ja 88 j = I 88 j) → (∀ j : Nat, 50 ≤ j → (j : Int) < 50 + k → Ja 88 j = 0) → (50 - k).toNat = m → yi_G zi_Ms d zi_m111 (2, [(0, .inr (.inr (some 82))), (1, .inl 50), (2, .inl k)], [], (Ja, L, X), 0, 0) (fun r => ∃ I', r = (none, (I', L, X), 0, 0) ∧ (∀ p k, p ≠ 88 → I' p k = I p k) ∧ (∀ k : Nat, k < 50 → I' 88 k = I 88 k) ∧ (∀ k : Nat, 50 ≤ k → k < 100 → I' 88 k = if k = 56 then -1 else 0)) := by
    intro m2
    induction m2 using Nat.strongRecOn with
    | _ m2 ih2 =>
    intro k Ja fJa k0 lo hi hm2
    refine yi_G_run 2 (5, [(0, .inr (.inr (some 82))), (1, .inl 50), (2, .inl k)], [.inl 50, .inl k], (Ja, L, X), 0, 0) (fun _ => rfl) ?_
    by_cases h1 : 50 ≤ k
    · refine yi_G_if2 true rfl (yi_ge_t h1) ?_
      refine yi_G_run 1 (24, [(0, .inr (.inr (some 82))), (1, .inl 50), (2, .inl k)], [.inr (.inr (some 82))], (Ja, L, X), 0, 0) (fun _ => rfl) ?_
      refine yi_G_get (27, [(0, .inr (.inr (some 82))), (1, .inl 50), (2, .inl k)], [.inr (.inr (some 88))], (Ja, L, X), 0, 0) rfl (ym_gr hS 5 rfl rfl rfl) ?_
      refine yi_G_run 2 (30, [(0, .inr (.inr (some 82))), (1, .inl 50), (2, .inl k)], [.inl 6, .inl 50, .inr (.inr (some 88))], (Ja, L, X), 0, 0) (fun _ => rfl) ?_
      refine yi_G_iadd rfl (56) (by decide) ?_
      refine yi_G_run 1 (32, [(0, .inr (.inr (some 82))), (1, .inl 50), (2, .inl k)], [.inl (-1), .inl 56, .inr (.inr (some 88))], (Ja, L, X), 0, 0) (fun _ => rfl) ?_
      refine yi_G_iast (33, [(0, .inr (.inr (some 82))), (1, .inl 50), (2, .inl k)], [], ((yi_u Ja 88 56 (-1)), L, X), 0, 0) rfl (ym_si hS 5 rfl (by omega) (by omega)) ?_
      generalize w3 : yi_u Ja 88 56 (-1) = I2
      exact yi_G_retv rfl rfl (⟨_, rfl, (fun p k hp => by rw [← w3, yi_u_ne _ _ (fun z => by omega), fJa p k (by omega)]), fun k hk => by rw [← w3, yi_u_ne _ _ (by omega)]; exact lo k hk, fun k a b => by
          rw [← w3]
          by_cases e : k = 56
          · subst e; rw [yi_u_eq, if_pos rfl]
          · rw [yi_u_ne _ _ (by omega), if_neg e]; exact hi k a (by omega)⟩)
    · refine yi_G_if2 false rfl (yi_ge_f h1) ?_
      refine yi_G_run 1 (9, [(0, .inr (.inr (some 82))), (1, .inl 50), (2, .inl k)], [.inr (.inr (some 82))], (Ja, L, X), 0, 0) (fun _ => rfl) ?_
      refine yi_G_get (12, [(0, .inr (.inr (some 82))), (1, .inl 50), (2, .inl k)], [.inr (.inr (some 88))], (Ja, L, X), 0, 0) rfl (ym_gr hS 5 rfl rfl rfl) ?_
      refine yi_G_run 2 (14, [(0, .inr (.inr (some 82))), (1, .inl 50), (2, .inl k)], [.inl k, .inl 50, .inr (.inr (some 88))], (Ja, L, X), 0, 0) (fun _ => rfl) ?_
      refine yi_G_iadd rfl (50 + k) (yi_wn (by omega) (by omega)) ?_
      refine yi_G_run 1 (16, [(0, .inr (.inr (some 82))), (1, .inl 50), (2, .inl k)], [.inl 0, .inl (50 + k), .inr (.inr (some 88))], (Ja, L, X), 0, 0) (fun _ => rfl) ?_
      refine yi_G_iast (17, [(0, .inr (.inr (some 82))), (1, .inl 50), (2, .inl k)], [], ((yi_u Ja 88 ((50 + k).toNat) 0), L, X), 0, 0) rfl (ym_si hS 5 rfl (by omega) (by omega)) ?_
      generalize w5 : yi_u Ja 88 ((50 + k).toNat) 0 = I4
      refine yi_G_iinc [(2, .inl (k + 1)), (0, .inr (.inr (some 82))), (1, .inl 50)] rfl rfl rfl (by rw [show yi_w (k + 1) = k + 1 from (yi_wn (by omega) (by omega)).trans (by omega)]; rfl) ?_
      refine yi_G_run 1 (2, [(2, .inl (k + 1)), (0, .inr (.inr (some 82))), (1, .inl 50)], [], (I4, L, X), 0, 0) (fun _ => rfl) ?_
      refine yi_G_al (al := [(0, .inr (.inr (some 82))), (1, .inl 50), (2, .inl (k + 1))]) (show ([0, 1, 2] : List Nat).Nodup by decide) (show ([2, 0, 1] : List Nat).Nodup by decide) (yi_mc (List.mem_of_getElem? (i := 1) rfl) (yi_mc (List.mem_of_getElem? (i := 2) rfl) (yi_mc (List.mem_of_getElem? (i := 0) rfl) yi_mn))) ?_
      exact ih2 _ (by omega) (k + 1) I4 (fun p k hp => by rw [← w5, yi_u_ne _ _ (fun z => by omega), fJa p k (by omega)]) (by omega) (fun j hj => by rw [← w5, yi_u_ne _ _ (by omega)]; exact lo j hj) (fun j a b => by
          rw [← w5]
          by_cases e : (50 + k).toNat = j
          · subst e; rw [yi_u_eq]
          · rw [yi_u_ne _ _ (by omega)]; exact hi j a (by omega)) rfl
  refine yi_G_run 2 (2, [(2, .inl 0), (0, .inr (.inr (some 82))), (1, .inl 50)], [], (I, L, X), 0, 0) (fun _ => rfl) ?_
  refine yi_G_al (al := [(0, .inr (.inr (some 82))), (1, .inl 50), (2, .inl 0)]) (show ([0, 1, 2] : List Nat).Nodup by decide) (show ([2, 0, 1] : List Nat).Nodup by decide) (yi_mc (List.mem_of_getElem? (i := 1) rfl) (yi_mc (List.mem_of_getElem? (i := 2) rfl) (yi_mc (List.mem_of_getElem? (i := 0) rfl) yi_mn))) ?_
  exact pt2 _ 0 I (fun _ _ _ => rfl) (by omega) (fun _ _ => rfl) (fun j a b => absurd b (by omega)) rfl
theorem c_readAll (D : Nat) (hD : 26 ≤ D) {I L : Nat → Nat → Int} {X : ym_X} (hS : ym_S X) {sy : Int} (s0 : sy = 0 ∨ sy = 1) (hLR : ym_LR I) (t0 : 0 ≤ I 82 2 ∧ I 82 2 ≤ 1000) (n0 : 0 ≤ I 82 18 ∧ I 82 18 ≤ 13) (n1 : 0 ≤ I 82 19 ∧ I 82 19 ≤ 13) : yi_E zi_Ms D 93 [.inr (.inr (some 82)), .inl sy] (I, L, X) (fun r => ∃ I' L', r = (some (.inl 1100), (I', L', X), 0, 0) ∧ (∀ p k, ¬ (p = 82 ∧ k = 2) ∧ ¬ (p = 82 ∧ k = 3) ∧ ¬ (p = 82 ∧ k = 7) ∧ ¬ (p = 82 ∧ k = 8) ∧ ¬ (p = 82 ∧ k = 13) ∧ ¬ (p = 82 ∧ k = 20) ∧ ¬ (p = 82 ∧ k = 33) ∧ p ≠ 84 ∧ p ≠ 85 ∧ p ≠ 89 ∧ p ≠ 90 → I' p k = I p k) ∧ (∀ p k, p ≠ 86 → L' p k = L p k) ∧ 0 ≤ I' 82 8 ∧ I' 82 2 = 0 ∧ ym_LW I I' 0 ∧ (I' 82 8 = 0 → (∃ e, ym_PG I' 1100 e) ∧ (sy = 1 → 0 ≤ I' 82 33 ∧ I' 82 33 ≤ 4))) := by
  obtain ⟨d, rfl⟩ : ∃ d, D = d + 1 := ⟨D - 1, by omega⟩
  refine yi_E_of (M := zi_m93) rfl rfl ?_
  obtain ⟨l0, l1, l2, l3, l4, l5⟩ := id hLR
  show yi_G zi_Ms d zi_m93 (0, [(0, .inr (.inr (some 82))), (1, .inl sy)], [], (I, L, X), 0, 0) _
  refine yi_G_run 1 (1, [(0, .inr (.inr (some 82))), (1, .inl sy)], [.inr (.inr (some 82))], (I, L, X), 0, 0) (fun _ => rfl) ?_
  refine yi_G_callv rfl rfl (ym_rcv hS) rfl (c_cutAll d (by omega) hS ⟨by omega, by omega⟩) ?_
  rintro _ ⟨I1, L3, te, rfl, f2, f4, hTI1, c2I1, c7I1, c8I1⟩
  obtain ⟨te0, te1, te2⟩ := id hTI1
  show yi_G zi_Ms d zi_m93 (4, [(0, .inr (.inr (some 82))), (1, .inl sy)], [], (I1, L3, X), 0, 0) _
  refine yi_G_run 2 (6, [(0, .inr (.inr (some 82))), (1, .inl sy)], [.inl 0, .inr (.inr (some 82))], (I1, L3, X), 0, 0) (fun _ => rfl) ?_
  refine yi_G_put (9, [(0, .inr (.inr (some 82))), (1, .inl sy)], [], ((yi_u I1 82 20 0), L3, X), 0, 0) rfl (ym_pi hS rfl rfl) ?_
  generalize w6 : yi_u I1 82 20 0 = I5
  refine yi_G_run 2 (11, [(0, .inr (.inr (some 82))), (1, .inl sy)], [.inl 0, .inr (.inr (some 82))], (I5, L3, X), 0, 0) (fun _ => rfl) ?_
  refine yi_G_put (14, [(0, .inr (.inr (some 82))), (1, .inl sy)], [], ((yi_u I5 82 13 0), L3, X), 0, 0) rfl (ym_pi hS rfl rfl) ?_
  generalize w8 : yi_u I5 82 13 0 = I7
  refine yi_G_run 2 (16, [(0, .inr (.inr (some 82))), (1, .inl sy)], [.inl sy, .inr (.inr (some 82))], (I7, L3, X), 0, 0) (fun _ => rfl) ?_
  by_cases h9 : sy = 0
  · refine yi_G_if1 true rfl (yi_eq_t h9) ?_
    refine yi_G_run 1 (29, [(0, .inr (.inr (some 82))), (1, .inl sy)], [.inl (-1), .inr (.inr (some 82))], (I7, L3, X), 0, 0) (fun _ => rfl) ?_
    refine yi_G_put (32, [(0, .inr (.inr (some 82))), (1, .inl sy)], [], ((yi_u I7 82 33 (-1)), L3, X), 0, 0) rfl (ym_pi hS rfl rfl) ?_
    generalize w11 : yi_u I7 82 33 (-1) = I10
    refine yi_G_run 2 (34, [(0, .inr (.inr (some 82))), (1, .inl sy)], [.inl 0, .inr (.inr (some 82))], (I10, L3, X), 0, 0) (fun _ => rfl) ?_
    have r12 : I10 82 13 = 0 := by rw [← w11, yi_u_ne _ _ (by omega), ← w8, yi_u_eq]
    have r13 : I10 82 18 = I 82 18 := by rw [← w11, yi_u_ne _ _ (by omega), ← w8, yi_u_ne _ _ (by omega), ← w6, yi_u_ne _ _ (by omega), f2 82 (18) (by omega)]
    have r14 : I10 82 19 = I 82 19 := by rw [← w11, yi_u_ne _ _ (by omega), ← w8, yi_u_ne _ _ (by omega), ← w6, yi_u_ne _ _ (by omega), f2 82 (19) (by omega)]
    have r15 : I10 82 7 = 0 := by rw [← w11, yi_u_ne _ _ (by omega), ← w8, yi_u_ne _ _ (by omega), ← w6, yi_u_ne _ _ (by omega), c7I1]
    have r16 : I10 82 8 = 0 := by rw [← w11, yi_u_ne _ _ (by omega), ← w8, yi_u_ne _ _ (by omega), ← w6, yi_u_ne _ _ (by omega), c8I1]
    have r17 : I10 82 20 = 0 := by rw [← w11, yi_u_ne _ _ (by omega), ← w8, yi_u_ne _ _ (by omega), ← w6, yi_u_eq]
    have r18 : I10 88 0 = I 88 0 := by rw [← w11, yi_u_ne _ _ (by omega), ← w8, yi_u_ne _ _ (by omega), ← w6, yi_u_ne _ _ (by omega), f2 88 (0) (by omega)]
    refine yi_G_callv rfl rfl (ym_rcv hS) rfl (c_formula0 hS d (by omega) I10 L3 te 0 (ym_TK_t (fun k => by rw [← w11, yi_u_ne _ _ (fun z => absurd z.1 (by decide)), ← w8, yi_u_ne _ _ (fun z => absurd z.1 (by decide)), ← w6, yi_u_ne _ _ (fun z => absurd z.1 (by decide))]) (fun k => by rw [← w11, yi_u_ne _ _ (fun z => absurd z.1 (by decide)), ← w8, yi_u_ne _ _ (fun z => absurd z.1 (by decide)), ← w6, yi_u_ne _ _ (fun z => absurd z.1 (by decide))]) hTI1) ⟨by omega, by omega⟩ (by omega) ⟨(by rw [r13]; omega), (by rw [r13]; omega)⟩ ⟨(by rw [r14]; omega), (by rw [r14]; omega)⟩ (ym_DY_0 (by omega) (by omega)) r12 ⟨by omega, by omega⟩) ?_
    rintro _ ⟨I19, rfl, f20, h21a, h21b, h21c, h21d, lwI19, sgI19⟩
    show yi_G zi_Ms d zi_m93 (37, [(0, .inr (.inr (some 82))), (1, .inl sy)], [], (I19, L3, X), 0, 0) _
    refine yi_G_run 3 (40, [(0, .inr (.inr (some 82))), (1, .inl sy)], [.inl 0, .inl 0, .inr (.inr (some 82))], (I19, L3, X), 0, 0) (fun _ => rfl) ?_
    refine yi_G_callv rfl rfl (ym_rcv hS) rfl (c_emit d (by omega) hS rfl ⟨by omega, by omega⟩) ?_
    rintro _ ⟨I22, rfl, f23, eI22, emI22⟩
    show yi_G zi_Ms d zi_m93 (43, [(0, .inr (.inr (some 82))), (1, .inl sy)], [], (I22, L3, X), 0, 0) _
    refine yi_G_run 2 (46, [(0, .inr (.inr (some 82))), (1, .inl sy)], [.inl 59, .inr (.inr (some 82))], (I22, L3, X), 0, 0) (fun _ => rfl) ?_
    have r24 : I22 82 7 = I19 82 7 := by rw [f23 82 (7) (by omega)]
    have r25 : I22 82 8 = I19 82 8 := by rw [f23 82 (8) (by omega)]
    refine yi_G_callv rfl rfl (ym_rcv hS) rfl (c_takeSign d (by omega) hS (ym_TK_t (fun k => by rw [f23 84 k (by omega), f20 84 k (by omega), ← w11, yi_u_ne _ _ (fun z => absurd z.1 (by decide)), ← w8, yi_u_ne _ _ (fun z => absurd z.1 (by decide)), ← w6, yi_u_ne _ _ (fun z => absurd z.1 (by decide))]) (fun k => by rw [f23 85 k (by omega), f20 85 k (by omega), ← w11, yi_u_ne _ _ (fun z => absurd z.1 (by decide)), ← w8, yi_u_ne _ _ (fun z => absurd z.1 (by decide)), ← w6, yi_u_ne _ _ (fun z => absurd z.1 (by decide))]) hTI1) ⟨by omega, by omega⟩ (by omega)) ?_
    rintro _ ⟨I26, rfl, f27, h28a, h28b, h28c⟩
    show yi_G zi_Ms d zi_m93 (49, [(0, .inr (.inr (some 82))), (1, .inl sy)], [], (I26, L3, X), 0, 0) _
    have pt73 : ∀ (Jz : Nat → Nat → Int), (∀ p k, ¬ (p = 82 ∧ k = 8) → Jz p k = I26 p k) → (0 ≤ Jz 82 8) → (Jz 82 8 = 0 → I26 82 8 = 0) → yi_G zi_Ms d zi_m93 (73, [(0, .inr (.inr (some 82))), (1, .inl sy)], [], (Jz, L3, X), 0, 0) (fun r => ∃ I' L', r = (some (.inl 1100), (I', L', X), 0, 0) ∧ (∀ p k, ¬ (p = 82 ∧ k = 2) ∧ ¬ (p = 82 ∧ k = 3) ∧ ¬ (p = 82 ∧ k = 7) ∧ ¬ (p = 82 ∧ k = 8) ∧ ¬ (p = 82 ∧ k = 13) ∧ ¬ (p = 82 ∧ k = 20) ∧ ¬ (p = 82 ∧ k = 33) ∧ p ≠ 84 ∧ p ≠ 85 ∧ p ≠ 89 ∧ p ≠ 90 → I' p k = I p k) ∧ (∀ p k, p ≠ 86 → L' p k = L p k) ∧ 0 ≤ I' 82 8 ∧ I' 82 2 = 0 ∧ ym_LW I I' 0 ∧ (I' 82 8 = 0 → (∃ e, ym_PG I' 1100 e) ∧ (sy = 1 → 0 ≤ I' 82 33 ∧ I' 82 33 ≤ 4))) := by
      intro Jz fJz z0 z1 
      refine yi_G_run 1 (76, [(0, .inr (.inr (some 82))), (1, .inl sy)], [.inl 1100], (Jz, L3, X), 0, 0) (fun _ => rfl) ?_
      have r29 : Jz 82 2 = 0 := by rw [fJz 82 (2) (by omega), f27 82 (2) (by omega), f23 82 (2) (by omega), f20 82 (2) (by omega), ← w11, yi_u_ne _ _ (by omega), ← w8, yi_u_ne _ _ (by omega), ← w6, yi_u_ne _ _ (by omega), c2I1]
      have r30 : Jz 82 7 = I26 82 7 := by rw [fJz 82 (7) (by omega)]
      have r31 : Jz 82 13 = I22 82 13 := by rw [fJz 82 (13) (by omega), f27 82 (13) (by omega)]
      have r32 : Jz 82 33 = (-1) := by rw [fJz 82 (33) (by omega), f27 82 (33) (by omega), f23 82 (33) (by omega), f20 82 (33) (by omega), ← w11, yi_u_eq]
      exact yi_G_reti rfl rfl (⟨_, _, rfl, (fun p k hp => by rw [fJz p k (by omega), f27 p k (by omega), f23 p k (by omega), f20 p k (by omega), ← w11, yi_u_ne _ _ (fun z => by omega), ← w8, yi_u_ne _ _ (fun z => by omega), ← w6, yi_u_ne _ _ (fun z => by omega), f2 p k (by omega)]), (fun p k hp => by rw [f4 p k (by omega)]), by omega, by omega, (ym_LW_f (ym_LW_t (ym_LW_g lwI19 (fun k => by rw [← w11, yi_u_ne _ _ (fun z => absurd z.1 (by decide)), ← w8, yi_u_ne _ _ (fun z => absurd z.1 (by decide)), ← w6, yi_u_ne _ _ (fun z => absurd z.1 (by decide)), f2 89 k (by omega)]) (fun k => by rw [← w11, yi_u_ne _ _ (fun z => absurd z.1 (by decide)), ← w8, yi_u_ne _ _ (fun z => absurd z.1 (by decide)), ← w6, yi_u_ne _ _ (fun z => absurd z.1 (by decide)), f2 90 k (by omega)])) (ym_LW_e (n := 0) emI22 (by omega) (by omega)) (by omega)) (fun k => by rw [fJz 89 k (by omega), f27 89 k (by omega)]) (fun k => by rw [fJz 90 k (by omega), f27 90 k (by omega)])), fun zz => ⟨⟨_, ym_PG_t (fun k => by rw [fJz 89 k (by omega), f27 89 k (by omega)]) (fun k => by rw [fJz 90 k (by omega), f27 90 k (by omega)]) (ym_PG_n (sgI19 (by omega)) emI22 (by omega))⟩, by omega⟩⟩)
    refine yi_G_run 1 (50, [(0, .inr (.inr (some 82))), (1, .inl sy)], [.inr (.inr (some 82))], (I26, L3, X), 0, 0) (fun _ => rfl) ?_
    refine yi_G_get (53, [(0, .inr (.inr (some 82))), (1, .inl sy)], [.inl (I26 82 8)], (I26, L3, X), 0, 0) rfl (ym_gi hS rfl rfl rfl) ?_
    by_cases h33 : (I26 82 8) = 0
    · refine yi_G_if1 false rfl (yi_ne_f h33) ?_
      refine yi_G_run 1 (57, [(0, .inr (.inr (some 82))), (1, .inl sy)], [.inr (.inr (some 82))], (I26, L3, X), 0, 0) (fun _ => rfl) ?_
      refine yi_G_get (60, [(0, .inr (.inr (some 82))), (1, .inl sy)], [.inr (.inr (some 84))], (I26, L3, X), 0, 0) rfl (ym_gr hS 1 rfl rfl rfl) ?_
      refine yi_G_run 1 (61, [(0, .inr (.inr (some 82))), (1, .inl sy)], [.inr (.inr (some 82)), .inr (.inr (some 84))], (I26, L3, X), 0, 0) (fun _ => rfl) ?_
      refine yi_G_get (64, [(0, .inr (.inr (some 82))), (1, .inl sy)], [.inl (I26 82 7), .inr (.inr (some 84))], (I26, L3, X), 0, 0) rfl (ym_gi hS rfl rfl rfl) ?_
      have r34 : I26 84 ((I26 82 7).toNat) = I1 84 ((I26 82 7).toNat) := by rw [f27 84 ((I26 82 7).toNat) (by omega), f23 84 ((I26 82 7).toNat) (by omega), f20 84 ((I26 82 7).toNat) (by omega), ← w11, yi_u_ne _ _ (by omega), ← w8, yi_u_ne _ _ (by omega), ← w6, yi_u_ne _ _ (by omega)]
      refine yi_G_iald (65, [(0, .inr (.inr (some 82))), (1, .inl sy)], [.inl (I1 84 ((I26 82 7).toNat))], (I26, L3, X), 0, 0) rfl (ym_li hS 1 rfl (by omega) (by omega) r34) ?_
      by_cases h35 : (I1 84 ((I26 82 7).toNat)) = 0
      · refine yi_G_if1 true rfl (yi_eq_t h35) ?_
        exact pt73 I26 (fun _ _ _ => rfl) (by omega) (by omega)
      · refine yi_G_if1 false rfl (yi_eq_f h35) ?_
        refine yi_G_run 2 (70, [(0, .inr (.inr (some 82))), (1, .inl sy)], [.inl 1, .inr (.inr (some 82))], (I26, L3, X), 0, 0) (fun _ => rfl) ?_
        refine yi_G_callv rfl rfl (ym_rcv hS) rfl (c_wrong d (by omega) hS ⟨by omega, by omega⟩ (ym_TK_t (fun k => by rw [f27 84 k (by omega), f23 84 k (by omega), f20 84 k (by omega), ← w11, yi_u_ne _ _ (fun z => absurd z.1 (by decide)), ← w8, yi_u_ne _ _ (fun z => absurd z.1 (by decide)), ← w6, yi_u_ne _ _ (fun z => absurd z.1 (by decide))]) (fun k => by rw [f27 85 k (by omega), f23 85 k (by omega), f20 85 k (by omega), ← w11, yi_u_ne _ _ (fun z => absurd z.1 (by decide)), ← w8, yi_u_ne _ _ (fun z => absurd z.1 (by decide)), ← w6, yi_u_ne _ _ (fun z => absurd z.1 (by decide))]) hTI1) ⟨by omega, by omega⟩ (by omega)) ?_
        rintro _ ⟨I36, rfl, f37, h38⟩
        show yi_G zi_Ms d zi_m93 (73, [(0, .inr (.inr (some 82))), (1, .inl sy)], [], (I36, L3, X), 0, 0) _
        have r39 : I36 82 7 = I26 82 7 := by rw [f37 82 (7) (by omega)]
        have r40 : I36 82 7 = I26 82 7 := by rw [f37 82 (7) (by omega)]
        exact pt73 I36 (fun p k hp => by rw [f37 p k (by omega)]) (by omega) (by omega)
    · refine yi_G_if1 true rfl (yi_ne_t h33) ?_
      exact pt73 I26 (fun _ _ _ => rfl) (by omega) (by omega)
  · refine yi_G_if1 false rfl (yi_eq_f h9) ?_
    refine yi_G_run 3 (22, [(0, .inr (.inr (some 82))), (1, .inl sy)], [.inl (-1), .inl 2, .inr (.inr (some 82)), .inr (.inr (some 82))], (I7, L3, X), 0, 0) (fun _ => rfl) ?_
    have r41 : I7 82 7 = 0 := by rw [← w8, yi_u_ne _ _ (by omega), ← w6, yi_u_ne _ _ (by omega), c7I1]
    have r42 : I7 82 8 = 0 := by rw [← w8, yi_u_ne _ _ (by omega), ← w6, yi_u_ne _ _ (by omega), c8I1]
    have r47 : I7 82 18 = I 82 18 := by rw [← w8, yi_u_ne _ _ (by omega), ← w6, yi_u_ne _ _ (by omega), f2 82 (18) (by omega)]
    have r48 : I7 82 19 = I 82 19 := by rw [← w8, yi_u_ne _ _ (by omega), ← w6, yi_u_ne _ _ (by omega), f2 82 (19) (by omega)]
    refine yi_G_callv rfl rfl (ym_rcv hS) rfl (c_takeTold d (by omega) hS ⟨by omega, by omega⟩ ⟨(by rw [r47]; omega), (by rw [r47]; omega)⟩ ⟨(by rw [r48]; omega), (by rw [r48]; omega)⟩ (ym_TK_t (fun k => by rw [← w8, yi_u_ne _ _ (fun z => absurd z.1 (by decide)), ← w6, yi_u_ne _ _ (fun z => absurd z.1 (by decide))]) (fun k => by rw [← w8, yi_u_ne _ _ (fun z => absurd z.1 (by decide)), ← w6, yi_u_ne _ _ (fun z => absurd z.1 (by decide))]) hTI1) ⟨by omega, by omega⟩ (by omega)) ?_
    rintro _ ⟨z45, I43, rfl, f44, h46a, h46b, h46c⟩
    show yi_G zi_Ms d zi_m93 (25, [(0, .inr (.inr (some 82))), (1, .inl sy)], [.inl z45, .inr (.inr (some 82))], (I43, L3, X), 0, 0) _
    refine yi_G_run 1 (29, [(0, .inr (.inr (some 82))), (1, .inl sy)], [.inl z45, .inr (.inr (some 82))], (I43, L3, X), 0, 0) (fun _ => rfl) ?_
    refine yi_G_put (32, [(0, .inr (.inr (some 82))), (1, .inl sy)], [], ((yi_u I43 82 33 z45), L3, X), 0, 0) rfl (ym_pi hS rfl rfl) ?_
    generalize w50 : yi_u I43 82 33 z45 = I49
    refine yi_G_run 2 (34, [(0, .inr (.inr (some 82))), (1, .inl sy)], [.inl 0, .inr (.inr (some 82))], (I49, L3, X), 0, 0) (fun _ => rfl) ?_
    have r51 : I49 82 13 = 0 := by rw [← w50, yi_u_ne _ _ (by omega), f44 82 (13) (by omega), ← w8, yi_u_eq]
    have r52 : I49 82 18 = I 82 18 := by rw [← w50, yi_u_ne _ _ (by omega), f44 82 (18) (by omega), ← w8, yi_u_ne _ _ (by omega), ← w6, yi_u_ne _ _ (by omega), f2 82 (18) (by omega)]
    have r53 : I49 82 19 = I 82 19 := by rw [← w50, yi_u_ne _ _ (by omega), f44 82 (19) (by omega), ← w8, yi_u_ne _ _ (by omega), ← w6, yi_u_ne _ _ (by omega), f2 82 (19) (by omega)]
    have r54 : I49 82 7 = I43 82 7 := by rw [← w50, yi_u_ne _ _ (by omega)]
    have r55 : I49 82 8 = I43 82 8 := by rw [← w50, yi_u_ne _ _ (by omega)]
    have r56 : I49 82 20 = 0 := by rw [← w50, yi_u_ne _ _ (by omega), f44 82 (20) (by omega), ← w8, yi_u_ne _ _ (by omega), ← w6, yi_u_eq]
    have r57 : I49 88 0 = I 88 0 := by rw [← w50, yi_u_ne _ _ (by omega), f44 88 (0) (by omega), ← w8, yi_u_ne _ _ (by omega), ← w6, yi_u_ne _ _ (by omega), f2 88 (0) (by omega)]
    refine yi_G_callv rfl rfl (ym_rcv hS) rfl (c_formula0 hS d (by omega) I49 L3 te 0 (ym_TK_t (fun k => by rw [← w50, yi_u_ne _ _ (fun z => absurd z.1 (by decide)), f44 84 k (by omega), ← w8, yi_u_ne _ _ (fun z => absurd z.1 (by decide)), ← w6, yi_u_ne _ _ (fun z => absurd z.1 (by decide))]) (fun k => by rw [← w50, yi_u_ne _ _ (fun z => absurd z.1 (by decide)), f44 85 k (by omega), ← w8, yi_u_ne _ _ (fun z => absurd z.1 (by decide)), ← w6, yi_u_ne _ _ (fun z => absurd z.1 (by decide))]) hTI1) ⟨by omega, by omega⟩ (by omega) ⟨(by rw [r52]; omega), (by rw [r52]; omega)⟩ ⟨(by rw [r53]; omega), (by rw [r53]; omega)⟩ (ym_DY_0 (by omega) (by omega)) r51 ⟨by omega, by omega⟩) ?_
    rintro _ ⟨I58, rfl, f59, h60a, h60b, h60c, h60d, lwI58, sgI58⟩
    show yi_G zi_Ms d zi_m93 (37, [(0, .inr (.inr (some 82))), (1, .inl sy)], [], (I58, L3, X), 0, 0) _
    refine yi_G_run 3 (40, [(0, .inr (.inr (some 82))), (1, .inl sy)], [.inl 0, .inl 0, .inr (.inr (some 82))], (I58, L3, X), 0, 0) (fun _ => rfl) ?_
    refine yi_G_callv rfl rfl (ym_rcv hS) rfl (c_emit d (by omega) hS rfl ⟨by omega, by omega⟩) ?_
    rintro _ ⟨I61, rfl, f62, eI61, emI61⟩
    show yi_G zi_Ms d zi_m93 (43, [(0, .inr (.inr (some 82))), (1, .inl sy)], [], (I61, L3, X), 0, 0) _
    refine yi_G_run 2 (46, [(0, .inr (.inr (some 82))), (1, .inl sy)], [.inl 59, .inr (.inr (some 82))], (I61, L3, X), 0, 0) (fun _ => rfl) ?_
    have r63 : I61 82 7 = I58 82 7 := by rw [f62 82 (7) (by omega)]
    have r64 : I61 82 8 = I58 82 8 := by rw [f62 82 (8) (by omega)]
    refine yi_G_callv rfl rfl (ym_rcv hS) rfl (c_takeSign d (by omega) hS (ym_TK_t (fun k => by rw [f62 84 k (by omega), f59 84 k (by omega), ← w50, yi_u_ne _ _ (fun z => absurd z.1 (by decide)), f44 84 k (by omega), ← w8, yi_u_ne _ _ (fun z => absurd z.1 (by decide)), ← w6, yi_u_ne _ _ (fun z => absurd z.1 (by decide))]) (fun k => by rw [f62 85 k (by omega), f59 85 k (by omega), ← w50, yi_u_ne _ _ (fun z => absurd z.1 (by decide)), f44 85 k (by omega), ← w8, yi_u_ne _ _ (fun z => absurd z.1 (by decide)), ← w6, yi_u_ne _ _ (fun z => absurd z.1 (by decide))]) hTI1) ⟨by omega, by omega⟩ (by omega)) ?_
    rintro _ ⟨I65, rfl, f66, h67a, h67b, h67c⟩
    show yi_G zi_Ms d zi_m93 (49, [(0, .inr (.inr (some 82))), (1, .inl sy)], [], (I65, L3, X), 0, 0) _
    have pt73 : ∀ (Jz : Nat → Nat → Int), (∀ p k, ¬ (p = 82 ∧ k = 8) → Jz p k = I65 p k) → (0 ≤ Jz 82 8) → (Jz 82 8 = 0 → I65 82 8 = 0) → yi_G zi_Ms d zi_m93 (73, [(0, .inr (.inr (some 82))), (1, .inl sy)], [], (Jz, L3, X), 0, 0) (fun r => ∃ I' L', r = (some (.inl 1100), (I', L', X), 0, 0) ∧ (∀ p k, ¬ (p = 82 ∧ k = 2) ∧ ¬ (p = 82 ∧ k = 3) ∧ ¬ (p = 82 ∧ k = 7) ∧ ¬ (p = 82 ∧ k = 8) ∧ ¬ (p = 82 ∧ k = 13) ∧ ¬ (p = 82 ∧ k = 20) ∧ ¬ (p = 82 ∧ k = 33) ∧ p ≠ 84 ∧ p ≠ 85 ∧ p ≠ 89 ∧ p ≠ 90 → I' p k = I p k) ∧ (∀ p k, p ≠ 86 → L' p k = L p k) ∧ 0 ≤ I' 82 8 ∧ I' 82 2 = 0 ∧ ym_LW I I' 0 ∧ (I' 82 8 = 0 → (∃ e, ym_PG I' 1100 e) ∧ (sy = 1 → 0 ≤ I' 82 33 ∧ I' 82 33 ≤ 4))) := by
      intro Jz fJz z0 z1 
      refine yi_G_run 1 (76, [(0, .inr (.inr (some 82))), (1, .inl sy)], [.inl 1100], (Jz, L3, X), 0, 0) (fun _ => rfl) ?_
      have r68 : Jz 82 2 = 0 := by rw [fJz 82 (2) (by omega), f66 82 (2) (by omega), f62 82 (2) (by omega), f59 82 (2) (by omega), ← w50, yi_u_ne _ _ (by omega), f44 82 (2) (by omega), ← w8, yi_u_ne _ _ (by omega), ← w6, yi_u_ne _ _ (by omega), c2I1]
      have r69 : Jz 82 7 = I65 82 7 := by rw [fJz 82 (7) (by omega)]
      have r70 : Jz 82 13 = I61 82 13 := by rw [fJz 82 (13) (by omega), f66 82 (13) (by omega)]
      have r71 : Jz 82 33 = z45 := by rw [fJz 82 (33) (by omega), f66 82 (33) (by omega), f62 82 (33) (by omega), f59 82 (33) (by omega), ← w50, yi_u_eq]
      exact yi_G_reti rfl rfl (⟨_, _, rfl, (fun p k hp => by rw [fJz p k (by omega), f66 p k (by omega), f62 p k (by omega), f59 p k (by omega), ← w50, yi_u_ne _ _ (fun z => by omega), f44 p k (by omega), ← w8, yi_u_ne _ _ (fun z => by omega), ← w6, yi_u_ne _ _ (fun z => by omega), f2 p k (by omega)]), (fun p k hp => by rw [f4 p k (by omega)]), by omega, by omega, (ym_LW_f (ym_LW_t (ym_LW_g lwI58 (fun k => by rw [← w50, yi_u_ne _ _ (fun z => absurd z.1 (by decide)), f44 89 k (by omega), ← w8, yi_u_ne _ _ (fun z => absurd z.1 (by decide)), ← w6, yi_u_ne _ _ (fun z => absurd z.1 (by decide)), f2 89 k (by omega)]) (fun k => by rw [← w50, yi_u_ne _ _ (fun z => absurd z.1 (by decide)), f44 90 k (by omega), ← w8, yi_u_ne _ _ (fun z => absurd z.1 (by decide)), ← w6, yi_u_ne _ _ (fun z => absurd z.1 (by decide)), f2 90 k (by omega)])) (ym_LW_e (n := 0) emI61 (by omega) (by omega)) (by omega)) (fun k => by rw [fJz 89 k (by omega), f66 89 k (by omega)]) (fun k => by rw [fJz 90 k (by omega), f66 90 k (by omega)])), fun zz => ⟨⟨_, ym_PG_t (fun k => by rw [fJz 89 k (by omega), f66 89 k (by omega)]) (fun k => by rw [fJz 90 k (by omega), f66 90 k (by omega)]) (ym_PG_n (sgI58 (by omega)) emI61 (by omega))⟩, by omega⟩⟩)
    refine yi_G_run 1 (50, [(0, .inr (.inr (some 82))), (1, .inl sy)], [.inr (.inr (some 82))], (I65, L3, X), 0, 0) (fun _ => rfl) ?_
    refine yi_G_get (53, [(0, .inr (.inr (some 82))), (1, .inl sy)], [.inl (I65 82 8)], (I65, L3, X), 0, 0) rfl (ym_gi hS rfl rfl rfl) ?_
    by_cases h72 : (I65 82 8) = 0
    · refine yi_G_if1 false rfl (yi_ne_f h72) ?_
      refine yi_G_run 1 (57, [(0, .inr (.inr (some 82))), (1, .inl sy)], [.inr (.inr (some 82))], (I65, L3, X), 0, 0) (fun _ => rfl) ?_
      refine yi_G_get (60, [(0, .inr (.inr (some 82))), (1, .inl sy)], [.inr (.inr (some 84))], (I65, L3, X), 0, 0) rfl (ym_gr hS 1 rfl rfl rfl) ?_
      refine yi_G_run 1 (61, [(0, .inr (.inr (some 82))), (1, .inl sy)], [.inr (.inr (some 82)), .inr (.inr (some 84))], (I65, L3, X), 0, 0) (fun _ => rfl) ?_
      refine yi_G_get (64, [(0, .inr (.inr (some 82))), (1, .inl sy)], [.inl (I65 82 7), .inr (.inr (some 84))], (I65, L3, X), 0, 0) rfl (ym_gi hS rfl rfl rfl) ?_
      have r73 : I65 84 ((I65 82 7).toNat) = I1 84 ((I65 82 7).toNat) := by rw [f66 84 ((I65 82 7).toNat) (by omega), f62 84 ((I65 82 7).toNat) (by omega), f59 84 ((I65 82 7).toNat) (by omega), ← w50, yi_u_ne _ _ (by omega), f44 84 ((I65 82 7).toNat) (by omega), ← w8, yi_u_ne _ _ (by omega), ← w6, yi_u_ne _ _ (by omega)]
      refine yi_G_iald (65, [(0, .inr (.inr (some 82))), (1, .inl sy)], [.inl (I1 84 ((I65 82 7).toNat))], (I65, L3, X), 0, 0) rfl (ym_li hS 1 rfl (by omega) (by omega) r73) ?_
      by_cases h74 : (I1 84 ((I65 82 7).toNat)) = 0
      · refine yi_G_if1 true rfl (yi_eq_t h74) ?_
        exact pt73 I65 (fun _ _ _ => rfl) (by omega) (by omega)
      · refine yi_G_if1 false rfl (yi_eq_f h74) ?_
        refine yi_G_run 2 (70, [(0, .inr (.inr (some 82))), (1, .inl sy)], [.inl 1, .inr (.inr (some 82))], (I65, L3, X), 0, 0) (fun _ => rfl) ?_
        refine yi_G_callv rfl rfl (ym_rcv hS) rfl (c_wrong d (by omega) hS ⟨by omega, by omega⟩ (ym_TK_t (fun k => by rw [f66 84 k (by omega), f62 84 k (by omega), f59 84 k (by omega), ← w50, yi_u_ne _ _ (fun z => absurd z.1 (by decide)), f44 84 k (by omega), ← w8, yi_u_ne _ _ (fun z => absurd z.1 (by decide)), ← w6, yi_u_ne _ _ (fun z => absurd z.1 (by decide))]) (fun k => by rw [f66 85 k (by omega), f62 85 k (by omega), f59 85 k (by omega), ← w50, yi_u_ne _ _ (fun z => absurd z.1 (by decide)), f44 85 k (by omega), ← w8, yi_u_ne _ _ (fun z => absurd z.1 (by decide)), ← w6, yi_u_ne _ _ (fun z => absurd z.1 (by decide))]) hTI1) ⟨by omega, by omega⟩ (by omega)) ?_
        rintro _ ⟨I75, rfl, f76, h77⟩
        show yi_G zi_Ms d zi_m93 (73, [(0, .inr (.inr (some 82))), (1, .inl sy)], [], (I75, L3, X), 0, 0) _
        have r78 : I75 82 7 = I65 82 7 := by rw [f76 82 (7) (by omega)]
        have r79 : I75 82 7 = I65 82 7 := by rw [f76 82 (7) (by omega)]
        exact pt73 I75 (fun p k hp => by rw [f76 p k (by omega)]) (by omega) (by omega)
    · refine yi_G_if1 true rfl (yi_ne_t h72) ?_
      exact pt73 I65 (fun _ _ _ => rfl) (by omega) (by omega)
