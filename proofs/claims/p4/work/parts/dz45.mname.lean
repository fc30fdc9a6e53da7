/-! The check: does a program name somebody. -/
def nmg (I : Nat → Nat → Int) (fr : Nat) : Nat → Bool
  | 0 => false
  | k + 1 => nmg I fr k || decide (I 89 (fr + k) = 11 ∧ (I 90 (fr + k) / 512 < 4 ∨ 7 ≤ I 90 (fr + k) / 8 % 16))
theorem q_isNaming {d : Nat} {I L : Nat → Nat → Int} {R : Nat → Nat → Option Nat} {Y : (Nat → Nat) × (Nat → Nat) × Nat} (hS : ym_S (R, Y)) {fr N : Nat} (hfN : fr + N ≤ 2199) (hop : ∀ k, k < N → 1 ≤ I 89 (fr + k)) (hnn0 : ∀ k, k < N → I 89 (fr + k) = 11 → 0 ≤ I 90 (fr + k) ∧ I 90 (fr + k) ≤ 4095) (hend : I 89 (fr + N) = 0) : yi_P zi_Ms d 56 [.inr (.inr (some 82)), .inl (fr : Int)] (I, L, R, Y) (fun r => ((nmg I fr N = true) ∧ r = (some (.inl 1), (I, L, R, Y), 0, 0)) ∨ (¬ (nmg I fr N = true) ∧ r = (some (.inl 0), (I, L, R, Y), 0, 0))) := by
  refine yi_P_of (M := zi_m56) rfl (fun d k => ?_)
  show yi_D zi_Ms d zi_m56 k (0, [(0, .inr (.inr (some 82))), (1, .inl (fr : Int))], [], (I, L, R, Y), 0, 0) _
  refine yi_D_run 4 (4, [(3, .inl (fr : Int)), (2, .inl 0), (0, .inr (.inr (some 82))), (1, .inl (fr : Int))], [], (I, L, R, Y), 0, 0) (fun _ => rfl) ?_
  have pt4 : ∀ j4, j4 ≤ k → ∀ (y3 : Int) (z2 : Int), ((fr : Int) ≤ y3 ∧ y3 ≤ fr + N) → ((z2 = 1 ∧ nmg I fr (y3 - fr).toNat = true) ∨ (z2 = 0 ∧ ¬ nmg I fr (y3 - fr).toNat = true)) → yi_D zi_Ms d zi_m56 j4 (4, [(3, .inl y3), (2, .inl z2), (0, .inr (.inr (some 82))), (1, .inl (fr : Int))], [], (I, L, R, Y), 0, 0) (fun r => ((nmg I fr N = true) ∧ r = (some (.inl 1), (I, L, R, Y), 0, 0)) ∨ (¬ (nmg I fr N = true) ∧ r = (some (.inl 0), (I, L, R, Y), 0, 0))) := by
    intro j4
    induction j4 with
    | zero => intros; exact yi_D_0
    | succ j4 ih4 =>
    intro hk4 y3 z2 hy3 hz
    have hk0 : y3.toNat = fr + (y3 - fr).toNat := by omega
    obtain ⟨cc, hcc⟩ : ∃ z, z = I 89 (fr + (y3 - fr).toNat) := ⟨_, rfl⟩
    obtain ⟨aa, haa⟩ : ∃ z, z = I 90 (fr + (y3 - fr).toNat) := ⟨_, rfl⟩
    have hcr : I 89 (y3.toNat) = cc := by rw [hk0, hcc]
    have har : I 90 (y3.toNat) = aa := by rw [hk0, haa]
    refine yi_D_run1 0 (5, [(3, .inl y3), (2, .inl z2), (0, .inr (.inr (some 82))), (1, .inl (fr : Int))], [.inr (.inr (some 82))], (I, L, R, Y), 0, 0) (fun _ => rfl) ?_
    refine yi_D_gr (v := some 89) rfl rfl rfl (ym_S_at hS (j := 6) rfl).1 (fun _ => ?_)
    refine yi_D_run 1 (9, [(3, .inl y3), (2, .inl z2), (0, .inr (.inr (some 82))), (1, .inl (fr : Int))], [.inl y3, .inr (.inr (some 89))], (I, L, R, Y), 0, 0) (fun _ => rfl) ?_
    refine yi_D_il (v := cc) rfl rfl hcr (fun _ _ => ?_)
    by_cases h1 : cc = 0
    · refine yi_D_if1 true rfl (yi_eq_t h1) ?_
      refine yi_D_run 1 (72, [(3, .inl y3), (2, .inl z2), (0, .inr (.inr (some 82))), (1, .inl (fr : Int))], [.inl z2], (I, L, R, Y), 0, 0) (fun _ => rfl) ?_
      refine yi_D_reti rfl ?_
      have hkN : (y3 - fr).toNat = N := by
        by_cases e : (y3 - fr).toNat = N
        · exact e
        · have z := hop (y3 - fr).toNat (by omega)
          omega
      rw [hkN] at hz
      rcases hz with ⟨h5, h6⟩ | ⟨h5, h6⟩
      · exact Or.inl ⟨h6, by rw [h5]⟩
      · exact Or.inr ⟨h6, by rw [h5]⟩
    · refine yi_D_if1 false rfl (yi_eq_f h1) ?_
      have hkN : (y3 - fr).toNat < N := by
        by_cases e : (y3 - fr).toNat = N
        · exfalso
          have z := hend
          rw [← e] at z
          omega
        · omega
      have hnn : cc = 11 → 0 ≤ aa ∧ aa ≤ 4095 := by rw [hcc, haa]; exact hnn0 _ hkN
      refine yi_D_run 1 (14, [(3, .inl y3), (2, .inl z2), (0, .inr (.inr (some 82))), (1, .inl (fr : Int))], [.inl z2], (I, L, R, Y), 0, 0) (fun _ => rfl) ?_
      by_cases h2 : z2 = 0
      · refine yi_D_if1 false rfl (yi_ne_f h2) ?_
        refine yi_D_run 1 (18, [(3, .inl y3), (2, .inl z2), (0, .inr (.inr (some 82))), (1, .inl (fr : Int))], [.inr (.inr (some 82))], (I, L, R, Y), 0, 0) (fun _ => rfl) ?_
        refine yi_D_gr (v := some 89) rfl rfl rfl (ym_S_at hS (j := 6) rfl).1 (fun _ => ?_)
        refine yi_D_run 1 (22, [(3, .inl y3), (2, .inl z2), (0, .inr (.inr (some 82))), (1, .inl (fr : Int))], [.inl y3, .inr (.inr (some 89))], (I, L, R, Y), 0, 0) (fun _ => rfl) ?_
        refine yi_D_il (v := cc) rfl rfl hcr (fun _ _ => ?_)
        refine yi_D_run 1 (25, [(3, .inl y3), (2, .inl z2), (0, .inr (.inr (some 82))), (1, .inl (fr : Int))], [.inl 11, .inl cc], (I, L, R, Y), 0, 0) (fun _ => rfl) ?_
        by_cases h3 : cc = 11
        · refine yi_D_if2 false rfl (yi_ne_f h3) ?_
          refine yi_D_run 1 (29, [(3, .inl y3), (2, .inl z2), (0, .inr (.inr (some 82))), (1, .inl (fr : Int))], [.inr (.inr (some 82))], (I, L, R, Y), 0, 0) (fun _ => rfl) ?_
          refine yi_D_gr (v := some 90) rfl rfl rfl (ym_S_at hS (j := 7) rfl).1 (fun _ => ?_)
          refine yi_D_run 1 (33, [(3, .inl y3), (2, .inl z2), (0, .inr (.inr (some 82))), (1, .inl (fr : Int))], [.inl y3, .inr (.inr (some 90))], (I, L, R, Y), 0, 0) (fun _ => rfl) ?_
          refine yi_D_il (v := aa) rfl rfl har (fun _ _ => ?_)
          refine yi_D_run 1 (37, [(3, .inl y3), (2, .inl z2), (0, .inr (.inr (some 82))), (1, .inl (fr : Int))], [.inl 512, .inl aa], (I, L, R, Y), 0, 0) (fun _ => rfl) ?_
          refine yi_D_idiv rfl (by omega) (aa / 512) (yi_dv (by omega) rfl (by omega) (by omega)) ?_
          refine yi_D_run 1 (39, [(3, .inl y3), (2, .inl z2), (0, .inr (.inr (some 82))), (1, .inl (fr : Int))], [.inl 4, .inl (aa / 512)], (I, L, R, Y), 0, 0) (fun _ => rfl) ?_
          by_cases h4 : (aa / 512) < 4
          · refine yi_D_if2 true rfl (yi_lt_t h4) ?_
            refine yi_D_run 3 (65, [(2, .inl 1), (3, .inl y3), (0, .inr (.inr (some 82))), (1, .inl (fr : Int))], [], (I, L, R, Y), 0, 0) (fun _ => rfl) ?_
            refine yi_D_iinc [(3, .inl (y3 + 1)), (2, .inl 1), (0, .inr (.inr (some 82))), (1, .inl (fr : Int))] rfl rfl rfl (by rw [show yi_w (y3 + 1) = y3 + 1 from (yi_wn (by omega) (by omega)).trans (by omega)]; rfl) ?_
            refine yi_D_run 1 (4, [(3, .inl (y3 + 1)), (2, .inl 1), (0, .inr (.inr (some 82))), (1, .inl (fr : Int))], [], (I, L, R, Y), 0, 0) (fun _ => rfl) ?_
            exact yi_D_mono (ih4 (by omega) (y3 + 1) 1 (by omega) (by rw [show (y3 + 1 - fr).toNat = (y3 - fr).toNat + 1 by omega]; show (_ ∧ (nmg I fr (y3 - fr).toNat || decide (I 89 (fr + (y3 - fr).toNat) = 11 ∧ (I 90 (fr + (y3 - fr).toNat) / 512 < 4 ∨ 7 ≤ I 90 (fr + (y3 - fr).toNat) / 8 % 16))) = true) ∨ (_ ∧ ¬ (nmg I fr (y3 - fr).toNat || decide (I 89 (fr + (y3 - fr).toNat) = 11 ∧ (I 90 (fr + (y3 - fr).toNat) / 512 < 4 ∨ 7 ≤ I 90 (fr + (y3 - fr).toNat) / 8 % 16))) = true); rw [Bool.or_eq_true, ← hcc, ← haa, decide_eq_true_iff]; first | exact Or.inl ⟨rfl, Or.inr ⟨by omega, by omega⟩⟩ | (rcases hz with ⟨h5, h6⟩ | ⟨h5, h6⟩; exact Or.inl ⟨rfl, Or.inl h6⟩; exfalso; omega))) (by omega)
          · refine yi_D_if2 false rfl (yi_lt_f h4) ?_
            refine yi_D_run 1 (43, [(3, .inl y3), (2, .inl z2), (0, .inr (.inr (some 82))), (1, .inl (fr : Int))], [.inr (.inr (some 82))], (I, L, R, Y), 0, 0) (fun _ => rfl) ?_
            refine yi_D_gr (v := some 90) rfl rfl rfl (ym_S_at hS (j := 7) rfl).1 (fun _ => ?_)
            refine yi_D_run 1 (47, [(3, .inl y3), (2, .inl z2), (0, .inr (.inr (some 82))), (1, .inl (fr : Int))], [.inl y3, .inr (.inr (some 90))], (I, L, R, Y), 0, 0) (fun _ => rfl) ?_
            refine yi_D_il (v := aa) rfl rfl har (fun _ _ => ?_)
            refine yi_D_run 1 (50, [(3, .inl y3), (2, .inl z2), (0, .inr (.inr (some 82))), (1, .inl (fr : Int))], [.inl 8, .inl aa], (I, L, R, Y), 0, 0) (fun _ => rfl) ?_
            refine yi_D_idiv rfl (by omega) (aa / 8) (yi_dv (by omega) rfl (by omega) (by omega)) ?_
            refine yi_D_run 1 (53, [(3, .inl y3), (2, .inl z2), (0, .inr (.inr (some 82))), (1, .inl (fr : Int))], [.inl 16, .inl (aa / 8)], (I, L, R, Y), 0, 0) (fun _ => rfl) ?_
            refine yi_D_irem rfl (by omega) ((aa / 8) % 16) (yi_md (by omega) rfl) ?_
            refine yi_D_run 1 (56, [(3, .inl y3), (2, .inl z2), (0, .inr (.inr (some 82))), (1, .inl (fr : Int))], [.inl 7, .inl ((aa / 8) % 16)], (I, L, R, Y), 0, 0) (fun _ => rfl) ?_
            by_cases h5 : ((aa / 8) % 16) < 7
            · refine yi_D_if2 true rfl (yi_lt_t h5) ?_
              refine yi_D_run 2 (65, [(2, .inl 0), (3, .inl y3), (0, .inr (.inr (some 82))), (1, .inl (fr : Int))], [], (I, L, R, Y), 0, 0) (fun _ => rfl) ?_
              refine yi_D_iinc [(3, .inl (y3 + 1)), (2, .inl 0), (0, .inr (.inr (some 82))), (1, .inl (fr : Int))] rfl rfl rfl (by rw [show yi_w (y3 + 1) = y3 + 1 from (yi_wn (by omega) (by omega)).trans (by omega)]; rfl) ?_
              refine yi_D_run 1 (4, [(3, .inl (y3 + 1)), (2, .inl 0), (0, .inr (.inr (some 82))), (1, .inl (fr : Int))], [], (I, L, R, Y), 0, 0) (fun _ => rfl) ?_
              exact yi_D_mono (ih4 (by omega) (y3 + 1) 0 (by omega) (by rw [show (y3 + 1 - fr).toNat = (y3 - fr).toNat + 1 by omega]; show (_ ∧ (nmg I fr (y3 - fr).toNat || decide (I 89 (fr + (y3 - fr).toNat) = 11 ∧ (I 90 (fr + (y3 - fr).toNat) / 512 < 4 ∨ 7 ≤ I 90 (fr + (y3 - fr).toNat) / 8 % 16))) = true) ∨ (_ ∧ ¬ (nmg I fr (y3 - fr).toNat || decide (I 89 (fr + (y3 - fr).toNat) = 11 ∧ (I 90 (fr + (y3 - fr).toNat) / 512 < 4 ∨ 7 ≤ I 90 (fr + (y3 - fr).toNat) / 8 % 16))) = true); rw [Bool.or_eq_true, ← hcc, ← haa, decide_eq_true_iff]; rcases hz with ⟨h5, h6⟩ | ⟨h5, h6⟩; exfalso; omega; exact Or.inr ⟨rfl, fun h => h.elim h6 (fun h => by omega)⟩)) (by omega)
            · refine yi_D_if2 false rfl (yi_lt_f h5) ?_
              refine yi_D_run 3 (65, [(2, .inl 1), (3, .inl y3), (0, .inr (.inr (some 82))), (1, .inl (fr : Int))], [], (I, L, R, Y), 0, 0) (fun _ => rfl) ?_
              refine yi_D_iinc [(3, .inl (y3 + 1)), (2, .inl 1), (0, .inr (.inr (some 82))), (1, .inl (fr : Int))] rfl rfl rfl (by rw [show yi_w (y3 + 1) = y3 + 1 from (yi_wn (by omega) (by omega)).trans (by omega)]; rfl) ?_
              refine yi_D_run 1 (4, [(3, .inl (y3 + 1)), (2, .inl 1), (0, .inr (.inr (some 82))), (1, .inl (fr : Int))], [], (I, L, R, Y), 0, 0) (fun _ => rfl) ?_
              exact yi_D_mono (ih4 (by omega) (y3 + 1) 1 (by omega) (by rw [show (y3 + 1 - fr).toNat = (y3 - fr).toNat + 1 by omega]; show (_ ∧ (nmg I fr (y3 - fr).toNat || decide (I 89 (fr + (y3 - fr).toNat) = 11 ∧ (I 90 (fr + (y3 - fr).toNat) / 512 < 4 ∨ 7 ≤ I 90 (fr + (y3 - fr).toNat) / 8 % 16))) = true) ∨ (_ ∧ ¬ (nmg I fr (y3 - fr).toNat || decide (I 89 (fr + (y3 - fr).toNat) = 11 ∧ (I 90 (fr + (y3 - fr).toNat) / 512 < 4 ∨ 7 ≤ I 90 (fr + (y3 - fr).toNat) / 8 % 16))) = true); rw [Bool.or_eq_true, ← hcc, ← haa, decide_eq_true_iff]; first | exact Or.inl ⟨rfl, Or.inr ⟨by omega, by omega⟩⟩ | (rcases hz with ⟨h5, h6⟩ | ⟨h5, h6⟩; exact Or.inl ⟨rfl, Or.inl h6⟩; exfalso; omega))) (by omega)
        · refine yi_D_if2 true rfl (yi_ne_t h3) ?_
          refine yi_D_run 2 (65, [(2, .inl 0), (3, .inl y3), (0, .inr (.inr (some 82))), (1, .inl (fr : Int))], [], (I, L, R, Y), 0, 0) (fun _ => rfl) ?_
          refine yi_D_iinc [(3, .inl (y3 + 1)), (2, .inl 0), (0, .inr (.inr (some 82))), (1, .inl (fr : Int))] rfl rfl rfl (by rw [show yi_w (y3 + 1) = y3 + 1 from (yi_wn (by omega) (by omega)).trans (by omega)]; rfl) ?_
          refine yi_D_run 1 (4, [(3, .inl (y3 + 1)), (2, .inl 0), (0, .inr (.inr (some 82))), (1, .inl (fr : Int))], [], (I, L, R, Y), 0, 0) (fun _ => rfl) ?_
          exact yi_D_mono (ih4 (by omega) (y3 + 1) 0 (by omega) (by rw [show (y3 + 1 - fr).toNat = (y3 - fr).toNat + 1 by omega]; show (_ ∧ (nmg I fr (y3 - fr).toNat || decide (I 89 (fr + (y3 - fr).toNat) = 11 ∧ (I 90 (fr + (y3 - fr).toNat) / 512 < 4 ∨ 7 ≤ I 90 (fr + (y3 - fr).toNat) / 8 % 16))) = true) ∨ (_ ∧ ¬ (nmg I fr (y3 - fr).toNat || decide (I 89 (fr + (y3 - fr).toNat) = 11 ∧ (I 90 (fr + (y3 - fr).toNat) / 512 < 4 ∨ 7 ≤ I 90 (fr + (y3 - fr).toNat) / 8 % 16))) = true); rw [Bool.or_eq_true, ← hcc, ← haa, decide_eq_true_iff]; rcases hz with ⟨h5, h6⟩ | ⟨h5, h6⟩; exfalso; omega; exact Or.inr ⟨rfl, fun h => h.elim h6 (fun h => by omega)⟩)) (by omega)
      · refine yi_D_if1 true rfl (yi_ne_t h2) ?_
        refine yi_D_run 3 (65, [(2, .inl 1), (3, .inl y3), (0, .inr (.inr (some 82))), (1, .inl (fr : Int))], [], (I, L, R, Y), 0, 0) (fun _ => rfl) ?_
        refine yi_D_iinc [(3, .inl (y3 + 1)), (2, .inl 1), (0, .inr (.inr (some 82))), (1, .inl (fr : Int))] rfl rfl rfl (by rw [show yi_w (y3 + 1) = y3 + 1 from (yi_wn (by omega) (by omega)).trans (by omega)]; rfl) ?_
        refine yi_D_run 1 (4, [(3, .inl (y3 + 1)), (2, .inl 1), (0, .inr (.inr (some 82))), (1, .inl (fr : Int))], [], (I, L, R, Y), 0, 0) (fun _ => rfl) ?_
        exact yi_D_mono (ih4 (by omega) (y3 + 1) 1 (by omega) (by rw [show (y3 + 1 - fr).toNat = (y3 - fr).toNat + 1 by omega]; show (_ ∧ (nmg I fr (y3 - fr).toNat || decide (I 89 (fr + (y3 - fr).toNat) = 11 ∧ (I 90 (fr + (y3 - fr).toNat) / 512 < 4 ∨ 7 ≤ I 90 (fr + (y3 - fr).toNat) / 8 % 16))) = true) ∨ (_ ∧ ¬ (nmg I fr (y3 - fr).toNat || decide (I 89 (fr + (y3 - fr).toNat) = 11 ∧ (I 90 (fr + (y3 - fr).toNat) / 512 < 4 ∨ 7 ≤ I 90 (fr + (y3 - fr).toNat) / 8 % 16))) = true); rw [Bool.or_eq_true, ← hcc, ← haa, decide_eq_true_iff]; first | exact Or.inl ⟨rfl, Or.inr ⟨by omega, by omega⟩⟩ | (rcases hz with ⟨h5, h6⟩ | ⟨h5, h6⟩; exact Or.inl ⟨rfl, Or.inl h6⟩; exfalso; omega))) (by omega)
  exact pt4 k (Nat.le_refl _) (fr : Int) 0 (by omega) (Or.inr ⟨rfl, by rw [show ((fr : Int) - fr).toNat = 0 by omega]; exact fun h => by cases h⟩)
