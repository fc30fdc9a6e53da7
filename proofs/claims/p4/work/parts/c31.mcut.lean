/-! The check cuts its tape. -/
theorem tk_lt_f {c : Int} (h : ¬ (97 ≤ c ∧ c ≤ 122)) : tk_lt c = false := by
  cases e : tk_lt c with
  | false => rfl
  | true => exact absurd (tk_lt_t.mp e) h
theorem tk_dg_f {c : Int} (h : ¬ (48 ≤ c ∧ c ≤ 57)) : tk_dg c = false := by
  cases e : tk_dg c with
  | false => rfl
  | true => exact absurd (tk_dg_t.mp e) h
theorem tk_sg_f {c : Int} (h : ¬ (c = 40 ∨ c = 41 ∨ c = 59 ∨ c = 61 ∨ c = 60 ∨ c = 43 ∨ c = 45 ∨ c = 42)) : tk_sg c = false := decide_eq_false h
/-- a token of the check -/
def mk_1 (sv vv pv Kv Pv Vv : Int) : Prop := sp_k sv vv = Kv ∧ pv = Pv ∧ (0 ≤ Pv ∧ Pv ≤ 1000) ∧ (Kv = 2 → vv = Vv ∧ 0 ≤ Vv ∧ Vv ≤ 9999) ∧ (Kv = 3 → vv = Vv) ∧ ¬ Kv = 0 ∧ (0 ≤ sv ∧ sv ≤ 4) ∧ (sv = 3 → 33 ≤ vv)
section MK1
variable {v p c V : Int}
theorem mk_1w (hp : 0 ≤ p ∧ p ≤ 1000) : mk_1 1 v p (sp_wk v) p v := by
  have h := sp_wk_b v
  exact ⟨rfl, rfl, hp, fun z => by omega, fun _ => rfl, by omega, by decide, fun z => absurd z (by decide)⟩
theorem mk_1b (hp : 0 ≤ p ∧ p ≤ 1000) : mk_1 4 v p 1 p V := ⟨rfl, rfl, hp, fun z => absurd z (by decide), fun z => absurd z (by decide), by decide, by decide, fun z => absurd z (by decide)⟩
theorem mk_1n (hp : 0 ≤ p ∧ p ≤ 1000) (hv : 0 ≤ v ∧ v ≤ 9999) : mk_1 2 v p 2 p v := ⟨rfl, rfl, hp, fun _ => ⟨rfl, hv⟩, fun _ => rfl, by decide, by decide, fun z => absurd z (by decide)⟩
theorem mk_1s (hp : 0 ≤ p ∧ p ≤ 1000) (hc : 33 ≤ c) : mk_1 3 c p c p V := ⟨rfl, rfl, hp, fun z => by omega, fun z => by omega, by omega, by decide, fun _ => hc⟩
end MK1
def mk_W (I L : Nat → Nat → Int) (c : tk_C) : Prop := ∀ i, i < c.2.1 → mk_1 (I 84 i) (L 86 i) (I 85 i) (c.2.2.1 i) (c.2.2.2.1 i) (c.2.2.2.2 i)
section MKW
variable {I L I' L' : Nat → Nat → Int} {s : Nat → Int} {n : Nat} {c : tk_C} {sv vv : Int}
theorem mk_W_add (h : mk_W I L c) (hst : tk_st s n c = (tk_nx s n c.1, c.2.1 + 1, sp_up c.2.2.1 c.2.1 (tk_K s n c.1), sp_up c.2.2.2.1 c.2.1 c.1, sp_up c.2.2.2.2 c.2.1 (tk_V s n c.1))) (e1 : I' 84 c.2.1 = sv) (e2 : L' 86 c.2.1 = vv) (e3 : I' 85 c.2.1 = c.1) (hm : mk_1 sv vv c.1 (tk_K s n c.1) c.1 (tk_V s n c.1)) (f1 : ∀ k, k ≠ c.2.1 → I' 84 k = I 84 k) (f2 : ∀ k, k ≠ c.2.1 → L' 86 k = L 86 k) (f3 : ∀ k, k ≠ c.2.1 → I' 85 k = I 85 k) : mk_W I' L' (tk_st s n c) := by
  rw [hst]
  intro i hi
  have hi : i < c.2.1 + 1 := hi
  show mk_1 (I' 84 i) (L' 86 i) (I' 85 i) (sp_up c.2.2.1 c.2.1 (tk_K s n c.1) i) (sp_up c.2.2.2.1 c.2.1 c.1 i) (sp_up c.2.2.2.2 c.2.1 (tk_V s n c.1) i)
  by_cases z : i = c.2.1
  · subst z
    rw [sp_up_e, sp_up_e, sp_up_e, e1, e2, e3]
    exact hm
  · rw [sp_up_n _ _ z, sp_up_n _ _ z, sp_up_n _ _ z, f1 i z, f2 i z, f3 i z]
    exact h i (by omega)
theorem mk_T_fin (h : mk_W I L c) (hR : tk_R s n c) (hc : n ≤ c.1) (hn : n ≤ 1000) (hi : c.2.1 ≤ n) (e1 : I' 84 c.2.1 = 0) (e3 : I' 85 c.2.1 = n) (f1 : ∀ k, k ≠ c.2.1 → I' 84 k = I 84 k) (f3 : ∀ k, k ≠ c.2.1 → I' 85 k = I 85 k) (hw : ∀ w : Nat, w < 32 → L 87 w = sp_W37.getD w 0) : mt_T I' L (tk_Ks s n) (tk_Ps s n) (tk_Vs s n) (tk_te s n) := by
  have hrun := tk_R_e hR hc
  have hd := tk_run_d (s := s) (n := n) n c.2.1 (by rw [hrun]; exact Nat.le_refl _)
  unfold tk_Ks tk_Ps tk_Vs tk_te
  rw [hrun] at hd ⊢
  refine ⟨by omega, fun i hi => ?_, hw⟩
  by_cases z : i = c.2.1
  · subst z
    rw [hd.1, hd.2, e1, e3]
    exact ⟨rfl, rfl, by omega, fun z => absurd z (by decide), fun z => absurd z (by decide), ⟨fun _ => rfl, fun _ => rfl⟩, by decide, fun z => absurd z (by decide)⟩
  · rw [f1 i z, f3 i z]
    obtain ⟨a1, a2, a3, a4, a5, a6, a7⟩ := h i (by omega)
    exact ⟨a1, a2, a3, a4, a5, ⟨fun y => absurd y a6, fun y => absurd y z⟩, a7⟩
end MKW
theorem q_isLetter {d : Nat} {I L : Nat → Nat → Int} {R : Nat → Nat → Option Nat} {Y : (Nat → Nat) × (Nat → Nat) × Nat} {c : Int} : yi_P zi_Ms d 54 [.inl c] (I, L, R, Y) (fun r => ((97 ≤ c ∧ c ≤ 122) ∧ r = (some (.inl 1), (I, L, R, Y), 0, 0)) ∨ (¬ (97 ≤ c ∧ c ≤ 122) ∧ r = (some (.inl 0), (I, L, R, Y), 0, 0))) := by
  refine yi_P_of (M := zi_m54) rfl (fun d k => ?_)
  show yi_D zi_Ms d zi_m54 k (0, [(0, .inl c)], [], (I, L, R, Y), 0, 0) _
  refine yi_D_run 2 (3, [(0, .inl c)], [.inl 97, .inl c], (I, L, R, Y), 0, 0) (fun _ => rfl) ?_
  by_cases h1 : c < 97
  · refine yi_D_if2 true rfl (yi_lt_t h1) ?_
    refine yi_D_run 1 (17, [(0, .inl c)], [.inl 0], (I, L, R, Y), 0, 0) (fun _ => rfl) ?_
    refine yi_D_reti rfl ?_
    exact Or.inr ⟨by omega, rfl⟩
  · refine yi_D_if2 false rfl (yi_lt_f h1) ?_
    refine yi_D_run 2 (9, [(0, .inl c)], [.inl 122, .inl c], (I, L, R, Y), 0, 0) (fun _ => rfl) ?_
    by_cases h2 : 122 < c
    · refine yi_D_if2 true rfl (yi_gt_t h2) ?_
      refine yi_D_run 1 (17, [(0, .inl c)], [.inl 0], (I, L, R, Y), 0, 0) (fun _ => rfl) ?_
      refine yi_D_reti rfl ?_
      exact Or.inr ⟨by omega, rfl⟩
    · refine yi_D_if2 false rfl (yi_gt_f h2) ?_
      refine yi_D_run 2 (17, [(0, .inl c)], [.inl 1], (I, L, R, Y), 0, 0) (fun _ => rfl) ?_
      refine yi_D_reti rfl ?_
      exact Or.inl ⟨by omega, rfl⟩
theorem q_isDigit {d : Nat} {I L : Nat → Nat → Int} {R : Nat → Nat → Option Nat} {Y : (Nat → Nat) × (Nat → Nat) × Nat} {c : Int} : yi_P zi_Ms d 50 [.inl c] (I, L, R, Y) (fun r => ((48 ≤ c ∧ c ≤ 57) ∧ r = (some (.inl 1), (I, L, R, Y), 0, 0)) ∨ (¬ (48 ≤ c ∧ c ≤ 57) ∧ r = (some (.inl 0), (I, L, R, Y), 0, 0))) := by
  refine yi_P_of (M := zi_m50) rfl (fun d k => ?_)
  show yi_D zi_Ms d zi_m50 k (0, [(0, .inl c)], [], (I, L, R, Y), 0, 0) _
  refine yi_D_run 2 (3, [(0, .inl c)], [.inl 48, .inl c], (I, L, R, Y), 0, 0) (fun _ => rfl) ?_
  by_cases h1 : c < 48
  · refine yi_D_if2 true rfl (yi_lt_t h1) ?_
    refine yi_D_run 1 (17, [(0, .inl c)], [.inl 0], (I, L, R, Y), 0, 0) (fun _ => rfl) ?_
    refine yi_D_reti rfl ?_
    exact Or.inr ⟨by omega, rfl⟩
  · refine yi_D_if2 false rfl (yi_lt_f h1) ?_
    refine yi_D_run 2 (9, [(0, .inl c)], [.inl 57, .inl c], (I, L, R, Y), 0, 0) (fun _ => rfl) ?_
    by_cases h2 : 57 < c
    · refine yi_D_if2 true rfl (yi_gt_t h2) ?_
      refine yi_D_run 1 (17, [(0, .inl c)], [.inl 0], (I, L, R, Y), 0, 0) (fun _ => rfl) ?_
      refine yi_D_reti rfl ?_
      exact Or.inr ⟨by omega, rfl⟩
    · refine yi_D_if2 false rfl (yi_gt_f h2) ?_
      refine yi_D_run 2 (17, [(0, .inl c)], [.inl 1], (I, L, R, Y), 0, 0) (fun _ => rfl) ?_
      refine yi_D_reti rfl ?_
      exact Or.inl ⟨by omega, rfl⟩
theorem q_isSignOf {d : Nat} {I L : Nat → Nat → Int} {R : Nat → Nat → Option Nat} {Y : (Nat → Nat) × (Nat → Nat) × Nat} {c : Int} : yi_P zi_Ms d 63 [.inl c] (I, L, R, Y) (fun r => ((c = 40 ∨ c = 41 ∨ c = 59 ∨ c = 61 ∨ c = 60 ∨ c = 43 ∨ c = 45 ∨ c = 42) ∧ r = (some (.inl 1), (I, L, R, Y), 0, 0)) ∨ (¬ (c = 40 ∨ c = 41 ∨ c = 59 ∨ c = 61 ∨ c = 60 ∨ c = 43 ∨ c = 45 ∨ c = 42) ∧ r = (some (.inl 0), (I, L, R, Y), 0, 0))) := by
  refine yi_P_of (M := zi_m63) rfl (fun d k => ?_)
  show yi_D zi_Ms d zi_m63 k (0, [(0, .inl c)], [], (I, L, R, Y), 0, 0) _
  refine yi_D_run 2 (3, [(0, .inl c)], [.inl 40, .inl c], (I, L, R, Y), 0, 0) (fun _ => rfl) ?_
  by_cases h1 : c = 40
  · refine yi_D_if2 true rfl (yi_eq_t h1) ?_
    refine yi_D_run 2 (53, [(0, .inl c)], [.inl 1], (I, L, R, Y), 0, 0) (fun _ => rfl) ?_
    refine yi_D_reti rfl ?_
    exact Or.inl ⟨by omega, rfl⟩
  · refine yi_D_if2 false rfl (yi_eq_f h1) ?_
    refine yi_D_run 2 (9, [(0, .inl c)], [.inl 41, .inl c], (I, L, R, Y), 0, 0) (fun _ => rfl) ?_
    by_cases h2 : c = 41
    · refine yi_D_if2 true rfl (yi_eq_t h2) ?_
      refine yi_D_run 2 (53, [(0, .inl c)], [.inl 1], (I, L, R, Y), 0, 0) (fun _ => rfl) ?_
      refine yi_D_reti rfl ?_
      exact Or.inl ⟨by omega, rfl⟩
    · refine yi_D_if2 false rfl (yi_eq_f h2) ?_
      refine yi_D_run 2 (15, [(0, .inl c)], [.inl 59, .inl c], (I, L, R, Y), 0, 0) (fun _ => rfl) ?_
      by_cases h3 : c = 59
      · refine yi_D_if2 true rfl (yi_eq_t h3) ?_
        refine yi_D_run 2 (53, [(0, .inl c)], [.inl 1], (I, L, R, Y), 0, 0) (fun _ => rfl) ?_
        refine yi_D_reti rfl ?_
        exact Or.inl ⟨by omega, rfl⟩
      · refine yi_D_if2 false rfl (yi_eq_f h3) ?_
        refine yi_D_run 2 (21, [(0, .inl c)], [.inl 61, .inl c], (I, L, R, Y), 0, 0) (fun _ => rfl) ?_
        by_cases h4 : c = 61
        · refine yi_D_if2 true rfl (yi_eq_t h4) ?_
          refine yi_D_run 2 (53, [(0, .inl c)], [.inl 1], (I, L, R, Y), 0, 0) (fun _ => rfl) ?_
          refine yi_D_reti rfl ?_
          exact Or.inl ⟨by omega, rfl⟩
        · refine yi_D_if2 false rfl (yi_eq_f h4) ?_
          refine yi_D_run 2 (27, [(0, .inl c)], [.inl 60, .inl c], (I, L, R, Y), 0, 0) (fun _ => rfl) ?_
          by_cases h5 : c = 60
          · refine yi_D_if2 true rfl (yi_eq_t h5) ?_
            refine yi_D_run 2 (53, [(0, .inl c)], [.inl 1], (I, L, R, Y), 0, 0) (fun _ => rfl) ?_
            refine yi_D_reti rfl ?_
            exact Or.inl ⟨by omega, rfl⟩
          · refine yi_D_if2 false rfl (yi_eq_f h5) ?_
            refine yi_D_run 2 (33, [(0, .inl c)], [.inl 43, .inl c], (I, L, R, Y), 0, 0) (fun _ => rfl) ?_
            by_cases h6 : c = 43
            · refine yi_D_if2 true rfl (yi_eq_t h6) ?_
              refine yi_D_run 2 (53, [(0, .inl c)], [.inl 1], (I, L, R, Y), 0, 0) (fun _ => rfl) ?_
              refine yi_D_reti rfl ?_
              exact Or.inl ⟨by omega, rfl⟩
            · refine yi_D_if2 false rfl (yi_eq_f h6) ?_
              refine yi_D_run 2 (39, [(0, .inl c)], [.inl 45, .inl c], (I, L, R, Y), 0, 0) (fun _ => rfl) ?_
              by_cases h7 : c = 45
              · refine yi_D_if2 true rfl (yi_eq_t h7) ?_
                refine yi_D_run 2 (53, [(0, .inl c)], [.inl 1], (I, L, R, Y), 0, 0) (fun _ => rfl) ?_
                refine yi_D_reti rfl ?_
                exact Or.inl ⟨by omega, rfl⟩
              · refine yi_D_if2 false rfl (yi_eq_f h7) ?_
                refine yi_D_run 2 (45, [(0, .inl c)], [.inl 42, .inl c], (I, L, R, Y), 0, 0) (fun _ => rfl) ?_
                by_cases h8 : c = 42
                · refine yi_D_if2 false rfl (yi_ne_f h8) ?_
                  refine yi_D_run 2 (53, [(0, .inl c)], [.inl 1], (I, L, R, Y), 0, 0) (fun _ => rfl) ?_
                  refine yi_D_reti rfl ?_
                  exact Or.inl ⟨by omega, rfl⟩
                · refine yi_D_if2 true rfl (yi_ne_t h8) ?_
                  refine yi_D_run 1 (53, [(0, .inl c)], [.inl 0], (I, L, R, Y), 0, 0) (fun _ => rfl) ?_
                  refine yi_D_reti rfl ?_
                  exact Or.inr ⟨by omega, rfl⟩
theorem q_rank {d : Nat} {I L : Nat → Nat → Int} {R : Nat → Nat → Option Nat} {Y : (Nat → Nat) × (Nat → Nat) × Nat} {c : Int} (hc : 97 ≤ c ∧ c ≤ 122) : yi_P zi_Ms d 92 [.inl c] (I, L, R, Y) (fun r => r = (some (.inl (c - 96)), (I, L, R, Y), 0, 0)) := by
  refine yi_P_of (M := zi_m92) rfl (fun d k => ?_)
  show yi_D zi_Ms d zi_m92 k (0, [(0, .inl c)], [], (I, L, R, Y), 0, 0) _
  refine yi_D_run 1 (1, [(0, .inl c)], [.inl c], (I, L, R, Y), 0, 0) (fun _ => rfl) ?_
  refine yi_D_calls rfl (q_isLetter) ?_
  rintro _ (⟨c1, rfl⟩ | ⟨c1, rfl⟩)
  · show yi_D zi_Ms d zi_m92 k (4, [(0, .inl c)], [.inl 1], (I, L, R, Y), 0, 0) _
    refine yi_D_if1 false rfl (by decide) ?_
    refine yi_D_run 2 (10, [(0, .inl c)], [.inl 96, .inl c], (I, L, R, Y), 0, 0) (fun _ => rfl) ?_
    refine yi_D_isub rfl (c - 96) (yi_wn (by omega) (by omega)) ?_
    refine yi_D_run 1 (18, [(0, .inl c)], [.inl (c - 96)], (I, L, R, Y), 0, 0) (fun _ => rfl) ?_
    refine yi_D_reti rfl ?_
    first
    | (exfalso; omega)
    | rfl
  · show yi_D zi_Ms d zi_m92 k (4, [(0, .inl c)], [.inl 0], (I, L, R, Y), 0, 0) _
    refine yi_D_if1 true rfl (by decide) ?_
    refine yi_D_run 2 (17, [(0, .inl c)], [.inl 21, .inl c], (I, L, R, Y), 0, 0) (fun _ => rfl) ?_
    refine yi_D_isub rfl (c - 21) (yi_wn (by omega) (by omega)) ?_
    refine yi_D_reti rfl ?_
    first
    | (exfalso; omega)
    | rfl
theorem q_cutAll {d : Nat} {I L : Nat → Nat → Int} {R : Nat → Nat → Option Nat} {Y : (Nat → Nat) × (Nat → Nat) × Nat} (hS : ym_S (R, Y)) {s : Nat → Int} {n : Nat} (hn : n ≤ 1000) (h2 : I 82 2 = (n : Int)) (ht : ∀ i, i < n → I 83 i = s i) (hW : ∀ w : Nat, w < 32 → L 87 w = sp_W37.getD w 0) : yi_P zi_Ms d 16 [.inr (.inr (some 82))] (I, L, R, Y) (fun r => ∃ I' L', r = (none, (I', L', R, Y), 0, 0) ∧ mt_T I' L' (tk_Ks s n) (tk_Ps s n) (tk_Vs s n) (tk_te s n) ∧ I' 82 7 = 0 ∧ I' 82 8 = 0 ∧ I' 82 2 = 0 ∧ (∀ p k, ¬ (p = 82 ∧ (k = 2 ∨ k = 3 ∨ k = 7 ∨ k = 8)) ∧ p ≠ 84 ∧ p ≠ 85 → I' p k = I p k) ∧ (∀ p k, p ≠ 86 → L' p k = L p k)) := by
  refine yi_P_of (M := zi_m16) rfl (fun d k => ?_)
  show yi_D zi_Ms d zi_m16 k (0, [(0, .inr (.inr (some 82)))], [], (I, L, R, Y), 0, 0) _
  refine yi_D_run 2 (2, [(0, .inr (.inr (some 82)))], [.inr (.inr (some 82)), .inr (.inr (some 82))], (I, L, R, Y), 0, 0) (fun _ => rfl) ?_
  refine yi_D_gi (v := I 82 2) rfl rfl rfl rfl (fun _ => ?_)
  refine yi_D_pi rfl (fun _ => ?_)
  generalize w2 : yi_u I 82 3 (I 82 2) = I1
  refine yi_D_run 2 (10, [(0, .inr (.inr (some 82)))], [.inl 0, .inr (.inr (some 82))], (I1, L, R, Y), 0, 0) (fun _ => rfl) ?_
  refine yi_D_pi rfl (fun _ => ?_)
  generalize w4 : yi_u I1 82 2 0 = I3
  refine yi_D_run 4 (17, [(2, .inl 0), (1, .inl 0), (0, .inr (.inr (some 82)))], [], (I3, L, R, Y), 0, 0) (fun _ => rfl) ?_
  have pt17 : ∀ j17, j17 ≤ k → ∀ (y2 : Int) (y1 : Int) (q3 : Int) (q4 : Int) (q5 : Int) (J1 : Nat → Nat → Int) (G1 : Nat → Nat → Int) (c : tk_C), (tk_R s n c) → (y1 = (c.2.1 : Int)) → (y2 = (c.1 : Int)) → (c.1 ≤ n ∧ c.2.1 ≤ c.1) → (mk_W J1 G1 c) → (J1 82 3 = (n : Int)) → (J1 82 2 = 0) → (∀ p k, ¬ (p = 82 ∧ (k = 2 ∨ k = 3)) ∧ p ≠ 84 ∧ p ≠ 85 → J1 p k = I p k) → (∀ p k, p ≠ 86 → G1 p k = L p k) → yi_D zi_Ms d zi_m16 j17 (17, [(2, .inl y2), (1, .inl y1), (0, .inr (.inr (some 82))), (3, .inl q3), (4, .inl q4), (5, .inr (.inl q5))], [], (J1, G1, R, Y), 0, 0) (fun r => ∃ I' L', r = (none, (I', L', R, Y), 0, 0) ∧ mt_T I' L' (tk_Ks s n) (tk_Ps s n) (tk_Vs s n) (tk_te s n) ∧ I' 82 7 = 0 ∧ I' 82 8 = 0 ∧ I' 82 2 = 0 ∧ (∀ p k, ¬ (p = 82 ∧ (k = 2 ∨ k = 3 ∨ k = 7 ∨ k = 8)) ∧ p ≠ 84 ∧ p ≠ 85 → I' p k = I p k) ∧ (∀ p k, p ≠ 86 → L' p k = L p k)) := by
    intro j17
    induction j17 with
    | zero => intros; exact yi_D_0
    | succ j17 ih17 =>
    intro hk17 y2 y1 q3 q4 q5 J1 G1 c hR e1 e2 hcb hK e3 e22 fI fL
    refine yi_D_run1 1 (19, [(2, .inl y2), (1, .inl y1), (0, .inr (.inr (some 82))), (3, .inl q3), (4, .inl q4), (5, .inr (.inl q5))], [.inr (.inr (some 82)), .inl y2], (J1, G1, R, Y), 0, 0) (fun _ => rfl) ?_
    refine yi_D_gi (v := (n : Int)) rfl rfl rfl e3 (fun _ => ?_)
    by_cases h5 : (n : Int) ≤ y2
    · refine yi_D_if2 true rfl (yi_ge_t h5) ?_
      refine yi_D_run 1 (280, [(2, .inl y2), (1, .inl y1), (0, .inr (.inr (some 82))), (3, .inl q3), (4, .inl q4), (5, .inr (.inl q5))], [.inr (.inr (some 82))], (J1, G1, R, Y), 0, 0) (fun _ => rfl) ?_
      refine yi_D_gr (v := some 84) rfl rfl rfl (ym_S_at hS (j := 1) rfl).1 (fun _ => ?_)
      refine yi_D_run 2 (285, [(2, .inl y2), (1, .inl y1), (0, .inr (.inr (some 82))), (3, .inl q3), (4, .inl q4), (5, .inr (.inl q5))], [.inl 0, .inl y1, .inr (.inr (some 84))], (J1, G1, R, Y), 0, 0) (fun _ => rfl) ?_
      refine yi_D_is rfl (fun _ _ => ?_)
      generalize w7 : yi_u J1 84 (y1.toNat) 0 = I6
      refine yi_D_run 1 (287, [(2, .inl y2), (1, .inl y1), (0, .inr (.inr (some 82))), (3, .inl q3), (4, .inl q4), (5, .inr (.inl q5))], [.inr (.inr (some 82))], (I6, G1, R, Y), 0, 0) (fun _ => rfl) ?_
      refine yi_D_gr (v := some 85) rfl rfl rfl (ym_S_at hS (j := 2) rfl).1 (fun _ => ?_)
      refine yi_D_run 2 (292, [(2, .inl y2), (1, .inl y1), (0, .inr (.inr (some 82))), (3, .inl q3), (4, .inl q4), (5, .inr (.inl q5))], [.inr (.inr (some 82)), .inl y1, .inr (.inr (some 85))], (I6, G1, R, Y), 0, 0) (fun _ => rfl) ?_
      have r8 : I6 82 3 = (n : Int) := by rw [← w7, yi_u_ne _ _ (by omega), e3]
      refine yi_D_gi (v := (n : Int)) rfl rfl rfl r8 (fun _ => ?_)
      refine yi_D_is rfl (fun _ _ => ?_)
      generalize w10 : yi_u I6 85 (y1.toNat) (n : Int) = I9
      refine yi_D_run 2 (298, [(2, .inl y2), (1, .inl y1), (0, .inr (.inr (some 82))), (3, .inl q3), (4, .inl q4), (5, .inr (.inl q5))], [.inl 0, .inr (.inr (some 82))], (I9, G1, R, Y), 0, 0) (fun _ => rfl) ?_
      refine yi_D_pi rfl (fun _ => ?_)
      generalize w12 : yi_u I9 82 7 0 = I11
      refine yi_D_run 2 (303, [(2, .inl y2), (1, .inl y1), (0, .inr (.inr (some 82))), (3, .inl q3), (4, .inl q4), (5, .inr (.inl q5))], [.inl 0, .inr (.inr (some 82))], (I11, G1, R, Y), 0, 0) (fun _ => rfl) ?_
      refine yi_D_pi rfl (fun _ => ?_)
      generalize w14 : yi_u I11 82 8 0 = I13
      refine yi_D_retv rfl ?_
      exact ⟨_, _, rfl, mk_T_fin hK hR (by omega) (by omega) (by omega) (by rw [← w14, yi_u_ne _ _ (by omega), ← w12, yi_u_ne _ _ (by omega), ← w10, yi_u_ne _ _ (by omega), ← w7, show c.2.1 = y1.toNat by omega, yi_u_eq]) (by rw [← w14, yi_u_ne _ _ (by omega), ← w12, yi_u_ne _ _ (by omega), ← w10, show c.2.1 = y1.toNat by omega, yi_u_eq]) (fun k hk => by rw [← w14, yi_u_ne _ _ (by omega), ← w12, yi_u_ne _ _ (by omega), ← w10, yi_u_ne _ _ (by omega), ← w7, yi_u_ne _ _ (by omega)]) (fun k hk => by rw [← w14, yi_u_ne _ _ (by omega), ← w12, yi_u_ne _ _ (by omega), ← w10, yi_u_ne _ _ (by omega), ← w7, yi_u_ne _ _ (by omega)]) (fun w hw => by rw [fL 87 w (by omega)]; exact hW w hw), by rw [← w14, yi_u_ne _ _ (by omega), ← w12, yi_u_eq], by rw [← w14, yi_u_eq], by rw [← w14, yi_u_ne _ _ (by omega), ← w12, yi_u_ne _ _ (by omega), ← w10, yi_u_ne _ _ (by omega), ← w7, yi_u_ne _ _ (by omega)]; exact e22, fun p k hp => by rw [← w14, yi_u_ne _ _ (by omega), ← w12, yi_u_ne _ _ (by omega), ← w10, yi_u_ne _ _ (by omega), ← w7, yi_u_ne _ _ (by omega), fI p k (by omega)], fL⟩
    · refine yi_D_if2 false rfl (yi_ge_f h5) ?_
      refine yi_D_run 1 (26, [(2, .inl y2), (1, .inl y1), (0, .inr (.inr (some 82))), (3, .inl q3), (4, .inl q4), (5, .inr (.inl q5))], [.inr (.inr (some 82))], (J1, G1, R, Y), 0, 0) (fun _ => rfl) ?_
      refine yi_D_gr (v := some 83) rfl rfl rfl (ym_S_at hS (j := 0) rfl).1 (fun _ => ?_)
      refine yi_D_run 1 (30, [(2, .inl y2), (1, .inl y1), (0, .inr (.inr (some 82))), (3, .inl q3), (4, .inl q4), (5, .inr (.inl q5))], [.inl y2, .inr (.inr (some 83))], (J1, G1, R, Y), 0, 0) (fun _ => rfl) ?_
      have hs0 : I 83 (y2.toNat) = s c.1 := by rw [show y2.toNat = c.1 by omega]; exact ht _ (by omega)
      have r15 : J1 83 (y2.toNat) = I 83 (y2.toNat) := by rw [fI 83 (y2.toNat) (by omega)]
      refine yi_D_il (v := I 83 (y2.toNat)) rfl rfl r15 (fun _ _ => ?_)
      refine yi_D_run 3 (35, [(3, .inl (I 83 (y2.toNat))), (2, .inl y2), (1, .inl y1), (0, .inr (.inr (some 82))), (4, .inl q4), (5, .inr (.inl q5))], [.inl 10, .inl (I 83 (y2.toNat))], (J1, G1, R, Y), 0, 0) (fun _ => rfl) ?_
      by_cases h16 : (I 83 (y2.toNat)) = 10
      · refine yi_D_if2 true rfl (yi_eq_t h16) ?_
        have hst : tk_st s n c = (c.1 + 1, c.2) := by unfold tk_st; rw [if_pos (by omega), if_pos (by omega)]
        refine yi_D_iinc [(2, .inl (y2 + 1)), (3, .inl (I 83 (y2.toNat))), (1, .inl y1), (0, .inr (.inr (some 82))), (4, .inl q4), (5, .inr (.inl q5))] rfl rfl rfl (by rw [show yi_w (y2 + 1) = y2 + 1 from (yi_wn (by omega) (by omega)).trans (by omega)]; rfl) ?_
        refine yi_D_run 1 (17, [(2, .inl (y2 + 1)), (3, .inl (I 83 (y2.toNat))), (1, .inl y1), (0, .inr (.inr (some 82))), (4, .inl q4), (5, .inr (.inl q5))], [], (J1, G1, R, Y), 0, 0) (fun _ => rfl) ?_
        refine yi_D_al (al := [(2, .inl (y2 + 1)), (1, .inl y1), (0, .inr (.inr (some 82))), (3, .inl (I 83 (y2.toNat))), (4, .inl q4), (5, .inr (.inl q5))]) (show ([2, 1, 0, 3, 4, 5] : List Nat).Nodup by decide) (show ([2, 3, 1, 0, 4, 5] : List Nat).Nodup by decide) (yi_mc (List.mem_of_getElem? (i := 0) rfl) (yi_mc (List.mem_of_getElem? (i := 3) rfl) (yi_mc (List.mem_of_getElem? (i := 1) rfl) (yi_mc (List.mem_of_getElem? (i := 2) rfl) (yi_mc (List.mem_of_getElem? (i := 4) rfl) (yi_mc (List.mem_of_getElem? (i := 5) rfl) yi_mn)))))) ?_
        exact yi_D_mono (ih17 (by omega) (y2 + 1) y1 (I 83 (y2.toNat)) q4 q5 J1 G1 (tk_st s n c) (tk_R_s hR) (by rw [hst]; dsimp only; omega) (by rw [hst]; dsimp only; omega) (by rw [hst]; dsimp only; omega) (by rw [hst]; exact hK) e3 e22 (fun p k hp => by rw [fI p k (by omega)]) (fun p k hp => by rw [fL p k (by omega)])) (by omega)
      · refine yi_D_if2 false rfl (yi_eq_f h16) ?_
        refine yi_D_run 2 (41, [(3, .inl (I 83 (y2.toNat))), (2, .inl y2), (1, .inl y1), (0, .inr (.inr (some 82))), (4, .inl q4), (5, .inr (.inl q5))], [.inl 32, .inl (I 83 (y2.toNat))], (J1, G1, R, Y), 0, 0) (fun _ => rfl) ?_
        by_cases h17 : (I 83 (y2.toNat)) = 32
        · refine yi_D_if2 false rfl (yi_ne_f h17) ?_
          have hst : tk_st s n c = (c.1 + 1, c.2) := by unfold tk_st; rw [if_pos (by omega), if_pos (by omega)]
          refine yi_D_iinc [(2, .inl (y2 + 1)), (3, .inl (I 83 (y2.toNat))), (1, .inl y1), (0, .inr (.inr (some 82))), (4, .inl q4), (5, .inr (.inl q5))] rfl rfl rfl (by rw [show yi_w (y2 + 1) = y2 + 1 from (yi_wn (by omega) (by omega)).trans (by omega)]; rfl) ?_
          refine yi_D_run 1 (17, [(2, .inl (y2 + 1)), (3, .inl (I 83 (y2.toNat))), (1, .inl y1), (0, .inr (.inr (some 82))), (4, .inl q4), (5, .inr (.inl q5))], [], (J1, G1, R, Y), 0, 0) (fun _ => rfl) ?_
          refine yi_D_al (al := [(2, .inl (y2 + 1)), (1, .inl y1), (0, .inr (.inr (some 82))), (3, .inl (I 83 (y2.toNat))), (4, .inl q4), (5, .inr (.inl q5))]) (show ([2, 1, 0, 3, 4, 5] : List Nat).Nodup by decide) (show ([2, 3, 1, 0, 4, 5] : List Nat).Nodup by decide) (yi_mc (List.mem_of_getElem? (i := 0) rfl) (yi_mc (List.mem_of_getElem? (i := 3) rfl) (yi_mc (List.mem_of_getElem? (i := 1) rfl) (yi_mc (List.mem_of_getElem? (i := 2) rfl) (yi_mc (List.mem_of_getElem? (i := 4) rfl) (yi_mc (List.mem_of_getElem? (i := 5) rfl) yi_mn)))))) ?_
          exact yi_D_mono (ih17 (by omega) (y2 + 1) y1 (I 83 (y2.toNat)) q4 q5 J1 G1 (tk_st s n c) (tk_R_s hR) (by rw [hst]; dsimp only; omega) (by rw [hst]; dsimp only; omega) (by rw [hst]; dsimp only; omega) (by rw [hst]; exact hK) e3 e22 (fun p k hp => by rw [fI p k (by omega)]) (fun p k hp => by rw [fL p k (by omega)])) (by omega)
        · refine yi_D_if2 true rfl (yi_ne_t h17) ?_
          refine yi_D_run 5 (57, [(5, .inr (.inl 0)), (4, .inl y2), (3, .inl (I 83 (y2.toNat))), (2, .inl y2), (1, .inl y1), (0, .inr (.inr (some 82)))], [.inr (.inr (some 82))], (J1, G1, R, Y), 0, 0) (fun _ => rfl) ?_
          refine yi_D_gr (v := some 85) rfl rfl rfl (ym_S_at hS (j := 2) rfl).1 (fun _ => ?_)
          refine yi_D_run 2 (62, [(5, .inr (.inl 0)), (4, .inl y2), (3, .inl (I 83 (y2.toNat))), (2, .inl y2), (1, .inl y1), (0, .inr (.inr (some 82)))], [.inl y2, .inl y1, .inr (.inr (some 85))], (J1, G1, R, Y), 0, 0) (fun _ => rfl) ?_
          refine yi_D_is rfl (fun _ _ => ?_)
          generalize w19 : yi_u J1 85 (y1.toNat) y2 = I18
          refine yi_D_run 1 (64, [(5, .inr (.inl 0)), (4, .inl y2), (3, .inl (I 83 (y2.toNat))), (2, .inl y2), (1, .inl y1), (0, .inr (.inr (some 82)))], [.inl (I 83 (y2.toNat))], (I18, G1, R, Y), 0, 0) (fun _ => rfl) ?_
          refine yi_D_calls rfl (q_isLetter) ?_
          rintro _ (⟨c20, rfl⟩ | ⟨c20, rfl⟩)
          · show yi_D zi_Ms d zi_m16 j17 (67, [(5, .inr (.inl 0)), (4, .inl y2), (3, .inl (I 83 (y2.toNat))), (2, .inl y2), (1, .inl y1), (0, .inr (.inr (some 82)))], [.inl 1], (I18, G1, R, Y), 0, 0) _
            refine yi_D_if1 false rfl (by decide) ?_
            have pt70 : ∀ j70, j70 ≤ j17 → ∀ (x5 : Int) (x2 : Int), (y2 ≤ x2 ∧ x2 ≤ n) → (∀ j : Nat, j < (x2 - y2).toNat → tk_lt (s (c.1 + j)) = true) → (x2 - y2 ≤ 8 → x5 = sp_e 37 (tk_w s c.1 (x2 - y2).toNat)) → yi_D zi_Ms d zi_m16 j70 (70, [(5, .inr (.inl x5)), (4, .inl y2), (3, .inl (I 83 (y2.toNat))), (2, .inl x2), (1, .inl y1), (0, .inr (.inr (some 82)))], [], (I18, G1, R, Y), 0, 0) (fun r => ∃ I' L', r = (none, (I', L', R, Y), 0, 0) ∧ mt_T I' L' (tk_Ks s n) (tk_Ps s n) (tk_Vs s n) (tk_te s n) ∧ I' 82 7 = 0 ∧ I' 82 8 = 0 ∧ I' 82 2 = 0 ∧ (∀ p k, ¬ (p = 82 ∧ (k = 2 ∨ k = 3 ∨ k = 7 ∨ k = 8)) ∧ p ≠ 84 ∧ p ≠ 85 → I' p k = I p k) ∧ (∀ p k, p ≠ 86 → L' p k = L p k)) := by
              intro j70
              induction j70 with
              | zero => intros; exact yi_D_0
              | succ j70 ih70 =>
              intro hk70 x5 x2 hxx2 ha hv
              refine yi_D_run1 1 (72, [(5, .inr (.inl x5)), (4, .inl y2), (3, .inl (I 83 (y2.toNat))), (2, .inl x2), (1, .inl y1), (0, .inr (.inr (some 82)))], [.inr (.inr (some 82)), .inl x2], (I18, G1, R, Y), 0, 0) (fun _ => rfl) ?_
              have r21 : I18 82 3 = (n : Int) := by rw [← w19, yi_u_ne _ _ (by omega), e3]
              refine yi_D_gi (v := (n : Int)) rfl rfl rfl r21 (fun _ => ?_)
              by_cases h22 : (n : Int) ≤ x2
              · refine yi_D_if2 true rfl (yi_ge_t h22) ?_
                have hend : c.1 + (x2 - y2).toNat = n ∨ tk_lt (s (c.1 + (x2 - y2).toNat)) = false := by first | (left; omega) | (right; exact tk_lt_f (by omega))
                refine yi_D_run 1 (130, [(5, .inr (.inl x5)), (4, .inl y2), (3, .inl (I 83 (y2.toNat))), (2, .inl x2), (1, .inl y1), (0, .inr (.inr (some 82)))], [.inr (.inr (some 82))], (I18, G1, R, Y), 0, 0) (fun _ => rfl) ?_
                refine yi_D_gr (v := some 84) rfl rfl rfl (ym_S_at hS (j := 1) rfl).1 (fun _ => ?_)
                refine yi_D_run 3 (137, [(5, .inr (.inl x5)), (4, .inl y2), (3, .inl (I 83 (y2.toNat))), (2, .inl x2), (1, .inl y1), (0, .inr (.inr (some 82)))], [.inl y2, .inl x2, .inl y1, .inr (.inr (some 84))], (I18, G1, R, Y), 0, 0) (fun _ => rfl) ?_
                refine yi_D_isub rfl (x2 - y2) (yi_wn (by omega) (by omega)) ?_
                refine yi_D_run 1 (140, [(5, .inr (.inl x5)), (4, .inl y2), (3, .inl (I 83 (y2.toNat))), (2, .inl x2), (1, .inl y1), (0, .inr (.inr (some 82)))], [.inl 8, .inl (x2 - y2), .inl y1, .inr (.inr (some 84))], (I18, G1, R, Y), 0, 0) (fun _ => rfl) ?_
                by_cases h23 : (x2 - y2) ≤ 8
                · refine yi_D_if2 true rfl (yi_le_t h23) ?_
                  refine yi_D_run 1 (148, [(5, .inr (.inl x5)), (4, .inl y2), (3, .inl (I 83 (y2.toNat))), (2, .inl x2), (1, .inl y1), (0, .inr (.inr (some 82)))], [.inl 1, .inl y1, .inr (.inr (some 84))], (I18, G1, R, Y), 0, 0) (fun _ => rfl) ?_
                  refine yi_D_is rfl (fun _ _ => ?_)
                  generalize w25 : yi_u I18 84 (y1.toNat) 1 = I24
                  refine yi_D_run 2 (266, [(5, .inr (.inl x5)), (4, .inl y2), (3, .inl (I 83 (y2.toNat))), (2, .inl x2), (1, .inl y1), (0, .inr (.inr (some 82)))], [.inr (.inr (some 82))], (I24, G1, R, Y), 0, 0) (fun _ => rfl) ?_
                  refine yi_D_gr (v := some 86) rfl rfl rfl (ym_S_at hS (j := 3) rfl).1 (fun _ => ?_)
                  refine yi_D_run 2 (272, [(5, .inr (.inl x5)), (4, .inl y2), (3, .inl (I 83 (y2.toNat))), (2, .inl x2), (1, .inl y1), (0, .inr (.inr (some 82)))], [.inr (.inl x5), .inl y1, .inr (.inr (some 86))], (I24, G1, R, Y), 0, 0) (fun _ => rfl) ?_
                  have hst : tk_st s n c = (tk_nx s n c.1, c.2.1 + 1, sp_up c.2.2.1 c.2.1 (tk_K s n c.1), sp_up c.2.2.2.1 c.2.1 c.1, sp_up c.2.2.2.2 c.2.1 (tk_V s n c.1)) := by unfold tk_st; rw [if_pos (by omega), if_neg (by omega)]
                  have hnxb := tk_nx_b (s := s) (n := n) (k := c.1) (by omega)
                  have hp1 : 0 ≤ (c.1 : Int) ∧ (c.1 : Int) ≤ 1000 := by omega
                  have htk := tk_nx_w (s := s) (n := n) (k := c.1) (m := (x2 - y2).toNat) (by omega) (tk_lt_t.mpr (by omega)) (by omega) ha hend
                  have hm1 : mk_1 1 x5 c.1 (tk_K s n c.1) c.1 (tk_V s n c.1) := by
                    rw [htk.2.1, htk.2.2]
                    rw [if_neg (by omega), if_neg (by omega), ← hv (by omega)]
                    exact mk_1w hp1
                  refine yi_D_ls rfl (fun _ _ => ?_)
                  generalize w27 : yi_u G1 86 (y1.toNat) x5 = L26
                  refine yi_D_iinc [(1, .inl (y1 + 1)), (5, .inr (.inl x5)), (4, .inl y2), (3, .inl (I 83 (y2.toNat))), (2, .inl x2), (0, .inr (.inr (some 82)))] rfl rfl rfl (by rw [show yi_w (y1 + 1) = y1 + 1 from (yi_wn (by omega) (by omega)).trans (by omega)]; rfl) ?_
                  refine yi_D_run 1 (17, [(1, .inl (y1 + 1)), (5, .inr (.inl x5)), (4, .inl y2), (3, .inl (I 83 (y2.toNat))), (2, .inl x2), (0, .inr (.inr (some 82)))], [], (I24, L26, R, Y), 0, 0) (fun _ => rfl) ?_
                  refine yi_D_al (al := [(2, .inl x2), (1, .inl (y1 + 1)), (0, .inr (.inr (some 82))), (3, .inl (I 83 (y2.toNat))), (4, .inl y2), (5, .inr (.inl x5))]) (show ([2, 1, 0, 3, 4, 5] : List Nat).Nodup by decide) (show ([1, 5, 4, 3, 2, 0] : List Nat).Nodup by decide) (yi_mc (List.mem_of_getElem? (i := 1) rfl) (yi_mc (List.mem_of_getElem? (i := 5) rfl) (yi_mc (List.mem_of_getElem? (i := 4) rfl) (yi_mc (List.mem_of_getElem? (i := 3) rfl) (yi_mc (List.mem_of_getElem? (i := 0) rfl) (yi_mc (List.mem_of_getElem? (i := 2) rfl) yi_mn)))))) ?_
                  exact yi_D_mono (ih17 (by omega) x2 (y1 + 1) (I 83 (y2.toNat)) y2 x5 I24 L26 (tk_st s n c) (tk_R_s hR) (by rw [hst]; dsimp only; omega) (by rw [hst]; dsimp only; omega) (by rw [hst]; dsimp only; omega) (mk_W_add hK hst (by rw [← w25, show c.2.1 = y1.toNat by omega, yi_u_eq]) (by rw [← w27, show c.2.1 = y1.toNat by omega, yi_u_eq]) (by rw [← w25, yi_u_ne _ _ (by omega), ← w19, show c.2.1 = y1.toNat by omega, yi_u_eq]; omega) hm1 (fun k hk => by rw [← w25, yi_u_ne _ _ (by omega), ← w19, yi_u_ne _ _ (by omega)]) (fun k hk => by rw [← w27, yi_u_ne _ _ (by omega)]) (fun k hk => by rw [← w25, yi_u_ne _ _ (by omega), ← w19, yi_u_ne _ _ (by omega)])) (by rw [← w25, yi_u_ne _ _ (by omega), ← w19, yi_u_ne _ _ (by omega)]; exact e3) (by rw [← w25, yi_u_ne _ _ (by omega), ← w19, yi_u_ne _ _ (by omega)]; exact e22) (fun p k hp => by rw [← w25, yi_u_ne _ _ (by omega), ← w19, yi_u_ne _ _ (by omega), fI p k (by omega)]) (fun p k hp => by rw [← w27, yi_u_ne _ _ (by omega), fL p k (by omega)])) (by omega)
                · refine yi_D_if2 false rfl (yi_le_f h23) ?_
                  refine yi_D_run 2 (148, [(5, .inr (.inl x5)), (4, .inl y2), (3, .inl (I 83 (y2.toNat))), (2, .inl x2), (1, .inl y1), (0, .inr (.inr (some 82)))], [.inl 4, .inl y1, .inr (.inr (some 84))], (I18, G1, R, Y), 0, 0) (fun _ => rfl) ?_
                  refine yi_D_is rfl (fun _ _ => ?_)
                  generalize w29 : yi_u I18 84 (y1.toNat) 4 = I28
                  refine yi_D_run 2 (266, [(5, .inr (.inl x5)), (4, .inl y2), (3, .inl (I 83 (y2.toNat))), (2, .inl x2), (1, .inl y1), (0, .inr (.inr (some 82)))], [.inr (.inr (some 82))], (I28, G1, R, Y), 0, 0) (fun _ => rfl) ?_
                  refine yi_D_gr (v := some 86) rfl rfl rfl (ym_S_at hS (j := 3) rfl).1 (fun _ => ?_)
                  refine yi_D_run 2 (272, [(5, .inr (.inl x5)), (4, .inl y2), (3, .inl (I 83 (y2.toNat))), (2, .inl x2), (1, .inl y1), (0, .inr (.inr (some 82)))], [.inr (.inl x5), .inl y1, .inr (.inr (some 86))], (I28, G1, R, Y), 0, 0) (fun _ => rfl) ?_
                  have hst : tk_st s n c = (tk_nx s n c.1, c.2.1 + 1, sp_up c.2.2.1 c.2.1 (tk_K s n c.1), sp_up c.2.2.2.1 c.2.1 c.1, sp_up c.2.2.2.2 c.2.1 (tk_V s n c.1)) := by unfold tk_st; rw [if_pos (by omega), if_neg (by omega)]
                  have hnxb := tk_nx_b (s := s) (n := n) (k := c.1) (by omega)
                  have hp1 : 0 ≤ (c.1 : Int) ∧ (c.1 : Int) ≤ 1000 := by omega
                  have htk := tk_nx_w (s := s) (n := n) (k := c.1) (m := (x2 - y2).toNat) (by omega) (tk_lt_t.mpr (by omega)) (by omega) ha hend
                  have hm1 : mk_1 4 x5 c.1 (tk_K s n c.1) c.1 (tk_V s n c.1) := by
                    rw [htk.2.1, htk.2.2]
                    rw [if_pos (by omega), if_pos (by omega)]
                    exact mk_1b hp1
                  refine yi_D_ls rfl (fun _ _ => ?_)
                  generalize w31 : yi_u G1 86 (y1.toNat) x5 = L30
                  refine yi_D_iinc [(1, .inl (y1 + 1)), (5, .inr (.inl x5)), (4, .inl y2), (3, .inl (I 83 (y2.toNat))), (2, .inl x2), (0, .inr (.inr (some 82)))] rfl rfl rfl (by rw [show yi_w (y1 + 1) = y1 + 1 from (yi_wn (by omega) (by omega)).trans (by omega)]; rfl) ?_
                  refine yi_D_run 1 (17, [(1, .inl (y1 + 1)), (5, .inr (.inl x5)), (4, .inl y2), (3, .inl (I 83 (y2.toNat))), (2, .inl x2), (0, .inr (.inr (some 82)))], [], (I28, L30, R, Y), 0, 0) (fun _ => rfl) ?_
                  refine yi_D_al (al := [(2, .inl x2), (1, .inl (y1 + 1)), (0, .inr (.inr (some 82))), (3, .inl (I 83 (y2.toNat))), (4, .inl y2), (5, .inr (.inl x5))]) (show ([2, 1, 0, 3, 4, 5] : List Nat).Nodup by decide) (show ([1, 5, 4, 3, 2, 0] : List Nat).Nodup by decide) (yi_mc (List.mem_of_getElem? (i := 1) rfl) (yi_mc (List.mem_of_getElem? (i := 5) rfl) (yi_mc (List.mem_of_getElem? (i := 4) rfl) (yi_mc (List.mem_of_getElem? (i := 3) rfl) (yi_mc (List.mem_of_getElem? (i := 0) rfl) (yi_mc (List.mem_of_getElem? (i := 2) rfl) yi_mn)))))) ?_
                  exact yi_D_mono (ih17 (by omega) x2 (y1 + 1) (I 83 (y2.toNat)) y2 x5 I28 L30 (tk_st s n c) (tk_R_s hR) (by rw [hst]; dsimp only; omega) (by rw [hst]; dsimp only; omega) (by rw [hst]; dsimp only; omega) (mk_W_add hK hst (by rw [← w29, show c.2.1 = y1.toNat by omega, yi_u_eq]) (by rw [← w31, show c.2.1 = y1.toNat by omega, yi_u_eq]) (by rw [← w29, yi_u_ne _ _ (by omega), ← w19, show c.2.1 = y1.toNat by omega, yi_u_eq]; omega) hm1 (fun k hk => by rw [← w29, yi_u_ne _ _ (by omega), ← w19, yi_u_ne _ _ (by omega)]) (fun k hk => by rw [← w31, yi_u_ne _ _ (by omega)]) (fun k hk => by rw [← w29, yi_u_ne _ _ (by omega), ← w19, yi_u_ne _ _ (by omega)])) (by rw [← w29, yi_u_ne _ _ (by omega), ← w19, yi_u_ne _ _ (by omega)]; exact e3) (by rw [← w29, yi_u_ne _ _ (by omega), ← w19, yi_u_ne _ _ (by omega)]; exact e22) (fun p k hp => by rw [← w29, yi_u_ne _ _ (by omega), ← w19, yi_u_ne _ _ (by omega), fI p k (by omega)]) (fun p k hp => by rw [← w31, yi_u_ne _ _ (by omega), fL p k (by omega)])) (by omega)
              · refine yi_D_if2 false rfl (yi_ge_f h22) ?_
                refine yi_D_run 1 (79, [(5, .inr (.inl x5)), (4, .inl y2), (3, .inl (I 83 (y2.toNat))), (2, .inl x2), (1, .inl y1), (0, .inr (.inr (some 82)))], [.inr (.inr (some 82))], (I18, G1, R, Y), 0, 0) (fun _ => rfl) ?_
                refine yi_D_gr (v := some 83) rfl rfl rfl (ym_S_at hS (j := 0) rfl).1 (fun _ => ?_)
                refine yi_D_run 1 (83, [(5, .inr (.inl x5)), (4, .inl y2), (3, .inl (I 83 (y2.toNat))), (2, .inl x2), (1, .inl y1), (0, .inr (.inr (some 82)))], [.inl x2, .inr (.inr (some 83))], (I18, G1, R, Y), 0, 0) (fun _ => rfl) ?_
                have hs1 : I 83 (x2.toNat) = s (c.1 + (x2 - y2).toNat) := by rw [show x2.toNat = c.1 + (x2 - y2).toNat by omega]; exact ht _ (by omega)
                have r32 : I18 83 (x2.toNat) = I 83 (x2.toNat) := by rw [← w19, yi_u_ne _ _ (by omega), fI 83 (x2.toNat) (by omega)]
                refine yi_D_il (v := I 83 (x2.toNat)) rfl rfl r32 (fun _ _ => ?_)
                refine yi_D_calls rfl (q_isLetter) ?_
                rintro _ (⟨c33, rfl⟩ | ⟨c33, rfl⟩)
                · show yi_D zi_Ms d zi_m16 j70 (87, [(5, .inr (.inl x5)), (4, .inl y2), (3, .inl (I 83 (y2.toNat))), (2, .inl x2), (1, .inl y1), (0, .inr (.inr (some 82)))], [.inl 1], (I18, G1, R, Y), 0, 0) _
                  refine yi_D_if1 false rfl (by decide) ?_
                  refine yi_D_run 2 (93, [(5, .inr (.inl x5)), (4, .inl y2), (3, .inl (I 83 (y2.toNat))), (2, .inl x2), (1, .inl y1), (0, .inr (.inr (some 82)))], [.inl y2, .inl x2], (I18, G1, R, Y), 0, 0) (fun _ => rfl) ?_
                  refine yi_D_isub rfl (x2 - y2) (yi_wn (by omega) (by omega)) ?_
                  refine yi_D_run 1 (96, [(5, .inr (.inl x5)), (4, .inl y2), (3, .inl (I 83 (y2.toNat))), (2, .inl x2), (1, .inl y1), (0, .inr (.inr (some 82)))], [.inl 8, .inl (x2 - y2)], (I18, G1, R, Y), 0, 0) (fun _ => rfl) ?_
                  by_cases h34 : 8 ≤ (x2 - y2)
                  · refine yi_D_if2 true rfl (yi_ge_t h34) ?_
                    refine yi_D_run 2 (123, [(5, .inr (.inl x5)), (4, .inl y2), (3, .inl (I 83 (y2.toNat))), (2, .inl x2), (1, .inl y1), (0, .inr (.inr (some 82)))], [], (I18, G1, R, Y), 0, 0) (fun _ => rfl) ?_
                    refine yi_D_iinc [(2, .inl (x2 + 1)), (5, .inr (.inl x5)), (4, .inl y2), (3, .inl (I 83 (y2.toNat))), (1, .inl y1), (0, .inr (.inr (some 82)))] rfl rfl rfl (by rw [show yi_w (x2 + 1) = x2 + 1 from (yi_wn (by omega) (by omega)).trans (by omega)]; rfl) ?_
                    refine yi_D_run 1 (70, [(2, .inl (x2 + 1)), (5, .inr (.inl x5)), (4, .inl y2), (3, .inl (I 83 (y2.toNat))), (1, .inl y1), (0, .inr (.inr (some 82)))], [], (I18, G1, R, Y), 0, 0) (fun _ => rfl) ?_
                    refine yi_D_al (al := [(5, .inr (.inl x5)), (4, .inl y2), (3, .inl (I 83 (y2.toNat))), (2, .inl (x2 + 1)), (1, .inl y1), (0, .inr (.inr (some 82)))]) (show ([5, 4, 3, 2, 1, 0] : List Nat).Nodup by decide) (show ([2, 5, 4, 3, 1, 0] : List Nat).Nodup by decide) (yi_mc (List.mem_of_getElem? (i := 3) rfl) (yi_mc (List.mem_of_getElem? (i := 0) rfl) (yi_mc (List.mem_of_getElem? (i := 1) rfl) (yi_mc (List.mem_of_getElem? (i := 2) rfl) (yi_mc (List.mem_of_getElem? (i := 4) rfl) (yi_mc (List.mem_of_getElem? (i := 5) rfl) yi_mn)))))) ?_
                    exact yi_D_mono (ih70 (by omega) x5 (x2 + 1) (by omega) (fun j hj => by by_cases z : j < (x2 - y2).toNat; exact ha j z; rw [show j = (x2 - y2).toNat by omega]; exact tk_lt_t.mpr (by omega)) (by first | (intro hq; exfalso; omega) | (intro _; rw [show (x2 + 1 - y2).toNat = (x2 - y2).toNat + 1 by omega]; show _ = 37 * sp_e 37 (tk_w s c.1 (x2 - y2).toNat) + ((s (c.1 + (x2 - y2).toNat) - 96).toNat : Int); rw [← hv (by omega)]; omega))) (by omega)
                  · refine yi_D_if2 false rfl (yi_ge_f h34) ?_
                    refine yi_D_ldc2 (37) rfl (by decide +kernel) ?_
                    refine yi_D_run 1 (104, [(5, .inr (.inl x5)), (4, .inl y2), (3, .inl (I 83 (y2.toNat))), (2, .inl x2), (1, .inl y1), (0, .inr (.inr (some 82)))], [.inr (.inl x5), .inr (.inl 37)], (I18, G1, R, Y), 0, 0) (fun _ => rfl) ?_
                    have hb5 := tk_wb (b := 37) (by omega) (s := s) (k := c.1) (m := (x2 - y2).toNat) (by omega) ha
                    rw [← hv (by omega)] at hb5
                    refine yi_D_lmul rfl (37 * x5) (yi_Wn (by omega) (by omega)) ?_
                    refine yi_D_run 1 (106, [(5, .inr (.inl x5)), (4, .inl y2), (3, .inl (I 83 (y2.toNat))), (2, .inl x2), (1, .inl y1), (0, .inr (.inr (some 82)))], [.inr (.inr (some 82)), .inr (.inl (37 * x5))], (I18, G1, R, Y), 0, 0) (fun _ => rfl) ?_
                    refine yi_D_gr (v := some 83) rfl rfl rfl (ym_S_at hS (j := 0) rfl).1 (fun _ => ?_)
                    refine yi_D_run 1 (110, [(5, .inr (.inl x5)), (4, .inl y2), (3, .inl (I 83 (y2.toNat))), (2, .inl x2), (1, .inl y1), (0, .inr (.inr (some 82)))], [.inl x2, .inr (.inr (some 83)), .inr (.inl (37 * x5))], (I18, G1, R, Y), 0, 0) (fun _ => rfl) ?_
                    have r35 : I18 83 (x2.toNat) = I 83 (x2.toNat) := by rw [← w19, yi_u_ne _ _ (by omega), fI 83 (x2.toNat) (by omega)]
                    refine yi_D_il (v := I 83 (x2.toNat)) rfl rfl r35 (fun _ _ => ?_)
                    refine yi_D_calls rfl (q_rank (by omega)) ?_
                    rintro _ rfl
                    show yi_D zi_Ms d zi_m16 j70 (114, [(5, .inr (.inl x5)), (4, .inl y2), (3, .inl (I 83 (y2.toNat))), (2, .inl x2), (1, .inl y1), (0, .inr (.inr (some 82)))], [.inl ((I 83 (x2.toNat)) - 96), .inr (.inl (37 * x5))], (I18, G1, R, Y), 0, 0) _
                    refine yi_D_run 1 (115, [(5, .inr (.inl x5)), (4, .inl y2), (3, .inl (I 83 (y2.toNat))), (2, .inl x2), (1, .inl y1), (0, .inr (.inr (some 82)))], [.inr (.inl ((I 83 (x2.toNat)) - 96)), .inr (.inl (37 * x5))], (I18, G1, R, Y), 0, 0) (fun _ => rfl) ?_
                    refine yi_D_ladd rfl ((37 * x5) + ((I 83 (x2.toNat)) - 96)) (yi_Wn (by omega) (by omega)) ?_
                    refine yi_D_run 2 (123, [(5, .inr (.inl ((37 * x5) + ((I 83 (x2.toNat)) - 96)))), (4, .inl y2), (3, .inl (I 83 (y2.toNat))), (2, .inl x2), (1, .inl y1), (0, .inr (.inr (some 82)))], [], (I18, G1, R, Y), 0, 0) (fun _ => rfl) ?_
                    refine yi_D_iinc [(2, .inl (x2 + 1)), (5, .inr (.inl ((37 * x5) + ((I 83 (x2.toNat)) - 96)))), (4, .inl y2), (3, .inl (I 83 (y2.toNat))), (1, .inl y1), (0, .inr (.inr (some 82)))] rfl rfl rfl (by rw [show yi_w (x2 + 1) = x2 + 1 from (yi_wn (by omega) (by omega)).trans (by omega)]; rfl) ?_
                    refine yi_D_run 1 (70, [(2, .inl (x2 + 1)), (5, .inr (.inl ((37 * x5) + ((I 83 (x2.toNat)) - 96)))), (4, .inl y2), (3, .inl (I 83 (y2.toNat))), (1, .inl y1), (0, .inr (.inr (some 82)))], [], (I18, G1, R, Y), 0, 0) (fun _ => rfl) ?_
                    refine yi_D_al (al := [(5, .inr (.inl ((37 * x5) + ((I 83 (x2.toNat)) - 96)))), (4, .inl y2), (3, .inl (I 83 (y2.toNat))), (2, .inl (x2 + 1)), (1, .inl y1), (0, .inr (.inr (some 82)))]) (show ([5, 4, 3, 2, 1, 0] : List Nat).Nodup by decide) (show ([2, 5, 4, 3, 1, 0] : List Nat).Nodup by decide) (yi_mc (List.mem_of_getElem? (i := 3) rfl) (yi_mc (List.mem_of_getElem? (i := 0) rfl) (yi_mc (List.mem_of_getElem? (i := 1) rfl) (yi_mc (List.mem_of_getElem? (i := 2) rfl) (yi_mc (List.mem_of_getElem? (i := 4) rfl) (yi_mc (List.mem_of_getElem? (i := 5) rfl) yi_mn)))))) ?_
                    exact yi_D_mono (ih70 (by omega) ((37 * x5) + ((I 83 (x2.toNat)) - 96)) (x2 + 1) (by omega) (fun j hj => by by_cases z : j < (x2 - y2).toNat; exact ha j z; rw [show j = (x2 - y2).toNat by omega]; exact tk_lt_t.mpr (by omega)) (by first | (intro hq; exfalso; omega) | (intro _; rw [show (x2 + 1 - y2).toNat = (x2 - y2).toNat + 1 by omega]; show _ = 37 * sp_e 37 (tk_w s c.1 (x2 - y2).toNat) + ((s (c.1 + (x2 - y2).toNat) - 96).toNat : Int); rw [← hv (by omega)]; omega))) (by omega)
                · show yi_D zi_Ms d zi_m16 j70 (87, [(5, .inr (.inl x5)), (4, .inl y2), (3, .inl (I 83 (y2.toNat))), (2, .inl x2), (1, .inl y1), (0, .inr (.inr (some 82)))], [.inl 0], (I18, G1, R, Y), 0, 0) _
                  refine yi_D_if1 true rfl (by decide) ?_
                  have hend : c.1 + (x2 - y2).toNat = n ∨ tk_lt (s (c.1 + (x2 - y2).toNat)) = false := by first | (left; omega) | (right; exact tk_lt_f (by omega))
                  refine yi_D_run 1 (130, [(5, .inr (.inl x5)), (4, .inl y2), (3, .inl (I 83 (y2.toNat))), (2, .inl x2), (1, .inl y1), (0, .inr (.inr (some 82)))], [.inr (.inr (some 82))], (I18, G1, R, Y), 0, 0) (fun _ => rfl) ?_
                  refine yi_D_gr (v := some 84) rfl rfl rfl (ym_S_at hS (j := 1) rfl).1 (fun _ => ?_)
                  refine yi_D_run 3 (137, [(5, .inr (.inl x5)), (4, .inl y2), (3, .inl (I 83 (y2.toNat))), (2, .inl x2), (1, .inl y1), (0, .inr (.inr (some 82)))], [.inl y2, .inl x2, .inl y1, .inr (.inr (some 84))], (I18, G1, R, Y), 0, 0) (fun _ => rfl) ?_
                  refine yi_D_isub rfl (x2 - y2) (yi_wn (by omega) (by omega)) ?_
                  refine yi_D_run 1 (140, [(5, .inr (.inl x5)), (4, .inl y2), (3, .inl (I 83 (y2.toNat))), (2, .inl x2), (1, .inl y1), (0, .inr (.inr (some 82)))], [.inl 8, .inl (x2 - y2), .inl y1, .inr (.inr (some 84))], (I18, G1, R, Y), 0, 0) (fun _ => rfl) ?_
                  by_cases h36 : (x2 - y2) ≤ 8
                  · refine yi_D_if2 true rfl (yi_le_t h36) ?_
                    refine yi_D_run 1 (148, [(5, .inr (.inl x5)), (4, .inl y2), (3, .inl (I 83 (y2.toNat))), (2, .inl x2), (1, .inl y1), (0, .inr (.inr (some 82)))], [.inl 1, .inl y1, .inr (.inr (some 84))], (I18, G1, R, Y), 0, 0) (fun _ => rfl) ?_
                    refine yi_D_is rfl (fun _ _ => ?_)
                    generalize w38 : yi_u I18 84 (y1.toNat) 1 = I37
                    refine yi_D_run 2 (266, [(5, .inr (.inl x5)), (4, .inl y2), (3, .inl (I 83 (y2.toNat))), (2, .inl x2), (1, .inl y1), (0, .inr (.inr (some 82)))], [.inr (.inr (some 82))], (I37, G1, R, Y), 0, 0) (fun _ => rfl) ?_
                    refine yi_D_gr (v := some 86) rfl rfl rfl (ym_S_at hS (j := 3) rfl).1 (fun _ => ?_)
                    refine yi_D_run 2 (272, [(5, .inr (.inl x5)), (4, .inl y2), (3, .inl (I 83 (y2.toNat))), (2, .inl x2), (1, .inl y1), (0, .inr (.inr (some 82)))], [.inr (.inl x5), .inl y1, .inr (.inr (some 86))], (I37, G1, R, Y), 0, 0) (fun _ => rfl) ?_
                    have hst : tk_st s n c = (tk_nx s n c.1, c.2.1 + 1, sp_up c.2.2.1 c.2.1 (tk_K s n c.1), sp_up c.2.2.2.1 c.2.1 c.1, sp_up c.2.2.2.2 c.2.1 (tk_V s n c.1)) := by unfold tk_st; rw [if_pos (by omega), if_neg (by omega)]
                    have hnxb := tk_nx_b (s := s) (n := n) (k := c.1) (by omega)
                    have hp1 : 0 ≤ (c.1 : Int) ∧ (c.1 : Int) ≤ 1000 := by omega
                    have htk := tk_nx_w (s := s) (n := n) (k := c.1) (m := (x2 - y2).toNat) (by omega) (tk_lt_t.mpr (by omega)) (by omega) ha hend
                    have hm1 : mk_1 1 x5 c.1 (tk_K s n c.1) c.1 (tk_V s n c.1) := by
                      rw [htk.2.1, htk.2.2]
                      rw [if_neg (by omega), if_neg (by omega), ← hv (by omega)]
                      exact mk_1w hp1
                    refine yi_D_ls rfl (fun _ _ => ?_)
                    generalize w40 : yi_u G1 86 (y1.toNat) x5 = L39
                    refine yi_D_iinc [(1, .inl (y1 + 1)), (5, .inr (.inl x5)), (4, .inl y2), (3, .inl (I 83 (y2.toNat))), (2, .inl x2), (0, .inr (.inr (some 82)))] rfl rfl rfl (by rw [show yi_w (y1 + 1) = y1 + 1 from (yi_wn (by omega) (by omega)).trans (by omega)]; rfl) ?_
                    refine yi_D_run 1 (17, [(1, .inl (y1 + 1)), (5, .inr (.inl x5)), (4, .inl y2), (3, .inl (I 83 (y2.toNat))), (2, .inl x2), (0, .inr (.inr (some 82)))], [], (I37, L39, R, Y), 0, 0) (fun _ => rfl) ?_
                    refine yi_D_al (al := [(2, .inl x2), (1, .inl (y1 + 1)), (0, .inr (.inr (some 82))), (3, .inl (I 83 (y2.toNat))), (4, .inl y2), (5, .inr (.inl x5))]) (show ([2, 1, 0, 3, 4, 5] : List Nat).Nodup by decide) (show ([1, 5, 4, 3, 2, 0] : List Nat).Nodup by decide) (yi_mc (List.mem_of_getElem? (i := 1) rfl) (yi_mc (List.mem_of_getElem? (i := 5) rfl) (yi_mc (List.mem_of_getElem? (i := 4) rfl) (yi_mc (List.mem_of_getElem? (i := 3) rfl) (yi_mc (List.mem_of_getElem? (i := 0) rfl) (yi_mc (List.mem_of_getElem? (i := 2) rfl) yi_mn)))))) ?_
                    exact yi_D_mono (ih17 (by omega) x2 (y1 + 1) (I 83 (y2.toNat)) y2 x5 I37 L39 (tk_st s n c) (tk_R_s hR) (by rw [hst]; dsimp only; omega) (by rw [hst]; dsimp only; omega) (by rw [hst]; dsimp only; omega) (mk_W_add hK hst (by rw [← w38, show c.2.1 = y1.toNat by omega, yi_u_eq]) (by rw [← w40, show c.2.1 = y1.toNat by omega, yi_u_eq]) (by rw [← w38, yi_u_ne _ _ (by omega), ← w19, show c.2.1 = y1.toNat by omega, yi_u_eq]; omega) hm1 (fun k hk => by rw [← w38, yi_u_ne _ _ (by omega), ← w19, yi_u_ne _ _ (by omega)]) (fun k hk => by rw [← w40, yi_u_ne _ _ (by omega)]) (fun k hk => by rw [← w38, yi_u_ne _ _ (by omega), ← w19, yi_u_ne _ _ (by omega)])) (by rw [← w38, yi_u_ne _ _ (by omega), ← w19, yi_u_ne _ _ (by omega)]; exact e3) (by rw [← w38, yi_u_ne _ _ (by omega), ← w19, yi_u_ne _ _ (by omega)]; exact e22) (fun p k hp => by rw [← w38, yi_u_ne _ _ (by omega), ← w19, yi_u_ne _ _ (by omega), fI p k (by omega)]) (fun p k hp => by rw [← w40, yi_u_ne _ _ (by omega), fL p k (by omega)])) (by omega)
                  · refine yi_D_if2 false rfl (yi_le_f h36) ?_
                    refine yi_D_run 2 (148, [(5, .inr (.inl x5)), (4, .inl y2), (3, .inl (I 83 (y2.toNat))), (2, .inl x2), (1, .inl y1), (0, .inr (.inr (some 82)))], [.inl 4, .inl y1, .inr (.inr (some 84))], (I18, G1, R, Y), 0, 0) (fun _ => rfl) ?_
                    refine yi_D_is rfl (fun _ _ => ?_)
                    generalize w42 : yi_u I18 84 (y1.toNat) 4 = I41
                    refine yi_D_run 2 (266, [(5, .inr (.inl x5)), (4, .inl y2), (3, .inl (I 83 (y2.toNat))), (2, .inl x2), (1, .inl y1), (0, .inr (.inr (some 82)))], [.inr (.inr (some 82))], (I41, G1, R, Y), 0, 0) (fun _ => rfl) ?_
                    refine yi_D_gr (v := some 86) rfl rfl rfl (ym_S_at hS (j := 3) rfl).1 (fun _ => ?_)
                    refine yi_D_run 2 (272, [(5, .inr (.inl x5)), (4, .inl y2), (3, .inl (I 83 (y2.toNat))), (2, .inl x2), (1, .inl y1), (0, .inr (.inr (some 82)))], [.inr (.inl x5), .inl y1, .inr (.inr (some 86))], (I41, G1, R, Y), 0, 0) (fun _ => rfl) ?_
                    have hst : tk_st s n c = (tk_nx s n c.1, c.2.1 + 1, sp_up c.2.2.1 c.2.1 (tk_K s n c.1), sp_up c.2.2.2.1 c.2.1 c.1, sp_up c.2.2.2.2 c.2.1 (tk_V s n c.1)) := by unfold tk_st; rw [if_pos (by omega), if_neg (by omega)]
                    have hnxb := tk_nx_b (s := s) (n := n) (k := c.1) (by omega)
                    have hp1 : 0 ≤ (c.1 : Int) ∧ (c.1 : Int) ≤ 1000 := by omega
                    have htk := tk_nx_w (s := s) (n := n) (k := c.1) (m := (x2 - y2).toNat) (by omega) (tk_lt_t.mpr (by omega)) (by omega) ha hend
                    have hm1 : mk_1 4 x5 c.1 (tk_K s n c.1) c.1 (tk_V s n c.1) := by
                      rw [htk.2.1, htk.2.2]
                      rw [if_pos (by omega), if_pos (by omega)]
                      exact mk_1b hp1
                    refine yi_D_ls rfl (fun _ _ => ?_)
                    generalize w44 : yi_u G1 86 (y1.toNat) x5 = L43
                    refine yi_D_iinc [(1, .inl (y1 + 1)), (5, .inr (.inl x5)), (4, .inl y2), (3, .inl (I 83 (y2.toNat))), (2, .inl x2), (0, .inr (.inr (some 82)))] rfl rfl rfl (by rw [show yi_w (y1 + 1) = y1 + 1 from (yi_wn (by omega) (by omega)).trans (by omega)]; rfl) ?_
                    refine yi_D_run 1 (17, [(1, .inl (y1 + 1)), (5, .inr (.inl x5)), (4, .inl y2), (3, .inl (I 83 (y2.toNat))), (2, .inl x2), (0, .inr (.inr (some 82)))], [], (I41, L43, R, Y), 0, 0) (fun _ => rfl) ?_
                    refine yi_D_al (al := [(2, .inl x2), (1, .inl (y1 + 1)), (0, .inr (.inr (some 82))), (3, .inl (I 83 (y2.toNat))), (4, .inl y2), (5, .inr (.inl x5))]) (show ([2, 1, 0, 3, 4, 5] : List Nat).Nodup by decide) (show ([1, 5, 4, 3, 2, 0] : List Nat).Nodup by decide) (yi_mc (List.mem_of_getElem? (i := 1) rfl) (yi_mc (List.mem_of_getElem? (i := 5) rfl) (yi_mc (List.mem_of_getElem? (i := 4) rfl) (yi_mc (List.mem_of_getElem? (i := 3) rfl) (yi_mc (List.mem_of_getElem? (i := 0) rfl) (yi_mc (List.mem_of_getElem? (i := 2) rfl) yi_mn)))))) ?_
                    exact yi_D_mono (ih17 (by omega) x2 (y1 + 1) (I 83 (y2.toNat)) y2 x5 I41 L43 (tk_st s n c) (tk_R_s hR) (by rw [hst]; dsimp only; omega) (by rw [hst]; dsimp only; omega) (by rw [hst]; dsimp only; omega) (mk_W_add hK hst (by rw [← w42, show c.2.1 = y1.toNat by omega, yi_u_eq]) (by rw [← w44, show c.2.1 = y1.toNat by omega, yi_u_eq]) (by rw [← w42, yi_u_ne _ _ (by omega), ← w19, show c.2.1 = y1.toNat by omega, yi_u_eq]; omega) hm1 (fun k hk => by rw [← w42, yi_u_ne _ _ (by omega), ← w19, yi_u_ne _ _ (by omega)]) (fun k hk => by rw [← w44, yi_u_ne _ _ (by omega)]) (fun k hk => by rw [← w42, yi_u_ne _ _ (by omega), ← w19, yi_u_ne _ _ (by omega)])) (by rw [← w42, yi_u_ne _ _ (by omega), ← w19, yi_u_ne _ _ (by omega)]; exact e3) (by rw [← w42, yi_u_ne _ _ (by omega), ← w19, yi_u_ne _ _ (by omega)]; exact e22) (fun p k hp => by rw [← w42, yi_u_ne _ _ (by omega), ← w19, yi_u_ne _ _ (by omega), fI p k (by omega)]) (fun p k hp => by rw [← w44, yi_u_ne _ _ (by omega), fL p k (by omega)])) (by omega)
            exact pt70 j17 (Nat.le_refl _) 0 y2 (by omega) (fun j hj => by omega) (by intro _; rw [show (y2 - y2).toNat = 0 by omega]; rfl)
          · show yi_D zi_Ms d zi_m16 j17 (67, [(5, .inr (.inl 0)), (4, .inl y2), (3, .inl (I 83 (y2.toNat))), (2, .inl y2), (1, .inl y1), (0, .inr (.inr (some 82)))], [.inl 0], (I18, G1, R, Y), 0, 0) _
            refine yi_D_if1 true rfl (by decide) ?_
            refine yi_D_run 1 (153, [(5, .inr (.inl 0)), (4, .inl y2), (3, .inl (I 83 (y2.toNat))), (2, .inl y2), (1, .inl y1), (0, .inr (.inr (some 82)))], [.inl (I 83 (y2.toNat))], (I18, G1, R, Y), 0, 0) (fun _ => rfl) ?_
            refine yi_D_calls rfl (q_isDigit) ?_
            rintro _ (⟨c45, rfl⟩ | ⟨c45, rfl⟩)
            · show yi_D zi_Ms d zi_m16 j17 (156, [(5, .inr (.inl 0)), (4, .inl y2), (3, .inl (I 83 (y2.toNat))), (2, .inl y2), (1, .inl y1), (0, .inr (.inr (some 82)))], [.inl 1], (I18, G1, R, Y), 0, 0) _
              refine yi_D_if1 false rfl (by decide) ?_
              have pt159 : ∀ j159, j159 ≤ j17 → ∀ (u5 : Int) (u2 : Int), (y2 ≤ u2 ∧ u2 ≤ n) → (∀ j : Nat, j < (u2 - y2).toNat → tk_dg (s (c.1 + j)) = true) → (u2 - y2 ≤ 4 → u5 = tk_n s c.1 (u2 - y2).toNat) → yi_D zi_Ms d zi_m16 j159 (159, [(5, .inr (.inl u5)), (4, .inl y2), (3, .inl (I 83 (y2.toNat))), (2, .inl u2), (1, .inl y1), (0, .inr (.inr (some 82)))], [], (I18, G1, R, Y), 0, 0) (fun r => ∃ I' L', r = (none, (I', L', R, Y), 0, 0) ∧ mt_T I' L' (tk_Ks s n) (tk_Ps s n) (tk_Vs s n) (tk_te s n) ∧ I' 82 7 = 0 ∧ I' 82 8 = 0 ∧ I' 82 2 = 0 ∧ (∀ p k, ¬ (p = 82 ∧ (k = 2 ∨ k = 3 ∨ k = 7 ∨ k = 8)) ∧ p ≠ 84 ∧ p ≠ 85 → I' p k = I p k) ∧ (∀ p k, p ≠ 86 → L' p k = L p k)) := by
                intro j159
                induction j159 with
                | zero => intros; exact yi_D_0
                | succ j159 ih159 =>
                intro hk159 u5 u2 hxu2 hb hw5
                refine yi_D_run1 1 (161, [(5, .inr (.inl u5)), (4, .inl y2), (3, .inl (I 83 (y2.toNat))), (2, .inl u2), (1, .inl y1), (0, .inr (.inr (some 82)))], [.inr (.inr (some 82)), .inl u2], (I18, G1, R, Y), 0, 0) (fun _ => rfl) ?_
                have r46 : I18 82 3 = (n : Int) := by rw [← w19, yi_u_ne _ _ (by omega), e3]
                refine yi_D_gi (v := (n : Int)) rfl rfl rfl r46 (fun _ => ?_)
                by_cases h47 : (n : Int) ≤ u2
                · refine yi_D_if2 true rfl (yi_ge_t h47) ?_
                  have hend : c.1 + (u2 - y2).toNat = n ∨ tk_dg (s (c.1 + (u2 - y2).toNat)) = false := by first | (left; omega) | (right; exact tk_dg_f (by omega))
                  refine yi_D_run 1 (219, [(5, .inr (.inl u5)), (4, .inl y2), (3, .inl (I 83 (y2.toNat))), (2, .inl u2), (1, .inl y1), (0, .inr (.inr (some 82)))], [.inr (.inr (some 82))], (I18, G1, R, Y), 0, 0) (fun _ => rfl) ?_
                  refine yi_D_gr (v := some 84) rfl rfl rfl (ym_S_at hS (j := 1) rfl).1 (fun _ => ?_)
                  refine yi_D_run 3 (226, [(5, .inr (.inl u5)), (4, .inl y2), (3, .inl (I 83 (y2.toNat))), (2, .inl u2), (1, .inl y1), (0, .inr (.inr (some 82)))], [.inl y2, .inl u2, .inl y1, .inr (.inr (some 84))], (I18, G1, R, Y), 0, 0) (fun _ => rfl) ?_
                  refine yi_D_isub rfl (u2 - y2) (yi_wn (by omega) (by omega)) ?_
                  refine yi_D_run 1 (228, [(5, .inr (.inl u5)), (4, .inl y2), (3, .inl (I 83 (y2.toNat))), (2, .inl u2), (1, .inl y1), (0, .inr (.inr (some 82)))], [.inl 4, .inl (u2 - y2), .inl y1, .inr (.inr (some 84))], (I18, G1, R, Y), 0, 0) (fun _ => rfl) ?_
                  by_cases h48 : (u2 - y2) ≤ 4
                  · refine yi_D_if2 true rfl (yi_le_t h48) ?_
                    refine yi_D_run 1 (236, [(5, .inr (.inl u5)), (4, .inl y2), (3, .inl (I 83 (y2.toNat))), (2, .inl u2), (1, .inl y1), (0, .inr (.inr (some 82)))], [.inl 2, .inl y1, .inr (.inr (some 84))], (I18, G1, R, Y), 0, 0) (fun _ => rfl) ?_
                    refine yi_D_is rfl (fun _ _ => ?_)
                    generalize w50 : yi_u I18 84 (y1.toNat) 2 = I49
                    refine yi_D_run 2 (266, [(5, .inr (.inl u5)), (4, .inl y2), (3, .inl (I 83 (y2.toNat))), (2, .inl u2), (1, .inl y1), (0, .inr (.inr (some 82)))], [.inr (.inr (some 82))], (I49, G1, R, Y), 0, 0) (fun _ => rfl) ?_
                    refine yi_D_gr (v := some 86) rfl rfl rfl (ym_S_at hS (j := 3) rfl).1 (fun _ => ?_)
                    refine yi_D_run 2 (272, [(5, .inr (.inl u5)), (4, .inl y2), (3, .inl (I 83 (y2.toNat))), (2, .inl u2), (1, .inl y1), (0, .inr (.inr (some 82)))], [.inr (.inl u5), .inl y1, .inr (.inr (some 86))], (I49, G1, R, Y), 0, 0) (fun _ => rfl) ?_
                    have hst : tk_st s n c = (tk_nx s n c.1, c.2.1 + 1, sp_up c.2.2.1 c.2.1 (tk_K s n c.1), sp_up c.2.2.2.1 c.2.1 c.1, sp_up c.2.2.2.2 c.2.1 (tk_V s n c.1)) := by unfold tk_st; rw [if_pos (by omega), if_neg (by omega)]
                    have hnxb := tk_nx_b (s := s) (n := n) (k := c.1) (by omega)
                    have hp1 : 0 ≤ (c.1 : Int) ∧ (c.1 : Int) ≤ 1000 := by omega
                    have htk := tk_nx_d (s := s) (n := n) (k := c.1) (m := (u2 - y2).toNat) (by omega) (tk_lt_f (by omega)) (tk_dg_t.mpr (by omega)) (by omega) hb hend
                    have hm1 : mk_1 2 u5 c.1 (tk_K s n c.1) c.1 (tk_V s n c.1) := by
                      rw [htk.2.1, htk.2.2]
                      rw [if_neg (by omega), if_neg (by omega), hw5 (by omega)]
                      exact mk_1n hp1 (tk_nb4 (by omega) hb)
                    refine yi_D_ls rfl (fun _ _ => ?_)
                    generalize w52 : yi_u G1 86 (y1.toNat) u5 = L51
                    refine yi_D_iinc [(1, .inl (y1 + 1)), (5, .inr (.inl u5)), (4, .inl y2), (3, .inl (I 83 (y2.toNat))), (2, .inl u2), (0, .inr (.inr (some 82)))] rfl rfl rfl (by rw [show yi_w (y1 + 1) = y1 + 1 from (yi_wn (by omega) (by omega)).trans (by omega)]; rfl) ?_
                    refine yi_D_run 1 (17, [(1, .inl (y1 + 1)), (5, .inr (.inl u5)), (4, .inl y2), (3, .inl (I 83 (y2.toNat))), (2, .inl u2), (0, .inr (.inr (some 82)))], [], (I49, L51, R, Y), 0, 0) (fun _ => rfl) ?_
                    refine yi_D_al (al := [(2, .inl u2), (1, .inl (y1 + 1)), (0, .inr (.inr (some 82))), (3, .inl (I 83 (y2.toNat))), (4, .inl y2), (5, .inr (.inl u5))]) (show ([2, 1, 0, 3, 4, 5] : List Nat).Nodup by decide) (show ([1, 5, 4, 3, 2, 0] : List Nat).Nodup by decide) (yi_mc (List.mem_of_getElem? (i := 1) rfl) (yi_mc (List.mem_of_getElem? (i := 5) rfl) (yi_mc (List.mem_of_getElem? (i := 4) rfl) (yi_mc (List.mem_of_getElem? (i := 3) rfl) (yi_mc (List.mem_of_getElem? (i := 0) rfl) (yi_mc (List.mem_of_getElem? (i := 2) rfl) yi_mn)))))) ?_
                    exact yi_D_mono (ih17 (by omega) u2 (y1 + 1) (I 83 (y2.toNat)) y2 u5 I49 L51 (tk_st s n c) (tk_R_s hR) (by rw [hst]; dsimp only; omega) (by rw [hst]; dsimp only; omega) (by rw [hst]; dsimp only; omega) (mk_W_add hK hst (by rw [← w50, show c.2.1 = y1.toNat by omega, yi_u_eq]) (by rw [← w52, show c.2.1 = y1.toNat by omega, yi_u_eq]) (by rw [← w50, yi_u_ne _ _ (by omega), ← w19, show c.2.1 = y1.toNat by omega, yi_u_eq]; omega) hm1 (fun k hk => by rw [← w50, yi_u_ne _ _ (by omega), ← w19, yi_u_ne _ _ (by omega)]) (fun k hk => by rw [← w52, yi_u_ne _ _ (by omega)]) (fun k hk => by rw [← w50, yi_u_ne _ _ (by omega), ← w19, yi_u_ne _ _ (by omega)])) (by rw [← w50, yi_u_ne _ _ (by omega), ← w19, yi_u_ne _ _ (by omega)]; exact e3) (by rw [← w50, yi_u_ne _ _ (by omega), ← w19, yi_u_ne _ _ (by omega)]; exact e22) (fun p k hp => by rw [← w50, yi_u_ne _ _ (by omega), ← w19, yi_u_ne _ _ (by omega), fI p k (by omega)]) (fun p k hp => by rw [← w52, yi_u_ne _ _ (by omega), fL p k (by omega)])) (by omega)
                  · refine yi_D_if2 false rfl (yi_le_f h48) ?_
                    refine yi_D_run 2 (236, [(5, .inr (.inl u5)), (4, .inl y2), (3, .inl (I 83 (y2.toNat))), (2, .inl u2), (1, .inl y1), (0, .inr (.inr (some 82)))], [.inl 4, .inl y1, .inr (.inr (some 84))], (I18, G1, R, Y), 0, 0) (fun _ => rfl) ?_
                    refine yi_D_is rfl (fun _ _ => ?_)
                    generalize w54 : yi_u I18 84 (y1.toNat) 4 = I53
                    refine yi_D_run 2 (266, [(5, .inr (.inl u5)), (4, .inl y2), (3, .inl (I 83 (y2.toNat))), (2, .inl u2), (1, .inl y1), (0, .inr (.inr (some 82)))], [.inr (.inr (some 82))], (I53, G1, R, Y), 0, 0) (fun _ => rfl) ?_
                    refine yi_D_gr (v := some 86) rfl rfl rfl (ym_S_at hS (j := 3) rfl).1 (fun _ => ?_)
                    refine yi_D_run 2 (272, [(5, .inr (.inl u5)), (4, .inl y2), (3, .inl (I 83 (y2.toNat))), (2, .inl u2), (1, .inl y1), (0, .inr (.inr (some 82)))], [.inr (.inl u5), .inl y1, .inr (.inr (some 86))], (I53, G1, R, Y), 0, 0) (fun _ => rfl) ?_
                    have hst : tk_st s n c = (tk_nx s n c.1, c.2.1 + 1, sp_up c.2.2.1 c.2.1 (tk_K s n c.1), sp_up c.2.2.2.1 c.2.1 c.1, sp_up c.2.2.2.2 c.2.1 (tk_V s n c.1)) := by unfold tk_st; rw [if_pos (by omega), if_neg (by omega)]
                    have hnxb := tk_nx_b (s := s) (n := n) (k := c.1) (by omega)
                    have hp1 : 0 ≤ (c.1 : Int) ∧ (c.1 : Int) ≤ 1000 := by omega
                    have htk := tk_nx_d (s := s) (n := n) (k := c.1) (m := (u2 - y2).toNat) (by omega) (tk_lt_f (by omega)) (tk_dg_t.mpr (by omega)) (by omega) hb hend
                    have hm1 : mk_1 4 u5 c.1 (tk_K s n c.1) c.1 (tk_V s n c.1) := by
                      rw [htk.2.1, htk.2.2]
                      rw [if_pos (by omega), if_pos (by omega)]
                      exact mk_1b hp1
                    refine yi_D_ls rfl (fun _ _ => ?_)
                    generalize w56 : yi_u G1 86 (y1.toNat) u5 = L55
                    refine yi_D_iinc [(1, .inl (y1 + 1)), (5, .inr (.inl u5)), (4, .inl y2), (3, .inl (I 83 (y2.toNat))), (2, .inl u2), (0, .inr (.inr (some 82)))] rfl rfl rfl (by rw [show yi_w (y1 + 1) = y1 + 1 from (yi_wn (by omega) (by omega)).trans (by omega)]; rfl) ?_
                    refine yi_D_run 1 (17, [(1, .inl (y1 + 1)), (5, .inr (.inl u5)), (4, .inl y2), (3, .inl (I 83 (y2.toNat))), (2, .inl u2), (0, .inr (.inr (some 82)))], [], (I53, L55, R, Y), 0, 0) (fun _ => rfl) ?_
                    refine yi_D_al (al := [(2, .inl u2), (1, .inl (y1 + 1)), (0, .inr (.inr (some 82))), (3, .inl (I 83 (y2.toNat))), (4, .inl y2), (5, .inr (.inl u5))]) (show ([2, 1, 0, 3, 4, 5] : List Nat).Nodup by decide) (show ([1, 5, 4, 3, 2, 0] : List Nat).Nodup by decide) (yi_mc (List.mem_of_getElem? (i := 1) rfl) (yi_mc (List.mem_of_getElem? (i := 5) rfl) (yi_mc (List.mem_of_getElem? (i := 4) rfl) (yi_mc (List.mem_of_getElem? (i := 3) rfl) (yi_mc (List.mem_of_getElem? (i := 0) rfl) (yi_mc (List.mem_of_getElem? (i := 2) rfl) yi_mn)))))) ?_
                    exact yi_D_mono (ih17 (by omega) u2 (y1 + 1) (I 83 (y2.toNat)) y2 u5 I53 L55 (tk_st s n c) (tk_R_s hR) (by rw [hst]; dsimp only; omega) (by rw [hst]; dsimp only; omega) (by rw [hst]; dsimp only; omega) (mk_W_add hK hst (by rw [← w54, show c.2.1 = y1.toNat by omega, yi_u_eq]) (by rw [← w56, show c.2.1 = y1.toNat by omega, yi_u_eq]) (by rw [← w54, yi_u_ne _ _ (by omega), ← w19, show c.2.1 = y1.toNat by omega, yi_u_eq]; omega) hm1 (fun k hk => by rw [← w54, yi_u_ne _ _ (by omega), ← w19, yi_u_ne _ _ (by omega)]) (fun k hk => by rw [← w56, yi_u_ne _ _ (by omega)]) (fun k hk => by rw [← w54, yi_u_ne _ _ (by omega), ← w19, yi_u_ne _ _ (by omega)])) (by rw [← w54, yi_u_ne _ _ (by omega), ← w19, yi_u_ne _ _ (by omega)]; exact e3) (by rw [← w54, yi_u_ne _ _ (by omega), ← w19, yi_u_ne _ _ (by omega)]; exact e22) (fun p k hp => by rw [← w54, yi_u_ne _ _ (by omega), ← w19, yi_u_ne _ _ (by omega), fI p k (by omega)]) (fun p k hp => by rw [← w56, yi_u_ne _ _ (by omega), fL p k (by omega)])) (by omega)
                · refine yi_D_if2 false rfl (yi_ge_f h47) ?_
                  refine yi_D_run 1 (168, [(5, .inr (.inl u5)), (4, .inl y2), (3, .inl (I 83 (y2.toNat))), (2, .inl u2), (1, .inl y1), (0, .inr (.inr (some 82)))], [.inr (.inr (some 82))], (I18, G1, R, Y), 0, 0) (fun _ => rfl) ?_
                  refine yi_D_gr (v := some 83) rfl rfl rfl (ym_S_at hS (j := 0) rfl).1 (fun _ => ?_)
                  refine yi_D_run 1 (172, [(5, .inr (.inl u5)), (4, .inl y2), (3, .inl (I 83 (y2.toNat))), (2, .inl u2), (1, .inl y1), (0, .inr (.inr (some 82)))], [.inl u2, .inr (.inr (some 83))], (I18, G1, R, Y), 0, 0) (fun _ => rfl) ?_
                  have hs2 : I 83 (u2.toNat) = s (c.1 + (u2 - y2).toNat) := by rw [show u2.toNat = c.1 + (u2 - y2).toNat by omega]; exact ht _ (by omega)
                  have r57 : I18 83 (u2.toNat) = I 83 (u2.toNat) := by rw [← w19, yi_u_ne _ _ (by omega), fI 83 (u2.toNat) (by omega)]
                  refine yi_D_il (v := I 83 (u2.toNat)) rfl rfl r57 (fun _ _ => ?_)
                  refine yi_D_calls rfl (q_isDigit) ?_
                  rintro _ (⟨c58, rfl⟩ | ⟨c58, rfl⟩)
                  · show yi_D zi_Ms d zi_m16 j159 (176, [(5, .inr (.inl u5)), (4, .inl y2), (3, .inl (I 83 (y2.toNat))), (2, .inl u2), (1, .inl y1), (0, .inr (.inr (some 82)))], [.inl 1], (I18, G1, R, Y), 0, 0) _
                    refine yi_D_if1 false rfl (by decide) ?_
                    refine yi_D_run 2 (182, [(5, .inr (.inl u5)), (4, .inl y2), (3, .inl (I 83 (y2.toNat))), (2, .inl u2), (1, .inl y1), (0, .inr (.inr (some 82)))], [.inl y2, .inl u2], (I18, G1, R, Y), 0, 0) (fun _ => rfl) ?_
                    refine yi_D_isub rfl (u2 - y2) (yi_wn (by omega) (by omega)) ?_
                    refine yi_D_run 1 (184, [(5, .inr (.inl u5)), (4, .inl y2), (3, .inl (I 83 (y2.toNat))), (2, .inl u2), (1, .inl y1), (0, .inr (.inr (some 82)))], [.inl 4, .inl (u2 - y2)], (I18, G1, R, Y), 0, 0) (fun _ => rfl) ?_
                    by_cases h59 : 4 ≤ (u2 - y2)
                    · refine yi_D_if2 true rfl (yi_ge_t h59) ?_
                      refine yi_D_run 2 (212, [(5, .inr (.inl u5)), (4, .inl y2), (3, .inl (I 83 (y2.toNat))), (2, .inl u2), (1, .inl y1), (0, .inr (.inr (some 82)))], [], (I18, G1, R, Y), 0, 0) (fun _ => rfl) ?_
                      refine yi_D_iinc [(2, .inl (u2 + 1)), (5, .inr (.inl u5)), (4, .inl y2), (3, .inl (I 83 (y2.toNat))), (1, .inl y1), (0, .inr (.inr (some 82)))] rfl rfl rfl (by rw [show yi_w (u2 + 1) = u2 + 1 from (yi_wn (by omega) (by omega)).trans (by omega)]; rfl) ?_
                      refine yi_D_run 1 (159, [(2, .inl (u2 + 1)), (5, .inr (.inl u5)), (4, .inl y2), (3, .inl (I 83 (y2.toNat))), (1, .inl y1), (0, .inr (.inr (some 82)))], [], (I18, G1, R, Y), 0, 0) (fun _ => rfl) ?_
                      refine yi_D_al (al := [(5, .inr (.inl u5)), (4, .inl y2), (3, .inl (I 83 (y2.toNat))), (2, .inl (u2 + 1)), (1, .inl y1), (0, .inr (.inr (some 82)))]) (show ([5, 4, 3, 2, 1, 0] : List Nat).Nodup by decide) (show ([2, 5, 4, 3, 1, 0] : List Nat).Nodup by decide) (yi_mc (List.mem_of_getElem? (i := 3) rfl) (yi_mc (List.mem_of_getElem? (i := 0) rfl) (yi_mc (List.mem_of_getElem? (i := 1) rfl) (yi_mc (List.mem_of_getElem? (i := 2) rfl) (yi_mc (List.mem_of_getElem? (i := 4) rfl) (yi_mc (List.mem_of_getElem? (i := 5) rfl) yi_mn)))))) ?_
                      exact yi_D_mono (ih159 (by omega) u5 (u2 + 1) (by omega) (fun j hj => by by_cases z : j < (u2 - y2).toNat; exact hb j z; rw [show j = (u2 - y2).toNat by omega]; exact tk_dg_t.mpr (by omega)) (by first | (intro hq; exfalso; omega) | (intro _; rw [show (u2 + 1 - y2).toNat = (u2 - y2).toNat + 1 by omega]; show _ = 10 * tk_n s c.1 (u2 - y2).toNat + (s (c.1 + (u2 - y2).toNat) - 48); rw [← hw5 (by omega)]; omega))) (by omega)
                    · refine yi_D_if2 false rfl (yi_ge_f h59) ?_
                      refine yi_D_ldc2 (10) rfl (by decide +kernel) ?_
                      refine yi_D_run 1 (192, [(5, .inr (.inl u5)), (4, .inl y2), (3, .inl (I 83 (y2.toNat))), (2, .inl u2), (1, .inl y1), (0, .inr (.inr (some 82)))], [.inr (.inl u5), .inr (.inl 10)], (I18, G1, R, Y), 0, 0) (fun _ => rfl) ?_
                      have hb6 := tk_nb4 (s := s) (k := c.1) (m := (u2 - y2).toNat) (by omega) hb
                      rw [← hw5 (by omega)] at hb6
                      refine yi_D_lmul rfl (10 * u5) (yi_Wn (by omega) (by omega)) ?_
                      refine yi_D_run 1 (194, [(5, .inr (.inl u5)), (4, .inl y2), (3, .inl (I 83 (y2.toNat))), (2, .inl u2), (1, .inl y1), (0, .inr (.inr (some 82)))], [.inr (.inr (some 82)), .inr (.inl (10 * u5))], (I18, G1, R, Y), 0, 0) (fun _ => rfl) ?_
                      refine yi_D_gr (v := some 83) rfl rfl rfl (ym_S_at hS (j := 0) rfl).1 (fun _ => ?_)
                      refine yi_D_run 1 (198, [(5, .inr (.inl u5)), (4, .inl y2), (3, .inl (I 83 (y2.toNat))), (2, .inl u2), (1, .inl y1), (0, .inr (.inr (some 82)))], [.inl u2, .inr (.inr (some 83)), .inr (.inl (10 * u5))], (I18, G1, R, Y), 0, 0) (fun _ => rfl) ?_
                      have r60 : I18 83 (u2.toNat) = I 83 (u2.toNat) := by rw [← w19, yi_u_ne _ _ (by omega), fI 83 (u2.toNat) (by omega)]
                      refine yi_D_il (v := I 83 (u2.toNat)) rfl rfl r60 (fun _ _ => ?_)
                      refine yi_D_run 1 (200, [(5, .inr (.inl u5)), (4, .inl y2), (3, .inl (I 83 (y2.toNat))), (2, .inl u2), (1, .inl y1), (0, .inr (.inr (some 82)))], [.inr (.inl (I 83 (u2.toNat))), .inr (.inl (10 * u5))], (I18, G1, R, Y), 0, 0) (fun _ => rfl) ?_
                      refine yi_D_ladd rfl ((10 * u5) + (I 83 (u2.toNat))) (yi_Wn (by omega) (by omega)) ?_
                      refine yi_D_ldc2 (48) rfl (by decide +kernel) ?_
                      refine yi_D_lsub rfl (((10 * u5) + (I 83 (u2.toNat))) - 48) (yi_Wn (by omega) (by omega)) ?_
                      refine yi_D_run 2 (212, [(5, .inr (.inl (((10 * u5) + (I 83 (u2.toNat))) - 48))), (4, .inl y2), (3, .inl (I 83 (y2.toNat))), (2, .inl u2), (1, .inl y1), (0, .inr (.inr (some 82)))], [], (I18, G1, R, Y), 0, 0) (fun _ => rfl) ?_
                      refine yi_D_iinc [(2, .inl (u2 + 1)), (5, .inr (.inl (((10 * u5) + (I 83 (u2.toNat))) - 48))), (4, .inl y2), (3, .inl (I 83 (y2.toNat))), (1, .inl y1), (0, .inr (.inr (some 82)))] rfl rfl rfl (by rw [show yi_w (u2 + 1) = u2 + 1 from (yi_wn (by omega) (by omega)).trans (by omega)]; rfl) ?_
                      refine yi_D_run 1 (159, [(2, .inl (u2 + 1)), (5, .inr (.inl (((10 * u5) + (I 83 (u2.toNat))) - 48))), (4, .inl y2), (3, .inl (I 83 (y2.toNat))), (1, .inl y1), (0, .inr (.inr (some 82)))], [], (I18, G1, R, Y), 0, 0) (fun _ => rfl) ?_
                      refine yi_D_al (al := [(5, .inr (.inl (((10 * u5) + (I 83 (u2.toNat))) - 48))), (4, .inl y2), (3, .inl (I 83 (y2.toNat))), (2, .inl (u2 + 1)), (1, .inl y1), (0, .inr (.inr (some 82)))]) (show ([5, 4, 3, 2, 1, 0] : List Nat).Nodup by decide) (show ([2, 5, 4, 3, 1, 0] : List Nat).Nodup by decide) (yi_mc (List.mem_of_getElem? (i := 3) rfl) (yi_mc (List.mem_of_getElem? (i := 0) rfl) (yi_mc (List.mem_of_getElem? (i := 1) rfl) (yi_mc (List.mem_of_getElem? (i := 2) rfl) (yi_mc (List.mem_of_getElem? (i := 4) rfl) (yi_mc (List.mem_of_getElem? (i := 5) rfl) yi_mn)))))) ?_
                      exact yi_D_mono (ih159 (by omega) (((10 * u5) + (I 83 (u2.toNat))) - 48) (u2 + 1) (by omega) (fun j hj => by by_cases z : j < (u2 - y2).toNat; exact hb j z; rw [show j = (u2 - y2).toNat by omega]; exact tk_dg_t.mpr (by omega)) (by first | (intro hq; exfalso; omega) | (intro _; rw [show (u2 + 1 - y2).toNat = (u2 - y2).toNat + 1 by omega]; show _ = 10 * tk_n s c.1 (u2 - y2).toNat + (s (c.1 + (u2 - y2).toNat) - 48); rw [← hw5 (by omega)]; omega))) (by omega)
                  · show yi_D zi_Ms d zi_m16 j159 (176, [(5, .inr (.inl u5)), (4, .inl y2), (3, .inl (I 83 (y2.toNat))), (2, .inl u2), (1, .inl y1), (0, .inr (.inr (some 82)))], [.inl 0], (I18, G1, R, Y), 0, 0) _
                    refine yi_D_if1 true rfl (by decide) ?_
                    have hend : c.1 + (u2 - y2).toNat = n ∨ tk_dg (s (c.1 + (u2 - y2).toNat)) = false := by first | (left; omega) | (right; exact tk_dg_f (by omega))
                    refine yi_D_run 1 (219, [(5, .inr (.inl u5)), (4, .inl y2), (3, .inl (I 83 (y2.toNat))), (2, .inl u2), (1, .inl y1), (0, .inr (.inr (some 82)))], [.inr (.inr (some 82))], (I18, G1, R, Y), 0, 0) (fun _ => rfl) ?_
                    refine yi_D_gr (v := some 84) rfl rfl rfl (ym_S_at hS (j := 1) rfl).1 (fun _ => ?_)
                    refine yi_D_run 3 (226, [(5, .inr (.inl u5)), (4, .inl y2), (3, .inl (I 83 (y2.toNat))), (2, .inl u2), (1, .inl y1), (0, .inr (.inr (some 82)))], [.inl y2, .inl u2, .inl y1, .inr (.inr (some 84))], (I18, G1, R, Y), 0, 0) (fun _ => rfl) ?_
                    refine yi_D_isub rfl (u2 - y2) (yi_wn (by omega) (by omega)) ?_
                    refine yi_D_run 1 (228, [(5, .inr (.inl u5)), (4, .inl y2), (3, .inl (I 83 (y2.toNat))), (2, .inl u2), (1, .inl y1), (0, .inr (.inr (some 82)))], [.inl 4, .inl (u2 - y2), .inl y1, .inr (.inr (some 84))], (I18, G1, R, Y), 0, 0) (fun _ => rfl) ?_
                    by_cases h61 : (u2 - y2) ≤ 4
                    · refine yi_D_if2 true rfl (yi_le_t h61) ?_
                      refine yi_D_run 1 (236, [(5, .inr (.inl u5)), (4, .inl y2), (3, .inl (I 83 (y2.toNat))), (2, .inl u2), (1, .inl y1), (0, .inr (.inr (some 82)))], [.inl 2, .inl y1, .inr (.inr (some 84))], (I18, G1, R, Y), 0, 0) (fun _ => rfl) ?_
                      refine yi_D_is rfl (fun _ _ => ?_)
                      generalize w63 : yi_u I18 84 (y1.toNat) 2 = I62
                      refine yi_D_run 2 (266, [(5, .inr (.inl u5)), (4, .inl y2), (3, .inl (I 83 (y2.toNat))), (2, .inl u2), (1, .inl y1), (0, .inr (.inr (some 82)))], [.inr (.inr (some 82))], (I62, G1, R, Y), 0, 0) (fun _ => rfl) ?_
                      refine yi_D_gr (v := some 86) rfl rfl rfl (ym_S_at hS (j := 3) rfl).1 (fun _ => ?_)
                      refine yi_D_run 2 (272, [(5, .inr (.inl u5)), (4, .inl y2), (3, .inl (I 83 (y2.toNat))), (2, .inl u2), (1, .inl y1), (0, .inr (.inr (some 82)))], [.inr (.inl u5), .inl y1, .inr (.inr (some 86))], (I62, G1, R, Y), 0, 0) (fun _ => rfl) ?_
                      have hst : tk_st s n c = (tk_nx s n c.1, c.2.1 + 1, sp_up c.2.2.1 c.2.1 (tk_K s n c.1), sp_up c.2.2.2.1 c.2.1 c.1, sp_up c.2.2.2.2 c.2.1 (tk_V s n c.1)) := by unfold tk_st; rw [if_pos (by omega), if_neg (by omega)]
                      have hnxb := tk_nx_b (s := s) (n := n) (k := c.1) (by omega)
                      have hp1 : 0 ≤ (c.1 : Int) ∧ (c.1 : Int) ≤ 1000 := by omega
                      have htk := tk_nx_d (s := s) (n := n) (k := c.1) (m := (u2 - y2).toNat) (by omega) (tk_lt_f (by omega)) (tk_dg_t.mpr (by omega)) (by omega) hb hend
                      have hm1 : mk_1 2 u5 c.1 (tk_K s n c.1) c.1 (tk_V s n c.1) := by
                        rw [htk.2.1, htk.2.2]
                        rw [if_neg (by omega), if_neg (by omega), hw5 (by omega)]
                        exact mk_1n hp1 (tk_nb4 (by omega) hb)
                      refine yi_D_ls rfl (fun _ _ => ?_)
                      generalize w65 : yi_u G1 86 (y1.toNat) u5 = L64
                      refine yi_D_iinc [(1, .inl (y1 + 1)), (5, .inr (.inl u5)), (4, .inl y2), (3, .inl (I 83 (y2.toNat))), (2, .inl u2), (0, .inr (.inr (some 82)))] rfl rfl rfl (by rw [show yi_w (y1 + 1) = y1 + 1 from (yi_wn (by omega) (by omega)).trans (by omega)]; rfl) ?_
                      refine yi_D_run 1 (17, [(1, .inl (y1 + 1)), (5, .inr (.inl u5)), (4, .inl y2), (3, .inl (I 83 (y2.toNat))), (2, .inl u2), (0, .inr (.inr (some 82)))], [], (I62, L64, R, Y), 0, 0) (fun _ => rfl) ?_
                      refine yi_D_al (al := [(2, .inl u2), (1, .inl (y1 + 1)), (0, .inr (.inr (some 82))), (3, .inl (I 83 (y2.toNat))), (4, .inl y2), (5, .inr (.inl u5))]) (show ([2, 1, 0, 3, 4, 5] : List Nat).Nodup by decide) (show ([1, 5, 4, 3, 2, 0] : List Nat).Nodup by decide) (yi_mc (List.mem_of_getElem? (i := 1) rfl) (yi_mc (List.mem_of_getElem? (i := 5) rfl) (yi_mc (List.mem_of_getElem? (i := 4) rfl) (yi_mc (List.mem_of_getElem? (i := 3) rfl) (yi_mc (List.mem_of_getElem? (i := 0) rfl) (yi_mc (List.mem_of_getElem? (i := 2) rfl) yi_mn)))))) ?_
                      exact yi_D_mono (ih17 (by omega) u2 (y1 + 1) (I 83 (y2.toNat)) y2 u5 I62 L64 (tk_st s n c) (tk_R_s hR) (by rw [hst]; dsimp only; omega) (by rw [hst]; dsimp only; omega) (by rw [hst]; dsimp only; omega) (mk_W_add hK hst (by rw [← w63, show c.2.1 = y1.toNat by omega, yi_u_eq]) (by rw [← w65, show c.2.1 = y1.toNat by omega, yi_u_eq]) (by rw [← w63, yi_u_ne _ _ (by omega), ← w19, show c.2.1 = y1.toNat by omega, yi_u_eq]; omega) hm1 (fun k hk => by rw [← w63, yi_u_ne _ _ (by omega), ← w19, yi_u_ne _ _ (by omega)]) (fun k hk => by rw [← w65, yi_u_ne _ _ (by omega)]) (fun k hk => by rw [← w63, yi_u_ne _ _ (by omega), ← w19, yi_u_ne _ _ (by omega)])) (by rw [← w63, yi_u_ne _ _ (by omega), ← w19, yi_u_ne _ _ (by omega)]; exact e3) (by rw [← w63, yi_u_ne _ _ (by omega), ← w19, yi_u_ne _ _ (by omega)]; exact e22) (fun p k hp => by rw [← w63, yi_u_ne _ _ (by omega), ← w19, yi_u_ne _ _ (by omega), fI p k (by omega)]) (fun p k hp => by rw [← w65, yi_u_ne _ _ (by omega), fL p k (by omega)])) (by omega)
                    · refine yi_D_if2 false rfl (yi_le_f h61) ?_
                      refine yi_D_run 2 (236, [(5, .inr (.inl u5)), (4, .inl y2), (3, .inl (I 83 (y2.toNat))), (2, .inl u2), (1, .inl y1), (0, .inr (.inr (some 82)))], [.inl 4, .inl y1, .inr (.inr (some 84))], (I18, G1, R, Y), 0, 0) (fun _ => rfl) ?_
                      refine yi_D_is rfl (fun _ _ => ?_)
                      generalize w67 : yi_u I18 84 (y1.toNat) 4 = I66
                      refine yi_D_run 2 (266, [(5, .inr (.inl u5)), (4, .inl y2), (3, .inl (I 83 (y2.toNat))), (2, .inl u2), (1, .inl y1), (0, .inr (.inr (some 82)))], [.inr (.inr (some 82))], (I66, G1, R, Y), 0, 0) (fun _ => rfl) ?_
                      refine yi_D_gr (v := some 86) rfl rfl rfl (ym_S_at hS (j := 3) rfl).1 (fun _ => ?_)
                      refine yi_D_run 2 (272, [(5, .inr (.inl u5)), (4, .inl y2), (3, .inl (I 83 (y2.toNat))), (2, .inl u2), (1, .inl y1), (0, .inr (.inr (some 82)))], [.inr (.inl u5), .inl y1, .inr (.inr (some 86))], (I66, G1, R, Y), 0, 0) (fun _ => rfl) ?_
                      have hst : tk_st s n c = (tk_nx s n c.1, c.2.1 + 1, sp_up c.2.2.1 c.2.1 (tk_K s n c.1), sp_up c.2.2.2.1 c.2.1 c.1, sp_up c.2.2.2.2 c.2.1 (tk_V s n c.1)) := by unfold tk_st; rw [if_pos (by omega), if_neg (by omega)]
                      have hnxb := tk_nx_b (s := s) (n := n) (k := c.1) (by omega)
                      have hp1 : 0 ≤ (c.1 : Int) ∧ (c.1 : Int) ≤ 1000 := by omega
                      have htk := tk_nx_d (s := s) (n := n) (k := c.1) (m := (u2 - y2).toNat) (by omega) (tk_lt_f (by omega)) (tk_dg_t.mpr (by omega)) (by omega) hb hend
                      have hm1 : mk_1 4 u5 c.1 (tk_K s n c.1) c.1 (tk_V s n c.1) := by
                        rw [htk.2.1, htk.2.2]
                        rw [if_pos (by omega), if_pos (by omega)]
                        exact mk_1b hp1
                      refine yi_D_ls rfl (fun _ _ => ?_)
                      generalize w69 : yi_u G1 86 (y1.toNat) u5 = L68
                      refine yi_D_iinc [(1, .inl (y1 + 1)), (5, .inr (.inl u5)), (4, .inl y2), (3, .inl (I 83 (y2.toNat))), (2, .inl u2), (0, .inr (.inr (some 82)))] rfl rfl rfl (by rw [show yi_w (y1 + 1) = y1 + 1 from (yi_wn (by omega) (by omega)).trans (by omega)]; rfl) ?_
                      refine yi_D_run 1 (17, [(1, .inl (y1 + 1)), (5, .inr (.inl u5)), (4, .inl y2), (3, .inl (I 83 (y2.toNat))), (2, .inl u2), (0, .inr (.inr (some 82)))], [], (I66, L68, R, Y), 0, 0) (fun _ => rfl) ?_
                      refine yi_D_al (al := [(2, .inl u2), (1, .inl (y1 + 1)), (0, .inr (.inr (some 82))), (3, .inl (I 83 (y2.toNat))), (4, .inl y2), (5, .inr (.inl u5))]) (show ([2, 1, 0, 3, 4, 5] : List Nat).Nodup by decide) (show ([1, 5, 4, 3, 2, 0] : List Nat).Nodup by decide) (yi_mc (List.mem_of_getElem? (i := 1) rfl) (yi_mc (List.mem_of_getElem? (i := 5) rfl) (yi_mc (List.mem_of_getElem? (i := 4) rfl) (yi_mc (List.mem_of_getElem? (i := 3) rfl) (yi_mc (List.mem_of_getElem? (i := 0) rfl) (yi_mc (List.mem_of_getElem? (i := 2) rfl) yi_mn)))))) ?_
                      exact yi_D_mono (ih17 (by omega) u2 (y1 + 1) (I 83 (y2.toNat)) y2 u5 I66 L68 (tk_st s n c) (tk_R_s hR) (by rw [hst]; dsimp only; omega) (by rw [hst]; dsimp only; omega) (by rw [hst]; dsimp only; omega) (mk_W_add hK hst (by rw [← w67, show c.2.1 = y1.toNat by omega, yi_u_eq]) (by rw [← w69, show c.2.1 = y1.toNat by omega, yi_u_eq]) (by rw [← w67, yi_u_ne _ _ (by omega), ← w19, show c.2.1 = y1.toNat by omega, yi_u_eq]; omega) hm1 (fun k hk => by rw [← w67, yi_u_ne _ _ (by omega), ← w19, yi_u_ne _ _ (by omega)]) (fun k hk => by rw [← w69, yi_u_ne _ _ (by omega)]) (fun k hk => by rw [← w67, yi_u_ne _ _ (by omega), ← w19, yi_u_ne _ _ (by omega)])) (by rw [← w67, yi_u_ne _ _ (by omega), ← w19, yi_u_ne _ _ (by omega)]; exact e3) (by rw [← w67, yi_u_ne _ _ (by omega), ← w19, yi_u_ne _ _ (by omega)]; exact e22) (fun p k hp => by rw [← w67, yi_u_ne _ _ (by omega), ← w19, yi_u_ne _ _ (by omega), fI p k (by omega)]) (fun p k hp => by rw [← w69, yi_u_ne _ _ (by omega), fL p k (by omega)])) (by omega)
              exact pt159 j17 (Nat.le_refl _) 0 y2 (by omega) (fun j hj => by omega) (by intro _; rw [show (y2 - y2).toNat = 0 by omega]; rfl)
            · show yi_D zi_Ms d zi_m16 j17 (156, [(5, .inr (.inl 0)), (4, .inl y2), (3, .inl (I 83 (y2.toNat))), (2, .inl y2), (1, .inl y1), (0, .inr (.inr (some 82)))], [.inl 0], (I18, G1, R, Y), 0, 0) _
              refine yi_D_if1 true rfl (by decide) ?_
              refine yi_D_run 4 (245, [(5, .inr (.inl (I 83 (y2.toNat)))), (4, .inl y2), (3, .inl (I 83 (y2.toNat))), (2, .inl y2), (1, .inl y1), (0, .inr (.inr (some 82)))], [.inr (.inr (some 82))], (I18, G1, R, Y), 0, 0) (fun _ => rfl) ?_
              refine yi_D_gr (v := some 84) rfl rfl rfl (ym_S_at hS (j := 1) rfl).1 (fun _ => ?_)
              refine yi_D_run 2 (250, [(5, .inr (.inl (I 83 (y2.toNat)))), (4, .inl y2), (3, .inl (I 83 (y2.toNat))), (2, .inl y2), (1, .inl y1), (0, .inr (.inr (some 82)))], [.inl (I 83 (y2.toNat)), .inl y1, .inr (.inr (some 84))], (I18, G1, R, Y), 0, 0) (fun _ => rfl) ?_
              refine yi_D_calls rfl (q_isSignOf) ?_
              rintro _ (⟨c70, rfl⟩ | ⟨c70, rfl⟩)
              · show yi_D zi_Ms d zi_m16 j17 (253, [(5, .inr (.inl (I 83 (y2.toNat)))), (4, .inl y2), (3, .inl (I 83 (y2.toNat))), (2, .inl y2), (1, .inl y1), (0, .inr (.inr (some 82)))], [.inl 1, .inl y1, .inr (.inr (some 84))], (I18, G1, R, Y), 0, 0) _
                refine yi_D_if1 false rfl (by decide) ?_
                refine yi_D_run 2 (261, [(5, .inr (.inl (I 83 (y2.toNat)))), (4, .inl y2), (3, .inl (I 83 (y2.toNat))), (2, .inl y2), (1, .inl y1), (0, .inr (.inr (some 82)))], [.inl 3, .inl y1, .inr (.inr (some 84))], (I18, G1, R, Y), 0, 0) (fun _ => rfl) ?_
                refine yi_D_is rfl (fun _ _ => ?_)
                generalize w72 : yi_u I18 84 (y1.toNat) 3 = I71
                refine yi_D_iinc [(2, .inl (y2 + 1)), (5, .inr (.inl (I 83 (y2.toNat)))), (4, .inl y2), (3, .inl (I 83 (y2.toNat))), (1, .inl y1), (0, .inr (.inr (some 82)))] rfl rfl rfl (by rw [show yi_w (y2 + 1) = y2 + 1 from (yi_wn (by omega) (by omega)).trans (by omega)]; rfl) ?_
                refine yi_D_run 1 (266, [(2, .inl (y2 + 1)), (5, .inr (.inl (I 83 (y2.toNat)))), (4, .inl y2), (3, .inl (I 83 (y2.toNat))), (1, .inl y1), (0, .inr (.inr (some 82)))], [.inr (.inr (some 82))], (I71, G1, R, Y), 0, 0) (fun _ => rfl) ?_
                refine yi_D_gr (v := some 86) rfl rfl rfl (ym_S_at hS (j := 3) rfl).1 (fun _ => ?_)
                refine yi_D_run 2 (272, [(2, .inl (y2 + 1)), (5, .inr (.inl (I 83 (y2.toNat)))), (4, .inl y2), (3, .inl (I 83 (y2.toNat))), (1, .inl y1), (0, .inr (.inr (some 82)))], [.inr (.inl (I 83 (y2.toNat))), .inl y1, .inr (.inr (some 86))], (I71, G1, R, Y), 0, 0) (fun _ => rfl) ?_
                have hst : tk_st s n c = (tk_nx s n c.1, c.2.1 + 1, sp_up c.2.2.1 c.2.1 (tk_K s n c.1), sp_up c.2.2.2.1 c.2.1 c.1, sp_up c.2.2.2.2 c.2.1 (tk_V s n c.1)) := by unfold tk_st; rw [if_pos (by omega), if_neg (by omega)]
                have hnxb := tk_nx_b (s := s) (n := n) (k := c.1) (by omega)
                have hp1 : 0 ≤ (c.1 : Int) ∧ (c.1 : Int) ≤ 1000 := by omega
                have htk := tk_nx_s (s := s) (n := n) (k := c.1) (tk_lt_f (by omega)) (tk_dg_f (by omega))
                have hm1 : mk_1 3 (I 83 (y2.toNat)) c.1 (tk_K s n c.1) c.1 (tk_V s n c.1) := by
                  rw [htk.2.1, htk.2.2, hs0]
                  rw [tk_sg_t.mpr (by omega), if_pos rfl]
                  exact mk_1s hp1 (by omega)
                refine yi_D_ls rfl (fun _ _ => ?_)
                generalize w74 : yi_u G1 86 (y1.toNat) (I 83 (y2.toNat)) = L73
                refine yi_D_iinc [(1, .inl (y1 + 1)), (2, .inl (y2 + 1)), (5, .inr (.inl (I 83 (y2.toNat)))), (4, .inl y2), (3, .inl (I 83 (y2.toNat))), (0, .inr (.inr (some 82)))] rfl rfl rfl (by rw [show yi_w (y1 + 1) = y1 + 1 from (yi_wn (by omega) (by omega)).trans (by omega)]; rfl) ?_
                refine yi_D_run 1 (17, [(1, .inl (y1 + 1)), (2, .inl (y2 + 1)), (5, .inr (.inl (I 83 (y2.toNat)))), (4, .inl y2), (3, .inl (I 83 (y2.toNat))), (0, .inr (.inr (some 82)))], [], (I71, L73, R, Y), 0, 0) (fun _ => rfl) ?_
                refine yi_D_al (al := [(2, .inl (y2 + 1)), (1, .inl (y1 + 1)), (0, .inr (.inr (some 82))), (3, .inl (I 83 (y2.toNat))), (4, .inl y2), (5, .inr (.inl (I 83 (y2.toNat))))]) (show ([2, 1, 0, 3, 4, 5] : List Nat).Nodup by decide) (show ([1, 2, 5, 4, 3, 0] : List Nat).Nodup by decide) (yi_mc (List.mem_of_getElem? (i := 1) rfl) (yi_mc (List.mem_of_getElem? (i := 0) rfl) (yi_mc (List.mem_of_getElem? (i := 5) rfl) (yi_mc (List.mem_of_getElem? (i := 4) rfl) (yi_mc (List.mem_of_getElem? (i := 3) rfl) (yi_mc (List.mem_of_getElem? (i := 2) rfl) yi_mn)))))) ?_
                exact yi_D_mono (ih17 (by omega) (y2 + 1) (y1 + 1) (I 83 (y2.toNat)) y2 (I 83 (y2.toNat)) I71 L73 (tk_st s n c) (tk_R_s hR) (by rw [hst]; dsimp only; omega) (by rw [hst]; dsimp only; omega) (by rw [hst]; dsimp only; omega) (mk_W_add hK hst (by rw [← w72, show c.2.1 = y1.toNat by omega, yi_u_eq]) (by rw [← w74, show c.2.1 = y1.toNat by omega, yi_u_eq]) (by rw [← w72, yi_u_ne _ _ (by omega), ← w19, show c.2.1 = y1.toNat by omega, yi_u_eq]; omega) hm1 (fun k hk => by rw [← w72, yi_u_ne _ _ (by omega), ← w19, yi_u_ne _ _ (by omega)]) (fun k hk => by rw [← w74, yi_u_ne _ _ (by omega)]) (fun k hk => by rw [← w72, yi_u_ne _ _ (by omega), ← w19, yi_u_ne _ _ (by omega)])) (by rw [← w72, yi_u_ne _ _ (by omega), ← w19, yi_u_ne _ _ (by omega)]; exact e3) (by rw [← w72, yi_u_ne _ _ (by omega), ← w19, yi_u_ne _ _ (by omega)]; exact e22) (fun p k hp => by rw [← w72, yi_u_ne _ _ (by omega), ← w19, yi_u_ne _ _ (by omega), fI p k (by omega)]) (fun p k hp => by rw [← w74, yi_u_ne _ _ (by omega), fL p k (by omega)])) (by omega)
              · show yi_D zi_Ms d zi_m16 j17 (253, [(5, .inr (.inl (I 83 (y2.toNat)))), (4, .inl y2), (3, .inl (I 83 (y2.toNat))), (2, .inl y2), (1, .inl y1), (0, .inr (.inr (some 82)))], [.inl 0, .inl y1, .inr (.inr (some 84))], (I18, G1, R, Y), 0, 0) _
                refine yi_D_if1 true rfl (by decide) ?_
                refine yi_D_run 1 (261, [(5, .inr (.inl (I 83 (y2.toNat)))), (4, .inl y2), (3, .inl (I 83 (y2.toNat))), (2, .inl y2), (1, .inl y1), (0, .inr (.inr (some 82)))], [.inl 4, .inl y1, .inr (.inr (some 84))], (I18, G1, R, Y), 0, 0) (fun _ => rfl) ?_
                refine yi_D_is rfl (fun _ _ => ?_)
                generalize w76 : yi_u I18 84 (y1.toNat) 4 = I75
                refine yi_D_iinc [(2, .inl (y2 + 1)), (5, .inr (.inl (I 83 (y2.toNat)))), (4, .inl y2), (3, .inl (I 83 (y2.toNat))), (1, .inl y1), (0, .inr (.inr (some 82)))] rfl rfl rfl (by rw [show yi_w (y2 + 1) = y2 + 1 from (yi_wn (by omega) (by omega)).trans (by omega)]; rfl) ?_
                refine yi_D_run 1 (266, [(2, .inl (y2 + 1)), (5, .inr (.inl (I 83 (y2.toNat)))), (4, .inl y2), (3, .inl (I 83 (y2.toNat))), (1, .inl y1), (0, .inr (.inr (some 82)))], [.inr (.inr (some 82))], (I75, G1, R, Y), 0, 0) (fun _ => rfl) ?_
                refine yi_D_gr (v := some 86) rfl rfl rfl (ym_S_at hS (j := 3) rfl).1 (fun _ => ?_)
                refine yi_D_run 2 (272, [(2, .inl (y2 + 1)), (5, .inr (.inl (I 83 (y2.toNat)))), (4, .inl y2), (3, .inl (I 83 (y2.toNat))), (1, .inl y1), (0, .inr (.inr (some 82)))], [.inr (.inl (I 83 (y2.toNat))), .inl y1, .inr (.inr (some 86))], (I75, G1, R, Y), 0, 0) (fun _ => rfl) ?_
                have hst : tk_st s n c = (tk_nx s n c.1, c.2.1 + 1, sp_up c.2.2.1 c.2.1 (tk_K s n c.1), sp_up c.2.2.2.1 c.2.1 c.1, sp_up c.2.2.2.2 c.2.1 (tk_V s n c.1)) := by unfold tk_st; rw [if_pos (by omega), if_neg (by omega)]
                have hnxb := tk_nx_b (s := s) (n := n) (k := c.1) (by omega)
                have hp1 : 0 ≤ (c.1 : Int) ∧ (c.1 : Int) ≤ 1000 := by omega
                have htk := tk_nx_s (s := s) (n := n) (k := c.1) (tk_lt_f (by omega)) (tk_dg_f (by omega))
                have hm1 : mk_1 4 (I 83 (y2.toNat)) c.1 (tk_K s n c.1) c.1 (tk_V s n c.1) := by
                  rw [htk.2.1, htk.2.2, hs0]
                  rw [tk_sg_f (by omega), if_neg (by decide)]
                  exact mk_1b hp1
                refine yi_D_ls rfl (fun _ _ => ?_)
                generalize w78 : yi_u G1 86 (y1.toNat) (I 83 (y2.toNat)) = L77
                refine yi_D_iinc [(1, .inl (y1 + 1)), (2, .inl (y2 + 1)), (5, .inr (.inl (I 83 (y2.toNat)))), (4, .inl y2), (3, .inl (I 83 (y2.toNat))), (0, .inr (.inr (some 82)))] rfl rfl rfl (by rw [show yi_w (y1 + 1) = y1 + 1 from (yi_wn (by omega) (by omega)).trans (by omega)]; rfl) ?_
                refine yi_D_run 1 (17, [(1, .inl (y1 + 1)), (2, .inl (y2 + 1)), (5, .inr (.inl (I 83 (y2.toNat)))), (4, .inl y2), (3, .inl (I 83 (y2.toNat))), (0, .inr (.inr (some 82)))], [], (I75, L77, R, Y), 0, 0) (fun _ => rfl) ?_
                refine yi_D_al (al := [(2, .inl (y2 + 1)), (1, .inl (y1 + 1)), (0, .inr (.inr (some 82))), (3, .inl (I 83 (y2.toNat))), (4, .inl y2), (5, .inr (.inl (I 83 (y2.toNat))))]) (show ([2, 1, 0, 3, 4, 5] : List Nat).Nodup by decide) (show ([1, 2, 5, 4, 3, 0] : List Nat).Nodup by decide) (yi_mc (List.mem_of_getElem? (i := 1) rfl) (yi_mc (List.mem_of_getElem? (i := 0) rfl) (yi_mc (List.mem_of_getElem? (i := 5) rfl) (yi_mc (List.mem_of_getElem? (i := 4) rfl) (yi_mc (List.mem_of_getElem? (i := 3) rfl) (yi_mc (List.mem_of_getElem? (i := 2) rfl) yi_mn)))))) ?_
                exact yi_D_mono (ih17 (by omega) (y2 + 1) (y1 + 1) (I 83 (y2.toNat)) y2 (I 83 (y2.toNat)) I75 L77 (tk_st s n c) (tk_R_s hR) (by rw [hst]; dsimp only; omega) (by rw [hst]; dsimp only; omega) (by rw [hst]; dsimp only; omega) (mk_W_add hK hst (by rw [← w76, show c.2.1 = y1.toNat by omega, yi_u_eq]) (by rw [← w78, show c.2.1 = y1.toNat by omega, yi_u_eq]) (by rw [← w76, yi_u_ne _ _ (by omega), ← w19, show c.2.1 = y1.toNat by omega, yi_u_eq]; omega) hm1 (fun k hk => by rw [← w76, yi_u_ne _ _ (by omega), ← w19, yi_u_ne _ _ (by omega)]) (fun k hk => by rw [← w78, yi_u_ne _ _ (by omega)]) (fun k hk => by rw [← w76, yi_u_ne _ _ (by omega), ← w19, yi_u_ne _ _ (by omega)])) (by rw [← w76, yi_u_ne _ _ (by omega), ← w19, yi_u_ne _ _ (by omega)]; exact e3) (by rw [← w76, yi_u_ne _ _ (by omega), ← w19, yi_u_ne _ _ (by omega)]; exact e22) (fun p k hp => by rw [← w76, yi_u_ne _ _ (by omega), ← w19, yi_u_ne _ _ (by omega), fI p k (by omega)]) (fun p k hp => by rw [← w78, yi_u_ne _ _ (by omega), fL p k (by omega)])) (by omega)
  refine yi_D_al (al := [(2, .inl 0), (1, .inl 0), (0, .inr (.inr (some 82))), (3, .inl 0), (4, .inl 0), (5, .inr (.inl 0))]) (show ([2, 1, 0, 3, 4, 5] : List Nat).Nodup by decide) (show ([2, 1, 0] : List Nat).Nodup by decide) (yi_mc (List.mem_of_getElem? (i := 0) rfl) (yi_mc (List.mem_of_getElem? (i := 1) rfl) (yi_mc (List.mem_of_getElem? (i := 2) rfl) yi_mn))) ?_
  exact pt17 k (Nat.le_refl _) 0 0 0 0 0 I3 L (0, 0, fun _ => 0, fun _ => n, fun _ => 0) tk_R_0 rfl rfl (by dsimp only; omega) (fun i hi => absurd hi (by show ¬ i < 0; omega)) (by rw [← w4, yi_u_ne _ _ (by omega), ← w2, yi_u_eq]; exact h2) (by rw [← w4, yi_u_eq]) (fun p k hp => by rw [← w4, yi_u_ne _ _ (by omega), ← w2, yi_u_ne _ _ (by omega)]) (fun _ _ _ => rfl)
