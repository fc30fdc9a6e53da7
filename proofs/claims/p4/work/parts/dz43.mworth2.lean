/-! The check: what a program is worth. -/
/-- two values, joined -/
def bo (c a b : Int) : Int := if c = 4 then yi_w (a + b) else if c = 5 then yi_w (a - b) else if c = 6 then yi_w (a * b) else if c = 7 then (if a < b then 1 else 0) else if c = 8 then (if a = b then 1 else 0) else if c = 9 then (if ¬ a = 0 ∧ ¬ b = 0 then 1 else 0) else (if ¬ a = 0 ∨ ¬ b = 0 then 1 else 0)
def stp (fa : Nat → Int) (hcl : Int → Bool) (c a : Int) (st : List Int) : Option (List Int) := if c = 1 then some (a :: st) else if c = 2 then some (fa a.toNat :: st) else if c = 11 then some ((if hcl a = true then 1 else 0) :: st) else if c = 3 then (match st with | x :: r => some ((if x = 0 then 1 else 0) :: r) | [] => none) else (match st with | y :: x :: r => some (bo c x y :: r) | _ => none)
theorem stp_3 {fa : Nat → Int} {hcl : Int → Bool} {c a : Int} {st st' : List Int} (h : stp fa hcl c a st = some st') (hc : c = 3) : ∃ x r, st = x :: r ∧ st' = (if x = 0 then 1 else 0) :: r := by
  unfold stp at h
  rw [if_neg (by omega), if_neg (by omega), if_neg (by omega), if_pos hc] at h
  cases st with
  | nil => cases h
  | cons x r => exact ⟨x, r, rfl, (Option.some.inj h).symm⟩
theorem stp_b {fa : Nat → Int} {hcl : Int → Bool} {c a : Int} {st st' : List Int} (h : stp fa hcl c a st = some st') (h1 : ¬ c = 1) (h2 : ¬ c = 2) (h3 : ¬ c = 11) (h4 : ¬ c = 3) : ∃ y x r, st = y :: x :: r ∧ st' = bo c x y :: r := by
  unfold stp at h
  rw [if_neg h1, if_neg h2, if_neg h3, if_neg h4] at h
  cases st with
  | nil => cases h
  | cons y r =>
    cases r with
    | nil => cases h
    | cons x r => exact ⟨y, x, r, rfl, (Option.some.inj h).symm⟩
theorem stp_1 {fa : Nat → Int} {hcl : Int → Bool} {c a : Int} {st st' : List Int} (h : stp fa hcl c a st = some st') (hc : c = 1) : st' = a :: st := by
  unfold stp at h
  rw [if_pos hc] at h
  exact (Option.some.inj h).symm
theorem stp_2 {fa : Nat → Int} {hcl : Int → Bool} {c a : Int} {st st' : List Int} (h : stp fa hcl c a st = some st') (hc : c = 2) : st' = fa a.toNat :: st := by
  unfold stp at h
  rw [if_neg (by omega), if_pos hc] at h
  exact (Option.some.inj h).symm
theorem stp_c {fa : Nat → Int} {hcl : Int → Bool} {c a : Int} {st st' : List Int} (h : stp fa hcl c a st = some st') (hc : c = 11) : st' = (if hcl a = true then 1 else 0) :: st := by
  unfold stp at h
  rw [if_neg (by omega), if_neg (by omega), if_pos hc] at h
  exact (Option.some.inj h).symm
theorem stp_len {fa : Nat → Int} {hcl : Int → Bool} {c a : Int} {st st' : List Int} (h : stp fa hcl c a st = some st') : st'.length ≤ st.length + 1 := by
  by_cases h1 : c = 1
  · rw [stp_1 h h1]; exact Nat.le_refl _
  by_cases h2 : c = 2
  · rw [stp_2 h h2]; exact Nat.le_refl _
  by_cases h3 : c = 11
  · rw [stp_c h h3]; exact Nat.le_refl _
  by_cases h4 : c = 3
  · obtain ⟨x, r, e1, e2⟩ := stp_3 h h4
    rw [e1, e2, List.length_cons, List.length_cons]
    omega
  · obtain ⟨y, x, r, e1, e2⟩ := stp_b h h1 h2 h3 h4
    rw [e1, e2, List.length_cons, List.length_cons, List.length_cons]
    omega
/-- what lies on the pile -/
def pl (J : Nat → Nat → Int) : List Int → Prop
  | [] => True
  | x :: r => J 96 r.length = x ∧ pl J r
theorem pl_t {J J' : Nat → Nat → Int} : ∀ st : List Int, pl J st → (∀ k, k < st.length → J' 96 k = J 96 k) → pl J' st
  | [], _, _ => trivial
  | x :: r, h, hf => ⟨(hf r.length (by rw [List.length_cons]; omega)).trans h.1, pl_t r h.2 (fun k hk => hf k (by rw [List.length_cons]; omega))⟩
/-- a clause that is well formed -/
def cvk (pe da who e wh n : Nat) : Prop := who ≤ 5 ∧ e < 4 ∧ wh ≤ 8 ∧ n ≤ 7 ∧ (7 ≤ wh → who < pe ∧ n < pe) ∧ (wh ≤ 2 → 1 ≤ n ∧ n ≤ da)
def cvX (pe ev da : Nat) (vg : Prop) [Decidable vg] (h : Nat → Int) (hcl : Int → Bool) (a : Int) : Prop := ∃ who e wh n : Nat, a = (((who : Int) * 4 + e) * 16 + wh) * 8 + n ∧ cvk pe da who e wh n ∧ hcl a = hC h pe ev da vg who e wh n
/-- a program as it stands, its stacks, its worth -/
def pgS (I : Nat → Nat → Int) (pe ev da : Nat) (vg : Prop) [Decidable vg] (h : Nat → Int) (fa : Nat → Int) (hcl : Int → Bool) (fr N : Nat) (sk : Nat → List Int) (v : Int) : Prop := (fr + N ≤ 2199 ∧ N ≤ 1098) ∧ (∀ k, k < N → (1 ≤ I 89 (fr + k) ∧ I 89 (fr + k) ≤ 11) ∧ stp fa hcl (I 89 (fr + k)) (I 90 (fr + k)) (sk k) = some (sk (k + 1)) ∧ (I 89 (fr + k) = 2 → 0 ≤ I 90 (fr + k) ∧ I 90 (fr + k) ≤ 2) ∧ (I 89 (fr + k) = 11 → cvX pe ev da vg h hcl (I 90 (fr + k)))) ∧ I 89 (fr + N) = 0 ∧ sk 0 = [] ∧ sk N = [v]
theorem pgS_len {I : Nat → Nat → Int} {pe ev da : Nat} {vg : Prop} [Decidable vg] {h : Nat → Int} {fa : Nat → Int} {hcl : Int → Bool} {fr N : Nat} {sk : Nat → List Int} {v : Int} (hp : pgS I pe ev da vg h fa hcl fr N sk v) : ∀ k, k ≤ N → (sk k).length ≤ k
  | 0, _ => by rw [hp.2.2.2.1]; exact Nat.le_refl _
  | k + 1, hk => by
    have z := stp_len (hp.2.1 k (by omega)).2.1
    have y := pgS_len hp k (by omega)
    omega
theorem q_both {d : Nat} {I L : Nat → Nat → Int} {R : Nat → Nat → Option Nat} {Y : (Nat → Nat) × (Nat → Nat) × Nat} {x y z : Int} (hx : 4 ≤ x ∧ x ≤ 10) : yi_P zi_Ms d 6 [.inl x, .inl y, .inl z] (I, L, R, Y) (fun r => r = (some (.inl (bo x y z)), (I, L, R, Y), 0, 0)) := by
  refine yi_P_of (M := zi_m6) rfl (fun d k => ?_)
  show yi_D zi_Ms d zi_m6 k (0, [(0, .inl x), (1, .inl y), (2, .inl z)], [], (I, L, R, Y), 0, 0) _
  refine yi_D_run 1 (1, [(0, .inl x), (1, .inl y), (2, .inl z)], [.inl x], (I, L, R, Y), 0, 0) (fun _ => rfl) ?_
  by_cases h1 : x = 4
  · refine yi_D_tsi 0 rfl (by omega) (by decide) rfl ?_
    refine yi_D_run 3 (43, [(0, .inl x), (1, .inl y), (2, .inl z)], [.inl (yi_w (y + z))], (I, L, R, Y), 0, 0) (fun _ => rfl) ?_
    refine yi_D_reti rfl ?_
    refine congrArg (fun w => (some (Sum.inl w), (I, L, R, Y), 0, 0)) ?_
    unfold bo
    first
    | (rw [if_pos (by omega)]; done)
    | (rw [if_pos (by omega)]; rw [if_pos (by omega)]; done)
    | (rw [if_pos (by omega)]; rw [if_neg (by omega)]; done)
    | (rw [if_neg (by omega), if_pos (by omega)]; done)
    | (rw [if_neg (by omega), if_pos (by omega)]; rw [if_pos (by omega)]; done)
    | (rw [if_neg (by omega), if_pos (by omega)]; rw [if_neg (by omega)]; done)
    | (rw [if_neg (by omega), if_neg (by omega), if_pos (by omega)]; done)
    | (rw [if_neg (by omega), if_neg (by omega), if_pos (by omega)]; rw [if_pos (by omega)]; done)
    | (rw [if_neg (by omega), if_neg (by omega), if_pos (by omega)]; rw [if_neg (by omega)]; done)
    | (rw [if_neg (by omega), if_neg (by omega), if_neg (by omega), if_pos (by omega)]; done)
    | (rw [if_neg (by omega), if_neg (by omega), if_neg (by omega), if_pos (by omega)]; rw [if_pos (by omega)]; done)
    | (rw [if_neg (by omega), if_neg (by omega), if_neg (by omega), if_pos (by omega)]; rw [if_neg (by omega)]; done)
    | (rw [if_neg (by omega), if_neg (by omega), if_neg (by omega), if_neg (by omega), if_pos (by omega)]; done)
    | (rw [if_neg (by omega), if_neg (by omega), if_neg (by omega), if_neg (by omega), if_pos (by omega)]; rw [if_pos (by omega)]; done)
    | (rw [if_neg (by omega), if_neg (by omega), if_neg (by omega), if_neg (by omega), if_pos (by omega)]; rw [if_neg (by omega)]; done)
    | (rw [if_neg (by omega), if_neg (by omega), if_neg (by omega), if_neg (by omega), if_neg (by omega), if_pos (by omega)]; done)
    | (rw [if_neg (by omega), if_neg (by omega), if_neg (by omega), if_neg (by omega), if_neg (by omega), if_pos (by omega)]; rw [if_pos (by omega)]; done)
    | (rw [if_neg (by omega), if_neg (by omega), if_neg (by omega), if_neg (by omega), if_neg (by omega), if_pos (by omega)]; rw [if_neg (by omega)]; done)
    | (rw [if_neg (by omega), if_neg (by omega), if_neg (by omega), if_neg (by omega), if_neg (by omega), if_neg (by omega)]; done)
    | (rw [if_neg (by omega), if_neg (by omega), if_neg (by omega), if_neg (by omega), if_neg (by omega), if_neg (by omega)]; rw [if_pos (by omega)]; done)
    | (rw [if_neg (by omega), if_neg (by omega), if_neg (by omega), if_neg (by omega), if_neg (by omega), if_neg (by omega)]; rw [if_neg (by omega)]; done)
  by_cases h2 : x = 5
  · refine yi_D_tsi 1 rfl (by omega) (by decide) rfl ?_
    refine yi_D_run 3 (47, [(0, .inl x), (1, .inl y), (2, .inl z)], [.inl (yi_w (y - z))], (I, L, R, Y), 0, 0) (fun _ => rfl) ?_
    refine yi_D_reti rfl ?_
    refine congrArg (fun w => (some (Sum.inl w), (I, L, R, Y), 0, 0)) ?_
    unfold bo
    first
    | (rw [if_pos (by omega)]; done)
    | (rw [if_pos (by omega)]; rw [if_pos (by omega)]; done)
    | (rw [if_pos (by omega)]; rw [if_neg (by omega)]; done)
    | (rw [if_neg (by omega), if_pos (by omega)]; done)
    | (rw [if_neg (by omega), if_pos (by omega)]; rw [if_pos (by omega)]; done)
    | (rw [if_neg (by omega), if_pos (by omega)]; rw [if_neg (by omega)]; done)
    | (rw [if_neg (by omega), if_neg (by omega), if_pos (by omega)]; done)
    | (rw [if_neg (by omega), if_neg (by omega), if_pos (by omega)]; rw [if_pos (by omega)]; done)
    | (rw [if_neg (by omega), if_neg (by omega), if_pos (by omega)]; rw [if_neg (by omega)]; done)
    | (rw [if_neg (by omega), if_neg (by omega), if_neg (by omega), if_pos (by omega)]; done)
    | (rw [if_neg (by omega), if_neg (by omega), if_neg (by omega), if_pos (by omega)]; rw [if_pos (by omega)]; done)
    | (rw [if_neg (by omega), if_neg (by omega), if_neg (by omega), if_pos (by omega)]; rw [if_neg (by omega)]; done)
    | (rw [if_neg (by omega), if_neg (by omega), if_neg (by omega), if_neg (by omega), if_pos (by omega)]; done)
    | (rw [if_neg (by omega), if_neg (by omega), if_neg (by omega), if_neg (by omega), if_pos (by omega)]; rw [if_pos (by omega)]; done)
    | (rw [if_neg (by omega), if_neg (by omega), if_neg (by omega), if_neg (by omega), if_pos (by omega)]; rw [if_neg (by omega)]; done)
    | (rw [if_neg (by omega), if_neg (by omega), if_neg (by omega), if_neg (by omega), if_neg (by omega), if_pos (by omega)]; done)
    | (rw [if_neg (by omega), if_neg (by omega), if_neg (by omega), if_neg (by omega), if_neg (by omega), if_pos (by omega)]; rw [if_pos (by omega)]; done)
    | (rw [if_neg (by omega), if_neg (by omega), if_neg (by omega), if_neg (by omega), if_neg (by omega), if_pos (by omega)]; rw [if_neg (by omega)]; done)
    | (rw [if_neg (by omega), if_neg (by omega), if_neg (by omega), if_neg (by omega), if_neg (by omega), if_neg (by omega)]; done)
    | (rw [if_neg (by omega), if_neg (by omega), if_neg (by omega), if_neg (by omega), if_neg (by omega), if_neg (by omega)]; rw [if_pos (by omega)]; done)
    | (rw [if_neg (by omega), if_neg (by omega), if_neg (by omega), if_neg (by omega), if_neg (by omega), if_neg (by omega)]; rw [if_neg (by omega)]; done)
  by_cases h3 : x = 6
  · refine yi_D_tsi 2 rfl (by omega) (by decide) rfl ?_
    refine yi_D_run 3 (51, [(0, .inl x), (1, .inl y), (2, .inl z)], [.inl (yi_w (y * z))], (I, L, R, Y), 0, 0) (fun _ => rfl) ?_
    refine yi_D_reti rfl ?_
    refine congrArg (fun w => (some (Sum.inl w), (I, L, R, Y), 0, 0)) ?_
    unfold bo
    first
    | (rw [if_pos (by omega)]; done)
    | (rw [if_pos (by omega)]; rw [if_pos (by omega)]; done)
    | (rw [if_pos (by omega)]; rw [if_neg (by omega)]; done)
    | (rw [if_neg (by omega), if_pos (by omega)]; done)
    | (rw [if_neg (by omega), if_pos (by omega)]; rw [if_pos (by omega)]; done)
    | (rw [if_neg (by omega), if_pos (by omega)]; rw [if_neg (by omega)]; done)
    | (rw [if_neg (by omega), if_neg (by omega), if_pos (by omega)]; done)
    | (rw [if_neg (by omega), if_neg (by omega), if_pos (by omega)]; rw [if_pos (by omega)]; done)
    | (rw [if_neg (by omega), if_neg (by omega), if_pos (by omega)]; rw [if_neg (by omega)]; done)
    | (rw [if_neg (by omega), if_neg (by omega), if_neg (by omega), if_pos (by omega)]; done)
    | (rw [if_neg (by omega), if_neg (by omega), if_neg (by omega), if_pos (by omega)]; rw [if_pos (by omega)]; done)
    | (rw [if_neg (by omega), if_neg (by omega), if_neg (by omega), if_pos (by omega)]; rw [if_neg (by omega)]; done)
    | (rw [if_neg (by omega), if_neg (by omega), if_neg (by omega), if_neg (by omega), if_pos (by omega)]; done)
    | (rw [if_neg (by omega), if_neg (by omega), if_neg (by omega), if_neg (by omega), if_pos (by omega)]; rw [if_pos (by omega)]; done)
    | (rw [if_neg (by omega), if_neg (by omega), if_neg (by omega), if_neg (by omega), if_pos (by omega)]; rw [if_neg (by omega)]; done)
    | (rw [if_neg (by omega), if_neg (by omega), if_neg (by omega), if_neg (by omega), if_neg (by omega), if_pos (by omega)]; done)
    | (rw [if_neg (by omega), if_neg (by omega), if_neg (by omega), if_neg (by omega), if_neg (by omega), if_pos (by omega)]; rw [if_pos (by omega)]; done)
    | (rw [if_neg (by omega), if_neg (by omega), if_neg (by omega), if_neg (by omega), if_neg (by omega), if_pos (by omega)]; rw [if_neg (by omega)]; done)
    | (rw [if_neg (by omega), if_neg (by omega), if_neg (by omega), if_neg (by omega), if_neg (by omega), if_neg (by omega)]; done)
    | (rw [if_neg (by omega), if_neg (by omega), if_neg (by omega), if_neg (by omega), if_neg (by omega), if_neg (by omega)]; rw [if_pos (by omega)]; done)
    | (rw [if_neg (by omega), if_neg (by omega), if_neg (by omega), if_neg (by omega), if_neg (by omega), if_neg (by omega)]; rw [if_neg (by omega)]; done)
  by_cases h4 : x = 7
  · refine yi_D_tsi 3 rfl (by omega) (by decide) rfl ?_
    refine yi_D_run 2 (54, [(0, .inl x), (1, .inl y), (2, .inl z)], [.inl z, .inl y], (I, L, R, Y), 0, 0) (fun _ => rfl) ?_
    by_cases h5 : z ≤ y
    · refine yi_D_if2 true rfl (yi_ge_t h5) ?_
      refine yi_D_run 1 (62, [(0, .inl x), (1, .inl y), (2, .inl z)], [.inl 0], (I, L, R, Y), 0, 0) (fun _ => rfl) ?_
      refine yi_D_reti rfl ?_
      refine congrArg (fun w => (some (Sum.inl w), (I, L, R, Y), 0, 0)) ?_
      unfold bo
      first
      | (rw [if_pos (by omega)]; done)
      | (rw [if_pos (by omega)]; rw [if_pos (by omega)]; done)
      | (rw [if_pos (by omega)]; rw [if_neg (by omega)]; done)
      | (rw [if_neg (by omega), if_pos (by omega)]; done)
      | (rw [if_neg (by omega), if_pos (by omega)]; rw [if_pos (by omega)]; done)
      | (rw [if_neg (by omega), if_pos (by omega)]; rw [if_neg (by omega)]; done)
      | (rw [if_neg (by omega), if_neg (by omega), if_pos (by omega)]; done)
      | (rw [if_neg (by omega), if_neg (by omega), if_pos (by omega)]; rw [if_pos (by omega)]; done)
      | (rw [if_neg (by omega), if_neg (by omega), if_pos (by omega)]; rw [if_neg (by omega)]; done)
      | (rw [if_neg (by omega), if_neg (by omega), if_neg (by omega), if_pos (by omega)]; done)
      | (rw [if_neg (by omega), if_neg (by omega), if_neg (by omega), if_pos (by omega)]; rw [if_pos (by omega)]; done)
      | (rw [if_neg (by omega), if_neg (by omega), if_neg (by omega), if_pos (by omega)]; rw [if_neg (by omega)]; done)
      | (rw [if_neg (by omega), if_neg (by omega), if_neg (by omega), if_neg (by omega), if_pos (by omega)]; done)
      | (rw [if_neg (by omega), if_neg (by omega), if_neg (by omega), if_neg (by omega), if_pos (by omega)]; rw [if_pos (by omega)]; done)
      | (rw [if_neg (by omega), if_neg (by omega), if_neg (by omega), if_neg (by omega), if_pos (by omega)]; rw [if_neg (by omega)]; done)
      | (rw [if_neg (by omega), if_neg (by omega), if_neg (by omega), if_neg (by omega), if_neg (by omega), if_pos (by omega)]; done)
      | (rw [if_neg (by omega), if_neg (by omega), if_neg (by omega), if_neg (by omega), if_neg (by omega), if_pos (by omega)]; rw [if_pos (by omega)]; done)
      | (rw [if_neg (by omega), if_neg (by omega), if_neg (by omega), if_neg (by omega), if_neg (by omega), if_pos (by omega)]; rw [if_neg (by omega)]; done)
      | (rw [if_neg (by omega), if_neg (by omega), if_neg (by omega), if_neg (by omega), if_neg (by omega), if_neg (by omega)]; done)
      | (rw [if_neg (by omega), if_neg (by omega), if_neg (by omega), if_neg (by omega), if_neg (by omega), if_neg (by omega)]; rw [if_pos (by omega)]; done)
      | (rw [if_neg (by omega), if_neg (by omega), if_neg (by omega), if_neg (by omega), if_neg (by omega), if_neg (by omega)]; rw [if_neg (by omega)]; done)
    · refine yi_D_if2 false rfl (yi_ge_f h5) ?_
      refine yi_D_run 2 (62, [(0, .inl x), (1, .inl y), (2, .inl z)], [.inl 1], (I, L, R, Y), 0, 0) (fun _ => rfl) ?_
      refine yi_D_reti rfl ?_
      refine congrArg (fun w => (some (Sum.inl w), (I, L, R, Y), 0, 0)) ?_
      unfold bo
      first
      | (rw [if_pos (by omega)]; done)
      | (rw [if_pos (by omega)]; rw [if_pos (by omega)]; done)
      | (rw [if_pos (by omega)]; rw [if_neg (by omega)]; done)
      | (rw [if_neg (by omega), if_pos (by omega)]; done)
      | (rw [if_neg (by omega), if_pos (by omega)]; rw [if_pos (by omega)]; done)
      | (rw [if_neg (by omega), if_pos (by omega)]; rw [if_neg (by omega)]; done)
      | (rw [if_neg (by omega), if_neg (by omega), if_pos (by omega)]; done)
      | (rw [if_neg (by omega), if_neg (by omega), if_pos (by omega)]; rw [if_pos (by omega)]; done)
      | (rw [if_neg (by omega), if_neg (by omega), if_pos (by omega)]; rw [if_neg (by omega)]; done)
      | (rw [if_neg (by omega), if_neg (by omega), if_neg (by omega), if_pos (by omega)]; done)
      | (rw [if_neg (by omega), if_neg (by omega), if_neg (by omega), if_pos (by omega)]; rw [if_pos (by omega)]; done)
      | (rw [if_neg (by omega), if_neg (by omega), if_neg (by omega), if_pos (by omega)]; rw [if_neg (by omega)]; done)
      | (rw [if_neg (by omega), if_neg (by omega), if_neg (by omega), if_neg (by omega), if_pos (by omega)]; done)
      | (rw [if_neg (by omega), if_neg (by omega), if_neg (by omega), if_neg (by omega), if_pos (by omega)]; rw [if_pos (by omega)]; done)
      | (rw [if_neg (by omega), if_neg (by omega), if_neg (by omega), if_neg (by omega), if_pos (by omega)]; rw [if_neg (by omega)]; done)
      | (rw [if_neg (by omega), if_neg (by omega), if_neg (by omega), if_neg (by omega), if_neg (by omega), if_pos (by omega)]; done)
      | (rw [if_neg (by omega), if_neg (by omega), if_neg (by omega), if_neg (by omega), if_neg (by omega), if_pos (by omega)]; rw [if_pos (by omega)]; done)
      | (rw [if_neg (by omega), if_neg (by omega), if_neg (by omega), if_neg (by omega), if_neg (by omega), if_pos (by omega)]; rw [if_neg (by omega)]; done)
      | (rw [if_neg (by omega), if_neg (by omega), if_neg (by omega), if_neg (by omega), if_neg (by omega), if_neg (by omega)]; done)
      | (rw [if_neg (by omega), if_neg (by omega), if_neg (by omega), if_neg (by omega), if_neg (by omega), if_neg (by omega)]; rw [if_pos (by omega)]; done)
      | (rw [if_neg (by omega), if_neg (by omega), if_neg (by omega), if_neg (by omega), if_neg (by omega), if_neg (by omega)]; rw [if_neg (by omega)]; done)
  by_cases h6 : x = 8
  · refine yi_D_tsi 4 rfl (by omega) (by decide) rfl ?_
    refine yi_D_run 2 (65, [(0, .inl x), (1, .inl y), (2, .inl z)], [.inl z, .inl y], (I, L, R, Y), 0, 0) (fun _ => rfl) ?_
    by_cases h7 : y = z
    · refine yi_D_if2 false rfl (yi_ne_f h7) ?_
      refine yi_D_run 2 (73, [(0, .inl x), (1, .inl y), (2, .inl z)], [.inl 1], (I, L, R, Y), 0, 0) (fun _ => rfl) ?_
      refine yi_D_reti rfl ?_
      refine congrArg (fun w => (some (Sum.inl w), (I, L, R, Y), 0, 0)) ?_
      unfold bo
      first
      | (rw [if_pos (by omega)]; done)
      | (rw [if_pos (by omega)]; rw [if_pos (by omega)]; done)
      | (rw [if_pos (by omega)]; rw [if_neg (by omega)]; done)
      | (rw [if_neg (by omega), if_pos (by omega)]; done)
      | (rw [if_neg (by omega), if_pos (by omega)]; rw [if_pos (by omega)]; done)
      | (rw [if_neg (by omega), if_pos (by omega)]; rw [if_neg (by omega)]; done)
      | (rw [if_neg (by omega), if_neg (by omega), if_pos (by omega)]; done)
      | (rw [if_neg (by omega), if_neg (by omega), if_pos (by omega)]; rw [if_pos (by omega)]; done)
      | (rw [if_neg (by omega), if_neg (by omega), if_pos (by omega)]; rw [if_neg (by omega)]; done)
      | (rw [if_neg (by omega), if_neg (by omega), if_neg (by omega), if_pos (by omega)]; done)
      | (rw [if_neg (by omega), if_neg (by omega), if_neg (by omega), if_pos (by omega)]; rw [if_pos (by omega)]; done)
      | (rw [if_neg (by omega), if_neg (by omega), if_neg (by omega), if_pos (by omega)]; rw [if_neg (by omega)]; done)
      | (rw [if_neg (by omega), if_neg (by omega), if_neg (by omega), if_neg (by omega), if_pos (by omega)]; done)
      | (rw [if_neg (by omega), if_neg (by omega), if_neg (by omega), if_neg (by omega), if_pos (by omega)]; rw [if_pos (by omega)]; done)
      | (rw [if_neg (by omega), if_neg (by omega), if_neg (by omega), if_neg (by omega), if_pos (by omega)]; rw [if_neg (by omega)]; done)
      | (rw [if_neg (by omega), if_neg (by omega), if_neg (by omega), if_neg (by omega), if_neg (by omega), if_pos (by omega)]; done)
      | (rw [if_neg (by omega), if_neg (by omega), if_neg (by omega), if_neg (by omega), if_neg (by omega), if_pos (by omega)]; rw [if_pos (by omega)]; done)
      | (rw [if_neg (by omega), if_neg (by omega), if_neg (by omega), if_neg (by omega), if_neg (by omega), if_pos (by omega)]; rw [if_neg (by omega)]; done)
      | (rw [if_neg (by omega), if_neg (by omega), if_neg (by omega), if_neg (by omega), if_neg (by omega), if_neg (by omega)]; done)
      | (rw [if_neg (by omega), if_neg (by omega), if_neg (by omega), if_neg (by omega), if_neg (by omega), if_neg (by omega)]; rw [if_pos (by omega)]; done)
      | (rw [if_neg (by omega), if_neg (by omega), if_neg (by omega), if_neg (by omega), if_neg (by omega), if_neg (by omega)]; rw [if_neg (by omega)]; done)
    · refine yi_D_if2 true rfl (yi_ne_t h7) ?_
      refine yi_D_run 1 (73, [(0, .inl x), (1, .inl y), (2, .inl z)], [.inl 0], (I, L, R, Y), 0, 0) (fun _ => rfl) ?_
      refine yi_D_reti rfl ?_
      refine congrArg (fun w => (some (Sum.inl w), (I, L, R, Y), 0, 0)) ?_
      unfold bo
      first
      | (rw [if_pos (by omega)]; done)
      | (rw [if_pos (by omega)]; rw [if_pos (by omega)]; done)
      | (rw [if_pos (by omega)]; rw [if_neg (by omega)]; done)
      | (rw [if_neg (by omega), if_pos (by omega)]; done)
      | (rw [if_neg (by omega), if_pos (by omega)]; rw [if_pos (by omega)]; done)
      | (rw [if_neg (by omega), if_pos (by omega)]; rw [if_neg (by omega)]; done)
      | (rw [if_neg (by omega), if_neg (by omega), if_pos (by omega)]; done)
      | (rw [if_neg (by omega), if_neg (by omega), if_pos (by omega)]; rw [if_pos (by omega)]; done)
      | (rw [if_neg (by omega), if_neg (by omega), if_pos (by omega)]; rw [if_neg (by omega)]; done)
      | (rw [if_neg (by omega), if_neg (by omega), if_neg (by omega), if_pos (by omega)]; done)
      | (rw [if_neg (by omega), if_neg (by omega), if_neg (by omega), if_pos (by omega)]; rw [if_pos (by omega)]; done)
      | (rw [if_neg (by omega), if_neg (by omega), if_neg (by omega), if_pos (by omega)]; rw [if_neg (by omega)]; done)
      | (rw [if_neg (by omega), if_neg (by omega), if_neg (by omega), if_neg (by omega), if_pos (by omega)]; done)
      | (rw [if_neg (by omega), if_neg (by omega), if_neg (by omega), if_neg (by omega), if_pos (by omega)]; rw [if_pos (by omega)]; done)
      | (rw [if_neg (by omega), if_neg (by omega), if_neg (by omega), if_neg (by omega), if_pos (by omega)]; rw [if_neg (by omega)]; done)
      | (rw [if_neg (by omega), if_neg (by omega), if_neg (by omega), if_neg (by omega), if_neg (by omega), if_pos (by omega)]; done)
      | (rw [if_neg (by omega), if_neg (by omega), if_neg (by omega), if_neg (by omega), if_neg (by omega), if_pos (by omega)]; rw [if_pos (by omega)]; done)
      | (rw [if_neg (by omega), if_neg (by omega), if_neg (by omega), if_neg (by omega), if_neg (by omega), if_pos (by omega)]; rw [if_neg (by omega)]; done)
      | (rw [if_neg (by omega), if_neg (by omega), if_neg (by omega), if_neg (by omega), if_neg (by omega), if_neg (by omega)]; done)
      | (rw [if_neg (by omega), if_neg (by omega), if_neg (by omega), if_neg (by omega), if_neg (by omega), if_neg (by omega)]; rw [if_pos (by omega)]; done)
      | (rw [if_neg (by omega), if_neg (by omega), if_neg (by omega), if_neg (by omega), if_neg (by omega), if_neg (by omega)]; rw [if_neg (by omega)]; done)
  by_cases h8 : x = 9
  · refine yi_D_tsi 5 rfl (by omega) (by decide) rfl ?_
    refine yi_D_run 1 (75, [(0, .inl x), (1, .inl y), (2, .inl z)], [.inl y], (I, L, R, Y), 0, 0) (fun _ => rfl) ?_
    by_cases h9 : y = 0
    · refine yi_D_if1 true rfl (yi_eq_t h9) ?_
      refine yi_D_run 1 (87, [(0, .inl x), (1, .inl y), (2, .inl z)], [.inl 0], (I, L, R, Y), 0, 0) (fun _ => rfl) ?_
      refine yi_D_reti rfl ?_
      refine congrArg (fun w => (some (Sum.inl w), (I, L, R, Y), 0, 0)) ?_
      unfold bo
      first
      | (rw [if_pos (by omega)]; done)
      | (rw [if_pos (by omega)]; rw [if_pos (by omega)]; done)
      | (rw [if_pos (by omega)]; rw [if_neg (by omega)]; done)
      | (rw [if_neg (by omega), if_pos (by omega)]; done)
      | (rw [if_neg (by omega), if_pos (by omega)]; rw [if_pos (by omega)]; done)
      | (rw [if_neg (by omega), if_pos (by omega)]; rw [if_neg (by omega)]; done)
      | (rw [if_neg (by omega), if_neg (by omega), if_pos (by omega)]; done)
      | (rw [if_neg (by omega), if_neg (by omega), if_pos (by omega)]; rw [if_pos (by omega)]; done)
      | (rw [if_neg (by omega), if_neg (by omega), if_pos (by omega)]; rw [if_neg (by omega)]; done)
      | (rw [if_neg (by omega), if_neg (by omega), if_neg (by omega), if_pos (by omega)]; done)
      | (rw [if_neg (by omega), if_neg (by omega), if_neg (by omega), if_pos (by omega)]; rw [if_pos (by omega)]; done)
      | (rw [if_neg (by omega), if_neg (by omega), if_neg (by omega), if_pos (by omega)]; rw [if_neg (by omega)]; done)
      | (rw [if_neg (by omega), if_neg (by omega), if_neg (by omega), if_neg (by omega), if_pos (by omega)]; done)
      | (rw [if_neg (by omega), if_neg (by omega), if_neg (by omega), if_neg (by omega), if_pos (by omega)]; rw [if_pos (by omega)]; done)
      | (rw [if_neg (by omega), if_neg (by omega), if_neg (by omega), if_neg (by omega), if_pos (by omega)]; rw [if_neg (by omega)]; done)
      | (rw [if_neg (by omega), if_neg (by omega), if_neg (by omega), if_neg (by omega), if_neg (by omega), if_pos (by omega)]; done)
      | (rw [if_neg (by omega), if_neg (by omega), if_neg (by omega), if_neg (by omega), if_neg (by omega), if_pos (by omega)]; rw [if_pos (by omega)]; done)
      | (rw [if_neg (by omega), if_neg (by omega), if_neg (by omega), if_neg (by omega), if_neg (by omega), if_pos (by omega)]; rw [if_neg (by omega)]; done)
      | (rw [if_neg (by omega), if_neg (by omega), if_neg (by omega), if_neg (by omega), if_neg (by omega), if_neg (by omega)]; done)
      | (rw [if_neg (by omega), if_neg (by omega), if_neg (by omega), if_neg (by omega), if_neg (by omega), if_neg (by omega)]; rw [if_pos (by omega)]; done)
      | (rw [if_neg (by omega), if_neg (by omega), if_neg (by omega), if_neg (by omega), if_neg (by omega), if_neg (by omega)]; rw [if_neg (by omega)]; done)
    · refine yi_D_if1 false rfl (yi_eq_f h9) ?_
      refine yi_D_run 1 (79, [(0, .inl x), (1, .inl y), (2, .inl z)], [.inl z], (I, L, R, Y), 0, 0) (fun _ => rfl) ?_
      by_cases h10 : z = 0
      · refine yi_D_if1 true rfl (yi_eq_t h10) ?_
        refine yi_D_run 1 (87, [(0, .inl x), (1, .inl y), (2, .inl z)], [.inl 0], (I, L, R, Y), 0, 0) (fun _ => rfl) ?_
        refine yi_D_reti rfl ?_
        refine congrArg (fun w => (some (Sum.inl w), (I, L, R, Y), 0, 0)) ?_
        unfold bo
        first
        | (rw [if_pos (by omega)]; done)
        | (rw [if_pos (by omega)]; rw [if_pos (by omega)]; done)
        | (rw [if_pos (by omega)]; rw [if_neg (by omega)]; done)
        | (rw [if_neg (by omega), if_pos (by omega)]; done)
        | (rw [if_neg (by omega), if_pos (by omega)]; rw [if_pos (by omega)]; done)
        | (rw [if_neg (by omega), if_pos (by omega)]; rw [if_neg (by omega)]; done)
        | (rw [if_neg (by omega), if_neg (by omega), if_pos (by omega)]; done)
        | (rw [if_neg (by omega), if_neg (by omega), if_pos (by omega)]; rw [if_pos (by omega)]; done)
        | (rw [if_neg (by omega), if_neg (by omega), if_pos (by omega)]; rw [if_neg (by omega)]; done)
        | (rw [if_neg (by omega), if_neg (by omega), if_neg (by omega), if_pos (by omega)]; done)
        | (rw [if_neg (by omega), if_neg (by omega), if_neg (by omega), if_pos (by omega)]; rw [if_pos (by omega)]; done)
        | (rw [if_neg (by omega), if_neg (by omega), if_neg (by omega), if_pos (by omega)]; rw [if_neg (by omega)]; done)
        | (rw [if_neg (by omega), if_neg (by omega), if_neg (by omega), if_neg (by omega), if_pos (by omega)]; done)
        | (rw [if_neg (by omega), if_neg (by omega), if_neg (by omega), if_neg (by omega), if_pos (by omega)]; rw [if_pos (by omega)]; done)
        | (rw [if_neg (by omega), if_neg (by omega), if_neg (by omega), if_neg (by omega), if_pos (by omega)]; rw [if_neg (by omega)]; done)
        | (rw [if_neg (by omega), if_neg (by omega), if_neg (by omega), if_neg (by omega), if_neg (by omega), if_pos (by omega)]; done)
        | (rw [if_neg (by omega), if_neg (by omega), if_neg (by omega), if_neg (by omega), if_neg (by omega), if_pos (by omega)]; rw [if_pos (by omega)]; done)
        | (rw [if_neg (by omega), if_neg (by omega), if_neg (by omega), if_neg (by omega), if_neg (by omega), if_pos (by omega)]; rw [if_neg (by omega)]; done)
        | (rw [if_neg (by omega), if_neg (by omega), if_neg (by omega), if_neg (by omega), if_neg (by omega), if_neg (by omega)]; done)
        | (rw [if_neg (by omega), if_neg (by omega), if_neg (by omega), if_neg (by omega), if_neg (by omega), if_neg (by omega)]; rw [if_pos (by omega)]; done)
        | (rw [if_neg (by omega), if_neg (by omega), if_neg (by omega), if_neg (by omega), if_neg (by omega), if_neg (by omega)]; rw [if_neg (by omega)]; done)
      · refine yi_D_if1 false rfl (yi_eq_f h10) ?_
        refine yi_D_run 2 (87, [(0, .inl x), (1, .inl y), (2, .inl z)], [.inl 1], (I, L, R, Y), 0, 0) (fun _ => rfl) ?_
        refine yi_D_reti rfl ?_
        refine congrArg (fun w => (some (Sum.inl w), (I, L, R, Y), 0, 0)) ?_
        unfold bo
        first
        | (rw [if_pos (by omega)]; done)
        | (rw [if_pos (by omega)]; rw [if_pos (by omega)]; done)
        | (rw [if_pos (by omega)]; rw [if_neg (by omega)]; done)
        | (rw [if_neg (by omega), if_pos (by omega)]; done)
        | (rw [if_neg (by omega), if_pos (by omega)]; rw [if_pos (by omega)]; done)
        | (rw [if_neg (by omega), if_pos (by omega)]; rw [if_neg (by omega)]; done)
        | (rw [if_neg (by omega), if_neg (by omega), if_pos (by omega)]; done)
        | (rw [if_neg (by omega), if_neg (by omega), if_pos (by omega)]; rw [if_pos (by omega)]; done)
        | (rw [if_neg (by omega), if_neg (by omega), if_pos (by omega)]; rw [if_neg (by omega)]; done)
        | (rw [if_neg (by omega), if_neg (by omega), if_neg (by omega), if_pos (by omega)]; done)
        | (rw [if_neg (by omega), if_neg (by omega), if_neg (by omega), if_pos (by omega)]; rw [if_pos (by omega)]; done)
        | (rw [if_neg (by omega), if_neg (by omega), if_neg (by omega), if_pos (by omega)]; rw [if_neg (by omega)]; done)
        | (rw [if_neg (by omega), if_neg (by omega), if_neg (by omega), if_neg (by omega), if_pos (by omega)]; done)
        | (rw [if_neg (by omega), if_neg (by omega), if_neg (by omega), if_neg (by omega), if_pos (by omega)]; rw [if_pos (by omega)]; done)
        | (rw [if_neg (by omega), if_neg (by omega), if_neg (by omega), if_neg (by omega), if_pos (by omega)]; rw [if_neg (by omega)]; done)
        | (rw [if_neg (by omega), if_neg (by omega), if_neg (by omega), if_neg (by omega), if_neg (by omega), if_pos (by omega)]; done)
        | (rw [if_neg (by omega), if_neg (by omega), if_neg (by omega), if_neg (by omega), if_neg (by omega), if_pos (by omega)]; rw [if_pos (by omega)]; done)
        | (rw [if_neg (by omega), if_neg (by omega), if_neg (by omega), if_neg (by omega), if_neg (by omega), if_pos (by omega)]; rw [if_neg (by omega)]; done)
        | (rw [if_neg (by omega), if_neg (by omega), if_neg (by omega), if_neg (by omega), if_neg (by omega), if_neg (by omega)]; done)
        | (rw [if_neg (by omega), if_neg (by omega), if_neg (by omega), if_neg (by omega), if_neg (by omega), if_neg (by omega)]; rw [if_pos (by omega)]; done)
        | (rw [if_neg (by omega), if_neg (by omega), if_neg (by omega), if_neg (by omega), if_neg (by omega), if_neg (by omega)]; rw [if_neg (by omega)]; done)
  refine yi_D_tso rfl (by omega) ?_
  refine yi_D_run 1 (89, [(0, .inl x), (1, .inl y), (2, .inl z)], [.inl y], (I, L, R, Y), 0, 0) (fun _ => rfl) ?_
  by_cases h11 : y = 0
  · refine yi_D_if1 false rfl (yi_ne_f h11) ?_
    refine yi_D_run 1 (93, [(0, .inl x), (1, .inl y), (2, .inl z)], [.inl z], (I, L, R, Y), 0, 0) (fun _ => rfl) ?_
    by_cases h12 : z = 0
    · refine yi_D_if1 true rfl (yi_eq_t h12) ?_
      refine yi_D_run 1 (101, [(0, .inl x), (1, .inl y), (2, .inl z)], [.inl 0], (I, L, R, Y), 0, 0) (fun _ => rfl) ?_
      refine yi_D_reti rfl ?_
      refine congrArg (fun w => (some (Sum.inl w), (I, L, R, Y), 0, 0)) ?_
      unfold bo
      first
      | (rw [if_pos (by omega)]; done)
      | (rw [if_pos (by omega)]; rw [if_pos (by omega)]; done)
      | (rw [if_pos (by omega)]; rw [if_neg (by omega)]; done)
      | (rw [if_neg (by omega), if_pos (by omega)]; done)
      | (rw [if_neg (by omega), if_pos (by omega)]; rw [if_pos (by omega)]; done)
      | (rw [if_neg (by omega), if_pos (by omega)]; rw [if_neg (by omega)]; done)
      | (rw [if_neg (by omega), if_neg (by omega), if_pos (by omega)]; done)
      | (rw [if_neg (by omega), if_neg (by omega), if_pos (by omega)]; rw [if_pos (by omega)]; done)
      | (rw [if_neg (by omega), if_neg (by omega), if_pos (by omega)]; rw [if_neg (by omega)]; done)
      | (rw [if_neg (by omega), if_neg (by omega), if_neg (by omega), if_pos (by omega)]; done)
      | (rw [if_neg (by omega), if_neg (by omega), if_neg (by omega), if_pos (by omega)]; rw [if_pos (by omega)]; done)
      | (rw [if_neg (by omega), if_neg (by omega), if_neg (by omega), if_pos (by omega)]; rw [if_neg (by omega)]; done)
      | (rw [if_neg (by omega), if_neg (by omega), if_neg (by omega), if_neg (by omega), if_pos (by omega)]; done)
      | (rw [if_neg (by omega), if_neg (by omega), if_neg (by omega), if_neg (by omega), if_pos (by omega)]; rw [if_pos (by omega)]; done)
      | (rw [if_neg (by omega), if_neg (by omega), if_neg (by omega), if_neg (by omega), if_pos (by omega)]; rw [if_neg (by omega)]; done)
      | (rw [if_neg (by omega), if_neg (by omega), if_neg (by omega), if_neg (by omega), if_neg (by omega), if_pos (by omega)]; done)
      | (rw [if_neg (by omega), if_neg (by omega), if_neg (by omega), if_neg (by omega), if_neg (by omega), if_pos (by omega)]; rw [if_pos (by omega)]; done)
      | (rw [if_neg (by omega), if_neg (by omega), if_neg (by omega), if_neg (by omega), if_neg (by omega), if_pos (by omega)]; rw [if_neg (by omega)]; done)
      | (rw [if_neg (by omega), if_neg (by omega), if_neg (by omega), if_neg (by omega), if_neg (by omega), if_neg (by omega)]; done)
      | (rw [if_neg (by omega), if_neg (by omega), if_neg (by omega), if_neg (by omega), if_neg (by omega), if_neg (by omega)]; rw [if_pos (by omega)]; done)
      | (rw [if_neg (by omega), if_neg (by omega), if_neg (by omega), if_neg (by omega), if_neg (by omega), if_neg (by omega)]; rw [if_neg (by omega)]; done)
    · refine yi_D_if1 false rfl (yi_eq_f h12) ?_
      refine yi_D_run 2 (101, [(0, .inl x), (1, .inl y), (2, .inl z)], [.inl 1], (I, L, R, Y), 0, 0) (fun _ => rfl) ?_
      refine yi_D_reti rfl ?_
      refine congrArg (fun w => (some (Sum.inl w), (I, L, R, Y), 0, 0)) ?_
      unfold bo
      first
      | (rw [if_pos (by omega)]; done)
      | (rw [if_pos (by omega)]; rw [if_pos (by omega)]; done)
      | (rw [if_pos (by omega)]; rw [if_neg (by omega)]; done)
      | (rw [if_neg (by omega), if_pos (by omega)]; done)
      | (rw [if_neg (by omega), if_pos (by omega)]; rw [if_pos (by omega)]; done)
      | (rw [if_neg (by omega), if_pos (by omega)]; rw [if_neg (by omega)]; done)
      | (rw [if_neg (by omega), if_neg (by omega), if_pos (by omega)]; done)
      | (rw [if_neg (by omega), if_neg (by omega), if_pos (by omega)]; rw [if_pos (by omega)]; done)
      | (rw [if_neg (by omega), if_neg (by omega), if_pos (by omega)]; rw [if_neg (by omega)]; done)
      | (rw [if_neg (by omega), if_neg (by omega), if_neg (by omega), if_pos (by omega)]; done)
      | (rw [if_neg (by omega), if_neg (by omega), if_neg (by omega), if_pos (by omega)]; rw [if_pos (by omega)]; done)
      | (rw [if_neg (by omega), if_neg (by omega), if_neg (by omega), if_pos (by omega)]; rw [if_neg (by omega)]; done)
      | (rw [if_neg (by omega), if_neg (by omega), if_neg (by omega), if_neg (by omega), if_pos (by omega)]; done)
      | (rw [if_neg (by omega), if_neg (by omega), if_neg (by omega), if_neg (by omega), if_pos (by omega)]; rw [if_pos (by omega)]; done)
      | (rw [if_neg (by omega), if_neg (by omega), if_neg (by omega), if_neg (by omega), if_pos (by omega)]; rw [if_neg (by omega)]; done)
      | (rw [if_neg (by omega), if_neg (by omega), if_neg (by omega), if_neg (by omega), if_neg (by omega), if_pos (by omega)]; done)
      | (rw [if_neg (by omega), if_neg (by omega), if_neg (by omega), if_neg (by omega), if_neg (by omega), if_pos (by omega)]; rw [if_pos (by omega)]; done)
      | (rw [if_neg (by omega), if_neg (by omega), if_neg (by omega), if_neg (by omega), if_neg (by omega), if_pos (by omega)]; rw [if_neg (by omega)]; done)
      | (rw [if_neg (by omega), if_neg (by omega), if_neg (by omega), if_neg (by omega), if_neg (by omega), if_neg (by omega)]; done)
      | (rw [if_neg (by omega), if_neg (by omega), if_neg (by omega), if_neg (by omega), if_neg (by omega), if_neg (by omega)]; rw [if_pos (by omega)]; done)
      | (rw [if_neg (by omega), if_neg (by omega), if_neg (by omega), if_neg (by omega), if_neg (by omega), if_neg (by omega)]; rw [if_neg (by omega)]; done)
  · refine yi_D_if1 true rfl (yi_ne_t h11) ?_
    refine yi_D_run 2 (101, [(0, .inl x), (1, .inl y), (2, .inl z)], [.inl 1], (I, L, R, Y), 0, 0) (fun _ => rfl) ?_
    refine yi_D_reti rfl ?_
    refine congrArg (fun w => (some (Sum.inl w), (I, L, R, Y), 0, 0)) ?_
    unfold bo
    first
    | (rw [if_pos (by omega)]; done)
    | (rw [if_pos (by omega)]; rw [if_pos (by omega)]; done)
    | (rw [if_pos (by omega)]; rw [if_neg (by omega)]; done)
    | (rw [if_neg (by omega), if_pos (by omega)]; done)
    | (rw [if_neg (by omega), if_pos (by omega)]; rw [if_pos (by omega)]; done)
    | (rw [if_neg (by omega), if_pos (by omega)]; rw [if_neg (by omega)]; done)
    | (rw [if_neg (by omega), if_neg (by omega), if_pos (by omega)]; done)
    | (rw [if_neg (by omega), if_neg (by omega), if_pos (by omega)]; rw [if_pos (by omega)]; done)
    | (rw [if_neg (by omega), if_neg (by omega), if_pos (by omega)]; rw [if_neg (by omega)]; done)
    | (rw [if_neg (by omega), if_neg (by omega), if_neg (by omega), if_pos (by omega)]; done)
    | (rw [if_neg (by omega), if_neg (by omega), if_neg (by omega), if_pos (by omega)]; rw [if_pos (by omega)]; done)
    | (rw [if_neg (by omega), if_neg (by omega), if_neg (by omega), if_pos (by omega)]; rw [if_neg (by omega)]; done)
    | (rw [if_neg (by omega), if_neg (by omega), if_neg (by omega), if_neg (by omega), if_pos (by omega)]; done)
    | (rw [if_neg (by omega), if_neg (by omega), if_neg (by omega), if_neg (by omega), if_pos (by omega)]; rw [if_pos (by omega)]; done)
    | (rw [if_neg (by omega), if_neg (by omega), if_neg (by omega), if_neg (by omega), if_pos (by omega)]; rw [if_neg (by omega)]; done)
    | (rw [if_neg (by omega), if_neg (by omega), if_neg (by omega), if_neg (by omega), if_neg (by omega), if_pos (by omega)]; done)
    | (rw [if_neg (by omega), if_neg (by omega), if_neg (by omega), if_neg (by omega), if_neg (by omega), if_pos (by omega)]; rw [if_pos (by omega)]; done)
    | (rw [if_neg (by omega), if_neg (by omega), if_neg (by omega), if_neg (by omega), if_neg (by omega), if_pos (by omega)]; rw [if_neg (by omega)]; done)
    | (rw [if_neg (by omega), if_neg (by omega), if_neg (by omega), if_neg (by omega), if_neg (by omega), if_neg (by omega)]; done)
    | (rw [if_neg (by omega), if_neg (by omega), if_neg (by omega), if_neg (by omega), if_neg (by omega), if_neg (by omega)]; rw [if_pos (by omega)]; done)
    | (rw [if_neg (by omega), if_neg (by omega), if_neg (by omega), if_neg (by omega), if_neg (by omega), if_neg (by omega)]; rw [if_neg (by omega)]; done)
theorem q_worthAt {d : Nat} {I L : Nat → Nat → Int} {R : Nat → Nat → Option Nat} {Y : (Nat → Nat) × (Nat → Nat) × Nat} (hS : ym_S (R, Y)) {pe ev da fr N : Nat} {v : Int} {fa : Nat → Int} {hcl : Int → Bool} {sk : Nat → List Int} (hda : I 88 0 = (da : Int)) (hpe : I 88 1 = (pe : Int)) (hev : I 88 2 = (ev : Int)) (bld : da ≤ 6 ∧ pe ≤ 4 ∧ ev ≤ 4) (hfa : ∀ j, j < 3 → I 95 j = fa j) (hp : pgS I pe ev da (¬ I 82 28 = 0) (I 99) fa hcl fr N sk v) : yi_P zi_Ms d 135 [.inr (.inr (some 82)), .inl (fr : Int)] (I, L, R, Y) (fun r => ∃ I', r = (some (.inl v), (I', L, R, Y), 0, 0) ∧ ∀ p k, ¬ p = 96 → I' p k = I p k) := by
  refine yi_P_of (M := zi_m135) rfl (fun d k => ?_)
  have hpN := hp.1
  show yi_D zi_Ms d zi_m135 k (0, [(0, .inr (.inr (some 82))), (1, .inl (fr : Int))], [], (I, L, R, Y), 0, 0) _
  refine yi_D_run 4 (4, [(3, .inl (fr : Int)), (2, .inl 0), (0, .inr (.inr (some 82))), (1, .inl (fr : Int))], [], (I, L, R, Y), 0, 0) (fun _ => rfl) ?_
  have pt4 : ∀ j4, j4 ≤ k → ∀ (y3 : Int) (y2 : Int) (z4 : Int) (J1 : Nat → Nat → Int), ((fr : Int) ≤ y3 ∧ y3 ≤ fr + N) → (y2 = ((sk (y3 - fr).toNat).length : Int)) → (pl J1 (sk (y3 - fr).toNat)) → (∀ p k, ¬ p = 96 → J1 p k = I p k) → yi_D zi_Ms d zi_m135 j4 (4, [(3, .inl y3), (2, .inl y2), (0, .inr (.inr (some 82))), (1, .inl (fr : Int)), (4, .inl z4)], [], (J1, L, R, Y), 0, 0) (fun r => ∃ I', r = (some (.inl v), (I', L, R, Y), 0, 0) ∧ ∀ p k, ¬ p = 96 → I' p k = I p k) := by
    intro j4
    induction j4 with
    | zero => intros; exact yi_D_0
    | succ j4 ih4 =>
    intro hk4 y3 y2 z4 J1 hy3 htop hpl hJ
    have hk0 : y3.toNat = fr + (y3 - fr).toNat := by omega
    obtain ⟨cc, hcc⟩ : ∃ z, z = I 89 (fr + (y3 - fr).toNat) := ⟨_, rfl⟩
    obtain ⟨aa, haa⟩ : ∃ z, z = I 90 (fr + (y3 - fr).toNat) := ⟨_, rfl⟩
    have hcr : J1 89 (y3.toNat) = cc := by rw [hJ 89 _ (by omega), hk0, hcc]
    have har : J1 90 (y3.toNat) = aa := by rw [hJ 90 _ (by omega), hk0, haa]
    have hln := pgS_len hp (y3 - fr).toNat (by omega)
    refine yi_D_run1 0 (5, [(3, .inl y3), (2, .inl y2), (0, .inr (.inr (some 82))), (1, .inl (fr : Int)), (4, .inl z4)], [.inr (.inr (some 82))], (J1, L, R, Y), 0, 0) (fun _ => rfl) ?_
    refine yi_D_gr (v := some 89) rfl rfl rfl (ym_S_at hS (j := 6) rfl).1 (fun _ => ?_)
    refine yi_D_run 1 (9, [(3, .inl y3), (2, .inl y2), (0, .inr (.inr (some 82))), (1, .inl (fr : Int)), (4, .inl z4)], [.inl y3, .inr (.inr (some 89))], (J1, L, R, Y), 0, 0) (fun _ => rfl) ?_
    refine yi_D_il (v := cc) rfl rfl hcr (fun _ _ => ?_)
    by_cases h1 : cc = 0
    · refine yi_D_if1 true rfl (yi_eq_t h1) ?_
      refine yi_D_run 1 (178, [(3, .inl y3), (2, .inl y2), (0, .inr (.inr (some 82))), (1, .inl (fr : Int)), (4, .inl z4)], [.inr (.inr (some 82))], (J1, L, R, Y), 0, 0) (fun _ => rfl) ?_
      refine yi_D_gr (v := some 96) rfl rfl rfl (ym_S_at hS (j := 13) rfl).1 (fun _ => ?_)
      refine yi_D_run 1 (182, [(3, .inl y3), (2, .inl y2), (0, .inr (.inr (some 82))), (1, .inl (fr : Int)), (4, .inl z4)], [.inl 0, .inr (.inr (some 96))], (J1, L, R, Y), 0, 0) (fun _ => rfl) ?_
      refine yi_D_il (v := J1 96 0) rfl rfl rfl (fun _ _ => ?_)
      refine yi_D_reti rfl ?_
      have hkN : (y3 - fr).toNat = N := by
        by_cases e : (y3 - fr).toNat = N
        · exact e
        · have z := (hp.2.1 (y3 - fr).toNat (by omega)).1
          omega
      rw [hkN, hp.2.2.2.2] at hpl
      exact ⟨_, by rw [show J1 96 0 = v from hpl.1], hJ⟩
    · refine yi_D_if1 false rfl (yi_eq_f h1) ?_
      have hkN : (y3 - fr).toNat < N := by
        by_cases e : (y3 - fr).toNat = N
        · exfalso
          have z := hp.2.2.1
          rw [← e] at z
          omega
        · omega
      obtain ⟨o1, o3, o4, o5⟩ := hp.2.1 _ hkN
      rw [← hcc] at o1 o3 o4 o5
      rw [← haa] at o3 o4 o5
      refine yi_D_run 1 (14, [(3, .inl y3), (2, .inl y2), (0, .inr (.inr (some 82))), (1, .inl (fr : Int)), (4, .inl z4)], [.inr (.inr (some 82))], (J1, L, R, Y), 0, 0) (fun _ => rfl) ?_
      refine yi_D_gr (v := some 89) rfl rfl rfl (ym_S_at hS (j := 6) rfl).1 (fun _ => ?_)
      refine yi_D_run 1 (18, [(3, .inl y3), (2, .inl y2), (0, .inr (.inr (some 82))), (1, .inl (fr : Int)), (4, .inl z4)], [.inl y3, .inr (.inr (some 89))], (J1, L, R, Y), 0, 0) (fun _ => rfl) ?_
      refine yi_D_il (v := cc) rfl rfl hcr (fun _ _ => ?_)
      refine yi_D_run 3 (24, [(4, .inl cc), (3, .inl y3), (2, .inl y2), (0, .inr (.inr (some 82))), (1, .inl (fr : Int))], [.inl 1, .inl cc], (J1, L, R, Y), 0, 0) (fun _ => rfl) ?_
      by_cases h2 : cc = 1
      · refine yi_D_if2 true rfl (yi_eq_t h2) ?_
        refine yi_D_run 1 (34, [(4, .inl cc), (3, .inl y3), (2, .inl y2), (0, .inr (.inr (some 82))), (1, .inl (fr : Int))], [.inr (.inr (some 82))], (J1, L, R, Y), 0, 0) (fun _ => rfl) ?_
        refine yi_D_gr (v := some 96) rfl rfl rfl (ym_S_at hS (j := 13) rfl).1 (fun _ => ?_)
        refine yi_D_run 3 (41, [(4, .inl cc), (3, .inl y3), (2, .inl y2), (0, .inr (.inr (some 82))), (1, .inl (fr : Int))], [.inl 1, .inl cc, .inl y2, .inr (.inr (some 96))], (J1, L, R, Y), 0, 0) (fun _ => rfl) ?_
        have h3 : cc = 1 := by omega
        refine yi_D_if2 false rfl (yi_ne_f h3) ?_
        refine yi_D_run 1 (45, [(4, .inl cc), (3, .inl y3), (2, .inl y2), (0, .inr (.inr (some 82))), (1, .inl (fr : Int))], [.inr (.inr (some 82)), .inl y2, .inr (.inr (some 96))], (J1, L, R, Y), 0, 0) (fun _ => rfl) ?_
        refine yi_D_gr (v := some 90) rfl rfl rfl (ym_S_at hS (j := 7) rfl).1 (fun _ => ?_)
        refine yi_D_run 1 (49, [(4, .inl cc), (3, .inl y3), (2, .inl y2), (0, .inr (.inr (some 82))), (1, .inl (fr : Int))], [.inl y3, .inr (.inr (some 90)), .inl y2, .inr (.inr (some 96))], (J1, L, R, Y), 0, 0) (fun _ => rfl) ?_
        refine yi_D_il (v := aa) rfl rfl har (fun _ _ => ?_)
        refine yi_D_run 1 (64, [(4, .inl cc), (3, .inl y3), (2, .inl y2), (0, .inr (.inr (some 82))), (1, .inl (fr : Int))], [.inl aa, .inl y2, .inr (.inr (some 96))], (J1, L, R, Y), 0, 0) (fun _ => rfl) ?_
        have hs := stp_1 o3 (by omega)
        refine yi_D_is rfl (fun _ _ => ?_)
        generalize w5 : yi_u J1 96 (y2.toNat) aa = I4
        refine yi_D_iinc [(2, .inl (y2 + 1)), (4, .inl cc), (3, .inl y3), (0, .inr (.inr (some 82))), (1, .inl (fr : Int))] rfl rfl rfl (by rw [show yi_w (y2 + 1) = y2 + 1 from (yi_wn (by omega) (by omega)).trans (by omega)]; rfl) ?_
        refine yi_D_run 1 (171, [(2, .inl (y2 + 1)), (4, .inl cc), (3, .inl y3), (0, .inr (.inr (some 82))), (1, .inl (fr : Int))], [], (I4, L, R, Y), 0, 0) (fun _ => rfl) ?_
        refine yi_D_iinc [(3, .inl (y3 + 1)), (2, .inl (y2 + 1)), (4, .inl cc), (0, .inr (.inr (some 82))), (1, .inl (fr : Int))] rfl rfl rfl (by rw [show yi_w (y3 + 1) = y3 + 1 from (yi_wn (by omega) (by omega)).trans (by omega)]; rfl) ?_
        refine yi_D_run 1 (4, [(3, .inl (y3 + 1)), (2, .inl (y2 + 1)), (4, .inl cc), (0, .inr (.inr (some 82))), (1, .inl (fr : Int))], [], (I4, L, R, Y), 0, 0) (fun _ => rfl) ?_
        refine yi_D_al (al := [(3, .inl (y3 + 1)), (2, .inl (y2 + 1)), (0, .inr (.inr (some 82))), (1, .inl (fr : Int)), (4, .inl cc)]) (show ([3, 2, 0, 1, 4] : List Nat).Nodup by decide) (show ([3, 2, 4, 0, 1] : List Nat).Nodup by decide) (yi_mc (List.mem_of_getElem? (i := 0) rfl) (yi_mc (List.mem_of_getElem? (i := 1) rfl) (yi_mc (List.mem_of_getElem? (i := 4) rfl) (yi_mc (List.mem_of_getElem? (i := 2) rfl) (yi_mc (List.mem_of_getElem? (i := 3) rfl) yi_mn))))) ?_
        exact yi_D_mono (ih4 (by omega) (y3 + 1) (y2 + 1) cc I4 (by omega) (by rw [show (y3 + 1 - fr).toNat = (y3 - fr).toNat + 1 by omega, hs, List.length_cons]; omega) (by rw [show (y3 + 1 - fr).toNat = (y3 - fr).toNat + 1 by omega, hs]; exact ⟨by rw [← w5, show (sk (y3 - fr).toNat).length = y2.toNat by omega, yi_u_eq], pl_t _ hpl (fun k hk => by rw [← w5, yi_u_ne _ _ (by omega)])⟩) (fun p k h => by rw [← w5, yi_u_ne _ _ (by omega)]; exact hJ p k h)) (by omega)
      · refine yi_D_if2 false rfl (yi_eq_f h2) ?_
        refine yi_D_run 2 (30, [(4, .inl cc), (3, .inl y3), (2, .inl y2), (0, .inr (.inr (some 82))), (1, .inl (fr : Int))], [.inl 2, .inl cc], (J1, L, R, Y), 0, 0) (fun _ => rfl) ?_
        by_cases h6 : cc = 2
        · refine yi_D_if2 false rfl (yi_ne_f h6) ?_
          refine yi_D_run 1 (34, [(4, .inl cc), (3, .inl y3), (2, .inl y2), (0, .inr (.inr (some 82))), (1, .inl (fr : Int))], [.inr (.inr (some 82))], (J1, L, R, Y), 0, 0) (fun _ => rfl) ?_
          refine yi_D_gr (v := some 96) rfl rfl rfl (ym_S_at hS (j := 13) rfl).1 (fun _ => ?_)
          refine yi_D_run 3 (41, [(4, .inl cc), (3, .inl y3), (2, .inl y2), (0, .inr (.inr (some 82))), (1, .inl (fr : Int))], [.inl 1, .inl cc, .inl y2, .inr (.inr (some 96))], (J1, L, R, Y), 0, 0) (fun _ => rfl) ?_
          have h7 : ¬ (cc = 1) := by omega
          refine yi_D_if2 true rfl (yi_ne_t h7) ?_
          refine yi_D_run 1 (54, [(4, .inl cc), (3, .inl y3), (2, .inl y2), (0, .inr (.inr (some 82))), (1, .inl (fr : Int))], [.inr (.inr (some 82)), .inl y2, .inr (.inr (some 96))], (J1, L, R, Y), 0, 0) (fun _ => rfl) ?_
          refine yi_D_gr (v := some 95) rfl rfl rfl (ym_S_at hS (j := 12) rfl).1 (fun _ => ?_)
          refine yi_D_run 1 (58, [(4, .inl cc), (3, .inl y3), (2, .inl y2), (0, .inr (.inr (some 82))), (1, .inl (fr : Int))], [.inr (.inr (some 82)), .inr (.inr (some 95)), .inl y2, .inr (.inr (some 96))], (J1, L, R, Y), 0, 0) (fun _ => rfl) ?_
          refine yi_D_gr (v := some 90) rfl rfl rfl (ym_S_at hS (j := 7) rfl).1 (fun _ => ?_)
          refine yi_D_run 1 (62, [(4, .inl cc), (3, .inl y3), (2, .inl y2), (0, .inr (.inr (some 82))), (1, .inl (fr : Int))], [.inl y3, .inr (.inr (some 90)), .inr (.inr (some 95)), .inl y2, .inr (.inr (some 96))], (J1, L, R, Y), 0, 0) (fun _ => rfl) ?_
          refine yi_D_il (v := aa) rfl rfl har (fun _ _ => ?_)
          have o6 := o4 (by omega)
          have hfr : J1 95 (aa.toNat) = fa aa.toNat := (hJ 95 _ (by omega)).trans (hfa _ (by omega))
          refine yi_D_il (v := fa aa.toNat) rfl rfl hfr (fun _ _ => ?_)
          have hs := stp_2 o3 (by omega)
          refine yi_D_is rfl (fun _ _ => ?_)
          generalize w9 : yi_u J1 96 (y2.toNat) (fa aa.toNat) = I8
          refine yi_D_iinc [(2, .inl (y2 + 1)), (4, .inl cc), (3, .inl y3), (0, .inr (.inr (some 82))), (1, .inl (fr : Int))] rfl rfl rfl (by rw [show yi_w (y2 + 1) = y2 + 1 from (yi_wn (by omega) (by omega)).trans (by omega)]; rfl) ?_
          refine yi_D_run 1 (171, [(2, .inl (y2 + 1)), (4, .inl cc), (3, .inl y3), (0, .inr (.inr (some 82))), (1, .inl (fr : Int))], [], (I8, L, R, Y), 0, 0) (fun _ => rfl) ?_
          refine yi_D_iinc [(3, .inl (y3 + 1)), (2, .inl (y2 + 1)), (4, .inl cc), (0, .inr (.inr (some 82))), (1, .inl (fr : Int))] rfl rfl rfl (by rw [show yi_w (y3 + 1) = y3 + 1 from (yi_wn (by omega) (by omega)).trans (by omega)]; rfl) ?_
          refine yi_D_run 1 (4, [(3, .inl (y3 + 1)), (2, .inl (y2 + 1)), (4, .inl cc), (0, .inr (.inr (some 82))), (1, .inl (fr : Int))], [], (I8, L, R, Y), 0, 0) (fun _ => rfl) ?_
          refine yi_D_al (al := [(3, .inl (y3 + 1)), (2, .inl (y2 + 1)), (0, .inr (.inr (some 82))), (1, .inl (fr : Int)), (4, .inl cc)]) (show ([3, 2, 0, 1, 4] : List Nat).Nodup by decide) (show ([3, 2, 4, 0, 1] : List Nat).Nodup by decide) (yi_mc (List.mem_of_getElem? (i := 0) rfl) (yi_mc (List.mem_of_getElem? (i := 1) rfl) (yi_mc (List.mem_of_getElem? (i := 4) rfl) (yi_mc (List.mem_of_getElem? (i := 2) rfl) (yi_mc (List.mem_of_getElem? (i := 3) rfl) yi_mn))))) ?_
          exact yi_D_mono (ih4 (by omega) (y3 + 1) (y2 + 1) cc I8 (by omega) (by rw [show (y3 + 1 - fr).toNat = (y3 - fr).toNat + 1 by omega, hs, List.length_cons]; omega) (by rw [show (y3 + 1 - fr).toNat = (y3 - fr).toNat + 1 by omega, hs]; exact ⟨by rw [← w9, show (sk (y3 - fr).toNat).length = y2.toNat by omega, yi_u_eq], pl_t _ hpl (fun k hk => by rw [← w9, yi_u_ne _ _ (by omega)])⟩) (fun p k h => by rw [← w9, yi_u_ne _ _ (by omega)]; exact hJ p k h)) (by omega)
        · refine yi_D_if2 true rfl (yi_ne_t h6) ?_
          refine yi_D_run 2 (75, [(4, .inl cc), (3, .inl y3), (2, .inl y2), (0, .inr (.inr (some 82))), (1, .inl (fr : Int))], [.inl 11, .inl cc], (J1, L, R, Y), 0, 0) (fun _ => rfl) ?_
          by_cases h10 : cc = 11
          · refine yi_D_if2 false rfl (yi_ne_f h10) ?_
            refine yi_D_run 1 (79, [(4, .inl cc), (3, .inl y3), (2, .inl y2), (0, .inr (.inr (some 82))), (1, .inl (fr : Int))], [.inr (.inr (some 82))], (J1, L, R, Y), 0, 0) (fun _ => rfl) ?_
            refine yi_D_gr (v := some 96) rfl rfl rfl (ym_S_at hS (j := 13) rfl).1 (fun _ => ?_)
            refine yi_D_run 3 (85, [(4, .inl cc), (3, .inl y3), (2, .inl y2), (0, .inr (.inr (some 82))), (1, .inl (fr : Int))], [.inr (.inr (some 82)), .inr (.inr (some 82)), .inl y2, .inr (.inr (some 96))], (J1, L, R, Y), 0, 0) (fun _ => rfl) ?_
            refine yi_D_gr (v := some 90) rfl rfl rfl (ym_S_at hS (j := 7) rfl).1 (fun _ => ?_)
            refine yi_D_run 1 (89, [(4, .inl cc), (3, .inl y3), (2, .inl y2), (0, .inr (.inr (some 82))), (1, .inl (fr : Int))], [.inl y3, .inr (.inr (some 90)), .inr (.inr (some 82)), .inl y2, .inr (.inr (some 96))], (J1, L, R, Y), 0, 0) (fun _ => rfl) ?_
            refine yi_D_il (v := aa) rfl rfl har (fun _ _ => ?_)
            obtain ⟨who, e, wh, n, q1, ⟨q2, q3, q4, q5, q6, q7⟩, q8⟩ := o5 (by omega)
            have h99 : J1 99 = I 99 := funext (fun k => hJ 99 k (by omega))
            have h28 : J1 82 28 = I 82 28 := hJ 82 28 (by omega)
            refine yi_D_callv rfl (q_holdsClause (who := who) (e := e) (wh := wh) (n := n) hS ((hJ 88 0 (by omega)).trans hda) ((hJ 88 1 (by omega)).trans hpe) ((hJ 88 2 (by omega)).trans hev) bld q1 q2 q3 q4 q5 q6 q7) ?_
            rintro _ (⟨hb11, rfl⟩ | ⟨hb12, rfl⟩)
            · simp only [h99, h28] at hb11
              rw [← q8] at hb11
              have hs := stp_c o3 (by omega)
              rw [if_pos hb11] at hs
              show yi_D zi_Ms d zi_m135 j4 (93, [(4, .inl cc), (3, .inl y3), (2, .inl y2), (0, .inr (.inr (some 82))), (1, .inl (fr : Int))], [.inl 1, .inl y2, .inr (.inr (some 96))], (J1, L, R, Y), 0, 0) _
              refine yi_D_if1 false rfl (by decide) ?_
              refine yi_D_run 2 (101, [(4, .inl cc), (3, .inl y3), (2, .inl y2), (0, .inr (.inr (some 82))), (1, .inl (fr : Int))], [.inl 1, .inl y2, .inr (.inr (some 96))], (J1, L, R, Y), 0, 0) (fun _ => rfl) ?_
              refine yi_D_is rfl (fun _ _ => ?_)
              generalize w14 : yi_u J1 96 (y2.toNat) 1 = I13
              refine yi_D_iinc [(2, .inl (y2 + 1)), (4, .inl cc), (3, .inl y3), (0, .inr (.inr (some 82))), (1, .inl (fr : Int))] rfl rfl rfl (by rw [show yi_w (y2 + 1) = y2 + 1 from (yi_wn (by omega) (by omega)).trans (by omega)]; rfl) ?_
              refine yi_D_run 1 (171, [(2, .inl (y2 + 1)), (4, .inl cc), (3, .inl y3), (0, .inr (.inr (some 82))), (1, .inl (fr : Int))], [], (I13, L, R, Y), 0, 0) (fun _ => rfl) ?_
              refine yi_D_iinc [(3, .inl (y3 + 1)), (2, .inl (y2 + 1)), (4, .inl cc), (0, .inr (.inr (some 82))), (1, .inl (fr : Int))] rfl rfl rfl (by rw [show yi_w (y3 + 1) = y3 + 1 from (yi_wn (by omega) (by omega)).trans (by omega)]; rfl) ?_
              refine yi_D_run 1 (4, [(3, .inl (y3 + 1)), (2, .inl (y2 + 1)), (4, .inl cc), (0, .inr (.inr (some 82))), (1, .inl (fr : Int))], [], (I13, L, R, Y), 0, 0) (fun _ => rfl) ?_
              refine yi_D_al (al := [(3, .inl (y3 + 1)), (2, .inl (y2 + 1)), (0, .inr (.inr (some 82))), (1, .inl (fr : Int)), (4, .inl cc)]) (show ([3, 2, 0, 1, 4] : List Nat).Nodup by decide) (show ([3, 2, 4, 0, 1] : List Nat).Nodup by decide) (yi_mc (List.mem_of_getElem? (i := 0) rfl) (yi_mc (List.mem_of_getElem? (i := 1) rfl) (yi_mc (List.mem_of_getElem? (i := 4) rfl) (yi_mc (List.mem_of_getElem? (i := 2) rfl) (yi_mc (List.mem_of_getElem? (i := 3) rfl) yi_mn))))) ?_
              exact yi_D_mono (ih4 (by omega) (y3 + 1) (y2 + 1) cc I13 (by omega) (by rw [show (y3 + 1 - fr).toNat = (y3 - fr).toNat + 1 by omega, hs, List.length_cons]; omega) (by rw [show (y3 + 1 - fr).toNat = (y3 - fr).toNat + 1 by omega, hs]; exact ⟨by rw [← w14, show (sk (y3 - fr).toNat).length = y2.toNat by omega, yi_u_eq], pl_t _ hpl (fun k hk => by rw [← w14, yi_u_ne _ _ (by omega)])⟩) (fun p k h => by rw [← w14, yi_u_ne _ _ (by omega)]; exact hJ p k h)) (by omega)
            · simp only [h99, h28] at hb12
              rw [← q8] at hb12
              have hs := stp_c o3 (by omega)
              rw [if_neg hb12] at hs
              show yi_D zi_Ms d zi_m135 j4 (93, [(4, .inl cc), (3, .inl y3), (2, .inl y2), (0, .inr (.inr (some 82))), (1, .inl (fr : Int))], [.inl 0, .inl y2, .inr (.inr (some 96))], (J1, L, R, Y), 0, 0) _
              refine yi_D_if1 true rfl (by decide) ?_
              refine yi_D_run 1 (101, [(4, .inl cc), (3, .inl y3), (2, .inl y2), (0, .inr (.inr (some 82))), (1, .inl (fr : Int))], [.inl 0, .inl y2, .inr (.inr (some 96))], (J1, L, R, Y), 0, 0) (fun _ => rfl) ?_
              refine yi_D_is rfl (fun _ _ => ?_)
              generalize w16 : yi_u J1 96 (y2.toNat) 0 = I15
              refine yi_D_iinc [(2, .inl (y2 + 1)), (4, .inl cc), (3, .inl y3), (0, .inr (.inr (some 82))), (1, .inl (fr : Int))] rfl rfl rfl (by rw [show yi_w (y2 + 1) = y2 + 1 from (yi_wn (by omega) (by omega)).trans (by omega)]; rfl) ?_
              refine yi_D_run 1 (171, [(2, .inl (y2 + 1)), (4, .inl cc), (3, .inl y3), (0, .inr (.inr (some 82))), (1, .inl (fr : Int))], [], (I15, L, R, Y), 0, 0) (fun _ => rfl) ?_
              refine yi_D_iinc [(3, .inl (y3 + 1)), (2, .inl (y2 + 1)), (4, .inl cc), (0, .inr (.inr (some 82))), (1, .inl (fr : Int))] rfl rfl rfl (by rw [show yi_w (y3 + 1) = y3 + 1 from (yi_wn (by omega) (by omega)).trans (by omega)]; rfl) ?_
              refine yi_D_run 1 (4, [(3, .inl (y3 + 1)), (2, .inl (y2 + 1)), (4, .inl cc), (0, .inr (.inr (some 82))), (1, .inl (fr : Int))], [], (I15, L, R, Y), 0, 0) (fun _ => rfl) ?_
              refine yi_D_al (al := [(3, .inl (y3 + 1)), (2, .inl (y2 + 1)), (0, .inr (.inr (some 82))), (1, .inl (fr : Int)), (4, .inl cc)]) (show ([3, 2, 0, 1, 4] : List Nat).Nodup by decide) (show ([3, 2, 4, 0, 1] : List Nat).Nodup by decide) (yi_mc (List.mem_of_getElem? (i := 0) rfl) (yi_mc (List.mem_of_getElem? (i := 1) rfl) (yi_mc (List.mem_of_getElem? (i := 4) rfl) (yi_mc (List.mem_of_getElem? (i := 2) rfl) (yi_mc (List.mem_of_getElem? (i := 3) rfl) yi_mn))))) ?_
              exact yi_D_mono (ih4 (by omega) (y3 + 1) (y2 + 1) cc I15 (by omega) (by rw [show (y3 + 1 - fr).toNat = (y3 - fr).toNat + 1 by omega, hs, List.length_cons]; omega) (by rw [show (y3 + 1 - fr).toNat = (y3 - fr).toNat + 1 by omega, hs]; exact ⟨by rw [← w16, show (sk (y3 - fr).toNat).length = y2.toNat by omega, yi_u_eq], pl_t _ hpl (fun k hk => by rw [← w16, yi_u_ne _ _ (by omega)])⟩) (fun p k h => by rw [← w16, yi_u_ne _ _ (by omega)]; exact hJ p k h)) (by omega)
          · refine yi_D_if2 true rfl (yi_ne_t h10) ?_
            refine yi_D_run 2 (111, [(4, .inl cc), (3, .inl y3), (2, .inl y2), (0, .inr (.inr (some 82))), (1, .inl (fr : Int))], [.inl 3, .inl cc], (J1, L, R, Y), 0, 0) (fun _ => rfl) ?_
            by_cases h17 : cc = 3
            · refine yi_D_if2 false rfl (yi_ne_f h17) ?_
              obtain ⟨x0, r0, z0, hs⟩ := stp_3 o3 (by omega)
              rw [z0] at htop hpl hln
              rw [List.length_cons] at htop hln
              have hx0 : J1 96 ((y2 - 1).toNat) = x0 := by rw [show (y2 - 1).toNat = r0.length by omega]; exact hpl.1
              refine yi_D_run 1 (115, [(4, .inl cc), (3, .inl y3), (2, .inl y2), (0, .inr (.inr (some 82))), (1, .inl (fr : Int))], [.inr (.inr (some 82))], (J1, L, R, Y), 0, 0) (fun _ => rfl) ?_
              refine yi_D_gr (v := some 96) rfl rfl rfl (ym_S_at hS (j := 13) rfl).1 (fun _ => ?_)
              refine yi_D_run 2 (120, [(4, .inl cc), (3, .inl y3), (2, .inl y2), (0, .inr (.inr (some 82))), (1, .inl (fr : Int))], [.inl 1, .inl y2, .inr (.inr (some 96))], (J1, L, R, Y), 0, 0) (fun _ => rfl) ?_
              refine yi_D_isub rfl (y2 - 1) (yi_wn (by omega) (by omega)) ?_
              refine yi_D_run 1 (122, [(4, .inl cc), (3, .inl y3), (2, .inl y2), (0, .inr (.inr (some 82))), (1, .inl (fr : Int))], [.inr (.inr (some 82)), .inl (y2 - 1), .inr (.inr (some 96))], (J1, L, R, Y), 0, 0) (fun _ => rfl) ?_
              refine yi_D_gr (v := some 96) rfl rfl rfl (ym_S_at hS (j := 13) rfl).1 (fun _ => ?_)
              refine yi_D_run 2 (127, [(4, .inl cc), (3, .inl y3), (2, .inl y2), (0, .inr (.inr (some 82))), (1, .inl (fr : Int))], [.inl 1, .inl y2, .inr (.inr (some 96)), .inl (y2 - 1), .inr (.inr (some 96))], (J1, L, R, Y), 0, 0) (fun _ => rfl) ?_
              refine yi_D_isub rfl (y2 - 1) (yi_wn (by omega) (by omega)) ?_
              refine yi_D_il (v := x0) rfl rfl hx0 (fun _ _ => ?_)
              by_cases h18 : x0 = 0
              · refine yi_D_if1 false rfl (yi_ne_f h18) ?_
                refine yi_D_run 2 (137, [(4, .inl cc), (3, .inl y3), (2, .inl y2), (0, .inr (.inr (some 82))), (1, .inl (fr : Int))], [.inl 1, .inl (y2 - 1), .inr (.inr (some 96))], (J1, L, R, Y), 0, 0) (fun _ => rfl) ?_
                rw [if_pos (by assumption)] at hs
                refine yi_D_is rfl (fun _ _ => ?_)
                generalize w20 : yi_u J1 96 ((y2 - 1).toNat) 1 = I19
                refine yi_D_run 1 (171, [(4, .inl cc), (3, .inl y3), (2, .inl y2), (0, .inr (.inr (some 82))), (1, .inl (fr : Int))], [], (I19, L, R, Y), 0, 0) (fun _ => rfl) ?_
                refine yi_D_iinc [(3, .inl (y3 + 1)), (4, .inl cc), (2, .inl y2), (0, .inr (.inr (some 82))), (1, .inl (fr : Int))] rfl rfl rfl (by rw [show yi_w (y3 + 1) = y3 + 1 from (yi_wn (by omega) (by omega)).trans (by omega)]; rfl) ?_
                refine yi_D_run 1 (4, [(3, .inl (y3 + 1)), (4, .inl cc), (2, .inl y2), (0, .inr (.inr (some 82))), (1, .inl (fr : Int))], [], (I19, L, R, Y), 0, 0) (fun _ => rfl) ?_
                refine yi_D_al (al := [(3, .inl (y3 + 1)), (2, .inl y2), (0, .inr (.inr (some 82))), (1, .inl (fr : Int)), (4, .inl cc)]) (show ([3, 2, 0, 1, 4] : List Nat).Nodup by decide) (show ([3, 4, 2, 0, 1] : List Nat).Nodup by decide) (yi_mc (List.mem_of_getElem? (i := 0) rfl) (yi_mc (List.mem_of_getElem? (i := 4) rfl) (yi_mc (List.mem_of_getElem? (i := 1) rfl) (yi_mc (List.mem_of_getElem? (i := 2) rfl) (yi_mc (List.mem_of_getElem? (i := 3) rfl) yi_mn))))) ?_
                exact yi_D_mono (ih4 (by omega) (y3 + 1) y2 cc I19 (by omega) (by rw [show (y3 + 1 - fr).toNat = (y3 - fr).toNat + 1 by omega, hs, List.length_cons]; omega) (by rw [show (y3 + 1 - fr).toNat = (y3 - fr).toNat + 1 by omega, hs]; exact ⟨by rw [← w20, show r0.length = (y2 - 1).toNat by omega, yi_u_eq], pl_t _ hpl.2 (fun k hk => by rw [← w20, yi_u_ne _ _ (by omega)])⟩) (fun p k h => by rw [← w20, yi_u_ne _ _ (by omega)]; exact hJ p k h)) (by omega)
              · refine yi_D_if1 true rfl (yi_ne_t h18) ?_
                refine yi_D_run 1 (137, [(4, .inl cc), (3, .inl y3), (2, .inl y2), (0, .inr (.inr (some 82))), (1, .inl (fr : Int))], [.inl 0, .inl (y2 - 1), .inr (.inr (some 96))], (J1, L, R, Y), 0, 0) (fun _ => rfl) ?_
                rw [if_neg (by assumption)] at hs
                refine yi_D_is rfl (fun _ _ => ?_)
                generalize w22 : yi_u J1 96 ((y2 - 1).toNat) 0 = I21
                refine yi_D_run 1 (171, [(4, .inl cc), (3, .inl y3), (2, .inl y2), (0, .inr (.inr (some 82))), (1, .inl (fr : Int))], [], (I21, L, R, Y), 0, 0) (fun _ => rfl) ?_
                refine yi_D_iinc [(3, .inl (y3 + 1)), (4, .inl cc), (2, .inl y2), (0, .inr (.inr (some 82))), (1, .inl (fr : Int))] rfl rfl rfl (by rw [show yi_w (y3 + 1) = y3 + 1 from (yi_wn (by omega) (by omega)).trans (by omega)]; rfl) ?_
                refine yi_D_run 1 (4, [(3, .inl (y3 + 1)), (4, .inl cc), (2, .inl y2), (0, .inr (.inr (some 82))), (1, .inl (fr : Int))], [], (I21, L, R, Y), 0, 0) (fun _ => rfl) ?_
                refine yi_D_al (al := [(3, .inl (y3 + 1)), (2, .inl y2), (0, .inr (.inr (some 82))), (1, .inl (fr : Int)), (4, .inl cc)]) (show ([3, 2, 0, 1, 4] : List Nat).Nodup by decide) (show ([3, 4, 2, 0, 1] : List Nat).Nodup by decide) (yi_mc (List.mem_of_getElem? (i := 0) rfl) (yi_mc (List.mem_of_getElem? (i := 4) rfl) (yi_mc (List.mem_of_getElem? (i := 1) rfl) (yi_mc (List.mem_of_getElem? (i := 2) rfl) (yi_mc (List.mem_of_getElem? (i := 3) rfl) yi_mn))))) ?_
                exact yi_D_mono (ih4 (by omega) (y3 + 1) y2 cc I21 (by omega) (by rw [show (y3 + 1 - fr).toNat = (y3 - fr).toNat + 1 by omega, hs, List.length_cons]; omega) (by rw [show (y3 + 1 - fr).toNat = (y3 - fr).toNat + 1 by omega, hs]; exact ⟨by rw [← w22, show r0.length = (y2 - 1).toNat by omega, yi_u_eq], pl_t _ hpl.2 (fun k hk => by rw [← w22, yi_u_ne _ _ (by omega)])⟩) (fun p k h => by rw [← w22, yi_u_ne _ _ (by omega)]; exact hJ p k h)) (by omega)
            · refine yi_D_if2 true rfl (yi_ne_t h17) ?_
              obtain ⟨w0, x0, r0, z0, hs⟩ := stp_b o3 (by omega) (by omega) (by omega) (by omega)
              rw [z0] at htop hpl hln
              rw [List.length_cons, List.length_cons] at htop hln
              have hw0 : J1 96 ((y2 - 1).toNat) = w0 := by rw [show (y2 - 1).toNat = r0.length + 1 by omega]; exact hpl.1
              have hx0 : J1 96 ((y2 - 1 - 1).toNat) = x0 := by rw [show (y2 - 1 - 1).toNat = r0.length by omega]; exact hpl.2.1
              refine yi_D_iinc [(2, .inl (y2 - 1)), (4, .inl cc), (3, .inl y3), (0, .inr (.inr (some 82))), (1, .inl (fr : Int))] rfl rfl rfl (by rw [show yi_w (y2 + (-1)) = y2 - 1 from (yi_wn (by omega) (by omega)).trans (by omega)]; rfl) ?_
              refine yi_D_run 1 (145, [(2, .inl (y2 - 1)), (4, .inl cc), (3, .inl y3), (0, .inr (.inr (some 82))), (1, .inl (fr : Int))], [.inr (.inr (some 82))], (J1, L, R, Y), 0, 0) (fun _ => rfl) ?_
              refine yi_D_gr (v := some 96) rfl rfl rfl (ym_S_at hS (j := 13) rfl).1 (fun _ => ?_)
              refine yi_D_run 2 (150, [(2, .inl (y2 - 1)), (4, .inl cc), (3, .inl y3), (0, .inr (.inr (some 82))), (1, .inl (fr : Int))], [.inl 1, .inl (y2 - 1), .inr (.inr (some 96))], (J1, L, R, Y), 0, 0) (fun _ => rfl) ?_
              refine yi_D_isub rfl ((y2 - 1) - 1) (yi_wn (by omega) (by omega)) ?_
              refine yi_D_run 2 (154, [(2, .inl (y2 - 1)), (4, .inl cc), (3, .inl y3), (0, .inr (.inr (some 82))), (1, .inl (fr : Int))], [.inr (.inr (some 82)), .inl cc, .inl ((y2 - 1) - 1), .inr (.inr (some 96))], (J1, L, R, Y), 0, 0) (fun _ => rfl) ?_
              refine yi_D_gr (v := some 96) rfl rfl rfl (ym_S_at hS (j := 13) rfl).1 (fun _ => ?_)
              refine yi_D_run 2 (159, [(2, .inl (y2 - 1)), (4, .inl cc), (3, .inl y3), (0, .inr (.inr (some 82))), (1, .inl (fr : Int))], [.inl 1, .inl (y2 - 1), .inr (.inr (some 96)), .inl cc, .inl ((y2 - 1) - 1), .inr (.inr (some 96))], (J1, L, R, Y), 0, 0) (fun _ => rfl) ?_
              refine yi_D_isub rfl ((y2 - 1) - 1) (yi_wn (by omega) (by omega)) ?_
              refine yi_D_il (v := x0) rfl rfl hx0 (fun _ _ => ?_)
              refine yi_D_run 1 (162, [(2, .inl (y2 - 1)), (4, .inl cc), (3, .inl y3), (0, .inr (.inr (some 82))), (1, .inl (fr : Int))], [.inr (.inr (some 82)), .inl x0, .inl cc, .inl ((y2 - 1) - 1), .inr (.inr (some 96))], (J1, L, R, Y), 0, 0) (fun _ => rfl) ?_
              refine yi_D_gr (v := some 96) rfl rfl rfl (ym_S_at hS (j := 13) rfl).1 (fun _ => ?_)
              refine yi_D_run 1 (166, [(2, .inl (y2 - 1)), (4, .inl cc), (3, .inl y3), (0, .inr (.inr (some 82))), (1, .inl (fr : Int))], [.inl (y2 - 1), .inr (.inr (some 96)), .inl x0, .inl cc, .inl ((y2 - 1) - 1), .inr (.inr (some 96))], (J1, L, R, Y), 0, 0) (fun _ => rfl) ?_
              refine yi_D_il (v := w0) rfl rfl hw0 (fun _ _ => ?_)
              refine yi_D_calls rfl (q_both (by omega)) ?_
              rintro _ rfl
              show yi_D zi_Ms d zi_m135 j4 (170, [(2, .inl (y2 - 1)), (4, .inl cc), (3, .inl y3), (0, .inr (.inr (some 82))), (1, .inl (fr : Int))], [.inl (bo cc x0 w0), .inl ((y2 - 1) - 1), .inr (.inr (some 96))], (J1, L, R, Y), 0, 0) _
              refine yi_D_is rfl (fun _ _ => ?_)
              generalize w24 : yi_u J1 96 (((y2 - 1) - 1).toNat) (bo cc x0 w0) = I23
              refine yi_D_iinc [(3, .inl (y3 + 1)), (2, .inl (y2 - 1)), (4, .inl cc), (0, .inr (.inr (some 82))), (1, .inl (fr : Int))] rfl rfl rfl (by rw [show yi_w (y3 + 1) = y3 + 1 from (yi_wn (by omega) (by omega)).trans (by omega)]; rfl) ?_
              refine yi_D_run 1 (4, [(3, .inl (y3 + 1)), (2, .inl (y2 - 1)), (4, .inl cc), (0, .inr (.inr (some 82))), (1, .inl (fr : Int))], [], (I23, L, R, Y), 0, 0) (fun _ => rfl) ?_
              refine yi_D_al (al := [(3, .inl (y3 + 1)), (2, .inl (y2 - 1)), (0, .inr (.inr (some 82))), (1, .inl (fr : Int)), (4, .inl cc)]) (show ([3, 2, 0, 1, 4] : List Nat).Nodup by decide) (show ([3, 2, 4, 0, 1] : List Nat).Nodup by decide) (yi_mc (List.mem_of_getElem? (i := 0) rfl) (yi_mc (List.mem_of_getElem? (i := 1) rfl) (yi_mc (List.mem_of_getElem? (i := 4) rfl) (yi_mc (List.mem_of_getElem? (i := 2) rfl) (yi_mc (List.mem_of_getElem? (i := 3) rfl) yi_mn))))) ?_
              exact yi_D_mono (ih4 (by omega) (y3 + 1) (y2 - 1) cc I23 (by omega) (by rw [show (y3 + 1 - fr).toNat = (y3 - fr).toNat + 1 by omega, hs, List.length_cons]; omega) (by rw [show (y3 + 1 - fr).toNat = (y3 - fr).toNat + 1 by omega, hs]; exact ⟨by rw [← w24, show r0.length = ((y2 - 1) - 1).toNat by omega, yi_u_eq], pl_t _ hpl.2.2 (fun k hk => by rw [← w24, yi_u_ne _ _ (by omega)])⟩) (fun p k h => by rw [← w24, yi_u_ne _ _ (by omega)]; exact hJ p k h)) (by omega)
  refine yi_D_al (al := [(3, .inl (fr : Int)), (2, .inl 0), (0, .inr (.inr (some 82))), (1, .inl (fr : Int)), (4, .inl 0)]) (show ([3, 2, 0, 1, 4] : List Nat).Nodup by decide) (show ([3, 2, 0, 1] : List Nat).Nodup by decide) (yi_mc (List.mem_of_getElem? (i := 0) rfl) (yi_mc (List.mem_of_getElem? (i := 1) rfl) (yi_mc (List.mem_of_getElem? (i := 2) rfl) (yi_mc (List.mem_of_getElem? (i := 3) rfl) yi_mn)))) ?_
  exact pt4 k (Nat.le_refl _) (fr : Int) 0 0 I (by omega) (by rw [show ((fr : Int) - fr).toNat = 0 by omega, hp.2.2.2.1]; rfl) (by rw [show ((fr : Int) - fr).toNat = 0 by omega, hp.2.2.2.1]; exact trivial) (fun _ _ _ => rfl)
