/-! A text makes no more codes than it has tokens. -/
/-- codes that are still to come for what is on the pile -/
def sp_wf (f : Nat) : Nat := if f = 13 then 2 else if f = 0 ∨ f = 11 ∨ f = 12 ∨ f = 20 ∨ f = 21 then 1 else 0
def sp_WF : List Nat → Nat
  | [] => 0
  | f :: sk => sp_wf f + sp_WF sk
def sp_we (f : Nat) : Nat := if f = 5 ∨ 100 ≤ f then 1 else 0
def sp_WE : List Nat → Nat
  | [] => 0
  | f :: sk => if f = 7 then 1 else sp_we f + sp_WE sk
def sp_wt (st : Nat) (sk : List Nat) : Nat := if st < 3 then 0 else if st < 8 then sp_WF sk else sp_WE sk
def sp_ln (c : sp_C) : Prop := c.2.2.2.2.2.2.length + sp_wt c.1 c.2.2.2.1 ≤ c.2.1
section SLN
variable {K P V : Nat → Int} {st a dp : Nat} {sk : List Nat} {ld : Nat → Int} {nm : Int → Int} {cs : List (Int × Int)} {c c' : sp_C}
theorem sp_WE_c {f : Nat} (h : ¬ f = 7) : sp_WE (f :: sk) = sp_we f + sp_WE sk := if_neg h
theorem sp_wf_1 {f : Nat} (h : f = 0 ∨ f = 11 ∨ f = 12 ∨ f = 20 ∨ f = 21) : sp_wf f = 1 := (if_neg (by omega)).trans (if_pos h)
theorem sp_wf_0 {f : Nat} (h : ¬ f = 13) (h2 : ¬ (f = 0 ∨ f = 11 ∨ f = 12 ∨ f = 20 ∨ f = 21)) : sp_wf f = 0 := (if_neg h).trans (if_neg h2)
theorem sp_wf_t {f : Nat} : sp_wf (f + 2) ≤ sp_wf f + 1 := by
  unfold sp_wf
  repeat' split
  all_goals omega
theorem sp_we_1 {f : Nat} (h : f = 5 ∨ 100 ≤ f) : sp_we f = 1 := if_pos h
theorem sp_we_0 {f : Nat} (h : ¬ (f = 5 ∨ 100 ≤ f)) : sp_we f = 0 := if_neg h
theorem ln_mk0 (hs : st < 3) (h : cs.length ≤ a) : sp_ln (st, a, dp, sk, ld, nm, cs) := by
  show cs.length + (if st < 3 then 0 else if st < 8 then sp_WF sk else sp_WE sk) ≤ a
  rw [if_pos hs]
  exact h
theorem ln_mkF (hs : 3 ≤ st ∧ st < 8) (h : cs.length + sp_WF sk ≤ a) : sp_ln (st, a, dp, sk, ld, nm, cs) := by
  show cs.length + (if st < 3 then 0 else if st < 8 then sp_WF sk else sp_WE sk) ≤ a
  rw [if_neg (by omega), if_pos hs.2]
  exact h
theorem ln_mkE (hs : 8 ≤ st) (h : cs.length + sp_WE sk ≤ a) : sp_ln (st, a, dp, sk, ld, nm, cs) := by
  show cs.length + (if st < 3 then 0 else if st < 8 then sp_WF sk else sp_WE sk) ≤ a
  rw [if_neg (by omega), if_neg (by omega)]
  exact h
theorem ln_F (h : sp_ln (st, a, dp, sk, ld, nm, cs)) (hs : 3 ≤ st ∧ st < 8) : cs.length + sp_WF sk ≤ a := by
  have h : cs.length + (if st < 3 then 0 else if st < 8 then sp_WF sk else sp_WE sk) ≤ a := h
  rw [if_neg (by omega), if_pos hs.2] at h
  exact h
theorem ln_E (h : sp_ln (st, a, dp, sk, ld, nm, cs)) (hs : 8 ≤ st) : cs.length + sp_WE sk ≤ a := by
  have h : cs.length + (if st < 3 then 0 else if st < 8 then sp_WF sk else sp_WE sk) ≤ a := h
  rw [if_neg (by omega), if_neg (by omega)] at h
  exact h
theorem ln_0 (h : sp_ln (st, a, dp, sk, ld, nm, cs)) : cs.length ≤ a := Nat.le_trans (Nat.le_add_right _ _) h
theorem ln_app {x : Int × Int} : (cs ++ [x]).length = cs.length + 1 := by rw [List.length_append, List.length_singleton]
theorem sp_ln_1 (h : sp_ln c) (hst : sp_st c) (e : sp_step K P V c = .inl c') : sp_ln c' := by
  obtain ⟨st, a, dp, sk, ld, nm, cs⟩ := c
  have hc0 := ln_0 h
  rcases (show st = 0 ∨ st = 1 ∨ st = 2 ∨ st = 3 ∨ st = 4 ∨ st = 5 ∨ st = 6 ∨ st = 7 ∨ st = 8 ∨ st = 9 ∨ st = 10 ∨ st = 11 ∨ st = 12 ∨ st = 13 ∨ 14 ≤ st by omega) with rfl | rfl | rfl | rfl | rfl | rfl | rfl | rfl | rfl | rfl | rfl | rfl | rfl | rfl | h14
  · have e : sp_s0 K P V a ld nm cs = .inl c' := e
    unfold sp_s0 at e
    repeat (split at e; · cases e)
    cases e
    exact ln_mk0 (by omega) (by omega)
  · have e : (if K a = 59 then .inl (2, a + 1, 0, [], ld, nm, cs) else .inr (sp_f P a 1) : sp_C ⊕ Int) = .inl c' := e
    split at e
    · cases e
      exact ln_mk0 (by omega) (by omega)
    · cases e
  · have e : sp_line K P V a ld nm cs = .inl c' := e
    unfold sp_line at e
    split at e
    · cases e
    split at e
    · unfold sp_person at e
      repeat (split at e; · cases e)
      cases e
      exact ln_mk0 (by omega) (by omega)
    split at e
    · unfold sp_event at e
      repeat (split at e; · cases e)
      cases e
      exact ln_mk0 (by omega) (by omega)
    split at e
    · unfold sp_prophet at e
      repeat (split at e; · cases e)
      cases e
      exact ln_mk0 (by omega) (by omega)
    split at e
    · split at e
      · cases e
      · cases e
        exact ln_mkF (by omega) (show cs.length + 1 ≤ a + 1 by omega)
    split at e
    · unfold sp_wish at e
      repeat (split at e; · cases e)
      cases e
      exact ln_mkF (by omega) (show cs.length + 1 ≤ a + 4 by omega)
    split at e
    · cases e
    split at e
    · cases e
    · cases e
      exact ln_mkE (by omega) (show cs.length + 1 ≤ a + 1 by omega)
  · have h3 := ln_F h (by omega)
    have e : sp_item K P V a dp sk ld nm cs = .inl c' := e
    unfold sp_item at e
    split at e
    · cases e
    split at e
    · cases e
    split at e
    · cases e
    split at e
    · cases e
      exact ln_mkF (by omega) (show cs.length + (1 + sp_WF sk) ≤ a + 1 by omega)
    split at e
    · cases e
      exact ln_mkF (by omega) (show cs.length + (0 + (0 + sp_WF sk)) ≤ a + 1 by omega)
    split at e
    · rename_i q hq
      cases e
      have hlt : a < q.1 := sp_cl_lt hq
      refine ln_mkF (by omega) ?_
      rw [ln_app]
      omega
    · cases e
  · cases sk with
    | nil => cases e
    | cons f sk =>
    have h3 : cs.length + (sp_wf f + sp_WF sk) ≤ a := ln_F h (by omega)
    have e : (if f = 0 then .inl (4, a, dp - 1, sk, ld, nm, cs ++ [(3, 0)]) else if f = 12 ∨ f = 13 then .inl (5, a, dp, (f - 2) :: sk, ld, nm, cs ++ [(9, 0)]) else .inl (5, a, dp, f :: sk, ld, nm, cs) : sp_C ⊕ Int) = .inl c' := e
    split at e
    · rename_i hf
      cases e
      rw [sp_wf_1 (by omega)] at h3
      refine ln_mkF (by omega) ?_
      rw [ln_app]
      omega
    split at e
    · rename_i hf0 hf
      cases e
      refine ln_mkF (by omega) ?_
      show (cs ++ [(9, 0)]).length + (sp_wf (f - 2) + sp_WF sk) ≤ a
      rw [ln_app]
      rcases hf with hf | hf
      · rw [hf, sp_wf_1 (by omega)] at h3
        rw [hf, sp_wf_0 (by omega) (by omega)]
        omega
      · rw [hf, show sp_wf 13 = 2 from rfl] at h3
        rw [hf, sp_wf_1 (by omega)]
        omega
    · cases e
      exact ln_mkF (by omega) h3
  · cases sk with
    | nil => cases e
    | cons f sk =>
    have h3 : cs.length + (sp_wf f + sp_WF sk) ≤ a := ln_F h (by omega)
    have e : (if K a = 31 then .inl (3, a + 1, dp, (f + 2) :: sk, ld, nm, cs) else .inl (6, a, dp, sk, ld, nm, if f = 11 then cs ++ [(10, 0)] else cs) : sp_C ⊕ Int) = .inl c' := e
    split at e
    · cases e
      have hb := sp_wf_t (f := f)
      exact ln_mkF (by omega) (show cs.length + (sp_wf (f + 2) + sp_WF sk) ≤ a + 1 by omega)
    · cases e
      refine ln_mkF (by omega) ?_
      by_cases hf : f = 11
      · rw [if_pos hf, ln_app]
        rw [sp_wf_1 (by omega)] at h3
        omega
      · rw [if_neg hf]
        omega
  · have h3 := ln_F h (by omega)
    have e : (if K a = 32 then .inl (3, a + 1, dp, 11 :: sk, ld, nm, cs) else .inl (7, a, dp, sk, ld, nm, cs) : sp_C ⊕ Int) = .inl c' := e
    split at e
    · cases e
      exact ln_mkF (by omega) (show cs.length + (1 + sp_WF sk) ≤ a + 1 by omega)
    · cases e
      exact ln_mkF (by omega) h3
  · cases sk with
    | nil => cases e
    | cons f sk =>
    have h3 : cs.length + (sp_wf f + sp_WF sk) ≤ a := ln_F h (by omega)
    have e : (if f = 1 then (if K a = 41 then .inl (4, a + 1, dp - 1, sk, ld, nm, cs) else .inr (sp_f P a 1)) else if f = 20 then .inl (1, a, dp, sk, sp_up ld 4 (ld 4 + 1), nm, cs ++ [(0, 0)]) else if f = 21 then .inl (1, a, dp, sk, sp_up ld 5 (ld 5 + 1), nm, cs ++ [(0, 0)]) else if ¬ K a = 59 then .inr (sp_f P a 1) else if ¬ K (a + 1) = 0 then .inr (sp_f P (a + 1) 1) else .inr 0 : sp_C ⊕ Int) = .inl c' := e
    split at e
    · split at e
      · cases e
        exact ln_mkF (by omega) (by omega)
      · cases e
    split at e
    · cases e
      rw [sp_wf_1 (by omega)] at h3
      refine ln_mk0 (by omega) ?_
      rw [ln_app]
      omega
    split at e
    · cases e
      rw [sp_wf_1 (by omega)] at h3
      refine ln_mk0 (by omega) ?_
      rw [ln_app]
      omega
    · repeat (split at e; · cases e)
      cases e
  · cases e
    have h3 := ln_E h (by omega)
    exact ln_mkE (by omega) (show cs.length + (0 + sp_WE sk) ≤ a by omega)
  · cases e
    have h3 := ln_E h (by omega)
    exact ln_mkE (by omega) (show cs.length + (0 + sp_WE sk) ≤ a by omega)
  · cases e
    have h3 := ln_E h (by omega)
    exact ln_mkE (by omega) (show cs.length + (0 + sp_WE sk) ≤ a by omega)
  · cases e
    have h3 := ln_E h (by omega)
    exact ln_mkE (by omega) (show cs.length + (0 + sp_WE sk) ≤ a by omega)
  · have h3 := ln_E h (by omega)
    have e : sp_part K P V a dp sk ld nm cs = .inl c' := e
    unfold sp_part at e
    split at e
    · cases e
    split at e
    · cases e
    split at e
    · cases e
      exact ln_mkE (by omega) (show cs.length + (1 + sp_WE sk) ≤ a + 1 by omega)
    split at e
    · cases e
      exact ln_mkE (by omega) (show cs.length + (0 + sp_WE sk) ≤ a + 1 by omega)
    · cases e
      refine ln_mkE (by omega) ?_
      rw [ln_app]
      omega
  · cases sk with
    | nil => cases e
    | cons f sk =>
    have hE : f = 7 ∨ ((f = 5 ∨ f = 6 ∨ 30 ≤ f) ∧ sp_E sk) := hst (by show 8 ≤ 13; omega) (by show 13 ≤ 13; omega)
    have hf : f = 7 ∨ f = 5 ∨ f = 6 ∨ 30 ≤ f := by rcases hE with z | ⟨z, -⟩ <;> omega
    have h3 := ln_E h (by omega)
    rw [sp_s13] at e
    split at e
    · rename_i h5
      cases e
      rw [sp_WE_c (by omega), sp_we_1 (by omega)] at h3
      refine ln_mkE (by omega) ?_
      rw [ln_app]
      omega
    split at e
    · split at e
      · cases e
        rw [sp_WE_c (by omega)] at h3
        exact ln_mkE (by omega) (by omega)
      · cases e
    split at e
    · rename_i h7
      cases e
      rw [h7, show sp_WE (7 :: sk) = 1 from rfl] at h3
      refine ln_mk0 (by omega) ?_
      rw [ln_app]
      omega
    rw [sp_WE_c (by omega)] at h3
    split at e
    · split at e
      · cases e
        refine ln_mkE (by omega) ?_
        rw [sp_WE_c (by omega), sp_we_1 (by omega)]
        omega
      · cases e
        exact ln_mkE (by omega) (by omega)
    rw [sp_we_1 (by omega)] at h3
    split at e
    · cases e
      refine ln_mkE (by omega) ?_
      rw [ln_app]
      omega
    · cases e
      refine ln_mkE (by omega) ?_
      rw [ln_app, sp_WE_c (by omega), sp_we_0 (by omega)]
      omega
  · obtain ⟨m, rfl⟩ : ∃ m, st = m + 14 := ⟨st - 14, by omega⟩
    cases e
theorem sp_ln_n (h : sp_ln c) (hst : sp_st c) : ∀ n, sp_it K P V n (.inl c) = .inl c' → sp_ln c' := by
  intro n
  induction n generalizing c with
  | zero =>
    intro e
    cases e
    exact h
  | succ n ih =>
    intro e
    have e : sp_it K P V n (sp_step K P V c) = .inl c' := e
    cases hs : sp_step K P V c with
    | inl c2 =>
      rw [hs] at e
      exact ih (sp_ln_1 h hst hs) (sp_st_1 hst hs) e
    | inr f =>
      rw [hs, sp_it_r] at e
      cases e
theorem sp_ln_R (h : sp_ln c) (hst : sp_st c) (r : sp_R K P V c (.inl c')) : sp_ln c' := by
  obtain ⟨n, e⟩ := r
  exact sp_ln_n h hst n e
theorem sp_ln_0 : sp_ln (0, 0, 0, [], sp_ld0, sp_nm0, []) := ln_mk0 (by omega) (Nat.le_refl 0)
/-- so many codes at the most -/
theorem sp_ln_c (r : sp_R K P V (0, 0, 0, [], sp_ld0, sp_nm0, []) (.inl (st, a, dp, sk, ld, nm, cs))) : cs.length ≤ a := ln_0 (sp_ln_R sp_ln_0 sp_st_0 r)
end SLN
