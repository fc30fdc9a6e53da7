/-! Along a text futures stay few. -/
theorem sp_bigb_01 (a b c : Int) : sp_bigb a b c = 0 ∨ sp_bigb a b c = 1 := by
  unfold sp_bigb
  split
  · exact Or.inr rfl
  · exact Or.inl rfl
def sp_bg (c : sp_C) : Prop := (c.1 = 0 → c.2.2.2.2.1 1 = 0 ∧ c.2.2.2.2.1 2 = 0) ∧ sp_bigb (c.2.2.2.2.1 0) (c.2.2.2.2.1 1) (c.2.2.2.2.1 2) = 0
section SPG
variable {K P V : Nat → Int} {st st' a a' dp dp' : Nat} {sk sk' : List Nat} {ld ld' : Nat → Int} {nm : Int → Int} {cs : List (Int × Int)} {c c' : sp_C}
theorem sp_bg_s {cs' : List (Int × Int)} (h : sp_bg (st, a, dp, sk, ld, nm, cs)) (hl : ∀ j, j < 4 → ld' j = ld j) (h0 : ¬ st' = 0) : sp_bg (st', a', dp', sk', ld', nm, cs') := by
  refine ⟨fun e => absurd e h0, ?_⟩
  show sp_bigb (ld' 0) (ld' 1) (ld' 2) = 0
  rw [hl 0 (by omega), hl 1 (by omega), hl 2 (by omega)]
  exact h.2
theorem sp_bg_c {y : Int × Int} (h : sp_bg (st, a, dp, sk, ld, nm, cs)) (hl : ∀ j, j < 4 → ld' j = ld j) (_ : ¬ y.1 = 11) (h0 : ¬ st' = 0) : sp_bg (st', a', dp', sk', ld', nm, cs ++ [y]) := sp_bg_s h hl h0
theorem sp_bg_item (h : sp_bg (st, a, dp, sk, ld, nm, cs)) (e : sp_item K P V a dp sk ld nm cs = .inl c') : sp_bg c' := by
  unfold sp_item at e
  split at e
  · cases e
  split at e
  · cases e
  split at e
  · cases e
  split at e
  · cases e
    exact sp_bg_s h sp_id (by omega)
  split at e
  · cases e
    exact sp_bg_s h sp_id (by omega)
  rename_i c1 c2 c3 c4 c5
  split at e
  · rename_i q hq
    cases e
    exact sp_bg_s h sp_id (by omega)
  · cases e
theorem sp_bg_part (h : sp_bg (st, a, dp, sk, ld, nm, cs)) (e : sp_part K P V a dp sk ld nm cs = .inl c') : sp_bg c' := by
  unfold sp_part at e
  split at e
  · cases e
  split at e
  · cases e
  split at e
  · cases e
    exact sp_bg_s h sp_id (by omega)
  split at e
  · cases e
    exact sp_bg_s h sp_id (by omega)
  · cases e
    refine sp_bg_c h sp_id ?_ (by omega)
    split
    · show ¬ (1 : Int) = 11
      decide
    · show ¬ (2 : Int) = 11
      decide
theorem sp_bg_line (h : sp_bg (st, a, dp, sk, ld, nm, cs)) (e : sp_line K P V a ld nm cs = .inl c') : sp_bg c' := by
  unfold sp_line at e
  split at e
  · cases e
  split at e
  · unfold sp_person at e
    split at e
    · cases e
    rename_i hbig
    repeat (split at e; · cases e)
    cases e
    refine ⟨fun z => absurd z (by show ¬ (1 : Nat) = 0; omega), ?_⟩
    have e0 : sp_up (sp_up ld (7 + (ld 1).toNat) (V (a + 3))) 1 (ld 1 + 1) 0 = ld 0 := (if_neg (by omega)).trans (if_neg (by omega))
    have e1 : sp_up (sp_up ld (7 + (ld 1).toNat) (V (a + 3))) 1 (ld 1 + 1) 1 = ld 1 + 1 := if_pos rfl
    have e2 : sp_up (sp_up ld (7 + (ld 1).toNat) (V (a + 3))) 1 (ld 1 + 1) 2 = ld 2 := (if_neg (by omega)).trans (if_neg (by omega))
    show sp_bigb (sp_up (sp_up ld (7 + (ld 1).toNat) (V (a + 3))) 1 (ld 1 + 1) 0) (sp_up (sp_up ld (7 + (ld 1).toNat) (V (a + 3))) 1 (ld 1 + 1) 1) (sp_up (sp_up ld (7 + (ld 1).toNat) (V (a + 3))) 1 (ld 1 + 1) 2) = 0
    rw [e0, e1, e2]
    rcases sp_bigb_01 (ld 0) (ld 1 + 1) (ld 2) with z | z
    · exact z
    · exact absurd (Or.inr z) hbig
  split at e
  · unfold sp_event at e
    split at e
    · cases e
    rename_i hbig
    repeat (split at e; · cases e)
    cases e
    refine ⟨fun z => absurd z (by show ¬ (1 : Nat) = 0; omega), ?_⟩
    have e0 : sp_up ld 2 (ld 2 + 1) 0 = ld 0 := if_neg (by omega)
    have e1 : sp_up ld 2 (ld 2 + 1) 1 = ld 1 := if_neg (by omega)
    have e2 : sp_up ld 2 (ld 2 + 1) 2 = ld 2 + 1 := if_pos rfl
    show sp_bigb (sp_up ld 2 (ld 2 + 1) 0) (sp_up ld 2 (ld 2 + 1) 1) (sp_up ld 2 (ld 2 + 1) 2) = 0
    rw [e0, e1, e2]
    rcases sp_bigb_01 (ld 0) (ld 1) (ld 2 + 1) with z | z
    · exact z
    · exact absurd (Or.inr z) hbig
  split at e
  · unfold sp_prophet at e
    repeat (split at e; · cases e)
    cases e
    refine ⟨fun z => absurd z (by show ¬ (1 : Nat) = 0; omega), ?_⟩
    have e3 : ∀ j, j < 3 → sp_up (sp_up (sp_up ld (11 + 2 * (ld 3).toNat) (K (a + 2) - 25)) (12 + 2 * (ld 3).toNat) (V (a + 4))) 3 (ld 3 + 1) j = ld j := fun j hj => (if_neg (by omega)).trans ((if_neg (by omega)).trans (if_neg (by omega)))
    show sp_bigb (sp_up (sp_up (sp_up ld (11 + 2 * (ld 3).toNat) (K (a + 2) - 25)) (12 + 2 * (ld 3).toNat) (V (a + 4))) 3 (ld 3 + 1) 0) (sp_up (sp_up (sp_up ld (11 + 2 * (ld 3).toNat) (K (a + 2) - 25)) (12 + 2 * (ld 3).toNat) (V (a + 4))) 3 (ld 3 + 1) 1) (sp_up (sp_up (sp_up ld (11 + 2 * (ld 3).toNat) (K (a + 2) - 25)) (12 + 2 * (ld 3).toNat) (V (a + 4))) 3 (ld 3 + 1) 2) = 0
    rw [e3 0 (by omega), e3 1 (by omega), e3 2 (by omega)]
    exact h.2
  split at e
  · split at e
    · cases e
    · cases e
      exact sp_bg_s h (sp_up4 (by omega)) (by omega)
  split at e
  · unfold sp_wish at e
    repeat (split at e; · cases e)
    cases e
    exact sp_bg_s h (fun j hj => (sp_up42 (by omega) (by omega) j hj).trans (sp_up4 (by omega) j hj)) (by omega)
  split at e
  · cases e
  split at e
  · cases e
  · cases e
    exact sp_bg_s h sp_id (by omega)
theorem sp_bg_1 (h : sp_bg c) (hst : sp_st c) (e : sp_step K P V c = .inl c') : sp_bg c' := by
  obtain ⟨st, a, dp, sk, ld, nm, cs⟩ := c
  rcases (show st = 0 ∨ st = 1 ∨ st = 2 ∨ st = 3 ∨ st = 4 ∨ st = 5 ∨ st = 6 ∨ st = 7 ∨ st = 8 ∨ st = 9 ∨ st = 10 ∨ st = 11 ∨ st = 12 ∨ st = 13 ∨ 14 ≤ st by omega) with rfl | rfl | rfl | rfl | rfl | rfl | rfl | rfl | rfl | rfl | rfl | rfl | rfl | rfl | hst
  · have e : sp_s0 K P V a ld nm cs = .inl c' := e
    unfold sp_s0 at e
    split at e
    · cases e
    split at e
    · cases e
    split at e
    · cases e
    rename_i c3
    cases e
    obtain ⟨h0, hb⟩ := h
    have h0 : ld 1 = 0 ∧ ld 2 = 0 := h0 rfl
    refine ⟨fun z => absurd z (by show ¬ (1 : Nat) = 0; omega), ?_⟩
    show sp_bigb (sp_up ld 0 (V (a + 1)) 0) (sp_up ld 0 (V (a + 1)) 1) (sp_up ld 0 (V (a + 1)) 2) = 0
    rw [show sp_up ld 0 (V (a + 1)) 2 = 0 from (if_neg (by omega)).trans h0.2]
    unfold sp_bigb
    exact if_neg (fun z => absurd z.1 (by omega))
  · have e : (if K a = 59 then .inl (2, a + 1, 0, [], ld, nm, cs) else .inr (sp_f P a 1) : sp_C ⊕ Int) = .inl c' := e
    split at e
    · cases e
      exact sp_bg_s h sp_id (by omega)
    · cases e
  · exact sp_bg_line h e
  · exact sp_bg_item h e
  · cases sk with
    | nil => cases e
    | cons f sk =>
    have e : (if f = 0 then .inl (4, a, dp - 1, sk, ld, nm, cs ++ [(3, 0)]) else if f = 12 ∨ f = 13 then .inl (5, a, dp, (f - 2) :: sk, ld, nm, cs ++ [(9, 0)]) else .inl (5, a, dp, f :: sk, ld, nm, cs) : sp_C ⊕ Int) = .inl c' := e
    split at e
    · cases e
      exact sp_bg_c h sp_id (show ¬ (3 : Int) = 11 by decide) (by omega)
    split at e
    · cases e
      exact sp_bg_c h sp_id (show ¬ (9 : Int) = 11 by decide) (by omega)
    · cases e
      exact sp_bg_s h sp_id (by omega)
  · cases sk with
    | nil => cases e
    | cons f sk =>
    have e : (if K a = 31 then .inl (3, a + 1, dp, (f + 2) :: sk, ld, nm, cs) else .inl (6, a, dp, sk, ld, nm, if f = 11 then cs ++ [(10, 0)] else cs) : sp_C ⊕ Int) = .inl c' := e
    split at e
    · cases e
      exact sp_bg_s h sp_id (by omega)
    · cases e
      by_cases hf : f = 11
      · rw [if_pos hf]
        exact sp_bg_c h sp_id (show ¬ (10 : Int) = 11 by decide) (by omega)
      · rw [if_neg hf]
        exact sp_bg_s h sp_id (by omega)
  · have e : (if K a = 32 then .inl (3, a + 1, dp, 11 :: sk, ld, nm, cs) else .inl (7, a, dp, sk, ld, nm, cs) : sp_C ⊕ Int) = .inl c' := e
    split at e
    · cases e
      exact sp_bg_s h sp_id (by omega)
    · cases e
      exact sp_bg_s h sp_id (by omega)
  · cases sk with
    | nil => cases e
    | cons f sk =>
    have e : (if f = 1 then (if K a = 41 then .inl (4, a + 1, dp - 1, sk, ld, nm, cs) else .inr (sp_f P a 1)) else if f = 20 then .inl (1, a, dp, sk, sp_up ld 4 (ld 4 + 1), nm, cs ++ [(0, 0)]) else if f = 21 then .inl (1, a, dp, sk, sp_up ld 5 (ld 5 + 1), nm, cs ++ [(0, 0)]) else if ¬ K a = 59 then .inr (sp_f P a 1) else if ¬ K (a + 1) = 0 then .inr (sp_f P (a + 1) 1) else .inr 0 : sp_C ⊕ Int) = .inl c' := e
    split at e
    · split at e
      · cases e
        exact sp_bg_s h sp_id (by omega)
      · cases e
    split at e
    · cases e
      exact sp_bg_c h (sp_up4 (by omega)) (show ¬ (0 : Int) = 11 by decide) (by omega)
    split at e
    · cases e
      exact sp_bg_c h (sp_up4 (by omega)) (show ¬ (0 : Int) = 11 by decide) (by omega)
    · repeat (split at e; · cases e)
      cases e
  · cases e
    exact sp_bg_s h sp_id (by omega)
  · cases e
    exact sp_bg_s h sp_id (by omega)
  · cases e
    exact sp_bg_s h sp_id (by omega)
  · cases e
    exact sp_bg_s h sp_id (by omega)
  · exact sp_bg_part h e
  · cases sk with
    | nil => cases e
    | cons f sk =>
    have hE : f = 7 ∨ ((f = 5 ∨ f = 6 ∨ 30 ≤ f) ∧ sp_E sk) := hst (by show 8 ≤ 13; omega) (by show 13 ≤ 13; omega)
    have hf : f = 7 ∨ f = 5 ∨ f = 6 ∨ 30 ≤ f := by rcases hE with z | ⟨z, -⟩ <;> omega
    rw [sp_s13] at e
    split at e
    · cases e
      exact sp_bg_c h sp_id (show ¬ (3 : Int) = 11 by decide) (by omega)
    split at e
    · split at e
      · cases e
        exact sp_bg_s h sp_id (by omega)
      · cases e
    split at e
    · cases e
      exact sp_bg_c h (sp_up4 (by omega)) (show ¬ (0 : Int) = 11 by decide) (by omega)
    split at e
    · split at e
      · cases e
        exact sp_bg_s h sp_id (by omega)
      · cases e
        exact sp_bg_s h sp_id (by omega)
    split at e
    · cases e
      exact sp_bg_c h sp_id (show ¬ sp_sg ((f - 100) / 8) = 11 by have := @sp_sg_b ((f - 100) / 8); omega) (by omega)
    · cases e
      exact sp_bg_c h sp_id (show ¬ sp_sg ((f - 100) / 8) = 11 by have := @sp_sg_b ((f - 100) / 8); omega) (by omega)
  · obtain ⟨m, rfl⟩ : ∃ m, st = m + 14 := ⟨st - 14, by omega⟩
    cases e
theorem sp_bg_n (h : sp_bg c) (hst : sp_st c) : ∀ n, sp_it K P V n (.inl c) = .inl c' → sp_bg c' := by
  intro n
  induction n generalizing c with
  | zero =>
    intro e
    cases e
    exact h
  | succ n ih =>
    intro e
    have e : sp_it K P V n (sp_step K P V c) = .inl c' := e
    cases hs : sp_step K P V c with
    | inl c2 =>
      rw [hs] at e
      exact ih (sp_bg_1 h hst hs) (sp_st_1 hst hs) e
    | inr f =>
      rw [hs, sp_it_r] at e
      cases e
theorem sp_bg_R (h : sp_bg c) (hst : sp_st c) (r : sp_R K P V c (.inl c')) : sp_bg c' := by
  obtain ⟨n, e⟩ := r
  exact sp_bg_n h hst n e
theorem sp_bg_0 : sp_bg (0, 0, 0, [], sp_ld0, sp_nm0, []) := ⟨fun _ => ⟨rfl, rfl⟩, rfl⟩
/-- so there are no more than 32,768 -/
theorem sp_bg_T {da pe ev : Nat} (h : sp_bg (st, a, dp, sk, ld, nm, cs)) (h0 : ld 0 = (da : Int)) (h1 : ld 1 = (pe : Int)) (h2 : ld 2 = (ev : Int)) : 0 < ev → ev ^ (da * pe) ≤ 32768 := fun hev => by
  have z : sp_bigb (ld 0) (ld 1) (ld 2) = 0 := h.2
  rw [h0, h1, h2] at z
  unfold sp_bigb at z
  rw [show ((da : Int) * (pe : Int)).toNat = da * pe by rw [← Int.natCast_mul]; rfl] at z
  by_cases c : 0 < (ev : Int) ∧ 32768 < (ev : Int) ^ (da * pe)
  · rw [if_pos c] at z
    cases z
  · have e : ((ev ^ (da * pe) : Nat) : Int) = (ev : Int) ^ (da * pe) := Int.natCast_pow ev (da * pe)
    omega
end SPG
