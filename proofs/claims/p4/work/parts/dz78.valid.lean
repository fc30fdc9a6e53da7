/-! A text's clauses are valid: persons and events are told. -/
def okz (da pe ev : Nat) (z : Int) : Prop := ∃ who e wh n : Nat, z = sp_cc (who : Int) (e : Int) (wh : Int) (n : Int) ∧ cvk pe da who e wh n ∧ (wh ≤ 6 → who < 4 → who < pe) ∧ e < ev ∧ (wh = 3 ∨ wh = 4 → n = 0) ∧ (wh ≤ 6 → n ≤ da)
theorem okz_m {da pe ev pe' ev' : Nat} {z : Int} (h : okz da pe ev z) (hp : pe ≤ pe') (he : ev ≤ ev') : okz da pe' ev' z := by
  obtain ⟨who, e, wh, n, h1, ⟨k1, k2, k3, k4, k5, k6⟩, h3, h4, h5, h6⟩ := h
  exact ⟨who, e, wh, n, h1, ⟨k1, k2, k3, k4, fun q => ⟨by have := k5 q; omega, by have := k5 q; omega⟩, k6⟩, fun a b => by have := h3 a b; omega, by omega, h5, h6⟩
def sp_NM (pe ev : Nat) (nm : Int → Int) : Prop := ∀ v, (0 ≤ nm v → nm v ≤ 3 → nm v < pe) ∧ (4 ≤ nm v → nm v ≤ 7 → nm v < 4 + ev)
/-- a state whose names and codes are told of -/
def sp_ok (c : sp_C) : Prop := (∃ da pe ev : Nat, (c.2.2.2.2.1 0 = (da : Int) ∧ c.2.2.2.2.1 1 = (pe : Int) ∧ c.2.2.2.2.1 2 = (ev : Int) ∧ 0 ≤ c.2.2.2.2.1 3) ∧ (da ≤ 6 ∧ pe ≤ 4 ∧ ev ≤ 4) ∧ sp_NM pe ev c.2.2.2.2.2.1 ∧ ∀ x ∈ c.2.2.2.2.2.2, x.1 = 11 → okz da pe ev x.2) ∧ (c.1 = 0 → c.2.2.2.2.2.2 = [])
section SPV
variable {K P V : Nat → Int} {st st' a a' dp dp' : Nat} {sk sk' : List Nat} {ld ld' : Nat → Int} {nm : Int → Int} {cs : List (Int × Int)} {c c' : sp_C}
theorem sp_ok_s (h : sp_ok (st, a, dp, sk, ld, nm, cs)) (hl : ∀ j, j < 4 → ld' j = ld j) (h0 : ¬ st' = 0) : sp_ok (st', a', dp', sk', ld', nm, cs) := by
  obtain ⟨⟨da, pe, ev, ⟨h1, h2, h3, h4⟩, hb, hn, hc⟩, -⟩ := h
  exact ⟨⟨da, pe, ev, ⟨(hl 0 (by omega)).trans h1, (hl 1 (by omega)).trans h2, (hl 2 (by omega)).trans h3, by show 0 ≤ ld' 3; rw [hl 3 (by omega)]; exact h4⟩, hb, hn, hc⟩, fun e => absurd e h0⟩
theorem sp_ok_c {y : Int × Int} (h : sp_ok (st, a, dp, sk, ld, nm, cs)) (hl : ∀ j, j < 4 → ld' j = ld j) (hy : ¬ y.1 = 11) (h0 : ¬ st' = 0) : sp_ok (st', a', dp', sk', ld', nm, cs ++ [y]) := by
  obtain ⟨⟨da, pe, ev, ⟨h1, h2, h3, h4⟩, hb, hn, hc⟩, -⟩ := h
  refine ⟨⟨da, pe, ev, ⟨(hl 0 (by omega)).trans h1, (hl 1 (by omega)).trans h2, (hl 2 (by omega)).trans h3, by show 0 ≤ ld' 3; rw [hl 3 (by omega)]; exact h4⟩, hb, hn, fun x hx h11 => ?_⟩, fun e => absurd e h0⟩
  have hx : x ∈ cs ++ [y] := hx
  rw [List.mem_append, List.mem_singleton] at hx
  rcases hx with z | z
  · exact hc x z h11
  · rw [z] at h11
    exact absurd h11 hy
theorem sp_id (j : Nat) (_ : j < 4) : ld j = ld j := rfl
theorem sp_up4 {i : Nat} {v : Int} (hi : 4 ≤ i) (j : Nat) (hj : j < 4) : sp_up ld i v j = ld j := if_neg (by omega)
theorem sp_up42 {i i2 : Nat} {v v2 : Int} (hi : 4 ≤ i) (hi2 : 4 ≤ i2) (j : Nat) (hj : j < 4) : sp_up (sp_up ld i v) i2 v2 j = ld j := (sp_up4 hi2 j hj).trans (sp_up4 hi j hj)
theorem sp_cl_ok {da pe ev : Nat} {x : Nat × Int} (h1 : ld 0 = (da : Int)) (hb : da ≤ 6 ∧ pe ≤ 4 ∧ ev ≤ 4) (hn : sp_NM pe ev nm) (hk : K a = 16 ∨ K a = 17 ∨ K a = 3 ∨ K a = 14 ∨ K a = 15) (h3 : K a = 3 → 0 ≤ nm (V a) ∧ nm (V a) ≤ 3) (h : sp_cl K P V ld nm a = .inl x) : okz da pe ev x.2 := by
  have n0 := hn (V a)
  have n1 := hn (V (a + 1))
  have n2 := hn (V (a + 2))
  have n3 := hn (V (a + 3))
  unfold sp_cl at h
  split at h
  · unfold sp_pair at h
    split at h
    · cases h
    split at h
    · cases h
    split at h
    · cases h
    split at h
    · cases h
    split at h
    · cases h
    split at h
    · cases h
    split at h
    · cases h
    rename_i c1 c2 c3 c4 c5 c6 c7
    cases h
    have a1 := n1.1 (by omega) (by omega)
    have a2 := n2.1 (by omega) (by omega)
    have a3 := n3.2 (by omega) (by omega)
    refine ⟨(nm (V (a + 1))).toNat, (nm (V (a + 3)) - 4).toNat, if K a = 16 then 7 else 8, (nm (V (a + 2))).toNat, ?_, ?_, ?_, by omega, ?_, ?_⟩
    · by_cases e : K a = 16
      · show sp_cc _ _ (if K a = 16 then 7 else 8) _ = _
        rw [if_pos e, if_pos e]
        unfold sp_cc
        omega
      · show sp_cc _ _ (if K a = 16 then 7 else 8) _ = _
        rw [if_neg e, if_neg e]
        unfold sp_cc
        omega
    · refine ⟨by omega, by omega, by split <;> omega, by omega, fun _ => ⟨by omega, by omega⟩, fun q => ?_⟩
      split at q <;> omega
    · intro q
      split at q <;> omega
    · intro q
      split at q <;> omega
    · intro q
      split at q <;> omega
  · rename_i hk2
    have who : ∃ who : Nat, (if K a = 14 then 4 else if K a = 15 then 5 else nm (V a)) = (who : Int) ∧ who ≤ 5 ∧ (who < 4 → who < pe) := by
      by_cases e14 : K a = 14
      · exact ⟨4, by rw [if_pos e14]; rfl, by omega, by omega⟩
      · by_cases e15 : K a = 15
        · exact ⟨5, by rw [if_neg e14, if_pos e15]; rfl, by omega, by omega⟩
        · have b3 := h3 (by omega)
          have a0 := n0.1 b3.1 b3.2
          exact ⟨(nm (V a)).toNat, by rw [if_neg e14, if_neg e15]; omega, by omega, by omega⟩
    obtain ⟨who, hw, hw5, hw4⟩ := who
    unfold sp_single at h
    split at h
    · cases h
    split at h
    · cases h
    split at h
    · cases h
    rename_i c1 c2 c3
    have a1 := n1.2 (by omega) (by omega)
    split at h
    · rename_i c4
      cases h
      refine ⟨who, (nm (V (a + 1)) - 4).toNat, (K (a + 2) - 18).toNat, 0, ?_, ⟨hw5, by omega, by omega, by omega, fun q => by omega, fun q => by omega⟩, fun _ => hw4, by omega, fun _ => rfl, fun _ => by omega⟩
      show sp_cc (if K a = 14 then 4 else if K a = 15 then 5 else nm (V a)) _ _ _ = _
      rw [hw]
      unfold sp_cc
      omega
    split at h
    · cases h
    split at h
    · cases h
    rename_i c4 c5 c6
    cases h
    rw [h1] at c6
    have hlo : sp_lo (K (a + 2)) = if K (a + 2) ≤ 20 then 1 else 0 := rfl
    refine ⟨who, (nm (V (a + 1)) - 4).toNat, (K (a + 2) - 18).toNat, (V (a + 3)).toNat, ?_, ⟨hw5, by omega, by omega, ?_, fun q => by omega, fun q => ?_⟩, fun _ => hw4, by omega, fun q => by omega, fun _ => ?_⟩
    · show sp_cc (if K a = 14 then 4 else if K a = 15 then 5 else nm (V a)) _ _ _ = _
      rw [hw]
      unfold sp_cc
      have : 0 ≤ V (a + 3) := by
        rw [hlo] at c6
        split at c6 <;> omega
      omega
    · rw [hlo] at c6
      split at c6 <;> omega
    · rw [hlo, if_pos (by omega)] at c6
      omega
    · rw [hlo] at c6
      split at c6 <;> omega
theorem sp_ok_item (h : sp_ok (st, a, dp, sk, ld, nm, cs)) (e : sp_item K P V a dp sk ld nm cs = .inl c') : sp_ok c' := by
  unfold sp_item at e
  split at e
  · cases e
  split at e
  · cases e
  split at e
  · cases e
  split at e
  · cases e
    exact sp_ok_s h sp_id (by omega)
  split at e
  · cases e
    exact sp_ok_s h sp_id (by omega)
  rename_i c1 c2 c3 c4 c5
  split at e
  · rename_i q hq
    cases e
    obtain ⟨⟨da, pe, ev, ⟨h1, h2, h3, h4⟩, hb, hn, hc⟩, -⟩ := h
    have hn : sp_NM pe ev nm := hn
    refine ⟨⟨da, pe, ev, ⟨h1, h2, h3, h4⟩, hb, hn, fun x hx h11 => ?_⟩, fun z => absurd z (by show ¬ (4 : Nat) = 0; omega)⟩
    have hx : x ∈ cs ++ [(11, q.2)] := hx
    rw [List.mem_append, List.mem_singleton] at hx
    rcases hx with z | z
    · exact hc x z h11
    · rw [z]
      exact sp_cl_ok h1 hb hn (by omega) (fun k3 => by omega) hq
  · cases e
theorem sp_ok_part (h : sp_ok (st, a, dp, sk, ld, nm, cs)) (e : sp_part K P V a dp sk ld nm cs = .inl c') : sp_ok c' := by
  unfold sp_part at e
  split at e
  · cases e
  split at e
  · cases e
  split at e
  · cases e
    exact sp_ok_s h sp_id (by omega)
  split at e
  · cases e
    exact sp_ok_s h sp_id (by omega)
  · cases e
    refine sp_ok_c h sp_id ?_ (by omega)
    split
    · show ¬ (1 : Int) = 11
      decide
    · show ¬ (2 : Int) = 11
      decide
theorem sp_ok_line (h : sp_ok (st, a, dp, sk, ld, nm, cs)) (e : sp_line K P V a ld nm cs = .inl c') : sp_ok c' := by
  unfold sp_line at e
  split at e
  · cases e
  split at e
  · unfold sp_person at e
    split at e
    · cases e
    rename_i hbig
    repeat (split at e; · cases e)
    cases e
    obtain ⟨⟨da, pe, ev, ⟨h1, h2, h3, h4⟩, hb, hn, hc⟩, -⟩ := h
    have h1 : ld 0 = (da : Int) := h1
    have h2 : ld 1 = (pe : Int) := h2
    have h3 : ld 2 = (ev : Int) := h3
    have h4 : 0 ≤ ld 3 := h4
    have i7 : ¬ 7 + (ld 1).toNat = 0 ∧ ¬ 7 + (ld 1).toNat = 2 ∧ ¬ 7 + (ld 1).toNat = 3 := by omega
    refine ⟨⟨da, pe + 1, ev, ⟨?_, ?_, ?_, ?_⟩, by omega, fun v => ?_, fun x hx h11 => okz_m (hc x hx h11) (by omega) (Nat.le_refl _)⟩, fun z => absurd z (by show ¬ (1 : Nat) = 0; omega)⟩
    · show (if (0 : Nat) = 1 then ld 1 + 1 else if 0 = 7 + (ld 1).toNat then V (a + 3) else ld 0) = _
      rw [if_neg (by omega), if_neg (by omega)]
      exact h1
    · show (if (1 : Nat) = 1 then ld 1 + 1 else if 1 = 7 + (ld 1).toNat then V (a + 3) else ld 1) = _
      rw [if_pos rfl]
      omega
    · show (if (2 : Nat) = 1 then ld 1 + 1 else if 2 = 7 + (ld 1).toNat then V (a + 3) else ld 2) = _
      rw [if_neg (by omega), if_neg (by omega)]
      exact h3
    · show 0 ≤ (if (3 : Nat) = 1 then ld 1 + 1 else if 3 = 7 + (ld 1).toNat then V (a + 3) else ld 3)
      rw [if_neg (by omega), if_neg (by omega)]
      exact h4
    · show (0 ≤ (if v = V (a + 1) then ld 1 else nm v) → (if v = V (a + 1) then ld 1 else nm v) ≤ 3 → (if v = V (a + 1) then ld 1 else nm v) < ((pe + 1 : Nat) : Int)) ∧ (4 ≤ (if v = V (a + 1) then ld 1 else nm v) → (if v = V (a + 1) then ld 1 else nm v) ≤ 7 → (if v = V (a + 1) then ld 1 else nm v) < 4 + ev)
      have z : (0 ≤ nm v → nm v ≤ 3 → nm v < (pe : Int)) ∧ (4 ≤ nm v → nm v ≤ 7 → nm v < 4 + (ev : Int)) := hn v
      split <;> constructor <;> intro q1 q2 <;> omega
  split at e
  · unfold sp_event at e
    split at e
    · cases e
    rename_i hbig
    repeat (split at e; · cases e)
    cases e
    obtain ⟨⟨da, pe, ev, ⟨h1, h2, h3, h4⟩, hb, hn, hc⟩, -⟩ := h
    have h1 : ld 0 = (da : Int) := h1
    have h2 : ld 1 = (pe : Int) := h2
    have h3 : ld 2 = (ev : Int) := h3
    have h4 : 0 ≤ ld 3 := h4
    refine ⟨⟨da, pe, ev + 1, ⟨h1, h2, ?_, ?_⟩, by omega, fun v => ?_, fun x hx h11 => okz_m (hc x hx h11) (Nat.le_refl _) (by omega)⟩, fun z => absurd z (by show ¬ (1 : Nat) = 0; omega)⟩
    · show (if (2 : Nat) = 2 then ld 2 + 1 else ld 2) = _
      rw [if_pos rfl]
      omega
    · show 0 ≤ (if (3 : Nat) = 2 then ld 2 + 1 else ld 3)
      rw [if_neg (by omega)]
      exact h4
    · show (0 ≤ (if v = V (a + 1) then 4 + ld 2 else nm v) → (if v = V (a + 1) then 4 + ld 2 else nm v) ≤ 3 → (if v = V (a + 1) then 4 + ld 2 else nm v) < (pe : Int)) ∧ (4 ≤ (if v = V (a + 1) then 4 + ld 2 else nm v) → (if v = V (a + 1) then 4 + ld 2 else nm v) ≤ 7 → (if v = V (a + 1) then 4 + ld 2 else nm v) < 4 + ((ev + 1 : Nat) : Int))
      have z : (0 ≤ nm v → nm v ≤ 3 → nm v < (pe : Int)) ∧ (4 ≤ nm v → nm v ≤ 7 → nm v < 4 + (ev : Int)) := hn v
      split <;> constructor <;> intro q1 q2 <;> omega
  split at e
  · unfold sp_prophet at e
    repeat (split at e; · cases e)
    cases e
    obtain ⟨⟨da, pe, ev, ⟨h1, h2, h3, h4⟩, hb, hn, hc⟩, -⟩ := h
    have h4 : 0 ≤ ld 3 := h4
    refine ⟨⟨da, pe, ev, ⟨?_, ?_, ?_, ?_⟩, hb, fun v => ?_, hc⟩, fun z => absurd z (by show ¬ (1 : Nat) = 0; omega)⟩
    · show (if (0 : Nat) = 3 then ld 3 + 1 else if 0 = 12 + 2 * (ld 3).toNat then V (a + 4) else if 0 = 11 + 2 * (ld 3).toNat then K (a + 2) - 25 else ld 0) = _
      rw [if_neg (by omega), if_neg (by omega), if_neg (by omega)]
      exact h1
    · show (if (1 : Nat) = 3 then ld 3 + 1 else if 1 = 12 + 2 * (ld 3).toNat then V (a + 4) else if 1 = 11 + 2 * (ld 3).toNat then K (a + 2) - 25 else ld 1) = _
      rw [if_neg (by omega), if_neg (by omega), if_neg (by omega)]
      exact h2
    · show (if (2 : Nat) = 3 then ld 3 + 1 else if 2 = 12 + 2 * (ld 3).toNat then V (a + 4) else if 2 = 11 + 2 * (ld 3).toNat then K (a + 2) - 25 else ld 2) = _
      rw [if_neg (by omega), if_neg (by omega), if_neg (by omega)]
      exact h3
    · show 0 ≤ (if (3 : Nat) = 3 then ld 3 + 1 else if 3 = 12 + 2 * (ld 3).toNat then V (a + 4) else if 3 = 11 + 2 * (ld 3).toNat then K (a + 2) - 25 else ld 3)
      rw [if_pos rfl]
      omega
    · show (0 ≤ (if v = V (a + 1) then 8 + ld 3 else nm v) → (if v = V (a + 1) then 8 + ld 3 else nm v) ≤ 3 → (if v = V (a + 1) then 8 + ld 3 else nm v) < (pe : Int)) ∧ (4 ≤ (if v = V (a + 1) then 8 + ld 3 else nm v) → (if v = V (a + 1) then 8 + ld 3 else nm v) ≤ 7 → (if v = V (a + 1) then 8 + ld 3 else nm v) < 4 + (ev : Int))
      have z : (0 ≤ nm v → nm v ≤ 3 → nm v < (pe : Int)) ∧ (4 ≤ nm v → nm v ≤ 7 → nm v < 4 + (ev : Int)) := hn v
      split <;> constructor <;> intro q1 q2 <;> omega
  split at e
  · split at e
    · cases e
    · cases e
      exact sp_ok_s h (sp_up4 (by omega)) (by omega)
  split at e
  · unfold sp_wish at e
    repeat (split at e; · cases e)
    cases e
    exact sp_ok_s h (fun j hj => (sp_up42 (by omega) (by omega) j hj).trans (sp_up4 (by omega) j hj)) (by omega)
  split at e
  · cases e
  split at e
  · cases e
  · cases e
    exact sp_ok_s h sp_id (by omega)
/-- the pile of an expression -/
def sp_E : List Nat → Prop
  | [] => True
  | f :: sk => f = 7 ∨ ((f = 5 ∨ f = 6 ∨ 30 ≤ f) ∧ sp_E sk)
def sp_st (c : sp_C) : Prop := 8 ≤ c.1 → c.1 ≤ 13 → sp_E c.2.2.2.1
theorem sp_st_1 (h : sp_st c) (e : sp_step K P V c = .inl c') : sp_st c' := by
  obtain ⟨st, a, dp, sk, ld, nm, cs⟩ := c
  rcases (show st = 0 ∨ st = 1 ∨ st = 2 ∨ st = 3 ∨ st = 4 ∨ st = 5 ∨ st = 6 ∨ st = 7 ∨ st = 8 ∨ st = 9 ∨ st = 10 ∨ st = 11 ∨ st = 12 ∨ st = 13 ∨ 14 ≤ st by omega) with rfl | rfl | rfl | rfl | rfl | rfl | rfl | rfl | rfl | rfl | rfl | rfl | rfl | rfl | h14
  · have e : sp_s0 K P V a ld nm cs = .inl c' := e
    unfold sp_s0 at e
    repeat' split at e
    all_goals first
      | (cases e; done)
      | (cases e; intro z1 z2; dsimp only at z1 z2; omega)
  · have e : (if K a = 59 then .inl (2, a + 1, 0, [], ld, nm, cs) else .inr (sp_f P a 1) : sp_C ⊕ Int) = .inl c' := e
    repeat' split at e
    all_goals first
      | (cases e; done)
      | (cases e; intro z1 z2; dsimp only at z1 z2; omega)
  · have e : sp_line K P V a ld nm cs = .inl c' := e
    unfold sp_line at e
    split at e
    · cases e
    split at e
    · unfold sp_person at e
      repeat (split at e; · cases e)
      cases e
      intro z1 z2; dsimp only at z1 z2; omega
    split at e
    · unfold sp_event at e
      repeat (split at e; · cases e)
      cases e
      intro z1 z2; dsimp only at z1 z2; omega
    split at e
    · unfold sp_prophet at e
      repeat (split at e; · cases e)
      cases e
      intro z1 z2; dsimp only at z1 z2; omega
    split at e
    · split at e
      · cases e
      · cases e
        intro z1 z2; dsimp only at z1 z2; omega
    split at e
    · unfold sp_wish at e
      repeat (split at e; · cases e)
      cases e
      intro z1 z2; dsimp only at z1 z2; omega
    split at e
    · cases e
    split at e
    · cases e
    · cases e
      exact fun _ _ => Or.inl rfl
  · have e : sp_item K P V a dp sk ld nm cs = .inl c' := e
    unfold sp_item at e
    repeat' split at e
    all_goals first
      | (cases e; done)
      | (cases e; intro z1 z2; dsimp only at z1 z2; omega)
  · cases sk with
    | nil => cases e
    | cons f sk =>
    have e : (if f = 0 then .inl (4, a, dp - 1, sk, ld, nm, cs ++ [(3, 0)]) else if f = 12 ∨ f = 13 then .inl (5, a, dp, (f - 2) :: sk, ld, nm, cs ++ [(9, 0)]) else .inl (5, a, dp, f :: sk, ld, nm, cs) : sp_C ⊕ Int) = .inl c' := e
    repeat' split at e
    all_goals first
      | (cases e; done)
      | (cases e; intro z1 z2; dsimp only at z1 z2; omega)
  · cases sk with
    | nil => cases e
    | cons f sk =>
    have e : (if K a = 31 then .inl (3, a + 1, dp, (f + 2) :: sk, ld, nm, cs) else .inl (6, a, dp, sk, ld, nm, if f = 11 then cs ++ [(10, 0)] else cs) : sp_C ⊕ Int) = .inl c' := e
    split at e
    · cases e; intro z1 z2; dsimp only at z1 z2; omega
    · cases e; intro z1 z2; dsimp only at z1 z2; omega
  · have e : (if K a = 32 then .inl (3, a + 1, dp, 11 :: sk, ld, nm, cs) else .inl (7, a, dp, sk, ld, nm, cs) : sp_C ⊕ Int) = .inl c' := e
    split at e
    · cases e; intro z1 z2; dsimp only at z1 z2; omega
    · cases e; intro z1 z2; dsimp only at z1 z2; omega
  · cases sk with
    | nil => cases e
    | cons f sk =>
    have e : (if f = 1 then (if K a = 41 then .inl (4, a + 1, dp - 1, sk, ld, nm, cs) else .inr (sp_f P a 1)) else if f = 20 then .inl (1, a, dp, sk, sp_up ld 4 (ld 4 + 1), nm, cs ++ [(0, 0)]) else if f = 21 then .inl (1, a, dp, sk, sp_up ld 5 (ld 5 + 1), nm, cs ++ [(0, 0)]) else if ¬ K a = 59 then .inr (sp_f P a 1) else if ¬ K (a + 1) = 0 then .inr (sp_f P (a + 1) 1) else .inr 0 : sp_C ⊕ Int) = .inl c' := e
    split at e
    · split at e
      · cases e
        intro z1 z2; dsimp only at z1 z2; omega
      · cases e
    split at e
    · cases e
      intro z1 z2; dsimp only at z1 z2; omega
    split at e
    · cases e
      intro z1 z2; dsimp only at z1 z2; omega
    · repeat (split at e; · cases e)
      cases e
  · cases e
    exact fun _ _ => Or.inr ⟨Or.inr (Or.inr (by omega)), h (by show 8 ≤ 8; omega) (by show 8 ≤ 13; omega)⟩
  · cases e
    exact fun _ _ => Or.inr ⟨Or.inr (Or.inr (by omega)), h (by show 8 ≤ 9; omega) (by show 9 ≤ 13; omega)⟩
  · cases e
    exact fun _ _ => Or.inr ⟨Or.inr (Or.inr (by omega)), h (by show 8 ≤ 10; omega) (by show 10 ≤ 13; omega)⟩
  · cases e
    exact fun _ _ => Or.inr ⟨Or.inr (Or.inr (by omega)), h (by show 8 ≤ 11; omega) (by show 11 ≤ 13; omega)⟩
  · have hE : sp_E sk := h (by show 8 ≤ 12; omega) (by show 12 ≤ 13; omega)
    have e : sp_part K P V a dp sk ld nm cs = .inl c' := e
    unfold sp_part at e
    repeat' split at e
    all_goals first
      | (cases e; done)
      | (cases e; exact fun _ _ => Or.inr ⟨Or.inl rfl, hE⟩)
      | (cases e; exact fun _ _ => Or.inr ⟨Or.inr (Or.inl rfl), hE⟩)
      | (cases e; exact fun _ _ => hE)
  · cases sk with
    | nil => cases e
    | cons f sk =>
    have hE : f = 7 ∨ ((f = 5 ∨ f = 6 ∨ 30 ≤ f) ∧ sp_E sk) := h (by show 8 ≤ 13; omega) (by show 13 ≤ 13; omega)
    rw [sp_s13] at e
    split at e
    · cases e
      exact fun _ _ => (hE.resolve_left (by omega)).2
    split at e
    · split at e
      · cases e
        exact fun _ _ => (hE.resolve_left (by omega)).2
      · cases e
    split at e
    · cases e
      intro z1 z2; dsimp only at z1 z2; omega
    have hE2 := (hE.resolve_left (by omega)).2
    split at e
    · split at e
      · cases e
        exact fun _ _ => Or.inr ⟨Or.inr (Or.inr (by omega)), hE2⟩
      · cases e
        exact fun _ _ => hE2
    split at e
    · cases e
      exact fun _ _ => hE2
    · cases e
      exact fun _ _ => Or.inr ⟨Or.inr (Or.inr (by omega)), hE2⟩
  · obtain ⟨m, rfl⟩ : ∃ m, st = m + 14 := ⟨st - 14, by omega⟩
    cases e
theorem sp_ok_1 (h : sp_ok c) (hst : sp_st c) (e : sp_step K P V c = .inl c') : sp_ok c' := by
  obtain ⟨st, a, dp, sk, ld, nm, cs⟩ := c
  rcases (show st = 0 ∨ st = 1 ∨ st = 2 ∨ st = 3 ∨ st = 4 ∨ st = 5 ∨ st = 6 ∨ st = 7 ∨ st = 8 ∨ st = 9 ∨ st = 10 ∨ st = 11 ∨ st = 12 ∨ st = 13 ∨ 14 ≤ st by omega) with rfl | rfl | rfl | rfl | rfl | rfl | rfl | rfl | rfl | rfl | rfl | rfl | rfl | rfl | hst
  · have e : sp_s0 K P V a ld nm cs = .inl c' := e
    unfold sp_s0 at e
    split at e
    · cases e
    split at e
    · cases e
    split at e
    · cases e
    rename_i c3
    cases e
    obtain ⟨⟨da, pe, ev, ⟨h1, h2, h3, h4⟩, hb, hn, hc⟩, h0⟩ := h
    have h0 : cs = [] := h0 rfl
    refine ⟨⟨(V (a + 1)).toNat, pe, ev, ⟨?_, h2, h3, ?_⟩, by omega, hn, fun x hx => ?_⟩, fun z => absurd z (by show ¬ (1 : Nat) = 0; omega)⟩
    · show (if (0 : Nat) = 0 then V (a + 1) else ld 0) = _
      rw [if_pos rfl]
      omega
    · show 0 ≤ (if (3 : Nat) = 0 then V (a + 1) else ld 3)
      rw [if_neg (by omega)]
      exact h4
    · have hx : x ∈ cs := hx
      rw [h0] at hx
      cases hx
  · have e : (if K a = 59 then .inl (2, a + 1, 0, [], ld, nm, cs) else .inr (sp_f P a 1) : sp_C ⊕ Int) = .inl c' := e
    split at e
    · cases e
      exact sp_ok_s h sp_id (by omega)
    · cases e
  · exact sp_ok_line h e
  · exact sp_ok_item h e
  · cases sk with
    | nil => cases e
    | cons f sk =>
    have e : (if f = 0 then .inl (4, a, dp - 1, sk, ld, nm, cs ++ [(3, 0)]) else if f = 12 ∨ f = 13 then .inl (5, a, dp, (f - 2) :: sk, ld, nm, cs ++ [(9, 0)]) else .inl (5, a, dp, f :: sk, ld, nm, cs) : sp_C ⊕ Int) = .inl c' := e
    split at e
    · cases e
      exact sp_ok_c h sp_id (show ¬ (3 : Int) = 11 by decide) (by omega)
    split at e
    · cases e
      exact sp_ok_c h sp_id (show ¬ (9 : Int) = 11 by decide) (by omega)
    · cases e
      exact sp_ok_s h sp_id (by omega)
  · cases sk with
    | nil => cases e
    | cons f sk =>
    have e : (if K a = 31 then .inl (3, a + 1, dp, (f + 2) :: sk, ld, nm, cs) else .inl (6, a, dp, sk, ld, nm, if f = 11 then cs ++ [(10, 0)] else cs) : sp_C ⊕ Int) = .inl c' := e
    split at e
    · cases e
      exact sp_ok_s h sp_id (by omega)
    · cases e
      by_cases hf : f = 11
      · rw [if_pos hf]
        exact sp_ok_c h sp_id (show ¬ (10 : Int) = 11 by decide) (by omega)
      · rw [if_neg hf]
        exact sp_ok_s h sp_id (by omega)
  · have e : (if K a = 32 then .inl (3, a + 1, dp, 11 :: sk, ld, nm, cs) else .inl (7, a, dp, sk, ld, nm, cs) : sp_C ⊕ Int) = .inl c' := e
    split at e
    · cases e
      exact sp_ok_s h sp_id (by omega)
    · cases e
      exact sp_ok_s h sp_id (by omega)
  · cases sk with
    | nil => cases e
    | cons f sk =>
    have e : (if f = 1 then (if K a = 41 then .inl (4, a + 1, dp - 1, sk, ld, nm, cs) else .inr (sp_f P a 1)) else if f = 20 then .inl (1, a, dp, sk, sp_up ld 4 (ld 4 + 1), nm, cs ++ [(0, 0)]) else if f = 21 then .inl (1, a, dp, sk, sp_up ld 5 (ld 5 + 1), nm, cs ++ [(0, 0)]) else if ¬ K a = 59 then .inr (sp_f P a 1) else if ¬ K (a + 1) = 0 then .inr (sp_f P (a + 1) 1) else .inr 0 : sp_C ⊕ Int) = .inl c' := e
    split at e
    · split at e
      · cases e
        exact sp_ok_s h sp_id (by omega)
      · cases e
    split at e
    · cases e
      exact sp_ok_c h (sp_up4 (by omega)) (show ¬ (0 : Int) = 11 by decide) (by omega)
    split at e
    · cases e
      exact sp_ok_c h (sp_up4 (by omega)) (show ¬ (0 : Int) = 11 by decide) (by omega)
    · repeat (split at e; · cases e)
      cases e
  · cases e
    exact sp_ok_s h sp_id (by omega)
  · cases e
    exact sp_ok_s h sp_id (by omega)
  · cases e
    exact sp_ok_s h sp_id (by omega)
  · cases e
    exact sp_ok_s h sp_id (by omega)
  · exact sp_ok_part h e
  · cases sk with
    | nil => cases e
    | cons f sk =>
    have hE : f = 7 ∨ ((f = 5 ∨ f = 6 ∨ 30 ≤ f) ∧ sp_E sk) := hst (by show 8 ≤ 13; omega) (by show 13 ≤ 13; omega)
    have hf : f = 7 ∨ f = 5 ∨ f = 6 ∨ 30 ≤ f := by rcases hE with z | ⟨z, -⟩ <;> omega
    rw [sp_s13] at e
    split at e
    · cases e
      exact sp_ok_c h sp_id (show ¬ (3 : Int) = 11 by decide) (by omega)
    split at e
    · split at e
      · cases e
        exact sp_ok_s h sp_id (by omega)
      · cases e
    split at e
    · cases e
      exact sp_ok_c h (sp_up4 (by omega)) (show ¬ (0 : Int) = 11 by decide) (by omega)
    split at e
    · split at e
      · cases e
        exact sp_ok_s h sp_id (by omega)
      · cases e
        exact sp_ok_s h sp_id (by omega)
    split at e
    · cases e
      exact sp_ok_c h sp_id (show ¬ sp_sg ((f - 100) / 8) = 11 by have := @sp_sg_b ((f - 100) / 8); omega) (by omega)
    · cases e
      exact sp_ok_c h sp_id (show ¬ sp_sg ((f - 100) / 8) = 11 by have := @sp_sg_b ((f - 100) / 8); omega) (by omega)
  · obtain ⟨m, rfl⟩ : ∃ m, st = m + 14 := ⟨st - 14, by omega⟩
    cases e
theorem sp_ok_n (h : sp_ok c) (hst : sp_st c) : ∀ n, sp_it K P V n (.inl c) = .inl c' → sp_ok c' := by
  intro n
  induction n generalizing c with
  | zero =>
    intro e
    cases e
    exact h
  | succ n ih =>
    intro e
    have e : sp_it K P V n (sp_step K P V c) = .inl c' := e
    cases hs : sp_step K P V c with
    | inl c2 =>
      rw [hs] at e
      exact ih (sp_ok_1 h hst hs) (sp_st_1 hst hs) e
    | inr f =>
      rw [hs, sp_it_r] at e
      cases e
theorem sp_ok_R (h : sp_ok c) (hst : sp_st c) (r : sp_R K P V c (.inl c')) : sp_ok c' := by
  obtain ⟨n, e⟩ := r
  exact sp_ok_n h hst n e
theorem sp_st_0 : sp_st (0, 0, 0, [], sp_ld0, sp_nm0, []) := fun z => absurd z (by show ¬ 8 ≤ 0; omega)
theorem sp_ok_0 : sp_ok (0, 0, 0, [], sp_ld0, sp_nm0, []) := ⟨⟨1, 0, 0, ⟨rfl, rfl, rfl, by decide⟩, by omega, fun v => ⟨fun h => absurd h (by show ¬ (0 : Int) ≤ -1; decide), fun h => absurd h (by show ¬ (4 : Int) ≤ -1; decide)⟩, fun x hx => by cases hx⟩, fun _ => rfl⟩
end SPV
