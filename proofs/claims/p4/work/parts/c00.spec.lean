/-! What a land's text is: tokens read step by step. K: kinds, P: places, V: values of tokens. -/
abbrev sp_C : Type := Nat × Nat × Nat × List Nat × (Nat → Int) × (Int → Int) × List (Int × Int)
def sp_up (ld : Nat → Int) (k : Nat) (v : Int) : Nat → Int := fun j => if j = k then v else ld j
def sp_un (nm : Int → Int) (x v : Int) : Int → Int := fun y => if y = x then v else nm y
def sp_fact (v : Int) : Int := if v = 148383843 then 0 else if v = 2205662 then 1 else if v = 1034043 then 2 else -1
def sp_bigb (da pe ev : Int) : Int := if 0 < ev ∧ 32768 < ev ^ (da * pe).toNat then 1 else 0
def sp_lev (k : Int) : Nat := if k = 31 ∨ k = 32 then 0 else if k = 60 ∨ k = 61 then 1 else if k = 43 ∨ k = 45 then 2 else if k = 42 then 3 else 99
def sp_sg (k : Nat) : Int := if k = 31 then 9 else if k = 32 then 10 else if k = 60 then 7 else if k = 61 then 8 else if k = 43 then 4 else if k = 45 then 5 else 6
def sp_cc (who ev when n : Int) : Int := ((who * 4 + ev) * 16 + when) * 8 + n
def sp_lo (k : Int) : Int := if k ≤ 20 then 1 else 0
section SP
variable (K P V : Nat → Int)
def sp_f (a : Nat) (w : Int) : Int := w + 16 * P a
/-- a clause that begins at a token -/
def sp_single (ld : Nat → Int) (nm : Int → Int) (a : Nat) : (Nat × Int) ⊕ Int :=
  if ¬ K (a + 1) = 3 then .inr (sp_f P (a + 1) 1)
  else if ¬ (4 ≤ nm (V (a + 1)) ∧ nm (V (a + 1)) ≤ 7) then .inr (sp_f P (a + 1) 2)
  else if ¬ (18 ≤ K (a + 2) ∧ K (a + 2) ≤ 24) then .inr (sp_f P (a + 2) 1)
  else if K (a + 2) = 21 ∨ K (a + 2) = 22 then .inl (a + 3, sp_cc (if K a = 14 then 4 else if K a = 15 then 5 else nm (V a)) (nm (V (a + 1)) - 4) (K (a + 2) - 18) 0)
  else if ¬ K (a + 3) = 2 then .inr (sp_f P (a + 3) 1)
  else if V (a + 3) < sp_lo (K (a + 2)) ∨ ld 0 < V (a + 3) then .inr (sp_f P (a + 3) 4)
  else .inl (a + 4, sp_cc (if K a = 14 then 4 else if K a = 15 then 5 else nm (V a)) (nm (V (a + 1)) - 4) (K (a + 2) - 18) (V (a + 3)))
def sp_pair (nm : Int → Int) (a : Nat) : (Nat × Int) ⊕ Int :=
  if ¬ K (a + 1) = 3 then .inr (sp_f P (a + 1) 1)
  else if ¬ (0 ≤ nm (V (a + 1)) ∧ nm (V (a + 1)) ≤ 3) then .inr (sp_f P (a + 1) 2)
  else if ¬ K (a + 2) = 3 then .inr (sp_f P (a + 2) 1)
  else if ¬ (0 ≤ nm (V (a + 2)) ∧ nm (V (a + 2)) ≤ 3) then .inr (sp_f P (a + 2) 2)
  else if nm (V (a + 2)) = nm (V (a + 1)) then .inr (sp_f P (a + 2) 3)
  else if ¬ K (a + 3) = 3 then .inr (sp_f P (a + 3) 1)
  else if ¬ (4 ≤ nm (V (a + 3)) ∧ nm (V (a + 3)) ≤ 7) then .inr (sp_f P (a + 3) 2)
  else .inl (a + 4, sp_cc (nm (V (a + 1))) (nm (V (a + 3)) - 4) (if K a = 16 then 7 else 8) (nm (V (a + 2))))
def sp_cl (ld : Nat → Int) (nm : Int → Int) (a : Nat) : (Nat × Int) ⊕ Int := if K a = 16 ∨ K a = 17 then sp_pair K P V nm a else sp_single K P V ld nm a
/-- how a text begins -/
def sp_s0 (a : Nat) (ld : Nat → Int) (nm : Int → Int) (cs : List (Int × Int)) : sp_C ⊕ Int :=
  if ¬ K a = 4 then .inr (sp_f P a 1)
  else if ¬ K (a + 1) = 2 then .inr (sp_f P (a + 1) 1)
  else if V (a + 1) < 1 ∨ 6 < V (a + 1) then .inr (sp_f P (a + 1) 4)
  else .inl (1, a + 2, 0, [], sp_up ld 0 (V (a + 1)), nm, cs)
def sp_person (a : Nat) (ld : Nat → Int) (nm : Int → Int) (cs : List (Int × Int)) : sp_C ⊕ Int :=
  if 4 ≤ ld 1 ∨ sp_bigb (ld 0) (ld 1 + 1) (ld 2) = 1 then .inr (sp_f P a 5)
  else if ¬ K (a + 1) = 3 then .inr (sp_f P (a + 1) 1)
  else if 0 ≤ nm (V (a + 1)) then .inr (sp_f P (a + 1) 3)
  else if ¬ K (a + 2) = 6 then .inr (sp_f P (a + 2) 1)
  else if ¬ K (a + 3) = 2 then .inr (sp_f P (a + 3) 1)
  else if V (a + 3) < 0 ∨ 99 < V (a + 3) then .inr (sp_f P (a + 3) 4)
  else .inl (1, a + 4, 0, [], sp_up (sp_up ld (7 + (ld 1).toNat) (V (a + 3))) 1 (ld 1 + 1), sp_un nm (V (a + 1)) (ld 1), cs)
def sp_event (a : Nat) (ld : Nat → Int) (nm : Int → Int) (cs : List (Int × Int)) : sp_C ⊕ Int :=
  if 4 ≤ ld 2 ∨ sp_bigb (ld 0) (ld 1) (ld 2 + 1) = 1 then .inr (sp_f P a 5)
  else if ¬ K (a + 1) = 3 then .inr (sp_f P (a + 1) 1)
  else if 0 ≤ nm (V (a + 1)) then .inr (sp_f P (a + 1) 3)
  else .inl (1, a + 2, 0, [], sp_up ld 2 (ld 2 + 1), sp_un nm (V (a + 1)) (4 + ld 2), cs)
def sp_prophet (a : Nat) (ld : Nat → Int) (nm : Int → Int) (cs : List (Int × Int)) : sp_C ⊕ Int :=
  if 5 ≤ ld 3 then .inr (sp_f P a 5)
  else if ¬ K (a + 1) = 3 then .inr (sp_f P (a + 1) 1)
  else if 0 ≤ nm (V (a + 1)) then .inr (sp_f P (a + 1) 3)
  else if ¬ (25 ≤ K (a + 2) ∧ K (a + 2) ≤ 29) then .inr (sp_f P (a + 2) 1)
  else if ¬ K (a + 3) = 9 then .inr (sp_f P (a + 3) 1)
  else if ¬ K (a + 4) = 2 then .inr (sp_f P (a + 4) 1)
  else if V (a + 4) < 0 ∨ 999 < V (a + 4) then .inr (sp_f P (a + 4) 4)
  else .inl (1, a + 5, 0, [], sp_up (sp_up (sp_up ld (11 + 2 * (ld 3).toNat) (K (a + 2) - 25)) (12 + 2 * (ld 3).toNat) (V (a + 4))) 3 (ld 3 + 1), sp_un nm (V (a + 1)) (8 + ld 3), cs)
def sp_wish (a : Nat) (ld : Nat → Int) (nm : Int → Int) (cs : List (Int × Int)) : sp_C ⊕ Int :=
  if 6 ≤ ld 5 then .inr (sp_f P a 5)
  else if ¬ K (a + 1) = 3 then .inr (sp_f P (a + 1) 1)
  else if ¬ (8 ≤ nm (V (a + 1)) ∧ nm (V (a + 1)) ≤ 12) then .inr (sp_f P (a + 1) 2)
  else if ¬ K (a + 2) = 12 then .inr (sp_f P (a + 2) 1)
  else if ¬ K (a + 3) = 2 then .inr (sp_f P (a + 3) 1)
  else if V (a + 3) < 0 ∨ 99 < V (a + 3) then .inr (sp_f P (a + 3) 4)
  else .inl (3, a + 4, 0, [10, 21], sp_up (sp_up (sp_up ld (25 + 3 * (ld 5).toNat) (nm (V (a + 1)) - 8)) (26 + 3 * (ld 5).toNat) (V (a + 3))) (27 + 3 * (ld 5).toNat) cs.length, nm, cs)
def sp_line (a : Nat) (ld : Nat → Int) (nm : Int → Int) (cs : List (Int × Int)) : sp_C ⊕ Int :=
  if K a = 0 then .inr 0
  else if K a = 5 then sp_person K P V a ld nm cs
  else if K a = 7 then sp_event K P V a ld nm cs
  else if K a = 8 then sp_prophet K P V a ld nm cs
  else if K a = 10 then (if 4 ≤ ld 4 then .inr (sp_f P a 5) else .inl (3, a + 1, 0, [10, 20], sp_up ld (21 + (ld 4).toNat) cs.length, nm, cs))
  else if K a = 11 then sp_wish K P V a ld nm cs
  else if ¬ K a = 13 then .inr (sp_f P a 1)
  else if 0 ≤ ld 6 then .inr (sp_f P a 3)
  else .inl (8, a + 1, 0, [7, cs.length], ld, nm, cs)
def sp_item (a dp : Nat) (sk : List Nat) (ld : Nat → Int) (nm : Int → Int) (cs : List (Int × Int)) : sp_C ⊕ Int :=
  if ¬ (K a = 30 ∨ K a = 40 ∨ K a = 16 ∨ K a = 17 ∨ K a = 3 ∨ K a = 14 ∨ K a = 15) then .inr (sp_f P a 1)
  else if K a = 3 ∧ ¬ (0 ≤ nm (V a) ∧ nm (V a) ≤ 3) then .inr (sp_f P a 2)
  else if 5 ≤ dp then .inr (sp_f P a 5)
  else if K a = 30 then .inl (3, a + 1, dp + 1, 0 :: sk, ld, nm, cs)
  else if K a = 40 then .inl (3, a + 1, dp + 1, 10 :: 1 :: sk, ld, nm, cs)
  else (match sp_cl K P V ld nm a with
    | .inl q => .inl (4, q.1, dp, sk, ld, nm, cs ++ [(11, q.2)])
    | .inr f => .inr f)
def sp_part (a dp : Nat) (sk : List Nat) (ld : Nat → Int) (nm : Int → Int) (cs : List (Int × Int)) : sp_C ⊕ Int :=
  if ¬ (K a = 2 ∨ K a = 30 ∨ K a = 40 ∨ (K a = 3 ∧ 0 ≤ sp_fact (V a))) then .inr (sp_f P a 1)
  else if 5 ≤ dp then .inr (sp_f P a 5)
  else if K a = 30 then .inl (12, a + 1, dp + 1, 5 :: sk, ld, nm, cs)
  else if K a = 40 then .inl (8, a + 1, dp + 1, 6 :: sk, ld, nm, cs)
  else .inl (13, a + 1, dp, sk, ld, nm, cs ++ [if K a = 2 then (1, V a) else (2, sp_fact (V a))])
def sp_step (c : sp_C) : sp_C ⊕ Int := match c with
  | (0, a, _, _, ld, nm, cs) => sp_s0 K P V a ld nm cs
  | (1, a, _, _, ld, nm, cs) => if K a = 59 then .inl (2, a + 1, 0, [], ld, nm, cs) else .inr (sp_f P a 1)
  | (2, a, _, _, ld, nm, cs) => sp_line K P V a ld nm cs
  | (3, a, dp, sk, ld, nm, cs) => sp_item K P V a dp sk ld nm cs
  | (4, a, dp, f :: sk, ld, nm, cs) => if f = 0 then .inl (4, a, dp - 1, sk, ld, nm, cs ++ [(3, 0)]) else if f = 12 ∨ f = 13 then .inl (5, a, dp, (f - 2) :: sk, ld, nm, cs ++ [(9, 0)]) else .inl (5, a, dp, f :: sk, ld, nm, cs)
  | (5, a, dp, f :: sk, ld, nm, cs) => if K a = 31 then .inl (3, a + 1, dp, (f + 2) :: sk, ld, nm, cs) else .inl (6, a, dp, sk, ld, nm, if f = 11 then cs ++ [(10, 0)] else cs)
  | (6, a, dp, sk, ld, nm, cs) => if K a = 32 then .inl (3, a + 1, dp, 11 :: sk, ld, nm, cs) else .inl (7, a, dp, sk, ld, nm, cs)
  | (7, a, dp, f :: sk, ld, nm, cs) => if f = 1 then (if K a = 41 then .inl (4, a + 1, dp - 1, sk, ld, nm, cs) else .inr (sp_f P a 1)) else if f = 20 then .inl (1, a, dp, sk, sp_up ld 4 (ld 4 + 1), nm, cs ++ [(0, 0)]) else if f = 21 then .inl (1, a, dp, sk, sp_up ld 5 (ld 5 + 1), nm, cs ++ [(0, 0)]) else if ¬ K a = 59 then .inr (sp_f P a 1) else if ¬ K (a + 1) = 0 then .inr (sp_f P (a + 1) 1) else .inr 0
  | (8, a, dp, sk, ld, nm, cs) => .inl (9, a, dp, 30 :: sk, ld, nm, cs)
  | (9, a, dp, sk, ld, nm, cs) => .inl (10, a, dp, 31 :: sk, ld, nm, cs)
  | (10, a, dp, sk, ld, nm, cs) => .inl (11, a, dp, 32 :: sk, ld, nm, cs)
  | (11, a, dp, sk, ld, nm, cs) => .inl (12, a, dp, 33 :: sk, ld, nm, cs)
  | (12, a, dp, sk, ld, nm, cs) => sp_part K P V a dp sk ld nm cs
  | (13, a, dp, f :: sk, ld, nm, cs) => if f = 5 then .inl (13, a, dp - 1, sk, ld, nm, cs ++ [(3, 0)]) else if f = 6 then (if K a = 41 then .inl (13, a + 1, dp - 1, sk, ld, nm, cs) else .inr (sp_f P a 1)) else if f = 7 then .inl (1, a, dp, sk.tail, sp_up ld 6 (sk.headD 0 : Nat), nm, cs ++ [(0, 0)]) else if f < 100 then (if sp_lev (K a) = f - 30 then .inl (f - 21, a + 1, dp, (100 + 8 * (K a).toNat + (f - 30)) :: sk, ld, nm, cs) else .inl (13, a, dp, sk, ld, nm, cs)) else if (f - 100) % 8 = 1 then .inl (13, a, dp, sk, ld, nm, cs ++ [(sp_sg ((f - 100) / 8), 0)]) else .inl (13, a, dp, (30 + (f - 100) % 8) :: sk, ld, nm, cs ++ [(sp_sg ((f - 100) / 8), 0)])
  | _ => .inr 0
def sp_it : Nat → sp_C ⊕ Int → sp_C ⊕ Int
  | 0, x => x
  | n + 1, .inl c => sp_it n (sp_step K P V c)
  | _ + 1, .inr f => .inr f
/-- so many steps lead from one to the other -/
def sp_R (c : sp_C) (x : sp_C ⊕ Int) : Prop := ∃ n, sp_it K P V n (.inl c) = x
end SP
section SP
variable {K P V : Nat → Int} {c c' : sp_C} {x : sp_C ⊕ Int}
theorem sp_it_r (f : Int) : ∀ n, sp_it K P V n (.inr f) = .inr f
  | 0 => rfl
  | _ + 1 => rfl
theorem sp_it_a : ∀ (n m : Nat) (x : sp_C ⊕ Int), sp_it K P V (n + m) x = sp_it K P V m (sp_it K P V n x)
  | 0, m, x => by rw [Nat.zero_add]; rfl
  | n + 1, m, .inr f => by rw [sp_it_r, sp_it_r, sp_it_r]
  | n + 1, m, .inl c => by
    rw [show n + 1 + m = (n + m) + 1 by omega]
    show sp_it K P V (n + m) (sp_step K P V c) = sp_it K P V m (sp_it K P V n (sp_step K P V c))
    exact sp_it_a n m _
theorem sp_R_0 : sp_R K P V c (.inl c) := ⟨0, rfl⟩
theorem sp_R_t (h : sp_R K P V c (.inl c')) (h2 : sp_R K P V c' x) : sp_R K P V c x := by
  obtain ⟨n, e⟩ := h
  obtain ⟨m, e2⟩ := h2
  exact ⟨n + m, by rw [sp_it_a, e, e2]⟩
theorem sp_R_1 (h : sp_step K P V c = x) : sp_R K P V c x := ⟨1, h⟩
theorem sp_R_s (h : sp_R K P V c (.inl c')) (h2 : sp_step K P V c' = x) : sp_R K P V c x := sp_R_t h (sp_R_1 h2)
theorem sp_R_u {f g : Int} (h : sp_R K P V c (.inr f)) (h2 : sp_R K P V c (.inr g)) : f = g := by
  obtain ⟨n, e⟩ := h
  obtain ⟨m, e2⟩ := h2
  have a := sp_it_a (K := K) (P := P) (V := V) n m (.inl c)
  have b := sp_it_a (K := K) (P := P) (V := V) m n (.inl c)
  rw [e, sp_it_r] at a
  rw [e2, sp_it_r, Nat.add_comm] at b
  have h := a.symm.trans b
  cases h
  rfl
end SP
