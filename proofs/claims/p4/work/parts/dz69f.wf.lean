/-! Codes that are well formed: they push one value. -/
def rn (fa : Nat → Int) (hcl : Int → Bool) : List (Int × Int) → List Int → Option (List Int)
  | [], st => some st
  | x :: xs, st => match stp fa hcl x.1 x.2 st with
    | some st' => if st'.length ≤ 64 then rn fa hcl xs st' else none
    | none => none
theorem rn_c {fa : Nat → Int} {hcl : Int → Bool} {a : Int × Int} {x : List (Int × Int)} {st t : List Int} (h : rn fa hcl (a :: x) st = some t) : ∃ st', stp fa hcl a.1 a.2 st = some st' ∧ st'.length ≤ 64 ∧ rn fa hcl x st' = some t := by
  have h : (match stp fa hcl a.1 a.2 st with
    | some st' => if st'.length ≤ 64 then rn fa hcl x st' else none
    | none => none) = some t := h
  cases e : stp fa hcl a.1 a.2 st with
  | none =>
    rw [e] at h
    cases h
  | some st' =>
    rw [e] at h
    have h : (if st'.length ≤ 64 then rn fa hcl x st' else none) = some t := h
    by_cases c : st'.length ≤ 64
    · rw [if_pos c] at h
      exact ⟨st', rfl, c, h⟩
    · rw [if_neg c] at h
      cases h
theorem rn_i {fa : Nat → Int} {hcl : Int → Bool} {a : Int × Int} {x : List (Int × Int)} {st st' : List Int} (h1 : stp fa hcl a.1 a.2 st = some st') (h2 : st'.length ≤ 64) : rn fa hcl (a :: x) st = rn fa hcl x st' := by
  show (match stp fa hcl a.1 a.2 st with
    | some st' => if st'.length ≤ 64 then rn fa hcl x st' else none
    | none => none) = _
  rw [h1]
  exact if_pos h2
theorem rn_a {fa : Nat → Int} {hcl : Int → Bool} : ∀ (x y : List (Int × Int)) (st t : List Int), rn fa hcl x st = some t → rn fa hcl (x ++ y) st = rn fa hcl y t
  | [], y, st, t, h => by
    have h : some st = some t := h
    cases h
    rfl
  | a :: x, y, st, t, h => by
    obtain ⟨st', h1, h2, h3⟩ := rn_c h
    show rn fa hcl (a :: (x ++ y)) st = _
    rw [rn_i h1 h2]
    exact rn_a x y st' t h3
theorem rn_s {fa : Nat → Int} {hcl : Int → Bool} {a : Int × Int} {st t : List Int} (h1 : stp fa hcl a.1 a.2 st = some t) (h2 : t.length ≤ 64) : rn fa hcl [a] st = some t := (rn_i h1 h2).trans rfl
/-- the stacks, one by one -/
theorem rn_sk {fa : Nat → Int} {hcl : Int → Bool} : ∀ (x : List (Int × Int)) (st t : List Int), rn fa hcl x st = some t → st.length ≤ 64 → ∃ sk : Nat → List Int, sk 0 = st ∧ sk x.length = t ∧ (∀ k, k < x.length → stp fa hcl (x.getD k (0, 0)).1 (x.getD k (0, 0)).2 (sk k) = some (sk (k + 1))) ∧ ∀ k, k ≤ x.length → (sk k).length ≤ 64
  | [], st, t, h, hl => by
    have h : some st = some t := h
    cases h
    exact ⟨fun _ => st, rfl, rfl, fun k hk => absurd hk (Nat.not_lt_zero k), fun _ _ => hl⟩
  | a :: x, st, t, h, hl => by
    obtain ⟨st', h1, h2, h3⟩ := rn_c h
    obtain ⟨sk, k0, k1, k2, k3⟩ := rn_sk x st' t h3 h2
    refine ⟨fun k => match k with
      | 0 => st
      | k + 1 => sk k, rfl, k1, fun k hk => ?_, fun k hk => ?_⟩
    · cases k with
      | zero =>
        show stp fa hcl a.1 a.2 st = some (sk 0)
        rw [k0]
        exact h1
      | succ k => exact k2 k (Nat.lt_of_succ_lt_succ hk)
    · cases k with
      | zero => exact hl
      | succ k => exact k3 k (Nat.le_of_succ_le_succ hk)
/-- codes that push one value wherever there is room for so many -/
def wfN (d : Nat) (x : List (Int × Int)) : Prop := ∀ (fa : Nat → Int) (hcl : Int → Bool) (st : List Int), st.length + d ≤ 64 → ∃ v : Int, rn fa hcl x st = some (v :: st)
theorem wfN_m {d d' : Nat} {x : List (Int × Int)} (h : wfN d x) (hd : d ≤ d') : wfN d' x := fun fa hcl st hl => h fa hcl st (by omega)
theorem wfN_1 {d : Nat} {x : Int × Int} (hd : 1 ≤ d) (hx : x.1 = 1 ∨ x.1 = 2 ∨ x.1 = 11) : wfN d [x] := fun fa hcl st hl => by
  have key : ∃ v, stp fa hcl x.1 x.2 st = some (v :: st) := by
    unfold stp
    rcases hx with h | h | h
    · exact ⟨_, if_pos h⟩
    · rw [if_neg (by omega)]
      exact ⟨_, if_pos h⟩
    · rw [if_neg (by omega), if_neg (by omega)]
      exact ⟨_, if_pos h⟩
  obtain ⟨v, hv⟩ := key
  exact ⟨v, rn_s hv (by show st.length + 1 ≤ 64; omega)⟩
theorem wfN_3 {d : Nat} {x : List (Int × Int)} (h : wfN d x) (hd : 1 ≤ d) : wfN d (x ++ [(3, 0)]) := fun fa hcl st hl => by
  obtain ⟨v, hv⟩ := h fa hcl st hl
  refine ⟨if v = 0 then 1 else 0, ?_⟩
  rw [rn_a x _ st _ hv]
  exact rn_s rfl (by show st.length + 1 ≤ 64; omega)
theorem wfN_2 {d e : Nat} {x y : List (Int × Int)} {op : Int} (hx : wfN d x) (hy : wfN e y) (he : e + 1 ≤ d) (ho : 4 ≤ op ∧ op ≤ 10) : wfN d (x ++ (y ++ [(op, 0)])) := fun fa hcl st hl => by
  obtain ⟨v, hv⟩ := hx fa hcl st hl
  obtain ⟨w, hw⟩ := hy fa hcl (v :: st) (by show st.length + 1 + e ≤ 64; omega)
  refine ⟨bo op v w, ?_⟩
  rw [rn_a x _ st _ hv, rn_a y _ _ _ hw]
  refine rn_s ?_ (by show st.length + 1 ≤ 64; omega)
  show stp fa hcl op 0 (w :: v :: st) = _
  unfold stp
  rw [if_neg (by omega), if_neg (by omega), if_neg (by omega), if_neg (by omega)]
/-- a formula's code; a price's -/
def pF (c : Int × Int) : Prop := c.1 = 11 ∨ ((c.1 = 3 ∨ c.1 = 9 ∨ c.1 = 10) ∧ c.2 = 0)
def okP (x : Int × Int) : Prop := (x.1 = 1 ∧ 0 ≤ x.2 ∧ x.2 ≤ 9999) ∨ (x.1 = 2 ∧ 0 ≤ x.2 ∧ x.2 ≤ 2) ∨ (3 ≤ x.1 ∧ x.1 ≤ 10 ∧ x.2 = 0)
/-- codes put behind others -/
def wfX (p : Int × Int → Prop) (d : Nat) (cs c' : List (Int × Int)) : Prop := ∃ x, c' = cs ++ x ∧ wfN d x ∧ ∀ c ∈ x, p c
section WFX
variable {p : Int × Int → Prop} {d d' e : Nat} {cs c' c1 c2 : List (Int × Int)}
theorem wfX_m (h : wfX p d cs c') (hd : d ≤ d') : wfX p d' cs c' := by
  obtain ⟨x, e, hx, hp⟩ := h
  exact ⟨x, e, wfN_m hx hd, hp⟩
theorem wfX_1 {x : Int × Int} (hd : 1 ≤ d) (hx : x.1 = 1 ∨ x.1 = 2 ∨ x.1 = 11) (hp : p x) : wfX p d cs (cs ++ [x]) := ⟨[x], rfl, wfN_1 hd hx, fun c hc => by
  rw [List.mem_singleton] at hc
  rw [hc]
  exact hp⟩
theorem wfX_n {k v f : Int} (hd : 1 ≤ d) (h1 : k = 2 → 0 ≤ v ∧ v ≤ 9999) (h2 : ¬ k = 2 → 0 ≤ f ∧ f ≤ 2) : wfX okP d cs (cs ++ [if k = 2 then ((1 : Int), v) else (2, f)]) := by
  by_cases c : k = 2
  · rw [if_pos c]
    exact wfX_1 hd (Or.inl rfl) (Or.inl ⟨rfl, h1 c⟩)
  · rw [if_neg c]
    exact wfX_1 hd (Or.inr (Or.inl rfl)) (Or.inr (Or.inl ⟨rfl, h2 c⟩))
theorem wfX_3 (h : wfX p d cs c') (hd : 1 ≤ d) (hp : p (3, 0)) : wfX p d cs (c' ++ [(3, 0)]) := by
  obtain ⟨x, e, hx, hq⟩ := h
  refine ⟨x ++ [(3, 0)], by rw [e, List.append_assoc], wfN_3 hx hd, fun c hc => ?_⟩
  rw [List.mem_append, List.mem_singleton] at hc
  rcases hc with z | z
  · exact hq c z
  · rw [z]
    exact hp
theorem wfX_2 {op : Int} (h1 : wfX p d cs c1) (h2 : wfX p e c1 c2) (he : e + 1 ≤ d) (ho : 4 ≤ op ∧ op ≤ 10) (hp : p (op, 0)) : wfX p d cs (c2 ++ [(op, 0)]) := by
  obtain ⟨x, e1, hx, hq⟩ := h1
  obtain ⟨y, e2, hy, hr⟩ := h2
  refine ⟨x ++ (y ++ [(op, 0)]), by rw [e2, e1, List.append_assoc, List.append_assoc], wfN_2 hx hy he ho, fun c hc => ?_⟩
  rw [List.mem_append, List.mem_append, List.mem_singleton] at hc
  rcases hc with z | z | z
  · exact hq c z
  · exact hr c z
  · rw [z]
    exact hp
end WFX
theorem sp_sg_b {k : Nat} : 4 ≤ sp_sg k ∧ sp_sg k ≤ 10 := by
  unfold sp_sg
  repeat (first | split | omega)
theorem pF_3 : pF (3, 0) := Or.inr ⟨Or.inl rfl, rfl⟩
theorem pF_9 : pF (9, 0) := Or.inr ⟨Or.inr (Or.inl rfl), rfl⟩
theorem pF_10 : pF (10, 0) := Or.inr ⟨Or.inr (Or.inr rfl), rfl⟩
theorem pF_11 {z : Int} : pF (11, z) := Or.inl rfl
theorem okP_3 : okP (3, 0) := Or.inr (Or.inr ⟨by decide, by decide, rfl⟩)
theorem okP_sg {k : Nat} : okP (sp_sg k, 0) := Or.inr (Or.inr ⟨by show 3 ≤ sp_sg k; have := @sp_sg_b k; omega, (@sp_sg_b k).2, rfl⟩)
