/-! Tokens of a text: s: its signs, n: how many. -/
def tk_lt (c : Int) : Bool := decide (97 ≤ c) && decide (c ≤ 122)
def tk_dg (c : Int) : Bool := decide (48 ≤ c) && decide (c ≤ 57)
def tk_sg (c : Int) : Bool := decide (c = 40 ∨ c = 41 ∨ c = 59 ∨ c = 61 ∨ c = 60 ∨ c = 43 ∨ c = 45 ∨ c = 42)
theorem tk_lt_t {c : Int} : tk_lt c = true ↔ 97 ≤ c ∧ c ≤ 122 := by
  unfold tk_lt
  rw [Bool.and_eq_true, decide_eq_true_iff, decide_eq_true_iff]
theorem tk_dg_t {c : Int} : tk_dg c = true ↔ 48 ≤ c ∧ c ≤ 57 := by
  unfold tk_dg
  rw [Bool.and_eq_true, decide_eq_true_iff, decide_eq_true_iff]
theorem tk_sg_t {c : Int} : tk_sg c = true ↔ (c = 40 ∨ c = 41 ∨ c = 59 ∨ c = 61 ∨ c = 60 ∨ c = 43 ∨ c = 45 ∨ c = 42) := decide_eq_true_iff
/-- how many in a row are of a kind -/
def tk_len (p : Int → Bool) (s : Nat → Int) : Nat → Nat → Nat
  | 0, _ => 0
  | m + 1, k => bif p (s k) then tk_len p s m (k + 1) + 1 else 0
/-- the letters of a word, the last one first -/
def tk_w (s : Nat → Int) (k : Nat) : Nat → List Nat
  | 0 => []
  | m + 1 => (s (k + m) - 96).toNat :: tk_w s k m
/-- a number -/
def tk_n (s : Nat → Int) (k : Nat) : Nat → Int
  | 0 => 0
  | m + 1 => 10 * tk_n s k m + (s (k + m) - 48)
theorem tk_len_eq {p : Int → Bool} {s : Nat → Int} : ∀ (t k m : Nat), m ≤ t → (∀ j, j < m → p (s (k + j)) = true) → (m = t ∨ p (s (k + m)) = false) → tk_len p s t k = m
  | 0, k, m, h, _, _ => by
    have : m = 0 := by omega
    subst this
    rfl
  | t + 1, k, 0, _, _, e => by
    rcases e with e | e
    · omega
    · show (bif p (s k) then tk_len p s t (k + 1) + 1 else 0) = 0
      rw [show s k = s (k + 0) from rfl, e]
      rfl
  | t + 1, k, m + 1, h, a, e => by
    show (bif p (s k) then tk_len p s t (k + 1) + 1 else 0) = m + 1
    have h0 := a 0 (by omega)
    rw [Nat.add_zero] at h0
    rw [h0]
    show tk_len p s t (k + 1) + 1 = m + 1
    rw [tk_len_eq t (k + 1) m (by omega) (fun j hj => by rw [Nat.add_assoc, Nat.add_comm 1 j]; exact a (j + 1) (by omega)) (by
      rcases e with e | e
      · left; omega
      · right; rw [Nat.add_assoc, Nat.add_comm 1 m]; exact e)]
theorem tk_w_l (s : Nat → Int) (k : Nat) : ∀ m, (tk_w s k m).length = m
  | 0 => rfl
  | m + 1 => by
    show (tk_w s k m).length + 1 = m + 1
    rw [tk_w_l s k m]
theorem tk_w_b {s : Nat → Int} {k : Nat} : ∀ m, (∀ j, j < m → tk_lt (s (k + j)) = true) → ∀ c ∈ tk_w s k m, 1 ≤ c ∧ c ≤ 26
  | 0, _, c, h => absurd h (by intro z; cases z)
  | m + 1, a, c, h => by
    rcases List.mem_cons.mp h with e | h
    · have := tk_lt_t.mp (a m (by omega))
      omega
    · exact tk_w_b m (fun j hj => a j (by omega)) c h
/-- words of seven letters at most are small -/
theorem sp_e_b {b : Int} (hb : 27 ≤ b) : ∀ w : List Nat, (∀ c ∈ w, 1 ≤ c ∧ c ≤ 26) → 0 ≤ sp_e b w ∧ sp_e b w < b ^ w.length
  | [], _ => ⟨Int.le_refl 0, by show (0 : Int) < b ^ 0; rw [Int.pow_zero]; decide⟩
  | c :: u, h => by
    obtain ⟨h0, h1⟩ := sp_e_b hb u (fun x hx => h x (List.mem_cons_of_mem _ hx))
    have hc := h c (List.mem_cons_self ..)
    show 0 ≤ b * sp_e b u + c ∧ b * sp_e b u + c < b ^ (u.length + 1)
    rw [Int.pow_succ]
    have h2 := Int.mul_nonneg (show (0 : Int) ≤ b by omega) h0
    have h3 := Int.mul_le_mul_of_nonneg_left (show sp_e b u + 1 ≤ b ^ u.length by omega) (show (0 : Int) ≤ b by omega)
    rw [Int.mul_add, Int.mul_one] at h3
    rw [Int.mul_comm (b ^ u.length) b]
    omega
theorem tk_wb {b : Int} (hb : 27 ≤ b) {s : Nat → Int} {k m : Nat} (hm : m ≤ 7) (a : ∀ j, j < m → tk_lt (s (k + j)) = true) : 0 ≤ sp_e b (tk_w s k m) ∧ sp_e b (tk_w s k m) < b ^ 7 := by
  have h := sp_e_b hb (tk_w s k m) (tk_w_b m a)
  rw [tk_w_l] at h
  have := sp_pw (e := b) (by omega) m 7 hm
  exact ⟨h.1, by omega⟩
theorem tk_nb {s : Nat → Int} {k : Nat} : ∀ m, (∀ j, j < m → tk_dg (s (k + j)) = true) → 0 ≤ tk_n s k m ∧ tk_n s k m < 10 ^ m
  | 0, _ => ⟨Int.le_refl 0, by show (0 : Int) < 10 ^ 0; decide⟩
  | m + 1, a => by
    obtain ⟨h0, h1⟩ := tk_nb m (fun j hj => a j (by omega))
    have hc := tk_dg_t.mp (a m (by omega))
    show 0 ≤ 10 * tk_n s k m + (s (k + m) - 48) ∧ 10 * tk_n s k m + (s (k + m) - 48) < 10 ^ (m + 1)
    rw [Int.pow_succ]
    omega
theorem tk_nb4 {s : Nat → Int} {k m : Nat} (hm : m ≤ 4) (a : ∀ j, j < m → tk_dg (s (k + j)) = true) : 0 ≤ tk_n s k m ∧ tk_n s k m ≤ 9999 := by
  have h := tk_nb m a
  have := sp_pw (e := 10) (by omega) m 4 hm
  have : (10 : Int) ^ 4 = 10000 := by decide
  omega
/-- tokens, one by one: place, how many, kinds, places, values -/
abbrev tk_C : Type := Nat × Nat × (Nat → Int) × (Nat → Int) × (Nat → Int)
section TK
variable (s : Nat → Int) (n : Nat)
def tk_nx (k : Nat) : Nat := bif tk_lt (s k) then k + tk_len tk_lt s (n - k) k else bif tk_dg (s k) then k + tk_len tk_dg s (n - k) k else k + 1
def tk_K (k : Nat) : Int := bif tk_lt (s k) then (if 8 < tk_len tk_lt s (n - k) k then 1 else sp_wk (sp_e 37 (tk_w s k (tk_len tk_lt s (n - k) k)))) else bif tk_dg (s k) then (if 4 < tk_len tk_dg s (n - k) k then 1 else 2) else bif tk_sg (s k) then s k else 1
def tk_V (k : Nat) : Int := bif tk_lt (s k) then (if 8 < tk_len tk_lt s (n - k) k then 0 else sp_e 37 (tk_w s k (tk_len tk_lt s (n - k) k))) else bif tk_dg (s k) then (if 4 < tk_len tk_dg s (n - k) k then 0 else tk_n s k (tk_len tk_dg s (n - k) k)) else 0
def tk_st (c : tk_C) : tk_C := if c.1 < n then (if s c.1 = 10 ∨ s c.1 = 32 then (c.1 + 1, c.2) else (tk_nx s n c.1, c.2.1 + 1, sp_up c.2.2.1 c.2.1 (tk_K s n c.1), sp_up c.2.2.2.1 c.2.1 c.1, sp_up c.2.2.2.2 c.2.1 (tk_V s n c.1))) else c
def tk_run : Nat → tk_C
  | 0 => (0, 0, fun _ => 0, fun _ => n, fun _ => 0)
  | j + 1 => tk_st s n (tk_run j)
def tk_R (c : tk_C) : Prop := ∃ j, tk_run s n j = c
def tk_te : Nat := (tk_run s n n).2.1
def tk_Ks : Nat → Int := (tk_run s n n).2.2.1
def tk_Ps : Nat → Int := (tk_run s n n).2.2.2.1
def tk_Vs : Nat → Int := (tk_run s n n).2.2.2.2
end TK
section TK
variable {s : Nat → Int} {n k m : Nat}
theorem tk_nx_w (hk : k < n) (h : tk_lt (s k) = true) (hm : k + m ≤ n) (a : ∀ j, j < m → tk_lt (s (k + j)) = true) (e : k + m = n ∨ tk_lt (s (k + m)) = false) : tk_nx s n k = k + m ∧ tk_K s n k = (if 8 < m then 1 else sp_wk (sp_e 37 (tk_w s k m))) ∧ tk_V s n k = (if 8 < m then 0 else sp_e 37 (tk_w s k m)) := by
  have l := tk_len_eq (p := tk_lt) (s := s) (n - k) k m (by omega) a (e.imp (fun z => by omega) id)
  unfold tk_nx tk_K tk_V
  rw [h, l]
  exact ⟨rfl, rfl, rfl⟩
theorem tk_nx_d (hk : k < n) (h0 : tk_lt (s k) = false) (h : tk_dg (s k) = true) (hm : k + m ≤ n) (a : ∀ j, j < m → tk_dg (s (k + j)) = true) (e : k + m = n ∨ tk_dg (s (k + m)) = false) : tk_nx s n k = k + m ∧ tk_K s n k = (if 4 < m then 1 else 2) ∧ tk_V s n k = (if 4 < m then 0 else tk_n s k m) := by
  have l := tk_len_eq (p := tk_dg) (s := s) (n - k) k m (by omega) a (e.imp (fun z => by omega) id)
  unfold tk_nx tk_K tk_V
  rw [h0, h, l]
  exact ⟨rfl, rfl, rfl⟩
theorem tk_nx_s (h0 : tk_lt (s k) = false) (h1 : tk_dg (s k) = false) : tk_nx s n k = k + 1 ∧ tk_K s n k = (if tk_sg (s k) = true then s k else 1) ∧ tk_V s n k = 0 := by
  unfold tk_nx tk_K tk_V
  rw [h0, h1]
  refine ⟨rfl, ?_, rfl⟩
  show (bif tk_sg (s k) then s k else 1) = _
  cases tk_sg (s k) with
  | false => rfl
  | true => rfl
theorem tk_len_le {p : Int → Bool} : ∀ t k, tk_len p s t k ≤ t
  | 0, _ => Nat.le_refl 0
  | t + 1, k => by
    show (bif p (s k) then tk_len p s t (k + 1) + 1 else 0) ≤ t + 1
    have := tk_len_le (p := p) t (k + 1)
    cases p (s k) with
    | false => exact Nat.zero_le _
    | true => show tk_len p s t (k + 1) + 1 ≤ t + 1; omega
theorem tk_len_1 {p : Int → Bool} {t : Nat} (h : p (s k) = true) (ht : 1 ≤ t) : 1 ≤ tk_len p s t k := by
  obtain ⟨t', rfl⟩ : ∃ t', t = t' + 1 := ⟨t - 1, by omega⟩
  show 1 ≤ (bif p (s k) then tk_len p s t' (k + 1) + 1 else 0)
  rw [h]
  show 1 ≤ tk_len p s t' (k + 1) + 1
  omega
theorem tk_nx_b (hk : k < n) : k < tk_nx s n k ∧ tk_nx s n k ≤ n := by
  unfold tk_nx
  cases h : tk_lt (s k) with
  | true =>
    have h1 := tk_len_1 (t := n - k) h (by omega)
    have h2 := tk_len_le (s := s) (p := tk_lt) (n - k) k
    show k < k + tk_len tk_lt s (n - k) k ∧ k + tk_len tk_lt s (n - k) k ≤ n
    omega
  | false =>
    cases h' : tk_dg (s k) with
    | true =>
      have h1 := tk_len_1 (t := n - k) h' (by omega)
      have h2 := tk_len_le (s := s) (p := tk_dg) (n - k) k
      show k < k + tk_len tk_dg s (n - k) k ∧ k + tk_len tk_dg s (n - k) k ≤ n
      omega
    | false =>
      show k < k + 1 ∧ k + 1 ≤ n
      omega
theorem tk_st_e (c : tk_C) (h : n ≤ c.1) : tk_st s n c = c := if_neg (by omega)
theorem tk_st_1 (c : tk_C) (h : c.1 < n) : c.1 < (tk_st s n c).1 ∧ (tk_st s n c).1 ≤ n ∧ (tk_st s n c).2.1 ≤ c.2.1 + 1 := by
  unfold tk_st
  rw [if_pos h]
  split
  · show c.1 < c.1 + 1 ∧ c.1 + 1 ≤ n ∧ c.2.1 ≤ c.2.1 + 1
    omega
  · have := tk_nx_b (s := s) h
    show c.1 < tk_nx s n c.1 ∧ tk_nx s n c.1 ≤ n ∧ c.2.1 + 1 ≤ c.2.1 + 1
    omega
theorem tk_run_b : ∀ j, (tk_run s n j).1 ≤ n ∧ (j ≤ (tk_run s n j).1 ∨ (tk_run s n j).1 = n) ∧ (tk_run s n j).2.1 ≤ (tk_run s n j).1
  | 0 => ⟨Nat.zero_le _, Or.inl (Nat.le_refl 0), Nat.le_refl 0⟩
  | j + 1 => by
    have ih := tk_run_b j
    show (tk_st s n (tk_run s n j)).1 ≤ n ∧ (j + 1 ≤ (tk_st s n (tk_run s n j)).1 ∨ (tk_st s n (tk_run s n j)).1 = n) ∧ (tk_st s n (tk_run s n j)).2.1 ≤ (tk_st s n (tk_run s n j)).1
    by_cases h : (tk_run s n j).1 < n
    · have := tk_st_1 (s := s) _ h
      omega
    · rw [tk_st_e _ (by omega)]
      omega
theorem tk_run_s {j : Nat} (h : n ≤ (tk_run s n j).1) : ∀ i, tk_run s n (j + i) = tk_run s n j
  | 0 => rfl
  | i + 1 => by
    show tk_st s n (tk_run s n (j + i)) = _
    rw [tk_run_s h i]
    exact tk_st_e _ h
theorem tk_R_e {c : tk_C} (h : tk_R s n c) (hc : n ≤ c.1) : tk_run s n n = c := by
  obtain ⟨j, e⟩ := h
  subst e
  have a := tk_run_s hc n
  have b := tk_run_s (s := s) (n := n) (j := n) (by have := tk_run_b (s := s) (n := n) n; omega) j
  rw [Nat.add_comm] at b
  exact b.symm.trans a
theorem tk_R_0 : tk_R s n (0, 0, fun _ => 0, fun _ => n, fun _ => 0) := ⟨0, rfl⟩
theorem tk_R_s {c : tk_C} (h : tk_R s n c) : tk_R s n (tk_st s n c) := by
  obtain ⟨j, e⟩ := h
  exact ⟨j + 1, congrArg (tk_st s n) e⟩
/-- behind the tokens told so far there are none -/
theorem tk_run_d : ∀ j i, (tk_run s n j).2.1 ≤ i → (tk_run s n j).2.2.1 i = 0 ∧ (tk_run s n j).2.2.2.1 i = n
  | 0, _, _ => ⟨rfl, rfl⟩
  | j + 1, i, h => by
    have ih := tk_run_d j
    have h : (tk_st s n (tk_run s n j)).2.1 ≤ i := h
    show (tk_st s n (tk_run s n j)).2.2.1 i = 0 ∧ (tk_st s n (tk_run s n j)).2.2.2.1 i = n
    unfold tk_st at h ⊢
    split
    · rename_i h1
      rw [if_pos h1] at h
      split
      · rename_i h2
        rw [if_pos h2] at h
        exact ih i h
      · rename_i h2
        rw [if_neg h2] at h
        have h : (tk_run s n j).2.1 + 1 ≤ i := h
        have z := ih i (by omega)
        refine ⟨?_, ?_⟩
        · show sp_up _ _ _ i = 0
          rw [sp_up_n _ _ (by omega)]
          exact z.1
        · show sp_up _ _ _ i = n
          rw [sp_up_n _ _ (by omega)]
          exact z.2
    · rename_i h1
      rw [if_neg h1] at h
      exact ih i h
end TK
