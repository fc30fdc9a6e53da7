/-! The class's heap: kinds of cells, what their fields hold. -/
abbrev cl_Y : Type := (Nat → Nat) × (Nat → Nat) × Nat
abbrev cl_I : Type := Nat → Nat → Int
abbrev cl_Rr : Type := Nat → Nat → Option Nat
/-- ints that a field holds -/
def cl_b (t k : Nat) : Option (Int × Int) := match t with
  | 0 => (match k with | 17 => some (0, 15) | 18 => some (0, 16) | _ => none)
  | 1 => (match k with | 3 => some (0, 1002) | 8 => some (-1, 1000) | _ => none)
  | 2 => (match k with | 5 => some (0, 1000) | 6 => some (0, 1001) | _ => none)
  | 3 => (match k with | 14 => some (1, 6) | 15 => some (0, 4) | 16 => some (0, 4) | 17 => some (0, 5) | 18 => some (0, 4) | 19 => some (0, 6) | _ => none)
  | 4 => (match k with | 2 => some (1, 32769) | 7 => some (1, 6) | 8 => some (0, 4) | 9 => some (1, 513) | _ => none)
  | 5 => (match k with | 1 => some (1, 513) | _ => none)
  | 7 => (match k with | 2 => some (0, 12) | _ => none)
  | 9 => (match k with | 6 => some (0, 12) | 8 => some (0, 20) | _ => none)
  | 23 => some (0, 65535)
  | _ => none
/-- what a field points to: kind, length (0: any), whether it may be null -/
def cl_r (t k : Nat) : Option (Nat × Nat × Bool) := match t with
  | 0 => (match k with | 0 => some (1, 0, false) | 1 => some (2, 0, false) | 2 => some (4, 0, false) | 3 => some (6, 0, false) | 4 => some (7, 0, false) | 5 => some (8, 0, false) | 6 => some (9, 0, false) | 7 => some (25, 16, false) | 8 => some (25, 4, false) | 9 => some (5, 0, false) | 10 => some (5, 0, false) | 11 => some (5, 0, false) | 12 => some (20, 96, false) | 13 => some (20, 2, false) | 14 => some (20, 5, false) | 15 => some (22, 64, false) | 16 => some (3, 0, false) | _ => none)
  | 1 => (match k with | 0 => some (2, 0, false) | 1 => some (21, 3, false) | 2 => some (20, 1002, false) | 6 => some (3, 0, false) | _ => none)
  | 2 => (match k with | 0 => some (23, 1000, false) | 1 => some (20, 1001, false) | 2 => some (20, 1001, false) | 3 => some (21, 1001, false) | 4 => some (21, 29, false) | _ => none)
  | 3 => (match k with | 0 => some (21, 4, false) | 1 => some (21, 4, false) | 2 => some (21, 5, false) | 3 => some (20, 4, false) | 4 => some (20, 5, false) | 5 => some (20, 5, false) | 6 => some (20, 6, false) | 7 => some (20, 6, false) | 8 => some (20, 4, false) | 9 => some (20, 4, false) | 10 => some (20, 6, false) | 11 => some (20, 6, false) | 12 => some (20, 0, false) | _ => none)
  | 4 => (match k with | 0 => some (5, 0, false) | 1 => some (5, 0, false) | 3 => some (24, 96, false) | 4 => some (24, 6, false) | 5 => some (5, 0, false) | 6 => some (21, 64, false) | _ => none)
  | 5 => (match k with | 0 => some (21, 0, false) | _ => none)
  | 6 => (match k with | 0 => some (20, 64, false) | _ => none)
  | 7 => (match k with | 0 => some (24, 12, false) | 1 => some (22, 0, false) | _ => none)
  | 9 => (match k with | 0 => some (26, 12, false) | 1 => some (20, 5, false) | 2 => some (20, 24, false) | 3 => some (20, 20, false) | 4 => some (20, 20, false) | 5 => some (5, 0, true) | _ => none)
  | 10 => (match k with | 3 => some (5, 0, false) | _ => none)
  | 24 => some (5, 0, true)
  | 25 => some (9, 0, true)
  | 26 => some (10, 0, true)
  | _ => none
/-- a place of a kind -/
def cl_T (E : List Nat) (Y : cl_Y) (p t : Nat) : Prop := 10 ≤ p ∧ p < Y.2.2 ∧ (p < 82 ∨ 108 < p) ∧ p ∉ E ∧ Y.1 p = t
def cl_ref (E : List Nat) (Y : cl_Y) (q : Nat × Nat × Bool) (o : Option Nat) : Prop := (o = none ∧ q.2.2 = true) ∨ ∃ d, o = some d ∧ cl_T E Y d q.1 ∧ (q.2.1 = 0 ∨ Y.2.1 d = q.2.1)
/-- all is as it must be, but for cells that are being made -/
def cl_C (E : List Nat) (I L : cl_I) (R : cl_Rr) (Y : cl_Y) : Prop :=
  (∀ p t, cl_T E Y p t → ∀ k b, cl_b t k = some b → b.1 ≤ I p k ∧ I p k ≤ b.2) ∧
  (∀ p t, cl_T E Y p t → ∀ k q, cl_r t k = some q → cl_ref E Y q (R p k)) ∧
  (110 ≤ Y.2.2 ∧ ∀ p, p < Y.2.2 → Y.2.1 p ≤ 1000000) ∧
  (Y.1 10 = 0 ∧ Y.1 11 = 1 ∧ Y.1 12 = 2 ∧ R 10 0 = some 11 ∧ R 10 1 = some 12 ∧ R 11 0 = some 12 ∧ R 10 2 = some 34 ∧ R 10 9 = some 58 ∧ R 10 10 = some 60 ∧ R 10 11 = some 62) ∧ (∀ e ∈ E, 110 ≤ e ∧ e < Y.2.2) ∧
  (∀ p, cl_T E Y p 8 → 0 ≤ L p 0 ∧ L p 0 < 2147483648)
/-- more cells -/
def cl_X (Y Y' : cl_Y) : Prop := Y.2.2 ≤ Y'.2.2 ∧ ∀ p, p < Y.2.2 → Y'.1 p = Y.1 p ∧ Y'.2.1 p = Y.2.1 p
theorem cl_X_r (Y : cl_Y) : cl_X Y Y := ⟨Nat.le_refl _, fun _ _ => ⟨rfl, rfl⟩⟩
theorem cl_X_t {Y Y' Y2 : cl_Y} (h : cl_X Y Y') (h2 : cl_X Y' Y2) : cl_X Y Y2 := ⟨Nat.le_trans h.1 h2.1, fun p hp => by
  have a := h.2 p hp
  have b := h2.2 p (Nat.lt_of_lt_of_le hp h.1)
  exact ⟨b.1.trans a.1, b.2.trans a.2⟩⟩
theorem cl_T_x {E : List Nat} {Y Y' : cl_Y} {p t : Nat} (h : cl_T E Y p t) (x : cl_X Y Y') : cl_T E Y' p t := ⟨h.1, Nat.lt_of_lt_of_le h.2.1 x.1, h.2.2.1, h.2.2.2.1, (x.2 p h.2.1).1.trans h.2.2.2.2⟩
theorem cl_T_n {E : List Nat} {Y Y' : cl_Y} {p t : Nat} (h : cl_T E Y p t) (x : cl_X Y Y') : Y'.2.1 p = Y.2.1 p := (x.2 p h.2.1).2
/-- what a call, or a part of one, leaves -/
def cl_P (E : List Nat) (I L : cl_I) (R : cl_Rr) (Y : cl_Y) (I' L' : cl_I) (R' : cl_Rr) (Y' : cl_Y) : Prop := cl_C E I' L' R' Y' ∧ cl_X Y Y' ∧ (∀ p k, 82 ≤ p → p ≤ 108 → I' p k = I p k ∧ L' p k = L p k ∧ R' p k = R p k) ∧ I' 12 5 = I 12 5
theorem cl_P_r {E : List Nat} {I L : cl_I} {R : cl_Rr} {Y : cl_Y} (h : cl_C E I L R Y) : cl_P E I L R Y I L R Y := ⟨h, cl_X_r Y, fun _ _ _ _ => ⟨rfl, rfl, rfl⟩, rfl⟩
theorem cl_P_t {E E' : List Nat} {I L I2 L2 I3 L3 : cl_I} {R R2 R3 : cl_Rr} {Y Y2 Y3 : cl_Y} (h : cl_P E I L R Y I2 L2 R2 Y2) (h2 : cl_P E' I2 L2 R2 Y2 I3 L3 R3 Y3) : cl_P E' I L R Y I3 L3 R3 Y3 := ⟨h2.1, cl_X_t h.2.1 h2.2.1, fun p k a b => by
  have x := h.2.2.1 p k a b
  have y := h2.2.2.1 p k a b
  exact ⟨y.1.trans x.1, y.2.1.trans x.2.1, y.2.2.trans x.2.2⟩, h2.2.2.2.trans h.2.2.2⟩
section CL
variable {E : List Nat} {I L I' L' : cl_I} {R R' : cl_Rr} {Y Y' : cl_Y} {p t k : Nat}
theorem cl_rd (h : cl_C E I L R Y) (ht : cl_T E Y p t) {lo hi : Int} (hb : cl_b t k = some (lo, hi)) : lo ≤ I p k ∧ I p k ≤ hi := h.1 p t ht k _ hb
theorem cl_rf (h : cl_C E I L R Y) (ht : cl_T E Y p t) {d : Nat} (hb : cl_r t k = some (d, 0, false)) : ∃ q, R p k = some q ∧ cl_T E Y q d := by
  rcases h.2.1 p t ht k _ hb with z | ⟨q, a, b, _⟩
  · exact absurd z.2 (by simp)
  · exact ⟨q, a, b⟩
theorem cl_rn (h : cl_C E I L R Y) (ht : cl_T E Y p t) {d m : Nat} (hb : cl_r t k = some (d, m + 1, false)) : ∃ q, R p k = some q ∧ cl_T E Y q d ∧ Y.2.1 q = m + 1 := by
  rcases h.2.1 p t ht k _ hb with z | ⟨q, a, b, c⟩
  · exact absurd z.2 (by simp)
  · exact ⟨q, a, b, c.resolve_left (by simp)⟩
theorem cl_ro (h : cl_C E I L R Y) (ht : cl_T E Y p t) {d : Nat} (hb : cl_r t k = some (d, 0, true)) : R p k = none ∨ ∃ q, R p k = some q ∧ cl_T E Y q d := by
  rcases h.2.1 p t ht k _ hb with z | ⟨q, a, b, _⟩
  · exact Or.inl z.1
  · exact Or.inr ⟨q, a, b⟩
theorem cl_nb (h : cl_C E I L R Y) (ht : cl_T E Y p t) : Y.2.1 p ≤ 1000000 := h.2.2.1.2 p ht.2.1
theorem cl_12 (h : cl_C E I L R Y) : cl_T E Y 12 2 := ⟨by omega, by have := h.2.2.1.1; omega, by omega, fun z => by have := h.2.2.2.2.1 12 z; omega, h.2.2.2.1.2.2.1⟩
theorem cl_11 (h : cl_C E I L R Y) : cl_T E Y 11 1 := ⟨by omega, by have := h.2.2.1.1; omega, by omega, fun z => by have := h.2.2.2.2.1 11 z; omega, h.2.2.2.1.2.1⟩
theorem cl_10 (h : cl_C E I L R Y) : cl_T E Y 10 0 := ⟨by omega, by have := h.2.2.1.1; omega, by omega, fun z => by have := h.2.2.2.2.1 10 z; omega, h.2.2.2.1.1⟩
theorem cl_34 (h : cl_C E I L R Y) : cl_T E Y 34 4 := by
  obtain ⟨q, a, b⟩ := cl_rf h (cl_10 h) (k := 2) rfl
  have e := a.symm.trans h.2.2.2.1.2.2.2.2.2.2.1
  cases e
  exact b
theorem cl_58 (h : cl_C E I L R Y) : cl_T E Y 58 5 := by
  obtain ⟨q, a, b⟩ := cl_rf h (cl_10 h) (k := 9) rfl
  have e := a.symm.trans h.2.2.2.1.2.2.2.2.2.2.2.1
  cases e
  exact b
theorem cl_60 (h : cl_C E I L R Y) : cl_T E Y 60 5 := by
  obtain ⟨q, a, b⟩ := cl_rf h (cl_10 h) (k := 10) rfl
  have e := a.symm.trans h.2.2.2.1.2.2.2.2.2.2.2.2.1
  cases e
  exact b
theorem cl_62 (h : cl_C E I L R Y) : cl_T E Y 62 5 := by
  obtain ⟨q, a, b⟩ := cl_rf h (cl_10 h) (k := 11) rfl
  have e := a.symm.trans h.2.2.2.1.2.2.2.2.2.2.2.2.2
  cases e
  exact b
theorem cl_C_uI (h : cl_C E I L R Y) (ht : cl_T E Y p t) {v : Int} (hv : ∀ b, cl_b t k = some b → b.1 ≤ v ∧ v ≤ b.2) : cl_C E (yi_u I p k v) L R Y := by
  refine ⟨fun p' t' ht' k' b hb => ?_, h.2⟩
  by_cases e : p' = p ∧ k' = k
  · obtain ⟨rfl, rfl⟩ := e
    rw [yi_u_eq]
    have : t = t' := ht.2.2.2.2.symm.trans ht'.2.2.2.2
    subst this
    exact hv b hb
  · rw [yi_u_ne _ _ e]
    exact h.1 p' t' ht' k' b hb
/-- an int is written -/
theorem cl_P_uI (h : cl_P E I L R Y I' L' R' Y') (ht : cl_T E Y' p t) {v : Int} (hk : t = 2 → k ≠ 5) (hv : ∀ b, cl_b t k = some b → b.1 ≤ v ∧ v ≤ b.2) : cl_P E I L R Y (yi_u I' p k v) L' R' Y' := by
  have h12 := h.1.2.2.2.1.2.2.1
  refine ⟨cl_C_uI h.1 ht hv, h.2.1, fun q j a b => ?_, ?_⟩
  · have hp := ht.2.2.1
    rw [yi_u_ne _ _ (by omega)]
    exact h.2.2.1 q j a b
  · by_cases e : 12 = p ∧ 5 = k
    · obtain ⟨rfl, rfl⟩ := e
      exact absurd rfl (hk (ht.2.2.2.2.symm.trans h12))
    · rw [yi_u_ne _ _ e]
      exact h.2.2.2
theorem cl_P_uL (h : cl_P E I L R Y I' L' R' Y') (ht : cl_T E Y' p t) {v : Int} (hk : t = 8 → 0 ≤ v ∧ v < 2147483648) : cl_P E I L R Y I' (yi_u L' p k v) R' Y' := by
  have hL : ∀ q, cl_T E Y' q 8 → 0 ≤ yi_u L' p k v q 0 ∧ yi_u L' p k v q 0 < 2147483648 := fun q hq => by
    by_cases e : q = p ∧ 0 = k
    · obtain ⟨rfl, rfl⟩ := e
      rw [yi_u_eq]
      exact hk (ht.2.2.2.2.symm.trans hq.2.2.2.2)
    · rw [yi_u_ne _ _ e]
      exact h.1.2.2.2.2.2 q hq
  refine ⟨⟨h.1.1, h.1.2.1, h.1.2.2.1, h.1.2.2.2.1, h.1.2.2.2.2.1, hL⟩, h.2.1, fun q j a b => ?_, h.2.2.2⟩
  have hp := ht.2.2.1
  rw [yi_u_ne _ _ (by omega)]
  exact h.2.2.1 q j a b
end CL
def cl_u (f : cl_Rr) (p k : Nat) (z : Option Nat) : cl_Rr := fun p' k' => if p' = p ∧ k' = k then z else f p' k'
theorem cl_u_eq (f : cl_Rr) (p k : Nat) (z : Option Nat) : cl_u f p k z p k = z := if_pos ⟨rfl, rfl⟩
theorem cl_u_ne (f : cl_Rr) {p k : Nat} (z : Option Nat) {p' k' : Nat} (h : ¬ (p' = p ∧ k' = k)) : cl_u f p k z p' k' = f p' k' := if_neg h
section CL
variable {E : List Nat} {I L I' L' : cl_I} {R R' : cl_Rr} {Y Y' : cl_Y} {p t k : Nat}
/-- a reference is written -/
theorem cl_P_uR (h : cl_P E I L R Y I' L' R' Y') (ht : cl_T E Y' p t) {v : Option Nat} (h0 : t = 0 → k = 16) (h1 : t = 1 → k = 6) (hv : ∀ q, cl_r t k = some q → cl_ref E Y' q v) : cl_P E I L R Y I' L' (cl_u R' p k v) Y' := by
  obtain ⟨⟨a1, a2, a3, a4, a5, a6⟩, b, c, d⟩ := h
  obtain ⟨f0, f1, f2, f3, f4, f5, f6, f7, f8, f9⟩ := a4
  have hp := ht.2.2.1
  have ne0 : ∀ j, j ≠ 16 → cl_u R' p k v 10 j = R' 10 j := fun j hj => cl_u_ne _ _ (fun z => by
    obtain ⟨z1, z2⟩ := z
    subst z1
    have := h0 (ht.2.2.2.2.symm.trans f0)
    omega)
  have ne1 : ∀ j, j ≠ 6 → cl_u R' p k v 11 j = R' 11 j := fun j hj => cl_u_ne _ _ (fun z => by
    obtain ⟨z1, z2⟩ := z
    subst z1
    have := h1 (ht.2.2.2.2.symm.trans f1)
    omega)
  refine ⟨⟨a1, fun p' t' ht' k' q hq => ?_, a3, ⟨f0, f1, f2, by rw [ne0 _ (by omega)]; exact f3, by rw [ne0 _ (by omega)]; exact f4, by rw [ne1 _ (by omega)]; exact f5, by rw [ne0 _ (by omega)]; exact f6, by rw [ne0 _ (by omega)]; exact f7, by rw [ne0 _ (by omega)]; exact f8, by rw [ne0 _ (by omega)]; exact f9⟩, a5, a6⟩, b, fun q j x y => ?_, d⟩
  · by_cases e : p' = p ∧ k' = k
    · obtain ⟨rfl, rfl⟩ := e
      rw [cl_u_eq]
      have : t = t' := ht.2.2.2.2.symm.trans ht'.2.2.2.2
      subst this
      exact hv q hq
    · rw [cl_u_ne _ _ e]
      exact a2 p' t' ht' k' q hq
  · rw [cl_u_ne _ _ (by omega)]
    exact c q j x y
/-- of a cell that is being made -/
theorem cl_P_mI (h : cl_P E I L R Y I' L' R' Y') (hp : p ∈ E) {v : Int} : cl_P E I L R Y (yi_u I' p k v) L' R' Y' := by
  have he := h.1.2.2.2.2.1 p hp
  refine ⟨⟨fun p' t' ht' k' b hb => ?_, h.1.2⟩, h.2.1, fun q j a b => ?_, ?_⟩
  · rw [yi_u_ne _ _ (fun z => ht'.2.2.2.1 (by rw [z.1]; exact hp))]
    exact h.1.1 p' t' ht' k' b hb
  · rw [yi_u_ne _ _ (by omega)]
    exact h.2.2.1 q j a b
  · rw [yi_u_ne _ _ (by omega)]
    exact h.2.2.2
theorem cl_P_mR (h : cl_P E I L R Y I' L' R' Y') (hp : p ∈ E) {v : Option Nat} : cl_P E I L R Y I' L' (cl_u R' p k v) Y' := by
  have he := h.1.2.2.2.2.1 p hp
  obtain ⟨⟨a1, a2, a3, a4, a5, a6⟩, b, c, d⟩ := h
  obtain ⟨f0, f1, f2, f3, f4, f5, f6, f7, f8, f9⟩ := a4
  refine ⟨⟨a1, fun p' t' ht' k' q hq => ?_, a3, ⟨f0, f1, f2, by rw [cl_u_ne _ _ (by omega)]; exact f3, by rw [cl_u_ne _ _ (by omega)]; exact f4, by rw [cl_u_ne _ _ (by omega)]; exact f5, by rw [cl_u_ne _ _ (by omega)]; exact f6, by rw [cl_u_ne _ _ (by omega)]; exact f7, by rw [cl_u_ne _ _ (by omega)]; exact f8, by rw [cl_u_ne _ _ (by omega)]; exact f9⟩, a5, a6⟩, b, fun q j x y => ?_, d⟩
  · rw [cl_u_ne _ _ (fun z => ht'.2.2.2.1 (by rw [z.1]; exact hp))]
    exact a2 p' t' ht' k' q hq
  · rw [cl_u_ne _ _ (by omega)]
    exact c q j x y
/-- a cell is made -/
def cl_ny (Y : cl_Y) (c n : Nat) : cl_Y := (fun p' => if p' = Y.2.2 then c else Y.1 p', fun p' => if p' = Y.2.2 then n else Y.2.1 p', Y.2.2 + 1)
def cl_nf (f : cl_I) (e : Nat) : cl_I := fun p' k' => if p' = e then 0 else f p' k'
def cl_nr (f : cl_Rr) (e : Nat) : cl_Rr := fun p' k' => if p' = e then none else f p' k'
theorem cl_X_n (Y : cl_Y) (c n : Nat) : cl_X Y (cl_ny Y c n) := ⟨Nat.le_succ _, fun p hp => ⟨if_neg (Nat.ne_of_lt hp), if_neg (Nat.ne_of_lt hp)⟩⟩
theorem cl_T_o {Y : cl_Y} {c n : Nat} (h : cl_T (Y.2.2 :: E) (cl_ny Y c n) p t) : cl_T E Y p t ∧ p ≠ Y.2.2 := by
  obtain ⟨a, b, d, e, f⟩ := h
  have hn : p ≠ Y.2.2 := fun z => e (by rw [z]; exact List.mem_cons_self)
  have hb : p < Y.2.2 + 1 := b
  have hf : (if p = Y.2.2 then c else Y.1 p) = t := f
  rw [if_neg hn] at hf
  exact ⟨⟨a, by omega, d, fun z => e (List.mem_cons_of_mem _ z), hf⟩, hn⟩
theorem cl_T_c {Y : cl_Y} {c n : Nat} (h : cl_T E Y p t) : cl_T (Y.2.2 :: E) (cl_ny Y c n) p t := by
  have x := cl_T_x h (cl_X_n Y c n)
  exact ⟨x.1, x.2.1, x.2.2.1, fun z => by
    rcases List.mem_cons.mp z with w | w
    · have := h.2.1; omega
    · exact h.2.2.2.1 w, x.2.2.2.2⟩
theorem cl_P_o (h : cl_P E I L R Y I' L' R' Y') (c n : Nat) (hn : n ≤ 1000000) : cl_P (Y'.2.2 :: E) I L R Y (cl_nf I' Y'.2.2) (cl_nf L' Y'.2.2) (cl_nr R' Y'.2.2) (cl_ny Y' c n) := by
  obtain ⟨⟨a1, a2, a3, a4, a5, a6⟩, b, cc, d⟩ := h
  obtain ⟨f0, f1, f2, f3, f4, f5, f6, f7, f8, f9⟩ := a4
  have x := cl_X_n Y' c n
  have big := a3.1
  have kk : ∀ q, q < 110 → (cl_ny Y' c n).1 q = Y'.1 q := fun q hq => (x.2 q (by omega)).1
  have ii : ∀ q j, q < 110 → cl_nf I' Y'.2.2 q j = I' q j := fun q j hq => if_neg (by omega)
  have ll : ∀ q j, q < 110 → cl_nf L' Y'.2.2 q j = L' q j := fun q j hq => if_neg (by omega)
  have rr : ∀ q j, q < 110 → cl_nr R' Y'.2.2 q j = R' q j := fun q j hq => if_neg (by omega)
  refine ⟨⟨fun p' t' ht' k' bb hb => ?_, fun p' t' ht' k' q hq => ?_, ⟨by show 110 ≤ Y'.2.2 + 1; omega, fun p' hp' => ?_⟩, ⟨by rw [kk _ (by omega)]; exact f0, by rw [kk _ (by omega)]; exact f1, by rw [kk _ (by omega)]; exact f2, by rw [rr _ _ (by omega)]; exact f3, by rw [rr _ _ (by omega)]; exact f4, by rw [rr _ _ (by omega)]; exact f5, by rw [rr _ _ (by omega)]; exact f6, by rw [rr _ _ (by omega)]; exact f7, by rw [rr _ _ (by omega)]; exact f8, by rw [rr _ _ (by omega)]; exact f9⟩, fun e he => ?_, fun q hq => ?_⟩, cl_X_t b x, fun q j u v => ?_, by rw [ii _ _ (by omega)]; exact d⟩
  · obtain ⟨h1, h2⟩ := cl_T_o ht'
    show bb.1 ≤ (if p' = Y'.2.2 then 0 else I' p' k') ∧ (if p' = Y'.2.2 then 0 else I' p' k') ≤ bb.2
    rw [if_neg h2]
    exact a1 p' t' h1 k' bb hb
  · obtain ⟨h1, h2⟩ := cl_T_o ht'
    show cl_ref _ _ q (if p' = Y'.2.2 then none else R' p' k')
    rw [if_neg h2]
    rcases a2 p' t' h1 k' q hq with z | ⟨w, z1, z2, z3⟩
    · exact Or.inl z
    · exact Or.inr ⟨w, z1, cl_T_c z2, z3.imp id (fun y => (x.2 w z2.2.1).2.trans y)⟩
  · show (if p' = Y'.2.2 then n else Y'.2.1 p') ≤ 1000000
    split
    · exact hn
    · rename_i hne
      have : p' < Y'.2.2 + 1 := hp'
      exact a3.2 p' (by omega)
  · rcases List.mem_cons.mp he with w | w
    · rw [w]
      exact ⟨big, Nat.lt_succ_self _⟩
    · exact ⟨(a5 e w).1, Nat.lt_succ_of_lt (a5 e w).2⟩
  · obtain ⟨h1, h2⟩ := cl_T_o hq
    show 0 ≤ (if q = Y'.2.2 then 0 else L' q 0) ∧ (if q = Y'.2.2 then 0 else L' q 0) < 2147483648
    rw [if_neg h2]
    exact a6 q h1
  · rw [ii _ _ (by omega), ll _ _ (by omega), rr _ _ (by omega)]
    exact cc q j u v
/-- what was made is whole -/
theorem cl_C_d {e c : Nat} (h : cl_C (e :: E) I L R Y) (he : e ∉ E) (h1 : 10 ≤ e ∧ e < Y.2.2 ∧ (e < 82 ∨ 108 < e) ∧ Y.1 e = c) (h8 : c ≠ 8) (hb : ∀ k b, cl_b c k = some b → b.1 ≤ I e k ∧ I e k ≤ b.2) (hr : ∀ k q, cl_r c k = some q → cl_ref E Y q (R e k)) : cl_C E I L R Y := by
  obtain ⟨a1, a2, a3, a4, a5, a6⟩ := h
  have hT : ∀ {p t}, cl_T E Y p t → p ≠ e → cl_T (e :: E) Y p t := fun hp hn => ⟨hp.1, hp.2.1, hp.2.2.1, fun z => by
    rcases List.mem_cons.mp z with w | w
    · exact hn w
    · exact hp.2.2.2.1 w, hp.2.2.2.2⟩
  have hT2 : ∀ {p t}, cl_T (e :: E) Y p t → cl_T E Y p t := fun hp => ⟨hp.1, hp.2.1, hp.2.2.1, fun z => hp.2.2.2.1 (List.mem_cons_of_mem _ z), hp.2.2.2.2⟩
  refine ⟨fun p t ht k b hk => ?_, fun p t ht k q hk => ?_, a3, a4, fun x hx => a5 x (List.mem_cons_of_mem _ hx), fun q hq => a6 q (hT hq (fun z => h8 (by rw [z] at hq; exact h1.2.2.2.symm.trans hq.2.2.2.2)))⟩
  · by_cases hp : p = e
    · subst hp
      have : c = t := h1.2.2.2.symm.trans ht.2.2.2.2
      subst this
      exact hb k b hk
    · exact a1 p t (hT ht hp) k b hk
  · by_cases hp : p = e
    · subst hp
      have : c = t := h1.2.2.2.symm.trans ht.2.2.2.2
      subst this
      exact hr k q hk
    · rcases a2 p t (hT ht hp) k q hk with z | ⟨w, z1, z2, z3⟩
      · exact Or.inl z
      · exact Or.inr ⟨w, z1, hT2 z2, z3⟩
theorem cl_T_d {e : Nat} (h : cl_T (e :: E) Y p t) : cl_T E Y p t := ⟨h.1, h.2.1, h.2.2.1, fun z => h.2.2.2.1 (List.mem_cons_of_mem _ z), h.2.2.2.2⟩
/-- a new row -/
theorem cl_P_a (h : cl_P E I L R Y I' L' R' Y') (c n : Nat) (hn : n ≤ 1000000) (hc : 20 ≤ c ∧ c ≤ 26) : cl_P E I L R Y (cl_nf I' Y'.2.2) (cl_nf L' Y'.2.2) (cl_nr R' Y'.2.2) (cl_ny Y' c n) ∧ cl_T E (cl_ny Y' c n) Y'.2.2 c ∧ (cl_ny Y' c n).2.1 Y'.2.2 = n := by
  have h2 := cl_P_o h c n hn
  have big := h.1.2.2.1.1
  have hnE : Y'.2.2 ∉ E := fun z => Nat.lt_irrefl _ (h.1.2.2.2.2.1 _ z).2
  have hk : (cl_ny Y' c n).1 Y'.2.2 = c := if_pos rfl
  refine ⟨⟨cl_C_d h2.1 hnE ⟨by omega, Nat.lt_succ_self _, by omega, hk⟩ (by omega) (fun k b hb => ?_) (fun k q hq => ?_), h2.2⟩, ⟨by omega, Nat.lt_succ_self _, by omega, hnE, hk⟩, if_pos rfl⟩
  · have e0 : cl_nf I' Y'.2.2 Y'.2.2 k = 0 := if_pos rfl
    rw [e0]
    rcases (show c = 20 ∨ c = 21 ∨ c = 22 ∨ c = 23 ∨ c = 24 ∨ c = 25 ∨ c = 26 by omega) with z | z | z | z | z | z | z <;> subst z
    · cases hb
    · cases hb
    · cases hb
    · cases hb
      exact ⟨by decide, by decide⟩
    · cases hb
    · cases hb
    · cases hb
  · have e0 : cl_nr R' Y'.2.2 Y'.2.2 k = none := if_pos rfl
    rw [e0]
    rcases (show c = 20 ∨ c = 21 ∨ c = 22 ∨ c = 23 ∨ c = 24 ∨ c = 25 ∨ c = 26 by omega) with z | z | z | z | z | z | z <;> subst z
    · cases hq
    · cases hq
    · cases hq
    · cases hq
    · cases hq
      exact Or.inl ⟨rfl, rfl⟩
    · cases hq
      exact Or.inl ⟨rfl, rfl⟩
    · cases hq
      exact Or.inl ⟨rfl, rfl⟩
end CL
/-- a row's cells are so many at least -/
def cl_F (R : cl_Rr) (Y : cl_Y) (p : Nat) (n : Int) : Prop := ∃ q, R p 0 = some q ∧ n ≤ (Y.2.1 q : Int)
