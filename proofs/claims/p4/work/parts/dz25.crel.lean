/-! The class's state: stories, what is past, marks, what is asked; what a change elsewhere leaves. -/
abbrev ss_R : Type := Nat → Int
/-- rows that stay for ever, and sayings: of three kinds alone -/
def pf_T (pf : Nat → Bool) (Y : (Nat → Nat) × (Nat → Nat) × Nat) : Prop := ∀ x, pf x = true → 10 ≤ x ∧ x < Y.2.2 ∧ (Y.1 x = 5 ∨ Y.1 x = 10 ∨ Y.1 x = 21)
/-- a row that stays -/
def fr_S (I L : Nat → Nat → Int) (R : Nat → Nat → Option Nat) (Y : (Nat → Nat) × (Nat → Nat) × Nat) (pf : Nat → Bool) (n f : Nat) (r : ss_R) : Prop := ∃ c, rw_S I R Y f c n ∧ (∀ k, k < n → L c k = r k) ∧ pf f = true ∧ pf c = true
/-- a saying -/
def sy_S (I L : Nat → Nat → Int) (R : Nat → Nat → Option Nat) (Y : (Nat → Nat) × (Nat → Nat) × Nat) (pf : Nat → Bool) (n y : Nat) (v : Int × Int × Int) (r : ss_R) : Prop := (10 ≤ y ∧ y < Y.2.2 ∧ Y.1 y = 10 ∧ pf y = true) ∧ (I y 0 = v.1 ∧ I y 1 = v.2.1 ∧ I y 2 = v.2.2) ∧ ∃ f, R y 3 = some f ∧ fr_S I L R Y pf n f r
/-- a story as the class holds it -/
def sc_S (I L : Nat → Nat → Int) (R : Nat → Nat → Option Nat) (Y : (Nat → Nat) × (Nat → Nat) × Nat) (pf : Nat → Bool) (n da pe pr p : Nat) (S : ss_T) : Prop := sy_T R Y p ∧ (I p 6 = (S.1.1 : Int) ∧ I p 7 = (S.1.2.1 : Int) ∧ I p 8 = (S.1.2.2 : Int)) ∧ (∀ j, j < pr → I (p + 2) j = S.2.2.2.1 j) ∧ (∀ i, i < S.1.1 → ∃ y, R (p + 1) i = some y ∧ sy_S I L R Y pf n y (S.2.1 i) (S.2.2.1 i)) ∧ (∀ d q, d < da → q < pe → I (p + 3) (4 * d + q) = S.2.2.2.2.1 (pe * d + q)) ∧ (∀ i, i < S.1.2.2 → I (p + 4) i = (S.2.2.2.2.2 i).1 ∧ I (p + 5) i = (S.2.2.2.2.2 i).2)
/-- what is asked, in a story -/
def sa_A (I L : Nat → Nat → Int) (R : Nat → Nat → Option Nat) (Y : (Nat → Nat) × (Nat → Nat) × Nat) (pf : Nat → Bool) (n p : Nat) (a : Option ss_R) : Prop := (a = none ∧ R p 5 = none) ∨ ∃ r f, a = some r ∧ R p 5 = some f ∧ fr_S I L R Y pf n f r
section SCS
variable {I L I' L' : Nat → Nat → Int} {R R' : Nat → Nat → Option Nat} {Y Y' : (Nat → Nat) × (Nat → Nat) × Nat} {pf pf' : Nat → Bool} {n da pe pr p p' s f y : Nat} {S : ss_T} {r : ss_R} {v : Int × Int × Int} {a : Option ss_R}
/-- all that stays, stays -/
def pf_K (I L : Nat → Nat → Int) (R : Nat → Nat → Option Nat) (Y : (Nat → Nat) × (Nat → Nat) × Nat) (pf : Nat → Bool) (I' L' : Nat → Nat → Int) (R' : Nat → Nat → Option Nat) (Y' : (Nat → Nat) × (Nat → Nat) × Nat) (pf' : Nat → Bool) : Prop := (∀ x k, pf x = true → I' x k = I x k ∧ L' x k = L x k ∧ R' x k = R x k) ∧ (∀ x, pf x = true → pf' x = true) ∧ Y.2.2 ≤ Y'.2.2 ∧ ∀ q, q < Y.2.2 → Y'.1 q = Y.1 q ∧ Y'.2.1 q = Y.2.1 q
theorem fr_S_t (h : fr_S I L R Y pf n f r) (hk : pf_K I L R Y pf I' L' R' Y' pf') : fr_S I' L' R' Y' pf' n f r := by
  obtain ⟨c, h1, h2, h3, h4⟩ := h
  obtain ⟨k1, k2, k3, k4⟩ := hk
  exact ⟨c, rw_S_t h1 (k1 f 1 h3).1 (k1 f 0 h3).2.2 k3 k4, fun k hk => (k1 c k h4).2.1.trans (h2 k hk), k2 f h3, k2 c h4⟩
theorem sy_S_t (h : sy_S I L R Y pf n y v r) (hk : pf_K I L R Y pf I' L' R' Y' pf') : sy_S I' L' R' Y' pf' n y v r := by
  obtain ⟨⟨a1, a2, a3, a4⟩, ⟨b1, b2, b3⟩, f, c1, c2⟩ := h
  have hk' := hk
  obtain ⟨k1, k2, k3, k4⟩ := hk
  exact ⟨⟨a1, by omega, (k4 y a2).1.trans a3, k2 y a4⟩, ⟨(k1 y 0 a4).1.trans b1, (k1 y 1 a4).1.trans b2, (k1 y 2 a4).1.trans b3⟩, f, (k1 y 3 a4).2.2.trans c1, fr_S_t c2 hk'⟩
theorem sc_S_t (h : sc_S I L R Y pf n da pe pr p S) (hk : pf_K I L R Y pf I' L' R' Y' pf') (hr : ∀ q k, p ≤ q → q ≤ p + 5 → I' q k = I q k ∧ R' q k = R q k) : sc_S I' L' R' Y' pf' n da pe pr p S := by
  obtain ⟨h1, ⟨a1, a2, a3⟩, h2, h3, h4, h5⟩ := h
  refine ⟨sy_T_t h1 (fun k _ => (hr p k (by omega) (by omega)).2) hk.2.2.1 hk.2.2.2, ⟨(hr p 6 (by omega) (by omega)).1.trans a1, (hr p 7 (by omega) (by omega)).1.trans a2, (hr p 8 (by omega) (by omega)).1.trans a3⟩, fun j hj => (hr _ j (by omega) (by omega)).1.trans (h2 j hj), fun i hi => ?_, fun d q hd hq => (hr _ _ (by omega) (by omega)).1.trans (h4 d q hd hq), fun i hi => ⟨(hr _ i (by omega) (by omega)).1.trans (h5 i hi).1, (hr _ i (by omega) (by omega)).1.trans (h5 i hi).2⟩⟩
  obtain ⟨y, e1, e2⟩ := h3 i hi
  exact ⟨y, (hr _ i (by omega) (by omega)).2.trans e1, sy_S_t e2 hk⟩
theorem sa_A_t (h : sa_A I L R Y pf n p a) (hk : pf_K I L R Y pf I' L' R' Y' pf') (hr : R' p 5 = R p 5) : sa_A I' L' R' Y' pf' n p a := by
  rcases h with ⟨h1, h2⟩ | ⟨r, f, h1, h2, h3⟩
  · exact Or.inl ⟨h1, hr.trans h2⟩
  · exact Or.inr ⟨r, f, h1, hr.trans h2, fr_S_t h3 hk⟩
/-- a story that is now what another was -/
theorem sc_S_d (h : sc_S I L R Y pf n da pe pr s S) (hk : pf_K I L R Y pf I' L' R' Y' pf') (hT : sy_T R' Y' p) (hd : sy_D I R I' R' p s) (b : da ≤ 6 ∧ pe ≤ 4 ∧ pr ≤ 5 ∧ S.1.1 ≤ 12 ∧ S.1.2.2 ≤ 20) : sc_S I' L' R' Y' pf' n da pe pr p S := by
  obtain ⟨h1, ⟨a1, a2, a3⟩, h2, h3, h4, h5⟩ := h
  obtain ⟨⟨d1, d2, d3, d4⟩, d5, d6, d7, d8⟩ := hd
  refine ⟨hT, ⟨d1.trans a1, d2.trans a2, d3.trans a3⟩, fun j hj => (d6 j (by omega)).trans (h2 j hj), fun i hi => ?_, fun d q hd hq => (d7 _ (by omega)).trans (h4 d q hd hq), fun i hi => ⟨(d8 i (by omega)).1.trans (h5 i hi).1, (d8 i (by omega)).2.trans (h5 i hi).2⟩⟩
  obtain ⟨y, e1, e2⟩ := h3 i hi
  exact ⟨y, (d5 i (by omega)).trans e1, sy_S_t e2 hk⟩
theorem sa_A_d (h : sa_A I L R Y pf n s a) (hk : pf_K I L R Y pf I' L' R' Y' pf') (hr : R' p 5 = R s 5) : sa_A I' L' R' Y' pf' n p a := by
  rcases h with ⟨h1, h2⟩ | ⟨r, f, h1, h2, h3⟩
  · exact Or.inl ⟨h1, hr.trans h2⟩
  · exact Or.inr ⟨r, f, h1, hr.trans h2, fr_S_t h3 hk⟩
/-- two stories don't overlap -/
theorem sy_T_dis (h : sy_T R Y p) (h' : sy_T R Y p') (hne : ¬ p = p') : p + 5 < p' ∨ p' + 5 < p := by
  obtain ⟨⟨-, -, a3, a4, a5, a6, a7, a8⟩, -⟩ := h
  obtain ⟨⟨-, -, b3, b4, b5, b6, b7, b8⟩, -⟩ := h'
  have key : ∀ x y : Nat, Y.1 x = 9 → (Y.1 (y + 1) = 26 ∧ Y.1 (y + 2) = 20 ∧ Y.1 (y + 3) = 20 ∧ Y.1 (y + 4) = 20 ∧ Y.1 (y + 5) = 20) → y < x → x ≤ y + 5 → False := by
    intro x y hx ⟨h1, h2, h3, h4, h5⟩ hl hu
    have e : x = y + 1 ∨ x = y + 2 ∨ x = y + 3 ∨ x = y + 4 ∨ x = y + 5 := by omega
    rcases e with rfl | rfl | rfl | rfl | rfl <;> omega
  rcases Nat.lt_or_gt_of_ne hne with c | c
  · by_cases d : p' ≤ p + 5
    · exact (key p' p b3 ⟨a4, a5, a6, a7, a8⟩ c d).elim
    · omega
  · by_cases d : p ≤ p' + 5
    · exact (key p p' a3 ⟨b4, b5, b6, b7, b8⟩ c d).elim
    · omega
/-- what stays is in no story -/
theorem pf_sy (hp : pf_T pf Y) (h : sy_T R Y p) {x : Nat} (hx : pf x = true) : ¬ (p ≤ x ∧ x ≤ p + 5) := by
  obtain ⟨⟨-, -, a3, a4, a5, a6, a7, a8⟩, -⟩ := h
  have z := (hp x hx).2.2
  intro hc
  have e : x = p ∨ x = p + 1 ∨ x = p + 2 ∨ x = p + 3 ∨ x = p + 4 ∨ x = p + 5 := by omega
  rcases e with rfl | rfl | rfl | rfl | rfl | rfl <;> omega
theorem pf_at (hp : pf_T pf Y) (hA : at_T R Y) {x : Nat} (hx : pf x = true) : ¬ x = 10 ∧ ¬ x = 56 ∧ ¬ x = 57 ∧ ¬ x = 11 ∧ ¬ x = 34 ∧ ¬ x = 39 ∧ ¬ x = 40 := by
  have z := (hp x hx).2.2
  have e1 := at_k hA (j := 0) rfl
  have e2 := at_nk hA (j := 17) rfl
  have e3 := at_nk hA (j := 18) rfl
  have e4 := at_k hA (j := 1) rfl
  have e5 := at_k hA (j := 3) rfl
  have e6 := at_nk hA (j := 7) rfl
  have e7 := at_nk hA (j := 8) rfl
  refine ⟨?_, ?_, ?_, ?_, ?_, ?_, ?_⟩ <;> (intro c; subst c; omega)
end SCS
