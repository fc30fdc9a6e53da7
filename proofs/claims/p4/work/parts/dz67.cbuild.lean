/-! The class: rows one by one; what a land's build leaves. -/
/-- a row's futures -/
def rb_S (I L : Nat → Nat → Int) (R : Nat → Nat → Option Nat) (Y : (Nat → Nat) × (Nat → Nat) × Nat) (f n : Nat) (v : Nat → Bool) : Prop := ∃ c, rw_S I R Y f c n ∧ (∀ x, x < 64 * n → rbc L c x = v x) ∧ rkc L c n
/-- a step that changes one row alone -/
def rs_E (f : Nat) (I L : Nat → Nat → Int) (R : Nat → Nat → Option Nat) (Y : (Nat → Nat) × (Nat → Nat) × Nat) (I' L' : Nat → Nat → Int) (R' : Nat → Nat → Option Nat) (Y' : (Nat → Nat) × (Nat → Nat) × Nat) : Prop := ∃ c c', R f 0 = some c ∧ R' f 0 = some c' ∧ (c' = c ∨ Y.2.2 ≤ c') ∧ (∀ q k, q < Y.2.2 → (¬ q = f → I' q k = I q k ∧ R' q k = R q k) ∧ (¬ q = c' → ¬ q = 43 → L' q k = L q k)) ∧ Y.2.2 ≤ Y'.2.2 ∧ ∀ q, q < Y.2.2 → Y'.1 q = Y.1 q ∧ Y'.2.1 q = Y.2.1 q
/-- a step that makes one wish's row -/
def rn_E (w f : Nat) (I L : Nat → Nat → Int) (R : Nat → Nat → Option Nat) (Y : (Nat → Nat) × (Nat → Nat) × Nat) (I' L' : Nat → Nat → Int) (R' : Nat → Nat → Option Nat) (Y' : (Nat → Nat) × (Nat → Nat) × Nat) : Prop := ∃ c, R 40 w = none ∧ R' 40 w = some f ∧ R' f 0 = some c ∧ Y.2.2 ≤ f ∧ (f < Y'.2.2 ∧ Y'.1 f = 5) ∧ Y.2.2 ≤ c ∧ (∀ q k, q < Y.2.2 → I' q k = I q k ∧ L' q k = L q k ∧ (¬ (q = 40 ∧ k = w) → R' q k = R q k)) ∧ Y.2.2 ≤ Y'.2.2 ∧ ∀ q, q < Y.2.2 → Y'.1 q = Y.1 q ∧ Y'.2.1 q = Y.2.1 q
/-- the rows that a land's build may change -/
def bd_r (R : Nat → Nat → Option Nat) (q : Nat) : Prop := q = 35 ∨ q = 41 ∨ (∃ i, i < 96 ∧ R 39 i = some q) ∨ ∃ j, j < 6 ∧ R 40 j = some q
def bd_F (I L : Nat → Nat → Int) (R : Nat → Nat → Option Nat) (Y : (Nat → Nat) × (Nat → Nat) × Nat) (I' L' : Nat → Nat → Int) (R' : Nat → Nat → Option Nat) (Y' : (Nat → Nat) × (Nat → Nat) × Nat) : Prop := (∀ q k, q < Y.2.2 → (¬ bd_r R q → (¬ q = 34 → I' q k = I q k) ∧ (¬ q = 39 → ¬ q = 40 → R' q k = R q k)) ∧ (¬ (∃ f, bd_r R f ∧ R f 0 = some q) → ¬ q = 43 → L' q k = L q k)) ∧ (∀ f, bd_r R' f → bd_r R f ∨ Y.2.2 ≤ f) ∧ (∀ f c, bd_r R' f → R' f 0 = some c → (bd_r R f ∧ R f 0 = some c) ∨ Y.2.2 ≤ c) ∧ Y.2.2 ≤ Y'.2.2 ∧ ∀ q, q < Y.2.2 → Y'.1 q = Y.1 q ∧ Y'.2.1 q = Y.2.1 q
/-- the laws' row and the scratch row have cells -/
def bd_h (R : Nat → Nat → Option Nat) : Prop := (∃ c, R 35 0 = some c) ∧ ∃ c, R 41 0 = some c
/-- how the build stands -/
def bd_P (I L : Nat → Nat → Int) (R : Nat → Nat → Option Nat) (Y : (Nat → Nat) × (Nat → Nat) × Nat) (n T da pe ev : Nat) (I1 L1 : Nat → Nat → Int) (R1 : Nat → Nat → Option Nat) (Y1 : (Nat → Nat) × (Nat → Nat) × Nat) : Prop := (at_T R1 Y1 ∧ cz_K R1 Y1 ∧ wy_S R1 Y1 ∧ bd_h R1) ∧ bd_F I L R Y I1 L1 R1 Y1 ∧ (I1 34 2 = (T : Int) ∧ I1 34 7 = (da : Int) ∧ I1 34 8 = (pe : Int) ∧ I1 34 9 = (n : Int)) ∧ ∀ d x e, d < da → x < pe → e < ev → ∃ f, R1 39 (16 * d + 4 * x + e) = some f ∧ rb_S I1 L1 R1 Y1 f n (fun z => decide (z < T ∧ z / ev ^ (da * pe - 1 - (pe * d + x)) % ev = e))
section BDS
variable {I L I1 L1 I' L' : Nat → Nat → Int} {R R1 R' : Nat → Nat → Option Nat} {Y Y1 Y' : (Nat → Nat) × (Nat → Nat) × Nat} {f g w n T da pe ev : Nat} {v : Nat → Bool}
theorem bd_r_k {q : Nat} (hA : at_T R Y) (hy : wy_S R Y) (h : bd_r R q) : (q = 35 ∨ q = 41 ∨ 110 ≤ q) ∧ q < Y.2.2 ∧ Y.1 q = 5 := by
  have hN := hA.2.2.2
  rcases h with rfl | rfl | ⟨i, hi, e⟩ | ⟨j, hj, e⟩
  · exact ⟨Or.inl rfl, by omega, at_k hA (j := 4) rfl⟩
  · exact ⟨Or.inr (Or.inl rfl), by omega, at_k hA (j := 6) rfl⟩
  · have z := (hy.1 i q hi e).1
    exact ⟨Or.inr (Or.inr z.1), z.2⟩
  · have z := (hy.2 j q hj e).1
    exact ⟨Or.inr (Or.inr z.1), z.2⟩
theorem rs_rb (hK : cz_K R Y) (hf : f < Y.2.2 ∧ Y.1 f = 5) (h : rs_E f I L R Y I' L' R' Y') (hne : ¬ g = f) (hb : rb_S I L R Y g n v) : rb_S I' L' R' Y' g n v := by
  obtain ⟨c, c', h1, h2, h3, h4, h5, h6⟩ := h
  obtain ⟨d, hw, hv, hk⟩ := hb
  have hw' := hw
  obtain ⟨⟨w1, w2, w3, w4, w5, w6⟩, w7, w8, w9, w10⟩ := hw
  have hd := cz_Kj hK w3 w5 w7
  have hdc : ¬ d = c' := fun e => by
    rcases h3 with z | z
    · exact hne ((cz_Kj hK hf.1 hf.2 h1).2.2 g w3 w5 (by rw [w7, e, z]))
    · omega
  have hLL : ∀ k, L' d k = L d k := fun k => (h4 d k w4).2 hdc (by have := hd.1; omega)
  refine ⟨d, rw_S_t hw' ((h4 g 1 w3).1 hne).1 ((h4 g 0 w3).1 hne).2 h5 h6, fun x hx => ?_, fun k hk' => ?_⟩
  · rw [← hv x hx]
    unfold rbc
    rw [hLL]
  · rw [hLL]
    exact hk k hk'
theorem rs_at (hA : at_T R Y) (hf : f = 35 ∨ f = 41 ∨ 110 ≤ f) (h : rs_E f I L R Y I' L' R' Y') : at_T R' Y' := by
  obtain ⟨c, c', h1, h2, h3, h4, h5, h6⟩ := h
  have hN := hA.2.2.2
  refine at_T_t hA (fun x hx => ?_) h5 h6
  have b : ∀ q ∈ at_L, q.1 < 110 ∧ ¬ (q.1 = 35 ∨ q.1 = 41) := by decide
  have z := b x hx
  exact ((h4 x.1 x.2.1 (by omega)).1 (by omega)).2
theorem rs_wy (hA : at_T R Y) (hy : wy_S R Y) (hf : f = 35 ∨ f = 41 ∨ 110 ≤ f) (h : rs_E f I L R Y I' L' R' Y') : wy_S R' Y' := by
  obtain ⟨c, c', h1, h2, h3, h4, h5, h6⟩ := h
  have hN := hA.2.2.2
  have r39 : ∀ i, R' 39 i = R 39 i := fun i => ((h4 39 i (by omega)).1 (by omega)).2
  have r40 : ∀ i, R' 40 i = R 40 i := fun i => ((h4 40 i (by omega)).1 (by omega)).2
  have cell : ∀ p c0, p < Y.2.2 → R p 0 = some c0 → 110 ≤ c0 → ∃ c1, R' p 0 = some c1 ∧ 110 ≤ c1 := fun p c0 hp e hc0 => by
    by_cases e1 : p = f
    · rw [e1, h1] at e
      cases e
      rw [e1]
      refine ⟨c', h2, ?_⟩
      rcases h3 with z | z <;> omega
    · exact ⟨c0, (((h4 p 0 hp).1 e1).2).trans e, hc0⟩
  refine ⟨fun i p hi e => ?_, fun j p hj e => ?_⟩
  · rw [r39] at e
    obtain ⟨⟨k1, k2, k3⟩, ⟨c0, k4, k5⟩, k6, k7⟩ := hy.1 i p hi e
    refine ⟨⟨k1, by omega, (h6 p k2).1.trans k3⟩, cell p c0 k2 k4 k5, fun i' hi' e' => ?_, fun j hj e' => ?_⟩
    · rw [r39] at e'
      exact k6 i' hi' e'
    · rw [r40] at e'
      exact k7 j hj e'
  · rw [r40] at e
    obtain ⟨⟨k1, k2, k3⟩, ⟨c0, k4, k5⟩, k6⟩ := hy.2 j p hj e
    refine ⟨⟨k1, by omega, (h6 p k2).1.trans k3⟩, cell p c0 k2 k4 k5, fun j' hj' e' => ?_⟩
    rw [r40] at e'
    exact k6 j' hj' e'
theorem bd_r_c (hy : wy_S R Y) (hh : bd_h R) (h : bd_r R f) : ∃ c, R f 0 = some c := by
  rcases h with rfl | rfl | ⟨i, hi, e⟩ | ⟨j, hj, e⟩
  · exact hh.1
  · exact hh.2
  · obtain ⟨c, hc, -⟩ := (hy.1 i f hi e).2.1
    exact ⟨c, hc⟩
  · obtain ⟨c, hc, -⟩ := (hy.2 j f hj e).2.1
    exact ⟨c, hc⟩
theorem rs_h (hN : 110 ≤ Y.2.2) (hh : bd_h R) (h : rs_E f I L R Y I' L' R' Y') : bd_h R' := by
  obtain ⟨c, c', h1, h2, h3, h4, h5, h6⟩ := h
  refine ⟨?_, ?_⟩
  · by_cases e : f = 35
    · exact ⟨c', by rw [← e]; exact h2⟩
    · obtain ⟨x, hx⟩ := hh.1
      exact ⟨x, (((h4 35 0 (by omega)).1 (by omega)).2).trans hx⟩
  · by_cases e : f = 41
    · exact ⟨c', by rw [← e]; exact h2⟩
    · obtain ⟨x, hx⟩ := hh.2
      exact ⟨x, (((h4 41 0 (by omega)).1 (by omega)).2).trans hx⟩
theorem bd_F_0 : bd_F I L R Y I L R Y := ⟨fun q k _ => ⟨fun _ => ⟨fun _ => rfl, fun _ _ => rfl⟩, fun _ _ => rfl⟩, fun f h => Or.inl h, fun f c h1 h2 => Or.inl ⟨h1, h2⟩, Nat.le_refl _, fun _ _ => ⟨rfl, rfl⟩⟩
theorem bd_F_s (hA1 : at_T R1 Y1) (hy1 : wy_S R1 Y1) (h : bd_F I L R Y I1 L1 R1 Y1) (hf : bd_r R1 f) (hE : rs_E f I1 L1 R1 Y1 I' L' R' Y') : bd_F I L R Y I' L' R' Y' := by
  have hN := hA1.2.2.2
  have fk := bd_r_k hA1 hy1 hf
  obtain ⟨c, c', h1, h2, h3, h4, h5, h6⟩ := hE
  obtain ⟨k1, k2, k3, k4, k5⟩ := h
  have rows : ∀ g, bd_r R' g → bd_r R1 g := fun g hg => by
    rcases hg with z | z | ⟨i, hi, e⟩ | ⟨j, hj, e⟩
    · exact Or.inl z
    · exact Or.inr (Or.inl z)
    · exact Or.inr (Or.inr (Or.inl ⟨i, hi, (((h4 39 i (by omega)).1 (by omega)).2).symm.trans e⟩))
    · exact Or.inr (Or.inr (Or.inr ⟨j, hj, (((h4 40 j (by omega)).1 (by omega)).2).symm.trans e⟩))
  refine ⟨fun q k hq => ⟨fun hn => ?_, fun hn h43 => ?_⟩, fun g hg => k2 g (rows g hg), fun g cc hg e => ?_, Nat.le_trans k4 h5, fun q hq => ?_⟩
  · have hqf : ¬ q = f := fun e => by
      rcases k2 f hf with z | z
      · exact hn (by rw [e]; exact z)
      · omega
    have w := (h4 q k (by omega)).1 hqf
    have z := (k1 q k hq).1 hn
    exact ⟨fun a => w.1.trans (z.1 a), fun a b => w.2.trans (z.2 a b)⟩
  · have hqc : ¬ q = c' := fun e => by
      rcases h3 with z | z
      · rcases k3 f c hf h1 with y | y
        · exact hn ⟨f, y.1, by rw [e, z]; exact y.2⟩
        · omega
      · omega
    exact ((h4 q k (by omega)).2 hqc h43).trans ((k1 q k hq).2 hn h43)
  · have hg1 := rows g hg
    by_cases e1 : g = f
    · rw [e1, h2] at e
      cases e
      rcases h3 with z | z
      · rw [z, e1]
        exact k3 f c hf h1
      · right; omega
    · have gk := bd_r_k hA1 hy1 hg1
      exact k3 g cc hg1 ((((h4 g 0 gk.2.1).1 e1).2).symm.trans e)
  · have a := k5 q hq
    have b := h6 q (by omega)
    exact ⟨b.1.trans a.1, b.2.trans a.2⟩
theorem bd_P_s (bld : da ≤ 6 ∧ pe ≤ 4 ∧ ev ≤ 4) (hP : bd_P I L R Y n T da pe ev I1 L1 R1 Y1) (hf : bd_r R1 f) (hnw : ∀ i, i < 96 → ¬ R1 39 i = some f) (hE : rs_E f I1 L1 R1 Y1 I' L' R' Y') (hK' : cz_K R' Y') : bd_P I L R Y n T da pe ev I' L' R' Y' := by
  obtain ⟨⟨a1, a2, a3, a4⟩, b, ⟨c1, c2, c3, c4⟩, e⟩ := hP
  have fk := bd_r_k a1 a3 hf
  have hN := a1.2.2.2
  have h4 : ∀ q k, q < Y1.2.2 → ¬ q = f → I' q k = I1 q k ∧ R' q k = R1 q k := by
    obtain ⟨c, c', h1, h2, h3, h4, h5, h6⟩ := hE
    exact fun q k hq hne => (h4 q k hq).1 hne
  have i34 : ∀ k, I' 34 k = I1 34 k := fun k => (h4 34 k (by omega) (by omega)).1
  refine ⟨⟨rs_at a1 fk.1 hE, hK', rs_wy a1 a3 fk.1 hE, rs_h hN a4 hE⟩, bd_F_s a1 a3 b hf hE, ⟨(i34 2).trans c1, (i34 7).trans c2, (i34 8).trans c3, (i34 9).trans c4⟩, fun d x y hd hx hy => ?_⟩
  obtain ⟨g, g1, g2⟩ := e d x y hd hx hy
  have hne : ¬ g = f := fun z => hnw (16 * d + 4 * x + y) (by omega) (by rw [g1, z])
  exact ⟨g, ((h4 39 _ (by omega) (by omega)).2).trans g1, rs_rb a2 fk.2 hE hne g2⟩
theorem bd_P_r {q : Nat} (hA : at_T R Y) (hy : wy_S R Y) (hP : bd_P I L R Y n T da pe ev I1 L1 R1 Y1) (hq : q < Y.2.2) (h5 : ¬ Y.1 q = 5) (k : Nat) : (¬ q = 34 → I1 q k = I q k) ∧ (¬ q = 39 → ¬ q = 40 → R1 q k = R q k) := (hP.2.1.1 q k hq).1 (fun hr => h5 (bd_r_k hA hy hr).2.2)
-- a wish's row is made
theorem rn_rb (h : rn_E w f I L R Y I' L' R' Y') (hg : ¬ g = 40) (hb : rb_S I L R Y g n v) : rb_S I' L' R' Y' g n v := by
  obtain ⟨c, h1, h2, h3, h4, h5, h6, h7, h8, h9⟩ := h
  obtain ⟨d, hw, hv, hk⟩ := hb
  have hw' := hw
  obtain ⟨⟨w1, w2, w3, w4, w5, w6⟩, w7, w8, w9, w10⟩ := hw
  have hLL : ∀ k, L' d k = L d k := fun k => (h7 d k w4).2.1
  refine ⟨d, rw_S_t hw' (h7 g 1 w3).1 ((h7 g 0 w3).2.2 (fun z => hg z.1)) h8 h9, fun x hx => ?_, fun k hk' => ?_⟩
  · rw [← hv x hx]
    unfold rbc
    rw [hLL]
  · rw [hLL]
    exact hk k hk'
theorem rn_at (hA : at_T R Y) (h : rn_E w f I L R Y I' L' R' Y') : at_T R' Y' := by
  obtain ⟨c, h1, h2, h3, h4, h5, h6, h7, h8, h9⟩ := h
  have hN := hA.2.2.2
  refine at_T_t hA (fun x hx => ?_) h8 h9
  have b : ∀ q ∈ at_L, q.1 < 110 ∧ ¬ q.1 = 40 := by decide
  have z := b x hx
  exact (h7 x.1 x.2.1 (by omega)).2.2 (fun y => z.2 y.1)
theorem rn_h (hN : 110 ≤ Y.2.2) (hh : bd_h R) (h : rn_E w f I L R Y I' L' R' Y') : bd_h R' := by
  obtain ⟨c, h1, h2, h3, h4, h5, h6, h7, h8, h9⟩ := h
  obtain ⟨⟨x, hx⟩, ⟨y, hy⟩⟩ := hh
  exact ⟨⟨x, ((h7 35 0 (by omega)).2.2 (by omega)).trans hx⟩, ⟨y, ((h7 41 0 (by omega)).2.2 (by omega)).trans hy⟩⟩
theorem rn_wy (hA : at_T R Y) (hy : wy_S R Y) (h : rn_E w f I L R Y I' L' R' Y') : wy_S R' Y' := by
  obtain ⟨c, h1, h2, h3, h4, h5, h6, h7, h8, h9⟩ := h
  have hN := hA.2.2.2
  have r39 : ∀ i, R' 39 i = R 39 i := fun i => (h7 39 i (by omega)).2.2 (by omega)
  have r40 : ∀ i, ¬ i = w → R' 40 i = R 40 i := fun i hi => (h7 40 i (by omega)).2.2 (fun z => hi z.2)
  have cell : ∀ p, p < Y.2.2 → 110 ≤ p → R' p 0 = R p 0 := fun p hp hp1 => (h7 p 0 hp).2.2 (by omega)
  refine ⟨fun i p hi e => ?_, fun j p hj e => ?_⟩
  · rw [r39] at e
    obtain ⟨⟨k1, k2, k3⟩, ⟨c0, k4, k5⟩, k6, k7⟩ := hy.1 i p hi e
    refine ⟨⟨k1, by omega, (h9 p k2).1.trans k3⟩, ⟨c0, (cell p k2 k1).trans k4, k5⟩, fun i' hi' e' => ?_, fun j hj e' => ?_⟩
    · rw [r39] at e'
      exact k6 i' hi' e'
    · by_cases cj : j = w
      · rw [cj, h2] at e'
        cases e'
        omega
      · rw [r40 j cj] at e'
        exact k7 j hj e'
  · by_cases cj : j = w
    · rw [cj, h2] at e
      cases e
      refine ⟨⟨by omega, h5⟩, ⟨c, h3, by omega⟩, fun j' hj' e' => ?_⟩
      by_cases c2 : j' = w
      · omega
      · rw [r40 j' c2] at e'
        have := (hy.2 j' _ hj' e').1.2.1
        omega
    · rw [r40 j cj] at e
      obtain ⟨⟨k1, k2, k3⟩, ⟨c0, k4, k5⟩, k6⟩ := hy.2 j p hj e
      refine ⟨⟨k1, by omega, (h9 p k2).1.trans k3⟩, ⟨c0, (cell p k2 k1).trans k4, k5⟩, fun j' hj' e' => ?_⟩
      by_cases c2 : j' = w
      · rw [c2, h2] at e'
        cases e'
        omega
      · rw [r40 j' c2] at e'
        exact k6 j' hj' e'
theorem rn_F (hA1 : at_T R1 Y1) (hy1 : wy_S R1 Y1) (h : bd_F I L R Y I1 L1 R1 Y1) (hw : w < 6) (hE : rn_E w f I1 L1 R1 Y1 I' L' R' Y') : bd_F I L R Y I' L' R' Y' := by
  have hN := hA1.2.2.2
  obtain ⟨c, h1, h2, h3, h4, h5, h6, h7, h8, h9⟩ := hE
  obtain ⟨k1, k2, k3, k4, k5⟩ := h
  have rows : ∀ g, bd_r R' g → bd_r R1 g ∨ g = f := fun g hg => by
    rcases hg with z | z | ⟨i, hi, e⟩ | ⟨j, hj, e⟩
    · exact Or.inl (Or.inl z)
    · exact Or.inl (Or.inr (Or.inl z))
    · exact Or.inl (Or.inr (Or.inr (Or.inl ⟨i, hi, ((h7 39 i (by omega)).2.2 (by omega)).symm.trans e⟩)))
    · by_cases cj : j = w
      · rw [cj, h2] at e
        exact Or.inr (Option.some.inj e).symm
      · exact Or.inl (Or.inr (Or.inr (Or.inr ⟨j, hj, ((h7 40 j (by omega)).2.2 (fun z => cj z.2)).symm.trans e⟩)))
  refine ⟨fun q k hq => ⟨fun hn => ?_, fun hn h43 => ?_⟩, fun g hg => ?_, fun g cc hg e => ?_, Nat.le_trans k4 h8, fun q hq => ?_⟩
  · have w1 := h7 q k (by omega)
    have z := (k1 q k hq).1 hn
    exact ⟨fun a => w1.1.trans (z.1 a), fun a b => (w1.2.2 (fun y => b y.1)).trans (z.2 a b)⟩
  · exact (h7 q k (by omega)).2.1.trans ((k1 q k hq).2 hn h43)
  · rcases rows g hg with z | z
    · exact k2 g z
    · right; omega
  · rcases rows g hg with z | z
    · have gk := bd_r_k hA1 hy1 z
      exact k3 g cc z (((h7 g 0 gk.2.1).2.2 (by omega)).symm.trans e)
    · rw [z, h3] at e
      cases e
      right; omega
  · have a := k5 q hq
    have b := h9 q (by omega)
    exact ⟨b.1.trans a.1, b.2.trans a.2⟩
theorem bd_P_n (hP : bd_P I L R Y n T da pe ev I1 L1 R1 Y1) (hw : w < 6) (hE : rn_E w f I1 L1 R1 Y1 I' L' R' Y') (hK' : cz_K R' Y') : bd_P I L R Y n T da pe ev I' L' R' Y' := by
  obtain ⟨⟨a1, a2, a3, a4⟩, b, ⟨c1, c2, c3, c4⟩, e⟩ := hP
  have hN := a1.2.2.2
  have h7 : ∀ q k, q < Y1.2.2 → I' q k = I1 q k ∧ L' q k = L1 q k ∧ (¬ (q = 40 ∧ k = w) → R' q k = R1 q k) := by
    obtain ⟨c, h1, h2, h3, h4, h5, h6, h7, h8, h9⟩ := hE
    exact h7
  have i34 : ∀ k, I' 34 k = I1 34 k := fun k => (h7 34 k (by omega)).1
  refine ⟨⟨rn_at a1 hE, hK', rn_wy a1 a3 hE, rn_h hN a4 hE⟩, rn_F a1 a3 b hw hE, ⟨(i34 2).trans c1, (i34 7).trans c2, (i34 8).trans c3, (i34 9).trans c4⟩, fun d x y hd hx hy => ?_⟩
  obtain ⟨g, g1, g2⟩ := e d x y hd hx hy
  refine ⟨g, ((h7 39 _ (by omega)).2.2 (by omega)).trans g1, rn_rb hE (fun z => ?_) g2⟩
  obtain ⟨c, hw2, -, -⟩ := g2
  have k5 := hw2.1.2.2.2.2.1
  rw [z, at_nk a1 (j := 8) rfl] at k5
  omega
/-- new cells and slots that are set keep the rows apart -/
theorem cz_K_n {q : Nat} {I2 L2 : Nat → Nat → Int} {R2 : Nat → Nat → Option Nat} {Y2 : (Nat → Nat) × (Nat → Nat) × Nat} (hK : cz_K R Y) (m : yi_mkd q I L R Y I2 L2 R2 Y2 0) (hn : ∀ k, R2 q k = none) : cz_K R2 Y2 := by
  obtain ⟨m1, m2, m3, m4, m5, m6⟩ := m
  intro A B
  obtain ⟨z1, -, -, z4, z5⟩ := hK A B
  have old : ∀ p k r, p < Y2.2.2 → R2 p k = some r → p < Y.2.2 ∧ R p k = some r := fun p k r hp e => by
    by_cases c : p = q
    · rw [c, hn] at e
      cases e
    · have hp2 : p < Y.2.2 := by
        have : Y2.2.2 = q + 1 := m6
        omega
      exact ⟨hp2, ((m2 p k c).2.2).symm.trans e⟩
  refine ⟨fun p k r hp e => ?_, fun p k h => absurd h Bool.false_ne_true, fun p h => absurd h Bool.false_ne_true, ?_, fun g c hg h5 e => ?_⟩
  · obtain ⟨hp2, e2⟩ := old p k r hp e
    refine ⟨?_, fun h => absurd h Bool.false_ne_true⟩
    have : Y2.2.2 = q + 1 := m6
    show r < Y2.2.2
    have hr : r < Y.2.2 := (z1 p k r hp2 e2).1
    omega
  · show 110 ≤ Y2.2.2
    have : Y2.2.2 = q + 1 := m6
    have : 110 ≤ Y.2.2 := z4
    omega
  · obtain ⟨hg2, e2⟩ := old g 0 c hg e
    have h5' : Y.1 g = 5 := (m4 g (by omega)).1.symm.trans h5
    obtain ⟨y1, ⟨y2, y3, y4⟩, y5⟩ := z5 g c hg2 h5' e2
    have hc : c < Y.2.2 := y4
    refine ⟨y1, ⟨?_, ?_, ?_⟩, fun g' hg' h5g e' => ?_⟩
    · show Y2.2.1 c ≤ 1000000
      rw [(m4 c (by omega)).2]
      exact y2
    · exact (m4 c (by omega)).1.trans y3
    · show c < Y2.2.2
      have : Y2.2.2 = q + 1 := m6
      omega
    · obtain ⟨hg2', e2'⟩ := old g' 0 c hg' e'
      exact y5 g' hg2' ((m4 g' (by omega)).1.symm.trans h5g) e2'
theorem cz_K_u {p k q : Nat} (hK : cz_K R Y) (hp : ¬ Y.1 p = 5) (hq : q < Y.2.2) : cz_K (cl_u R p k (some q)) Y := by
  intro A B
  obtain ⟨z1, -, -, z4, z5⟩ := hK A B
  have other : ∀ g, Y.1 g = 5 → cl_u R p k (some q) g 0 = R g 0 := fun g hg => cl_u_ne _ _ (fun z => hp (by rw [← z.1]; exact hg))
  refine ⟨fun p' k' r hp' e => ?_, fun p k h => absurd h Bool.false_ne_true, fun p h => absurd h Bool.false_ne_true, z4, fun g c hg h5 e => ?_⟩
  · refine ⟨?_, fun h => absurd h Bool.false_ne_true⟩
    by_cases c : p' = p ∧ k' = k
    · have e0 : cl_u R p k (some q) p' k' = some q := by rw [c.1, c.2, cl_u_eq]
      have e2 : cl_u R p k (some q) p' k' = some r := e
      rw [e0] at e2
      cases e2
      exact hq
    · have e2 : cl_u R p k (some q) p' k' = some r := e
      rw [cl_u_ne _ _ c] at e2
      exact (z1 p' k' r hp' e2).1
  · have e2 : cl_u R p k (some q) g 0 = some c := e
    rw [other g h5] at e2
    obtain ⟨y1, y2, y3⟩ := z5 g c hg h5 e2
    refine ⟨y1, y2, fun g' hg' h5g e' => ?_⟩
    have e3 : cl_u R p k (some q) g' 0 = some c := e'
    rw [other g' h5g] at e3
    exact y3 g' hg' h5g e3
/-- words' bits -/
def bw_W (W : Nat → Nat → Int) (n T da pe ev : Nat) : Prop := ∀ d x e, d < da → x < pe → e < ev → ∀ k, k < n → b64 (W (ev * (pe * d + x) + e) k) ∧ ∀ i, i < 64 → yb (W (ev * (pe * d + x) + e) k) i = decide (64 * k + i < T ∧ (64 * k + i) / ev ^ (da * pe - 1 - (pe * d + x)) % ev = e)
/-- a programme of the class: well formed, and what it says of each future -/
def prg_S (cd : Nat → Nat) (n T da pe ev fr m : Nat) (v : Nat → Bool) : Prop := (∀ k, k < m → cokX pe ev da (cd (fr + k))) ∧ ∀ W, bw_W W n T da pe ev → ∃ sk : Nat → Nat → Nat → List Bool, (∀ z, z < n → ∀ i, i < 64 → sk z i 0 = [] ∧ ∀ k, k < m → bst (cval W pe ev da z i) (cd (fr + k)) (sk z i k) = some (sk z i (k + 1))) ∧ ∀ x, x < T → (sk (x / 64) (x % 64) m).headD false = v x
/-- the words' cells as they stand -/
def wW (L : Nat → Nat → Int) (R : Nat → Nat → Option Nat) (pe ev i k : Nat) : Int := match R 39 (16 * (i / ev / pe) + 4 * (i / ev % pe) + i % ev) with
  | some f => (match R f 0 with
    | some c => L c k
    | none => 0)
  | none => 0
theorem wW_at {d x e c k : Nat} (hx : x < pe) (he : e < ev) (h1 : R 39 (16 * d + 4 * x + e) = some f) (h2 : R f 0 = some c) : wW L R pe ev (ev * (pe * d + x) + e) k = L c k := by
  have e1 : (ev * (pe * d + x) + e) / ev = pe * d + x := by rw [Nat.mul_add_div (by omega), Nat.div_eq_of_lt he]; rfl
  have e2 : (ev * (pe * d + x) + e) % ev = e := by rw [Nat.mul_add_mod, Nat.mod_eq_of_lt he]
  have e3 : (pe * d + x) / pe = d := by rw [Nat.mul_add_div (by omega), Nat.div_eq_of_lt hx]; rfl
  have e4 : (pe * d + x) % pe = x := by rw [Nat.mul_add_mod, Nat.mod_eq_of_lt hx]
  unfold wW
  rw [e1, e2, e3, e4, h1]
  show (match R f 0 with
    | some c => L c k
    | none => 0) = L c k
  rw [h2]
/-- what a row's solving wants of the words -/
theorem bd_P_W (bld : da ≤ 6 ∧ pe ≤ 4 ∧ ev ≤ 4) (hP : bd_P I L R Y n T da pe ev I1 L1 R1 Y1) (hf : bd_r R1 f) (hnw : ∀ i, i < 96 → ¬ R1 39 i = some f) {c : Nat} (hc : R1 f 0 = some c) : wd_C I1 L1 R1 Y1 n da pe ev (wW L1 R1 pe ev) f c ∧ bw_W (wW L1 R1 pe ev) n T da pe ev := by
  obtain ⟨⟨a1, a2, a3, a4⟩, b, -, e⟩ := hP
  have fk := bd_r_k a1 a3 hf
  refine ⟨fun d x y hd hx hy => ?_, fun d x y hd hx hy k hk => ?_⟩
  · obtain ⟨g, g1, cg, g2, g3, g4⟩ := e d x y hd hx hy
    have hne : ¬ g = f := fun z => hnw (16 * d + 4 * x + y) (by omega) (by rw [g1, z])
    refine ⟨g, cg, g1, g2, fun k _ => (wW_at hx hy g1 g2.2.1).symm, hne, fun z => hne ?_⟩
    exact (cz_Kj a2 fk.2.1 fk.2.2 hc).2.2 g g2.1.2.2.1 g2.1.2.2.2.2.1 (by rw [g2.2.1, z])
  · obtain ⟨g, g1, cg, g2, g3, g4⟩ := e d x y hd hx hy
    rw [wW_at hx hy g1 g2.2.1]
    refine ⟨g4 k hk, fun i hi => ?_⟩
    have z := g3 (64 * k + i) (by omega)
    unfold rbc at z
    rw [show (64 * k + i) / 64 = k by omega, show (64 * k + i) % 64 = i by omega] at z
    exact z
theorem bd_P_43 (hP : bd_P I L R Y n T da pe ev I1 L1 R1 Y1) : ∀ i pw cw, i < 96 → R1 39 i = some pw → R1 pw 0 = some cw → ¬ cw = 43 := fun i pw cw hi e1 e2 => by
  have z := (hP.1.2.2.1.1 i pw hi e1).1
  have y := (cz_Kj hP.1.2.1 z.2.1 z.2.2 e2).1
  omega
/-- a row that is resized, cleared, filled, solved, kept -/
theorem rz_rs {p m c c' : Nat} (hR : R p 0 = some c) (hz : rz_H I R Y I' R' Y' p m c c') (hL : ∀ q k, q < Y.2.2 → ¬ q = c' → ¬ q = 43 → L' q k = L q k) : rs_E p I L R Y I' L' R' Y' := by
  obtain ⟨z1, z2, ⟨z3, z4⟩, z5⟩ := hz
  refine ⟨c, c', hR, z1.1, ?_, fun q k hq => ⟨fun hne => ⟨(z2 q k hq).1 (fun y => hne y.1), (z2 q k hq).2 (fun y => hne y.1)⟩, hL q k hq⟩, z3, z4⟩
  rcases z5 with ⟨y, -, -⟩ | ⟨y, -, -, -⟩
  · exact Or.inl y
  · exact Or.inr (by omega)
theorem rs_L {p c : Nat} (hR : R p 0 = some c) (hL : ∀ q k, ¬ q = c → L' q k = L q k) : rs_E p I L R Y I L' R Y := ⟨c, c, hR, hR, Or.inl rfl, fun q k _ => ⟨fun _ => ⟨rfl, rfl⟩, fun hne _ => hL q k hne⟩, Nat.le_refl _, fun _ _ => ⟨rfl, rfl⟩⟩
theorem rz_rw {p m c c' : Nat} (hp : 10 ≤ p ∧ p < Y.2.2 ∧ Y.1 p = 5) (hm : m ≤ 512) (hz : rz_H I R Y I' R' Y' p m c c') : rw_S I' R' Y' p c' m := by
  obtain ⟨⟨z1, z2, z3, z4, z5, z6⟩, -, ⟨z7, z8⟩, -⟩ := hz
  exact ⟨⟨hp.1, z4, by omega, z5, (z8 p hp.2.1).1.trans hp.2.2, z6⟩, z1, z2, z3, hm⟩
theorem rb_S_c {v' : Nat → Bool} (h : rb_S I L R Y f n v) (e : ∀ x, x < 64 * n → v x = v' x) : rb_S I L R Y f n v' := by
  obtain ⟨c, h1, h2, h3⟩ := h
  exact ⟨c, h1, fun x hx => (h2 x hx).trans (e x hx), h3⟩
theorem bd_nw (hP : bd_P I L R Y n T da pe ev I1 L1 R1 Y1) (h : f < 110) : ∀ i, i < 96 → ¬ R1 39 i = some f := fun i hi e => by
  have := (hP.1.2.2.1.1 i f hi e).1.1
  omega
theorem bd_nv (hP : bd_P I L R Y n T da pe ev I1 L1 R1 Y1) (hw : w < 6) (h : R1 40 w = some f) : ∀ i, i < 96 → ¬ R1 39 i = some f := fun i hi e => (hP.1.2.2.1.1 i f hi e).2.2.2 w hw h
/-- wishes' rows, one after another -/
theorem ws_s {wv : Nat → Nat → Bool} (hP : bd_P I L R Y n T da pe ev I1 L1 R1 Y1) (hw : w < 6) (hf : R1 40 w = some f) (hE : rs_E f I1 L1 R1 Y1 I' L' R' Y') (hv : rb_S I' L' R' Y' f n (wv w)) (h : ∀ w', w' < w → ∃ g, R1 40 w' = some g ∧ rb_S I1 L1 R1 Y1 g n (wv w')) : ∀ w', w' < w + 1 → ∃ g, R' 40 w' = some g ∧ rb_S I' L' R' Y' g n (wv w') := fun w' hw' => by
  have hN := hP.1.1.2.2.2
  have fk := (hP.1.2.2.1.2 w f hw hf)
  have r40 : ∀ k, R' 40 k = R1 40 k := fun k => by
    obtain ⟨c, c', h1, h2, h3, h4, h5, h6⟩ := hE
    exact ((h4 40 k (by omega)).1 (by have := fk.1.1; omega)).2
  by_cases e : w' = w
  · rw [e]
    exact ⟨f, (r40 w).trans hf, hv⟩
  · obtain ⟨g, g1, g2⟩ := h w' (by omega)
    exact ⟨g, (r40 w').trans g1, rs_rb hP.1.2.1 fk.1.2 hE (fun z => e (fk.2.2 w' (by omega) (by rw [g1, z]))) g2⟩
theorem ws_n {wv : Nat → Nat → Bool} (hA : at_T R1 Y1) (hE : rn_E w f I1 L1 R1 Y1 I' L' R' Y') (h : ∀ w', w' < w → ∃ g, R1 40 w' = some g ∧ rb_S I1 L1 R1 Y1 g n (wv w')) : ∀ w', w' < w → ∃ g, R' 40 w' = some g ∧ rb_S I' L' R' Y' g n (wv w') := fun w' hw' => by
  have hN := hA.2.2.2
  obtain ⟨g, g1, g2⟩ := h w' hw'
  have h7 : R' 40 w' = R1 40 w' := by
    obtain ⟨c, h1, h2, h3, h4, h5, h6, h7, h8, h9⟩ := hE
    exact (h7 40 w' (by omega)).2.2 (by omega)
  refine ⟨g, h7.trans g1, rn_rb hE (fun z => ?_) g2⟩
  obtain ⟨c, hw2, -, -⟩ := g2
  have k5 := hw2.1.2.2.2.2.1
  rw [z, at_nk hA (j := 8) rfl] at k5
  omega
/-- behind the words -/
theorem bd_P_i {I5 : Nat → Nat → Int} (hA : at_T R Y) (hy : wy_S R Y) (hh : bd_h R) (hI : ∀ q k, ¬ q = 34 → I5 q k = I q k) (h5 : I5 34 2 = (T : Int) ∧ I5 34 7 = (da : Int) ∧ I5 34 8 = (pe : Int) ∧ I5 34 9 = (n : Int)) (a1 : at_T R1 Y1) (a2 : cz_K R1 Y1) (a3 : wy_S R1 Y1) (hF : bw_F I5 L R Y I1 L1 R1 Y1) (hD : ∀ M, bw_D I1 L1 R1 Y1 n T da pe ev M) : bd_P I L R Y n T da pe ev I1 L1 R1 Y1 := by
  have hN := hA.2.2.2
  obtain ⟨k1, k2, k6, k3, k4, k5⟩ := hF
  have low : ∀ q, q < 110 → ¬ ∃ i, i < 96 ∧ R 39 i = some q := fun q hq ⟨i, hi, e⟩ => by
    have := (hy.1 i q hi e).1.1
    omega
  have r35 : ∀ q, q < 110 → ¬ q = 39 → ∀ k, R1 q k = R q k := fun q hq h39 k => ((k1 q k (by omega)).1 (low q hq)).2 h39
  have i34 : ∀ k, I1 34 k = I5 34 k := fun k => ((k1 34 k (by omega)).1 (low 34 (by omega))).1
  refine ⟨⟨a1, a2, a3, ?_⟩, ⟨fun q k hq => ⟨fun hn => ?_, fun hn h43 => ?_⟩, fun f hf => ?_, fun f c hf e => ?_, k4, k5⟩, ⟨(i34 2).trans h5.1, (i34 7).trans h5.2.1, (i34 8).trans h5.2.2.1, (i34 9).trans h5.2.2.2⟩, fun d x e hd hx he => ?_⟩
  · obtain ⟨⟨x, hx⟩, ⟨y, hy⟩⟩ := hh
    exact ⟨⟨x, (r35 35 (by omega) (by omega) 0).trans hx⟩, ⟨y, (r35 41 (by omega) (by omega) 0).trans hy⟩⟩
  · have z := (k1 q k hq).1 (fun ⟨i, hi, e⟩ => hn (Or.inr (Or.inr (Or.inl ⟨i, hi, e⟩))))
    exact ⟨fun h => z.1.trans (hI q k h), fun h _ => z.2 h⟩
  · exact (k1 q k hq).2 (fun ⟨i, f, hi, e1, e2⟩ => hn ⟨f, Or.inr (Or.inr (Or.inl ⟨i, hi, e1⟩)), e2⟩)
  · rcases hf with z | z | ⟨i, hi, e⟩ | ⟨j, hj, e⟩
    · exact Or.inl (Or.inl z)
    · exact Or.inl (Or.inr (Or.inl z))
    · rcases k2 i f hi e with z | z
      · exact Or.inl (Or.inr (Or.inr (Or.inl ⟨i, hi, z⟩)))
      · exact Or.inr z
    · rw [r35 40 (by omega) (by omega)] at e
      exact Or.inl (Or.inr (Or.inr (Or.inr ⟨j, hj, e⟩)))
  · rcases hf with z | z | ⟨i, hi, e1⟩ | ⟨j, hj, e1⟩
    · rw [z, r35 35 (by omega) (by omega)] at e
      exact Or.inl ⟨Or.inl z, by rw [z]; exact e⟩
    · rw [z, r35 41 (by omega) (by omega)] at e
      exact Or.inl ⟨Or.inr (Or.inl z), by rw [z]; exact e⟩
    · rcases k3 i f c hi e1 e with z | z
      · exact Or.inl ⟨Or.inr (Or.inr (Or.inl ⟨i, hi, z.1⟩)), z.2⟩
      · exact Or.inr z
    · rw [r35 40 (by omega) (by omega)] at e1
      have w := hy.2 j f hj e1
      have z := ((k1 f 0 w.1.2.1).1 (fun ⟨i, hi, e2⟩ => (hy.1 i f hi e2).2.2.2 j hj e1)).2 (by have := w.1.1; omega)
      rw [z] at e
      exact Or.inl ⟨Or.inr (Or.inr (Or.inr ⟨j, hj, e1⟩)), e⟩
  · obtain ⟨f, c, b1, b2, b3, b4⟩ := hD (ev * (pe * d + x) + e + 1) d x e hd hx he (by omega)
    exact ⟨f, b1, c, b2, b3, b4⟩
end BDS
theorem p_futuresE {d : Nat} {I L : Nat → Nat → Int} {R : Nat → Nat → Option Nat} {Y : (Nat → Nat) × (Nat → Nat) × Nat} {q da pe ev : Nat} (hq : 10 ≤ q) (h14 : I q 14 = (da : Int)) (bld : da ≤ 6 ∧ pe ≤ 4 ∧ ev ≤ 4) (hT : 0 < pe → 0 < ev → ev ^ (da * pe) ≤ 32768) {T : Nat} (hTT : T = if pe = 0 ∨ ev = 0 then 1 else ev ^ (da * pe)) : yi_P zi_Ms d 226 [.inr (.inr (some q)), .inl (pe : Int), .inl (ev : Int)] (I, L, R, Y) (fun r => r = (some (.inl (T : Int)), (I, L, R, Y), 0, 0)) := by
  refine yi_P_of (M := zi_m226) rfl (fun d k => ?_)
  have hm0 : pe * da ≤ 4 * 6 := Nat.mul_le_mul bld.2.1 bld.1
  show yi_D zi_Ms d zi_m226 k (0, [(0, .inr (.inr (some q))), (1, .inl (pe : Int)), (2, .inl (ev : Int))], [], (I, L, R, Y), 0, 0) _
  refine yi_D_run 1 (1, [(0, .inr (.inr (some q))), (1, .inl (pe : Int)), (2, .inl (ev : Int))], [.inl (pe : Int)], (I, L, R, Y), 0, 0) (fun _ => rfl) ?_
  by_cases h1 : (pe : Int) ≤ 0
  · refine yi_D_if1 true rfl (yi_le_t h1) ?_
    refine yi_D_run 1 (9, [(0, .inr (.inr (some q))), (1, .inl (pe : Int)), (2, .inl (ev : Int))], [.inl 1], (I, L, R, Y), 0, 0) (fun _ => rfl) ?_
    refine yi_D_reti rfl ?_
    have e : T = 1 := by
      rw [hTT]
      exact if_pos (by omega)
    exact congrArg (fun z : Int => ((some (.inl z), (I, L, R, Y), 0, 0) : yi_R)) (show (1 : Int) = (T : Int) by omega)
  · refine yi_D_if1 false rfl (yi_le_f h1) ?_
    refine yi_D_run 1 (5, [(0, .inr (.inr (some q))), (1, .inl (pe : Int)), (2, .inl (ev : Int))], [.inl (ev : Int)], (I, L, R, Y), 0, 0) (fun _ => rfl) ?_
    by_cases h2 : 0 < (ev : Int)
    · refine yi_D_if1 true rfl (yi_gt_t h2) ?_
      refine yi_D_run 4 (15, [(4, .inl 0), (3, .inl 1), (0, .inr (.inr (some q))), (1, .inl (pe : Int)), (2, .inl (ev : Int))], [], (I, L, R, Y), 0, 0) (fun _ => rfl) ?_
      have pt15 : ∀ j15, j15 ≤ k → ∀ (y4 : Int) (y3 : Int), (0 ≤ y4 ∧ y4 ≤ ((pe * da : Nat) : Int)) → (y3 = ((ev ^ y4.toNat : Nat) : Int)) → (1 ≤ y3 ∧ y3 ≤ 32768) → yi_D zi_Ms d zi_m226 j15 (15, [(4, .inl y4), (3, .inl y3), (0, .inr (.inr (some q))), (1, .inl (pe : Int)), (2, .inl (ev : Int))], [], (I, L, R, Y), 0, 0) (fun r => r = (some (.inl (T : Int)), (I, L, R, Y), 0, 0)) := by
        intro j15
        induction j15 with
        | zero => intros; exact yi_D_0
        | succ j15 ih15 =>
        intro hk15 y4 y3 hi hpw hb3
        refine yi_D_run1 2 (19, [(4, .inl y4), (3, .inl y3), (0, .inr (.inr (some q))), (1, .inl (pe : Int)), (2, .inl (ev : Int))], [.inr (.inr (some q)), .inl (pe : Int), .inl y4], (I, L, R, Y), 0, 0) (fun _ => rfl) ?_
        refine yi_D_gi (v := (da : Int)) rfl rfl (Nat.ble_eq_true_of_le (by omega)) h14 (fun _ => ?_)
        refine yi_D_imul rfl (((pe * da : Nat) : Int)) (by rw [← Int.natCast_mul]; exact yi_wn (by omega) (by omega)) ?_
        by_cases h3 : ((pe * da : Nat) : Int) ≤ y4
        · refine yi_D_if2 true rfl (yi_ge_t h3) ?_
          refine yi_D_run 1 (43, [(4, .inl y4), (3, .inl y3), (0, .inr (.inr (some q))), (1, .inl (pe : Int)), (2, .inl (ev : Int))], [.inl y3], (I, L, R, Y), 0, 0) (fun _ => rfl) ?_
          refine yi_D_ldc (32769) rfl (by decide +kernel) ?_
          refine yi_D_run 1 (48, [(4, .inl y4), (3, .inl y3), (0, .inr (.inr (some q))), (1, .inl (pe : Int)), (2, .inl (ev : Int))], [.inl (if 32769 < y3 then 32769 else y3)], (I, L, R, Y), 0, 0) (fun _ => rfl) ?_
          refine yi_D_reti rfl ?_
          rw [if_neg (by omega)]
          have hz : y4.toNat = da * pe := by rw [Nat.mul_comm da]; omega
          have e : T = ev ^ (da * pe) := by
            rw [hTT]
            exact if_neg (by omega)
          have e2 : (T : Int) = y3 := by rw [hpw, hz, e]
          exact congrArg (fun z : Int => ((some (.inl z), (I, L, R, Y), 0, 0) : yi_R)) (show y3 = (T : Int) by omega)
        · refine yi_D_if2 false rfl (yi_ge_f h3) ?_
          refine yi_D_run 1 (27, [(4, .inl y4), (3, .inl y3), (0, .inr (.inr (some q))), (1, .inl (pe : Int)), (2, .inl (ev : Int))], [.inl y3], (I, L, R, Y), 0, 0) (fun _ => rfl) ?_
          refine yi_D_ldc (32768) rfl (by decide +kernel) ?_
          have h4 : ¬ (32768 < y3) := by omega
          refine yi_D_if2 false rfl (yi_gt_f h4) ?_
          have e1 : ev ^ (y4.toNat + 1) ≤ ev ^ (da * pe) := Nat.pow_le_pow_right (by omega) (by rw [Nat.mul_comm da]; omega)
          have e2 : ev ^ (da * pe) ≤ 32768 := hT (by omega) (by omega)
          have e3 : 0 < ev ^ (y4.toNat + 1) := Nat.pow_pos (by omega)
          have e4 : y3 * (ev : Int) = ((ev ^ (y4.toNat + 1) : Nat) : Int) := by rw [hpw, Nat.pow_succ, Int.natCast_mul]
          refine yi_D_run 2 (34, [(4, .inl y4), (3, .inl y3), (0, .inr (.inr (some q))), (1, .inl (pe : Int)), (2, .inl (ev : Int))], [.inl (ev : Int), .inl y3], (I, L, R, Y), 0, 0) (fun _ => rfl) ?_
          have hm2 := Int.mul_le_mul (a := y3) (c := 32768) (b := (ev : Int)) (d := 4) (by omega) (by omega) (by omega) (by omega)
          have hm3 := Int.mul_le_mul (a := 1) (c := y3) (b := 1) (d := (ev : Int)) (by omega) (by omega) (by omega) (by omega)
          refine yi_D_imul rfl (y3 * (ev : Int)) (yi_wn (by omega) (by omega)) ?_
          refine yi_D_run 1 (36, [(3, .inl (y3 * (ev : Int))), (4, .inl y4), (0, .inr (.inr (some q))), (1, .inl (pe : Int)), (2, .inl (ev : Int))], [], (I, L, R, Y), 0, 0) (fun _ => rfl) ?_
          refine yi_D_iinc [(4, .inl (y4 + 1)), (3, .inl (y3 * (ev : Int))), (0, .inr (.inr (some q))), (1, .inl (pe : Int)), (2, .inl (ev : Int))] rfl rfl rfl (by rw [show yi_w (y4 + 1) = y4 + 1 from (yi_wn (by omega) (by omega)).trans (by omega)]; rfl) ?_
          refine yi_D_run 1 (15, [(4, .inl (y4 + 1)), (3, .inl (y3 * (ev : Int))), (0, .inr (.inr (some q))), (1, .inl (pe : Int)), (2, .inl (ev : Int))], [], (I, L, R, Y), 0, 0) (fun _ => rfl) ?_
          exact yi_D_mono (ih15 (by omega) (y4 + 1) (y3 * (ev : Int)) (by omega) (by rw [show (y4 + 1).toNat = y4.toNat + 1 by omega, Nat.pow_succ, Int.natCast_mul, ← hpw]) (by omega)) (by omega)
      exact pt15 k (Nat.le_refl _) 0 1 (by omega) (by rw [Int.toNat_zero, Nat.pow_zero]; rfl) (by omega)
    · refine yi_D_if1 false rfl (yi_gt_f h2) ?_
      refine yi_D_run 1 (9, [(0, .inr (.inr (some q))), (1, .inl (pe : Int)), (2, .inl (ev : Int))], [.inl 1], (I, L, R, Y), 0, 0) (fun _ => rfl) ?_
      refine yi_D_reti rfl ?_
      have e : T = 1 := by
        rw [hTT]
        exact if_pos (by omega)
      exact congrArg (fun z : Int => ((some (.inl z), (I, L, R, Y), 0, 0) : yi_R)) (show (1 : Int) = (T : Int) by omega)
section BDC
theorem p_resizeR {d : Nat} {I0 L0 I L : Nat → Nat → Int} {R0 R : Nat → Nat → Option Nat} {Y0 Y : (Nat → Nat) × (Nat → Nat) × Nat} {n T da pe ev f : Nat} (bld : da ≤ 6 ∧ pe ≤ 4 ∧ ev ≤ 4) (hP : bd_P I0 L0 R0 Y0 n T da pe ev I L R Y) (hn : n = (T + 63) / 64 ∧ 1 ≤ T ∧ T ≤ 32768) (hf : bd_r R f) (hnw : ∀ i, i < 96 → ¬ R 39 i = some f) : yi_P zi_Ms d 207 [.inr (.inr (some f)), .inl (n : Int)] (I, L, R, Y) (fun r => ∃ I' L' R' Y' nc ns, r = (none, (I', L', R', Y'), nc, ns) ∧ bd_P I0 L0 R0 Y0 n T da pe ev I' L' R' Y' ∧ rs_E f I L R Y I' L' R' Y' ∧ ∃ c, rw_S I' R' Y' f c n) := by
  obtain ⟨⟨a1, a2, a3, a4⟩, -, ⟨i2, i7, i8, i9⟩, -⟩ := id hP
  have hN := a1.2.2.2
  have fk := bd_r_k a1 a3 hf
  obtain ⟨c, hc⟩ := bd_r_c a3 a4 hf
  have kc := cz_Kj a2 fk.2.1 fk.2.2 hc
  refine (yi_P_a (p_resizeB (p := f) (c := c) (m := n) ⟨by omega, fk.2.1, by omega, kc.2.1.2.2, kc.2.1.2.1⟩ hc ⟨by omega, by omega⟩) (cz_P a2 (by decide +kernel) (cy_ve rfl (cy_c (cy_p fk.2.1) (cy_c (cy_i _) cy_0))))).imp (fun r ⟨⟨I', L', R', Y', nc, ns, c', e1, hz, hL, hB⟩, hK'⟩ => ?_)
  subst e1
  have hE : rs_E f I L R Y I' L' R' Y' := rz_rs hc hz (fun q k hq _ _ => hL q k hq)
  exact ⟨I', L', R', Y', nc, ns, rfl, bd_P_s bld hP hf hnw hE hK', hE, c', rz_rw ⟨by omega, fk.2⟩ (by omega) hz⟩
theorem p_clearR {d : Nat} {I0 L0 I L : Nat → Nat → Int} {R0 R : Nat → Nat → Option Nat} {Y0 Y : (Nat → Nat) × (Nat → Nat) × Nat} {n T da pe ev f : Nat} (bld : da ≤ 6 ∧ pe ≤ 4 ∧ ev ≤ 4) (hP : bd_P I0 L0 R0 Y0 n T da pe ev I L R Y) (hn : n = (T + 63) / 64 ∧ 1 ≤ T ∧ T ≤ 32768) (hf : bd_r R f) (hnw : ∀ i, i < 96 → ¬ R 39 i = some f) {c : Nat} (hw : rw_S I R Y f c n) : yi_P zi_Ms d 199 [.inr (.inr (some f))] (I, L, R, Y) (fun r => ∃ L', r = (none, (I, L', R, Y), 0, 0) ∧ bd_P I0 L0 R0 Y0 n T da pe ev I L' R Y ∧ rs_E f I L R Y I L' R Y ∧ (∀ x, x < 64 * n → rbc L' c x = false) ∧ rkc L' c n) := by
  obtain ⟨⟨a1, a2, a3, a4⟩, -, ⟨i2, i7, i8, i9⟩, -⟩ := id hP
  have hN := a1.2.2.2
  have fk := bd_r_k a1 a3 hf
  have kc := cz_Kj a2 fk.2.1 fk.2.2 hw.2.1
  refine (p_clear (p := f) (c := c) (by omega) hw.2.1 ⟨by omega, kc.2.1.1⟩).imp (fun r ⟨L', e1, h0, hL⟩ => ?_)
  subst e1
  have hE : rs_E f I L R Y I L' R Y := rs_L hw.2.1 hL
  have hl := hw.2.2.2.1
  refine ⟨L', rfl, bd_P_s bld hP hf hnw hE a2, hE, fun x hx => ?_, fun k hk => ?_⟩
  · unfold rbc
    rw [h0 _ (by omega), yb_0]
  · rw [h0 k (by omega)]
    exact b64_0
theorem p_rangeR {d : Nat} {I0 L0 I L : Nat → Nat → Int} {R0 R : Nat → Nat → Option Nat} {Y0 Y : (Nat → Nat) × (Nat → Nat) × Nat} {n T da pe ev f : Nat} (bld : da ≤ 6 ∧ pe ≤ 4 ∧ ev ≤ 4) (hP : bd_P I0 L0 R0 Y0 n T da pe ev I L R Y) (hn : n = (T + 63) / 64 ∧ 1 ≤ T ∧ T ≤ 32768) (hf : bd_r R f) (hnw : ∀ i, i < 96 → ¬ R 39 i = some f) {c : Nat} (hw : rw_S I R Y f c n) (h0 : ∀ x, x < 64 * n → rbc L c x = false) (h1 : rkc L c n) : yi_P zi_Ms d 196 [.inr (.inr (some f)), .inl 0, .inl (T : Int)] (I, L, R, Y) (fun r => ∃ L', r = (none, (I, L', R, Y), 0, 0) ∧ bd_P I0 L0 R0 Y0 n T da pe ev I L' R Y ∧ rs_E f I L R Y I L' R Y ∧ rb_S I L' R Y f n (fun x => decide (x < T))) := by
  obtain ⟨⟨a1, a2, a3, a4⟩, -, ⟨i2, i7, i8, i9⟩, -⟩ := id hP
  have hN := a1.2.2.2
  refine (p_addRangeI hw (x := 0) (y := T) (by omega) rfl ⟨by omega, by omega⟩).imp (fun r ⟨L', e1, hb, hk, hL⟩ => ?_)
  subst e1
  have hE : rs_E f I L R Y I L' R Y := rs_L hw.2.1 (fun q k hq => hL q k (fun z => hq z.1))
  refine ⟨L', rfl, bd_P_s bld hP hf hnw hE a2, hE, c, hw, fun x hx => ?_, hk h1⟩
  rw [hb x hx, h0 x hx, Bool.false_or]
  exact decide_eq_decide.2 (by omega)
theorem p_solveR {d : Nat} {I0 L0 I L : Nat → Nat → Int} {R0 R : Nat → Nat → Option Nat} {Y0 Y : (Nat → Nat) × (Nat → Nat) × Nat} {n T da pe ev f : Nat} (bld : da ≤ 6 ∧ pe ≤ 4 ∧ ev ≤ 4) (hP : bd_P I0 L0 R0 Y0 n T da pe ev I L R Y) (hn : n = (T + 63) / 64 ∧ 1 ≤ T ∧ T ≤ 32768) (hf : bd_r R f) (hnw : ∀ i, i < 96 → ¬ R 39 i = some f) {Q fr m : Nat} {cd : Nat → Nat} {v : Nat → Bool} (hQ : 10 ≤ Q ∧ Q < Y.2.2 ∧ Y.1 Q = 20 ∧ fr + m ≤ Y.2.1 Q ∧ Y.2.1 Q ≤ 100000) (hcd : ∀ k, k < m → I Q (fr + k) = (cd (fr + k) : Int)) (hS : prg_S cd n T da pe ev fr m v) : yi_P zi_Ms d 309 [.inr (.inr (some 34)), .inr (.inr (some Q)), .inl (fr : Int), .inl ((fr + m : Nat) : Int), .inr (.inr (some f))] (I, L, R, Y) (fun r => ∃ I' L' R' Y' nc ns, r = (none, (I', L', R', Y'), nc, ns) ∧ bd_P I0 L0 R0 Y0 n T da pe ev I' L' R' Y' ∧ rs_E f I L R Y I' L' R' Y' ∧ rb_S I' L' R' Y' f n (fun x => decide (x < T) && v x)) := by
  obtain ⟨⟨a1, a2, a3, a4⟩, -, ⟨i2, i7, i8, i9⟩, -⟩ := id hP
  have hN := a1.2.2.2
  have fk := bd_r_k a1 a3 hf
  obtain ⟨c, hc⟩ := bd_r_c a3 a4 hf
  have kc := cz_Kj a2 fk.2.1 fk.2.2 hc
  obtain ⟨hW, hb⟩ := bd_P_W bld hP hf hnw hc
  obtain ⟨sk, hsk, hv⟩ := hS.2 _ hb
  have hQf : ¬ Q = f := fun e => by
    have := fk.2.2
    have := hQ.2.2.1
    rw [e] at this
    omega
  refine (yi_P_a (p_solve a1 (W := wW L R pe ev) (cd := fun k => cd (fr + k)) (sk := sk) i2 i9 ⟨hn.1, hn.2.1, by omega⟩ ⟨i7, i8⟩ bld ⟨by omega, fk.2⟩ hc ⟨by omega, kc.2.1.2.2, kc.2.1.2.1, kc.2.1.1, by omega⟩ hW (bd_P_43 hP) ⟨hQ.1, hQ.2.1, hQf, hQ.2.2.2⟩ hcd hS.1 hsk) (cz_P a2 (by decide +kernel) (cy_ve rfl (cy_c (cy_p (by omega)) (cy_c (cy_p hQ.2.1) (cy_c (cy_i _) (cy_c (cy_i _) (cy_c (cy_p fk.2.1) cy_0)))))))).imp (fun r ⟨⟨I', L', R', Y', nc, ns, c', e1, hz, hbit, hk, hL, hB⟩, hK'⟩ => ?_)
  subst e1
  have hE : rs_E f I L R Y I' L' R' Y' := rz_rs hc hz hL
  refine ⟨I', L', R', Y', nc, ns, rfl, bd_P_s bld hP hf hnw hE hK', hE, c', rz_rw ⟨by omega, fk.2⟩ (by omega) hz, fun x hx => ?_, hk⟩
  rw [hbit x hx]
  show (decide (x < T) && (sk (x / 64) (x % 64) m).headD false) = (decide (x < T) && v x)
  by_cases cx : x < T
  · rw [hv x cx]
  · rw [decide_eq_false cx, Bool.false_and, Bool.false_and]
theorem p_keepR {d : Nat} {I0 L0 I L : Nat → Nat → Int} {R0 R : Nat → Nat → Option Nat} {Y0 Y : (Nat → Nat) × (Nat → Nat) × Nat} {n T da pe ev f : Nat} (bld : da ≤ 6 ∧ pe ≤ 4 ∧ ev ≤ 4) (hP : bd_P I0 L0 R0 Y0 n T da pe ev I L R Y) (hn : n = (T + 63) / 64 ∧ 1 ≤ T ∧ T ≤ 32768) {v1 v2 : Nat → Bool} (h1 : rb_S I L R Y 35 n v1) (h2 : rb_S I L R Y 41 n v2) : yi_P zi_Ms d 204 [.inr (.inr (some 35)), .inr (.inr (some 41))] (I, L, R, Y) (fun r => ∃ L', r = (none, (I, L', R, Y), 0, 0) ∧ bd_P I0 L0 R0 Y0 n T da pe ev I L' R Y ∧ rs_E 35 I L R Y I L' R Y ∧ rb_S I L' R Y 35 n (fun x => v1 x && v2 x)) := by
  obtain ⟨⟨a1, a2, a3, a4⟩, -, ⟨i2, i7, i8, i9⟩, -⟩ := id hP
  have hN := a1.2.2.2
  obtain ⟨c, w1, b1, k1⟩ := h1
  obtain ⟨c2, w2, b2, k2⟩ := h2
  refine (p_keep w1 w2).imp (fun r ⟨L', e1, hv, hL⟩ => ?_)
  subst e1
  have hE : rs_E 35 I L R Y I L' R Y := rs_L w1.2.1 (fun q k hq => hL q k (fun z => hq z.1))
  refine ⟨L', rfl, bd_P_s bld hP (Or.inl rfl) (bd_nw hP (by omega)) hE a2, hE, c, w1, fun x hx => ?_, fun k hk => ?_⟩
  · unfold rbc at b1 b2 ⊢
    rw [hv _ (by omega), yb_and, b1 x hx, b2 x hx]
  · rw [hv k hk]
    exact b64_land _ _
end BDC
/-- all of so many laws -/
def allB (lv : Nat → Nat → Bool) (x : Nat) : Nat → Bool
  | 0 => true
  | m + 1 => allB lv x m && lv m x
theorem p_build {d : Nat} {I L : Nat → Nat → Int} {R : Nat → Nat → Option Nat} {Y : (Nat → Nat) × (Nat → Nat) × Nat} (hA : at_T R Y) (hK : cz_K R Y) (hy : wy_S R Y) (hh : bd_h R) {q Q da pe ev lw ws n T lb le wb we : Nat} (hq : 50 ≤ q ∧ q < Y.2.2 ∧ Y.1 q = 3) (hI : I q 14 = (da : Int) ∧ I q 15 = (pe : Int) ∧ I q 16 = (ev : Int) ∧ I q 18 = (lw : Int) ∧ I q 19 = (ws : Int)) (bld : da ≤ 6 ∧ pe ≤ 4 ∧ ev ≤ 4) (bl2 : lw ≤ 4 ∧ ws ≤ 6) (hRq : R q 8 = some lb ∧ R q 9 = some le ∧ R q 10 = some wb ∧ R q 11 = some we) (hka : ∀ p, p = lb ∨ p = le ∨ p = wb ∨ p = we ∨ p = Q → 18 ≤ p ∧ p < Y.2.2 ∧ Y.1 p = 20 ∧ ¬ p = 34) {lf lm wf wm : Nat → Nat} (hlw : ∀ j, j < lw → I lb j = (lf j : Int) ∧ I le j = ((lf j + lm j : Nat) : Int)) (hws : ∀ j, j < ws → I wb j = (wf j : Int) ∧ I we j = ((wf j + wm j : Nat) : Int)) (hQ : Y.2.1 Q ≤ 100000 ∧ (∀ j, j < lw → lf j + lm j ≤ Y.2.1 Q) ∧ ∀ j, j < ws → wf j + wm j ≤ Y.2.1 Q) {cd : Nat → Nat} (hcl : ∀ j, j < lw → ∀ k, k < lm j → I Q (lf j + k) = (cd (lf j + k) : Int)) (hcw : ∀ j, j < ws → ∀ k, k < wm j → I Q (wf j + k) = (cd (wf j + k) : Int)) {lv wv : Nat → Nat → Bool} (hpl : ∀ j, j < lw → prg_S cd n T da pe ev (lf j) (lm j) (lv j)) (hpw : ∀ j, j < ws → prg_S cd n T da pe ev (wf j) (wm j) (wv j)) (hT : T = if pe = 0 ∨ ev = 0 then 1 else ev ^ (da * pe)) (hT2 : T ≤ 32768) (hn : n = (T + 63) / 64) : yi_P zi_Ms d 303 [.inr (.inr (some 34)), .inr (.inr (some q)), .inr (.inr (some Q))] (I, L, R, Y) (fun r => ∃ I' L' R' Y' nc ns, r = (none, (I', L', R', Y'), nc, ns) ∧ bd_P I L R Y n T da pe ev I' L' R' Y' ∧ rb_S I' L' R' Y' 35 n (fun x => decide (x < T) && allB lv x lw) ∧ ∀ w, w < ws → ∃ f, R' 40 w = some f ∧ rb_S I' L' R' Y' f n (fun x => decide (x < T) && wv w x)) := by
  refine yi_P_of (M := zi_m303) rfl (fun d k => ?_)
  have hTp : 0 < pe → 0 < ev → T = ev ^ (da * pe) := fun h1 h2 => by rw [hT, if_neg (by omega)]
  have hT1 : 1 ≤ T := by
    rw [hT]
    split
    · exact Nat.le_refl _
    · exact Nat.pow_pos (by omega)
  have hN := hA.2.2.2
  have hTe : 0 < ev → T = ev ^ (da * pe) := fun h => by
    by_cases c : pe = 0
    · rw [hT, if_pos (Or.inl c), c, Nat.mul_zero, Nat.pow_zero]
    · exact hTp (by omega) h
  have hnT : n = (T + 63) / 64 ∧ 1 ≤ T ∧ T ≤ 32768 := ⟨hn, hT1, hT2⟩
  obtain ⟨k0, k0N, k0Y, k034⟩ := hka lb (by omega)
  obtain ⟨k1, k1N, k1Y, k134⟩ := hka le (by omega)
  obtain ⟨k2, k2N, k2Y, k234⟩ := hka wb (by omega)
  obtain ⟨k3, k3N, k3Y, k334⟩ := hka we (by omega)
  obtain ⟨k4, k4N, k4Y, k434⟩ := hka Q (by omega)
  show yi_D zi_Ms d zi_m303 k (0, [(0, .inr (.inr (some 34))), (1, .inr (.inr (some q))), (2, .inr (.inr (some Q)))], [], (I, L, R, Y), 0, 0) _
  refine yi_D_run 2 (2, [(0, .inr (.inr (some 34))), (1, .inr (.inr (some q))), (2, .inr (.inr (some Q)))], [.inr (.inr (some q)), .inr (.inr (some 34))], (I, L, R, Y), 0, 0) (fun _ => rfl) ?_
  refine yi_D_gi (v := (da : Int)) rfl rfl (Nat.ble_eq_true_of_le (by omega)) hI.1 (fun _ => ?_)
  refine yi_D_pi rfl (fun _ => ?_)
  generalize w2 : yi_u I 34 7 (da : Int) = I1
  refine yi_D_run 2 (10, [(0, .inr (.inr (some 34))), (1, .inr (.inr (some q))), (2, .inr (.inr (some Q)))], [.inr (.inr (some q)), .inr (.inr (some 34))], (I1, L, R, Y), 0, 0) (fun _ => rfl) ?_
  have r3 : I1 q 15 = (pe : Int) := by rw [← w2, yi_u_ne _ _ (by omega), hI.2.1]
  refine yi_D_gi (v := (pe : Int)) rfl rfl (Nat.ble_eq_true_of_le (by omega)) r3 (fun _ => ?_)
  refine yi_D_pi rfl (fun _ => ?_)
  generalize w5 : yi_u I1 34 8 (pe : Int) = I4
  refine yi_D_run 3 (19, [(0, .inr (.inr (some 34))), (1, .inr (.inr (some q))), (2, .inr (.inr (some Q)))], [.inr (.inr (some q)), .inr (.inr (some q)), .inr (.inr (some 34))], (I4, L, R, Y), 0, 0) (fun _ => rfl) ?_
  have r6 : I4 q 15 = (pe : Int) := by rw [← w5, yi_u_ne _ _ (by omega), ← w2, yi_u_ne _ _ (by omega), hI.2.1]
  refine yi_D_gi (v := (pe : Int)) rfl rfl (Nat.ble_eq_true_of_le (by omega)) r6 (fun _ => ?_)
  refine yi_D_run 1 (23, [(0, .inr (.inr (some 34))), (1, .inr (.inr (some q))), (2, .inr (.inr (some Q)))], [.inr (.inr (some q)), .inl (pe : Int), .inr (.inr (some q)), .inr (.inr (some 34))], (I4, L, R, Y), 0, 0) (fun _ => rfl) ?_
  have r7 : I4 q 16 = (ev : Int) := by rw [← w5, yi_u_ne _ _ (by omega), ← w2, yi_u_ne _ _ (by omega), hI.2.2.1]
  refine yi_D_gi (v := (ev : Int)) rfl rfl (Nat.ble_eq_true_of_le (by omega)) r7 (fun _ => ?_)
  have r8 : I4 q 14 = (da : Int) := by rw [← w5, yi_u_ne _ _ (by omega), ← w2, yi_u_ne _ _ (by omega), hI.1]
  refine yi_D_callv rfl (p_futuresE (by omega) r8 bld (fun h1 h2 => by rw [← hTp h1 h2]; exact hT2) hT) ?_
  rintro _ rfl
  show yi_D zi_Ms d zi_m303 k (29, [(0, .inr (.inr (some 34))), (1, .inr (.inr (some q))), (2, .inr (.inr (some Q)))], [.inl (T : Int), .inr (.inr (some 34))], (I4, L, R, Y), 0, 0) _
  refine yi_D_pi rfl (fun _ => ?_)
  generalize w10 : yi_u I4 34 2 (T : Int) = I9
  refine yi_D_run 2 (34, [(0, .inr (.inr (some 34))), (1, .inr (.inr (some q))), (2, .inr (.inr (some Q)))], [.inr (.inr (some 34)), .inr (.inr (some 34))], (I9, L, R, Y), 0, 0) (fun _ => rfl) ?_
  have r11 : I9 34 2 = (T : Int) := by rw [← w10, yi_u_eq]
  refine yi_D_gi (v := (T : Int)) rfl rfl rfl r11 (fun _ => ?_)
  refine yi_D_run 1 (39, [(0, .inr (.inr (some 34))), (1, .inr (.inr (some q))), (2, .inr (.inr (some Q)))], [.inl 64, .inl (T : Int), .inr (.inr (some 34))], (I9, L, R, Y), 0, 0) (fun _ => rfl) ?_
  refine yi_D_iadd rfl ((T : Int) + 64) (yi_wn (by omega) (by omega)) ?_
  refine yi_D_run 1 (41, [(0, .inr (.inr (some 34))), (1, .inr (.inr (some q))), (2, .inr (.inr (some Q)))], [.inl 1, .inl ((T : Int) + 64), .inr (.inr (some 34))], (I9, L, R, Y), 0, 0) (fun _ => rfl) ?_
  refine yi_D_isub rfl (((T : Int) + 64) - 1) (yi_wn (by omega) (by omega)) ?_
  refine yi_D_run 1 (44, [(0, .inr (.inr (some 34))), (1, .inr (.inr (some q))), (2, .inr (.inr (some Q)))], [.inl 64, .inl (((T : Int) + 64) - 1), .inr (.inr (some 34))], (I9, L, R, Y), 0, 0) (fun _ => rfl) ?_
  refine yi_D_idiv rfl (by omega) ((n : Int)) (yi_dv (by omega) (by omega) (by omega) (by omega)) ?_
  refine yi_D_pi rfl (fun _ => ?_)
  generalize w13 : yi_u I9 34 9 (n : Int) = I12
  refine yi_D_run 2 (50, [(0, .inr (.inr (some 34))), (1, .inr (.inr (some q))), (2, .inr (.inr (some Q)))], [.inr (.inr (some q)), .inr (.inr (some 34))], (I12, L, R, Y), 0, 0) (fun _ => rfl) ?_
  have r14 : I12 q 16 = (ev : Int) := by rw [← w13, yi_u_ne _ _ (by omega), ← w10, yi_u_ne _ _ (by omega), ← w5, yi_u_ne _ _ (by omega), ← w2, yi_u_ne _ _ (by omega), hI.2.2.1]
  refine yi_D_gi (v := (ev : Int)) rfl rfl (Nat.ble_eq_true_of_le (by omega)) r14 (fun _ => ?_)
  have r15 : I12 34 2 = (T : Int) := by rw [← w13, yi_u_ne _ _ (by omega), ← w10, yi_u_eq]
  have r16 : I12 34 7 = (da : Int) := by rw [← w13, yi_u_ne _ _ (by omega), ← w10, yi_u_ne _ _ (by omega), ← w5, yi_u_ne _ _ (by omega), ← w2, yi_u_eq]
  have r17 : I12 34 8 = (pe : Int) := by rw [← w13, yi_u_ne _ _ (by omega), ← w10, yi_u_ne _ _ (by omega), ← w5, yi_u_eq]
  have r18 : I12 34 9 = (n : Int) := by rw [← w13, yi_u_eq]
  refine yi_D_callv rfl (p_buildWords hA hK hy r15 r16 r17 r18 bld hTe ⟨by omega, by omega, by omega⟩ ⟨hT1, hT2⟩) ?_
  rintro _ ⟨I19, L20, R21, Y22, n23, m24, rfl, a25, k26, y27, f28, D29⟩
  have P30 : bd_P I L R Y n T da pe ev I19 L20 R21 Y22 := bd_P_i hA hy hh (fun q k hq => by rw [← w13, yi_u_ne _ _ (by omega), ← w10, yi_u_ne _ _ (by omega), ← w5, yi_u_ne _ _ (by omega), ← w2, yi_u_ne _ _ (by omega)]) ⟨r15, r16, r17, r18⟩ a25 k26 y27 f28 D29
  have fI31 : ∀ p k, (p = q ∨ p = lb ∨ p = le ∨ p = wb ∨ p = we ∨ p = Q) → I19 p k = I p k := fun p k h => (bd_P_r (q := p) hA hy P30 (by omega) (by rcases h with e | e | e | e | e | e <;> rw [e] <;> omega) k).1 (by omega)
  have fR32 : ∀ p k, p = q → R21 p k = R p k := fun p k h => by rw [h]; exact (bd_P_r (q := q) hA hy P30 hq.2.1 (by have := hq.2.2; omega) k).2 (by omega) (by omega)
  show yi_D zi_Ms d zi_m303 k (56, [(0, .inr (.inr (some 34))), (1, .inr (.inr (some q))), (2, .inr (.inr (some Q)))], [], (I19, L20, R21, Y22), (0 + n23), (0 + m24)) _
  refine yi_D_run 1 (57, [(0, .inr (.inr (some 34))), (1, .inr (.inr (some q))), (2, .inr (.inr (some Q)))], [.inr (.inr (some 34))], (I19, L20, R21, Y22), (0 + n23), (0 + m24)) (fun _ => rfl) ?_
  refine yi_D_gr (v := some 35) rfl rfl rfl (at_r P30.1.1 (j := 24) rfl) (fun _ => ?_)
  refine yi_D_run 1 (61, [(0, .inr (.inr (some 34))), (1, .inr (.inr (some q))), (2, .inr (.inr (some Q)))], [.inr (.inr (some 34)), .inr (.inr (some 35))], (I19, L20, R21, Y22), (0 + n23), (0 + m24)) (fun _ => rfl) ?_
  refine yi_D_gi (v := (n : Int)) rfl rfl rfl P30.2.2.1.2.2.2 (fun _ => ?_)
  refine yi_D_callv rfl (p_resizeR bld P30 hnT (Or.inl rfl) (bd_nw P30 (by omega))) ?_
  rintro _ ⟨I33, L34, R35, Y36, n37, m38, rfl, P39, E40, c41, w42⟩
  have fI43 : ∀ p k, (p = q ∨ p = lb ∨ p = le ∨ p = wb ∨ p = we ∨ p = Q) → I33 p k = I p k := fun p k h => (bd_P_r (q := p) hA hy P39 (by omega) (by rcases h with e | e | e | e | e | e <;> rw [e] <;> omega) k).1 (by omega)
  have fR44 : ∀ p k, p = q → R35 p k = R p k := fun p k h => by rw [h]; exact (bd_P_r (q := q) hA hy P39 hq.2.1 (by have := hq.2.2; omega) k).2 (by omega) (by omega)
  show yi_D zi_Ms d zi_m303 k (67, [(0, .inr (.inr (some 34))), (1, .inr (.inr (some q))), (2, .inr (.inr (some Q)))], [], (I33, L34, R35, Y36), ((0 + n23) + n37), ((0 + m24) + m38)) _
  refine yi_D_run 1 (68, [(0, .inr (.inr (some 34))), (1, .inr (.inr (some q))), (2, .inr (.inr (some Q)))], [.inr (.inr (some 34))], (I33, L34, R35, Y36), ((0 + n23) + n37), ((0 + m24) + m38)) (fun _ => rfl) ?_
  refine yi_D_gr (v := some 35) rfl rfl rfl (at_r P39.1.1 (j := 24) rfl) (fun _ => ?_)
  refine yi_D_callv rfl (p_clearR bld P39 hnT (Or.inl rfl) (bd_nw P39 (by omega)) w42) ?_
  rintro _ ⟨L45, rfl, P46, E47, b48, k49⟩
  show yi_D zi_Ms d zi_m303 k (74, [(0, .inr (.inr (some 34))), (1, .inr (.inr (some q))), (2, .inr (.inr (some Q)))], [], (I33, L45, R35, Y36), ((0 + n23) + n37), ((0 + m24) + m38)) _
  refine yi_D_run 1 (75, [(0, .inr (.inr (some 34))), (1, .inr (.inr (some q))), (2, .inr (.inr (some Q)))], [.inr (.inr (some 34))], (I33, L45, R35, Y36), ((0 + n23) + n37), ((0 + m24) + m38)) (fun _ => rfl) ?_
  refine yi_D_gr (v := some 35) rfl rfl rfl (at_r P39.1.1 (j := 24) rfl) (fun _ => ?_)
  refine yi_D_run 2 (80, [(0, .inr (.inr (some 34))), (1, .inr (.inr (some q))), (2, .inr (.inr (some Q)))], [.inr (.inr (some 34)), .inl 0, .inr (.inr (some 35))], (I33, L45, R35, Y36), ((0 + n23) + n37), ((0 + m24) + m38)) (fun _ => rfl) ?_
  refine yi_D_gi (v := (T : Int)) rfl rfl rfl P46.2.2.1.1 (fun _ => ?_)
  refine yi_D_callv rfl (p_rangeR bld P46 hnT (Or.inl rfl) (bd_nw P46 (by omega)) w42 b48 k49) ?_
  rintro _ ⟨L50, rfl, P51, E52, b53⟩
  show yi_D zi_Ms d zi_m303 k (86, [(0, .inr (.inr (some 34))), (1, .inr (.inr (some q))), (2, .inr (.inr (some Q)))], [], (I33, L50, R35, Y36), ((0 + n23) + n37), ((0 + m24) + m38)) _
  refine yi_D_run 2 (88, [(3, .inl 0), (0, .inr (.inr (some 34))), (1, .inr (.inr (some q))), (2, .inr (.inr (some Q)))], [], (I33, L50, R35, Y36), ((0 + n23) + n37), ((0 + m24) + m38)) (fun _ => rfl) ?_
  have pt88 : ∀ j88, j88 ≤ k → ∀ (y3 : Int) (J1 : Nat → Nat → Int) (G1 : Nat → Nat → Int) (R1 : Nat → Nat → Option Nat) (Y1 : (Nat → Nat) × (Nat → Nat) × Nat) (n1 : Nat) (m1 : Nat), (0 ≤ y3 ∧ y3 ≤ (lw : Int)) → (bd_P I L R Y n T da pe ev J1 G1 R1 Y1) → (rb_S J1 G1 R1 Y1 35 n (fun x => decide (x < T) && allB lv x y3.toNat)) → yi_D zi_Ms d zi_m303 j88 (88, [(3, .inl y3), (0, .inr (.inr (some 34))), (1, .inr (.inr (some q))), (2, .inr (.inr (some Q)))], [], (J1, G1, R1, Y1), n1, m1) (fun r => ∃ I' L' R' Y' nc ns, r = (none, (I', L', R', Y'), nc, ns) ∧ bd_P I L R Y n T da pe ev I' L' R' Y' ∧ rb_S I' L' R' Y' 35 n (fun x => decide (x < T) && allB lv x lw) ∧ ∀ w, w < ws → ∃ f, R' 40 w = some f ∧ rb_S I' L' R' Y' f n (fun x => decide (x < T) && wv w x)) := by
    intro j88
    induction j88 with
    | zero => intros; exact yi_D_0
    | succ j88 ih88 =>
    intro hk88 y3 J1 G1 R1 Y1 n1 m1 hy3 hP1 hb1
    have fI54 : ∀ p k, (p = q ∨ p = lb ∨ p = le ∨ p = wb ∨ p = we ∨ p = Q) → J1 p k = I p k := fun p k h => (bd_P_r (q := p) hA hy hP1 (by omega) (by rcases h with e | e | e | e | e | e <;> rw [e] <;> omega) k).1 (by omega)
    have fR55 : ∀ p k, p = q → R1 p k = R p k := fun p k h => by rw [h]; exact (bd_P_r (q := q) hA hy hP1 hq.2.1 (by have := hq.2.2; omega) k).2 (by omega) (by omega)
    refine yi_D_run1 1 (90, [(3, .inl y3), (0, .inr (.inr (some 34))), (1, .inr (.inr (some q))), (2, .inr (.inr (some Q)))], [.inr (.inr (some q)), .inl y3], (J1, G1, R1, Y1), n1, m1) (fun _ => rfl) ?_
    have r56 : J1 q 18 = (lw : Int) := by rw [fI54 q 18 (by omega), hI.2.2.2.1]
    refine yi_D_gi (v := (lw : Int)) rfl rfl (Nat.ble_eq_true_of_le (by omega)) r56 (fun _ => ?_)
    by_cases h57 : (lw : Int) ≤ y3
    · refine yi_D_if2 true rfl (yi_ge_t h57) ?_
      refine yi_D_run 2 (141, [(3, .inl 0), (0, .inr (.inr (some 34))), (1, .inr (.inr (some q))), (2, .inr (.inr (some Q)))], [], (J1, G1, R1, Y1), n1, m1) (fun _ => rfl) ?_
      have pt141 : ∀ j141, j141 ≤ j88 → ∀ (y3 : Int) (J2 : Nat → Nat → Int) (G2 : Nat → Nat → Int) (R2 : Nat → Nat → Option Nat) (Y2 : (Nat → Nat) × (Nat → Nat) × Nat) (n2 : Nat) (m2 : Nat), (0 ≤ y3 ∧ y3 ≤ (ws : Int)) → (bd_P I L R Y n T da pe ev J2 G2 R2 Y2) → (rb_S J2 G2 R2 Y2 35 n (fun x => decide (x < T) && allB lv x lw)) → (∀ w, w < y3.toNat → ∃ f, R2 40 w = some f ∧ rb_S J2 G2 R2 Y2 f n (fun x => decide (x < T) && wv w x)) → yi_D zi_Ms d zi_m303 j141 (141, [(3, .inl y3), (0, .inr (.inr (some 34))), (1, .inr (.inr (some q))), (2, .inr (.inr (some Q)))], [], (J2, G2, R2, Y2), n2, m2) (fun r => ∃ I' L' R' Y' nc ns, r = (none, (I', L', R', Y'), nc, ns) ∧ bd_P I L R Y n T da pe ev I' L' R' Y' ∧ rb_S I' L' R' Y' 35 n (fun x => decide (x < T) && allB lv x lw) ∧ ∀ w, w < ws → ∃ f, R' 40 w = some f ∧ rb_S I' L' R' Y' f n (fun x => decide (x < T) && wv w x)) := by
        intro j141
        induction j141 with
        | zero => intros; exact yi_D_0
        | succ j141 ih141 =>
        intro hk141 y3 J2 G2 R2 Y2 n2 m2 hy4 hP2 hb2 hw2
        have fI58 : ∀ p k, (p = q ∨ p = lb ∨ p = le ∨ p = wb ∨ p = we ∨ p = Q) → J2 p k = I p k := fun p k h => (bd_P_r (q := p) hA hy hP2 (by omega) (by rcases h with e | e | e | e | e | e <;> rw [e] <;> omega) k).1 (by omega)
        have fR59 : ∀ p k, p = q → R2 p k = R p k := fun p k h => by rw [h]; exact (bd_P_r (q := q) hA hy hP2 hq.2.1 (by have := hq.2.2; omega) k).2 (by omega) (by omega)
        refine yi_D_run1 1 (143, [(3, .inl y3), (0, .inr (.inr (some 34))), (1, .inr (.inr (some q))), (2, .inr (.inr (some Q)))], [.inr (.inr (some q)), .inl y3], (J2, G2, R2, Y2), n2, m2) (fun _ => rfl) ?_
        have r60 : J2 q 19 = (ws : Int) := by rw [fI58 q 19 (by omega), hI.2.2.2.2]
        refine yi_D_gi (v := (ws : Int)) rfl rfl (Nat.ble_eq_true_of_le (by omega)) r60 (fun _ => ?_)
        by_cases h61 : (ws : Int) ≤ y3
        · refine yi_D_if2 true rfl (yi_ge_t h61) ?_
          refine yi_D_retv rfl ?_
          refine ⟨_, _, _, _, _, _, rfl, hP2, hb2, fun w hw => hw2 w (by omega)⟩
        · refine yi_D_if2 false rfl (yi_ge_f h61) ?_
          refine yi_D_run 2 (152, [(3, .inl y3), (0, .inr (.inr (some 34))), (1, .inr (.inr (some q))), (2, .inr (.inr (some Q)))], [.inl 6, .inl y3], (J2, G2, R2, Y2), n2, m2) (fun _ => rfl) ?_
          have h62 : ¬ (6 ≤ y3) := by omega
          refine yi_D_if2 false rfl (yi_ge_f h62) ?_
          refine yi_D_run 1 (156, [(3, .inl y3), (0, .inr (.inr (some 34))), (1, .inr (.inr (some q))), (2, .inr (.inr (some Q)))], [.inr (.inr (some 34))], (J2, G2, R2, Y2), n2, m2) (fun _ => rfl) ?_
          refine yi_D_gr (v := some 40) rfl rfl rfl (at_r hP2.1.1 (j := 27) rfl) (fun _ => ?_)
          refine yi_D_run 1 (160, [(3, .inl y3), (0, .inr (.inr (some 34))), (1, .inr (.inr (some q))), (2, .inr (.inr (some Q)))], [.inl y3, .inr (.inr (some 40))], (J2, G2, R2, Y2), n2, m2) (fun _ => rfl) ?_
          refine yi_D_rl (v := R2 40 (y3.toNat)) rfl rfl rfl (fun _ _ => ?_)
          cases hq63 : R2 40 (y3.toNat) with
          | none =>
            refine yi_D_nnx rfl ?_
            refine yi_D_run 1 (165, [(3, .inl y3), (0, .inr (.inr (some 34))), (1, .inr (.inr (some q))), (2, .inr (.inr (some Q)))], [.inr (.inr (some 34))], (J2, G2, R2, Y2), n2, m2) (fun _ => rfl) ?_
            refine yi_D_gr (v := some 40) rfl rfl rfl (at_r hP2.1.1 (j := 27) rfl) (fun _ => ?_)
            refine yi_D_run 1 (169, [(3, .inl y3), (0, .inr (.inr (some 34))), (1, .inr (.inr (some q))), (2, .inr (.inr (some Q)))], [.inl y3, .inr (.inr (some 40))], (J2, G2, R2, Y2), n2, m2) (fun _ => rfl) ?_
            refine yi_D_new3 rfl (fun q65 I66 L67 R68 Y69 m70 mk71 mn72 ml73 my74 => ?_)
            obtain ⟨k75, k76, k77, k78, k79, k80⟩ := mk71
            have q65q : q65 = Y2.2.2 := k75
            have q65n := k80
            refine yi_D_run 1 (173, [(3, .inl y3), (0, .inr (.inr (some 34))), (1, .inr (.inr (some q))), (2, .inr (.inr (some Q)))], [.inr (.inr (some q65)), .inr (.inr (some q65)), .inl y3, .inr (.inr (some 40))], (I66, L67, R68, Y69), (n2 + 1), m70) (fun _ => rfl) ?_
            have hKn81 : cz_K R68 Y69 := cz_K_n (q := q65) hP2.1.2.1 ⟨k75, k76, k77, k78, k79, k80⟩ mn72
            refine yi_D_callp rfl rfl (yi_P_a (p_initSet (p := q65) ⟨by have := hP2.1.1.2.2.2; omega, by omega⟩) (cz_P hKn81 (by decide +kernel) (cy_ve rfl (cy_c (cy_p (by omega)) cy_0)))) ?_
            rintro _ ⟨⟨I82, L83, R84, Y85, n86, m87, rfl, i188, i289, i390, i491, i592, i693, i794, i895, i996⟩, K97⟩
            show yi_D zi_Ms d zi_m303 j141 (176, [(3, .inl y3), (0, .inr (.inr (some 34))), (1, .inr (.inr (some q))), (2, .inr (.inr (some Q)))], [.inr (.inr (some q65)), .inl y3, .inr (.inr (some 40))], (I82, L83, R84, Y85), ((n2 + 1) + n86), (m70 + m87)) _
            refine yi_D_asw rfl (fun _ _ => ?_)
            generalize w99 : cl_u R84 40 (y3.toNat) (some q65) = R98
            have h110 := hP2.1.1.2.2.2
            have E101 : rn_E y3.toNat q65 J2 G2 R2 Y2 I82 L83 R98 Y85 := ⟨Y69.2.2, hq63, by rw [← w99, cl_u_eq], by rw [← w99, cl_u_ne _ _ (by omega)]; exact i188, by omega, ⟨by omega, (i996 q65 (by omega)).1.trans my74⟩, by omega, fun q' k hq' => ⟨((i895 q' k (by omega)).1 (by omega)).trans (k76 q' k (by omega)).1, ((i895 q' k (by omega)).2.1).trans (k76 q' k (by omega)).2.1, fun hne => by rw [← w99, cl_u_ne _ _ hne, (i895 q' k (by omega)).2.2 (by omega), (k76 q' k (by omega)).2.2]⟩, by omega, fun x hx => ⟨((i996 x (by omega)).1).trans (k78 x (by omega)).1, ((i996 x (by omega)).2).trans (k78 x (by omega)).2⟩⟩
            have P100 : bd_P I L R Y n T da pe ev I82 L83 R98 Y85 := bd_P_n hP2 (by omega) E101 (by rw [← w99]; exact cz_K_u K97 (by rw [(i996 40 (by omega)).1, (k78 40 (by omega)).1, at_nk hP2.1.1 (j := 8) rfl]; omega) (by omega))
            have fI102 : ∀ p k, (p = q ∨ p = lb ∨ p = le ∨ p = wb ∨ p = we ∨ p = Q) → I82 p k = I p k := fun p k h => (bd_P_r (q := p) hA hy P100 (by omega) (by rcases h with e | e | e | e | e | e <;> rw [e] <;> omega) k).1 (by omega)
            have fR103 : ∀ p k, p = q → R98 p k = R p k := fun p k h => by rw [h]; exact (bd_P_r (q := q) hA hy P100 hq.2.1 (by have := hq.2.2; omega) k).2 (by omega) (by omega)
            have hbn := rn_rb (g := 35) E101 (by omega) hb2
            have hwn := ws_n (wv := fun w x => decide (x < T) && wv w x) hP2.1.1 E101 hw2
            have hfn : R98 40 y3.toNat = some q65 := by rw [← w99, cl_u_eq]
            refine yi_D_run 3 (180, [(3, .inl y3), (0, .inr (.inr (some 34))), (1, .inr (.inr (some q))), (2, .inr (.inr (some Q)))], [.inr (.inr (some q)), .inr (.inr (some Q)), .inr (.inr (some 34))], (I82, L83, R98, Y85), ((n2 + 1) + n86), (m70 + m87)) (fun _ => rfl) ?_
            refine yi_D_gr (v := some wb) rfl rfl (Nat.ble_eq_true_of_le (by omega)) ((fR103 q 10 rfl).trans hRq.2.2.1) (fun _ => ?_)
            refine yi_D_run 1 (184, [(3, .inl y3), (0, .inr (.inr (some 34))), (1, .inr (.inr (some q))), (2, .inr (.inr (some Q)))], [.inl y3, .inr (.inr (some wb)), .inr (.inr (some Q)), .inr (.inr (some 34))], (I82, L83, R98, Y85), ((n2 + 1) + n86), (m70 + m87)) (fun _ => rfl) ?_
            have r104 : I82 wb (y3.toNat) = (wf y3.toNat : Int) := by rw [fI102 wb (y3.toNat) (by omega), (hws y3.toNat (by omega)).1]
            refine yi_D_il (v := (wf y3.toNat : Int)) rfl (Nat.ble_eq_true_of_le (by omega)) r104 (fun _ _ => ?_)
            refine yi_D_run 1 (186, [(3, .inl y3), (0, .inr (.inr (some 34))), (1, .inr (.inr (some q))), (2, .inr (.inr (some Q)))], [.inr (.inr (some q)), .inl (wf y3.toNat : Int), .inr (.inr (some Q)), .inr (.inr (some 34))], (I82, L83, R98, Y85), ((n2 + 1) + n86), (m70 + m87)) (fun _ => rfl) ?_
            refine yi_D_gr (v := some we) rfl rfl (Nat.ble_eq_true_of_le (by omega)) ((fR103 q 11 rfl).trans hRq.2.2.2) (fun _ => ?_)
            refine yi_D_run 1 (190, [(3, .inl y3), (0, .inr (.inr (some 34))), (1, .inr (.inr (some q))), (2, .inr (.inr (some Q)))], [.inl y3, .inr (.inr (some we)), .inl (wf y3.toNat : Int), .inr (.inr (some Q)), .inr (.inr (some 34))], (I82, L83, R98, Y85), ((n2 + 1) + n86), (m70 + m87)) (fun _ => rfl) ?_
            have r105 : I82 we (y3.toNat) = ((wf y3.toNat + wm y3.toNat : Nat) : Int) := by rw [fI102 we (y3.toNat) (by omega), (hws y3.toNat (by omega)).2]
            refine yi_D_il (v := ((wf y3.toNat + wm y3.toNat : Nat) : Int)) rfl (Nat.ble_eq_true_of_le (by omega)) r105 (fun _ _ => ?_)
            refine yi_D_run 1 (192, [(3, .inl y3), (0, .inr (.inr (some 34))), (1, .inr (.inr (some q))), (2, .inr (.inr (some Q)))], [.inr (.inr (some 34)), .inl ((wf y3.toNat + wm y3.toNat : Nat) : Int), .inl (wf y3.toNat : Int), .inr (.inr (some Q)), .inr (.inr (some 34))], (I82, L83, R98, Y85), ((n2 + 1) + n86), (m70 + m87)) (fun _ => rfl) ?_
            refine yi_D_gr (v := some 40) rfl rfl rfl (at_r P100.1.1 (j := 27) rfl) (fun _ => ?_)
            refine yi_D_run 1 (196, [(3, .inl y3), (0, .inr (.inr (some 34))), (1, .inr (.inr (some q))), (2, .inr (.inr (some Q)))], [.inl y3, .inr (.inr (some 40)), .inl ((wf y3.toNat + wm y3.toNat : Nat) : Int), .inl (wf y3.toNat : Int), .inr (.inr (some Q)), .inr (.inr (some 34))], (I82, L83, R98, Y85), ((n2 + 1) + n86), (m70 + m87)) (fun _ => rfl) ?_
            refine yi_D_rl (v := some q65) rfl rfl hfn (fun _ _ => ?_)
            refine yi_D_callv rfl (p_solveR bld P100 hnT (Or.inr (Or.inr (Or.inr ⟨y3.toNat, by omega, hfn⟩))) (bd_nv P100 (by omega) hfn) (Q := Q) (cd := cd) ⟨by omega, Nat.lt_of_lt_of_le k4N P100.2.1.2.2.2.1, by rw [(P100.2.1.2.2.2.2 Q k4N).1]; exact k4Y, by rw [(P100.2.1.2.2.2.2 Q k4N).2]; exact hQ.2.2 _ (by omega), by rw [(P100.2.1.2.2.2.2 Q k4N).2]; exact hQ.1⟩ (fun k hk => by rw [fI102 Q _ (by omega)]; exact hcw _ (by omega) k hk) (hpw _ (by omega))) ?_
            rintro _ ⟨I106, L107, R108, Y109, n110, m111, rfl, P112, E113, b114⟩
            have fI115 : ∀ p k, (p = q ∨ p = lb ∨ p = le ∨ p = wb ∨ p = we ∨ p = Q) → I106 p k = I p k := fun p k h => (bd_P_r (q := p) hA hy P112 (by omega) (by rcases h with e | e | e | e | e | e <;> rw [e] <;> omega) k).1 (by omega)
            have fR116 : ∀ p k, p = q → R108 p k = R p k := fun p k h => by rw [h]; exact (bd_P_r (q := q) hA hy P112 hq.2.1 (by have := hq.2.2; omega) k).2 (by omega) (by omega)
            have hq65 := (P100.1.2.2.1.2 y3.toNat _ (by omega) hfn).1
            have c117 := rs_rb P100.1.2.1 hq65.2 E113 (by omega) hbn
            have w118 := ws_s (w := y3.toNat) (wv := fun w x => decide (x < T) && wv w x) P100 (by omega) hfn E113 b114 hwn
            show yi_D zi_Ms d zi_m303 j141 (200, [(3, .inl y3), (0, .inr (.inr (some 34))), (1, .inr (.inr (some q))), (2, .inr (.inr (some Q)))], [], (I106, L107, R108, Y109), (((n2 + 1) + n86) + n110), ((m70 + m87) + m111)) _
            refine yi_D_iinc [(3, .inl (y3 + 1)), (0, .inr (.inr (some 34))), (1, .inr (.inr (some q))), (2, .inr (.inr (some Q)))] rfl rfl rfl (by rw [show yi_w (y3 + 1) = y3 + 1 from (yi_wn (by omega) (by omega)).trans (by omega)]; rfl) ?_
            refine yi_D_run 1 (141, [(3, .inl (y3 + 1)), (0, .inr (.inr (some 34))), (1, .inr (.inr (some q))), (2, .inr (.inr (some Q)))], [], (I106, L107, R108, Y109), (((n2 + 1) + n86) + n110), ((m70 + m87) + m111)) (fun _ => rfl) ?_
            exact yi_D_mono (ih141 (by omega) (y3 + 1) I106 L107 R108 Y109 (((n2 + 1) + n86) + n110) ((m70 + m87) + m111) (by omega) P112 c117 (by rw [show (y3 + 1).toNat = y3.toNat + 1 by omega]; exact w118)) (by omega)
          | some q64 =>
            refine yi_D_nsx rfl ?_
            skip
            refine yi_D_run 3 (180, [(3, .inl y3), (0, .inr (.inr (some 34))), (1, .inr (.inr (some q))), (2, .inr (.inr (some Q)))], [.inr (.inr (some q)), .inr (.inr (some Q)), .inr (.inr (some 34))], (J2, G2, R2, Y2), n2, m2) (fun _ => rfl) ?_
            have r119 : R2 q 10 = some wb := by rw [fR59 q 10 (by omega), hRq.2.2.1]
            refine yi_D_gr (v := some wb) rfl rfl (Nat.ble_eq_true_of_le (by omega)) r119 (fun _ => ?_)
            refine yi_D_run 1 (184, [(3, .inl y3), (0, .inr (.inr (some 34))), (1, .inr (.inr (some q))), (2, .inr (.inr (some Q)))], [.inl y3, .inr (.inr (some wb)), .inr (.inr (some Q)), .inr (.inr (some 34))], (J2, G2, R2, Y2), n2, m2) (fun _ => rfl) ?_
            have r120 : J2 wb (y3.toNat) = (wf y3.toNat : Int) := by rw [fI58 wb (y3.toNat) (by omega), (hws y3.toNat (by omega)).1]
            refine yi_D_il (v := (wf y3.toNat : Int)) rfl (Nat.ble_eq_true_of_le (by omega)) r120 (fun _ _ => ?_)
            refine yi_D_run 1 (186, [(3, .inl y3), (0, .inr (.inr (some 34))), (1, .inr (.inr (some q))), (2, .inr (.inr (some Q)))], [.inr (.inr (some q)), .inl (wf y3.toNat : Int), .inr (.inr (some Q)), .inr (.inr (some 34))], (J2, G2, R2, Y2), n2, m2) (fun _ => rfl) ?_
            have r121 : R2 q 11 = some we := by rw [fR59 q 11 (by omega), hRq.2.2.2]
            refine yi_D_gr (v := some we) rfl rfl (Nat.ble_eq_true_of_le (by omega)) r121 (fun _ => ?_)
            refine yi_D_run 1 (190, [(3, .inl y3), (0, .inr (.inr (some 34))), (1, .inr (.inr (some q))), (2, .inr (.inr (some Q)))], [.inl y3, .inr (.inr (some we)), .inl (wf y3.toNat : Int), .inr (.inr (some Q)), .inr (.inr (some 34))], (J2, G2, R2, Y2), n2, m2) (fun _ => rfl) ?_
            have r122 : J2 we (y3.toNat) = ((wf y3.toNat + wm y3.toNat : Nat) : Int) := by rw [fI58 we (y3.toNat) (by omega), (hws y3.toNat (by omega)).2]
            refine yi_D_il (v := ((wf y3.toNat + wm y3.toNat : Nat) : Int)) rfl (Nat.ble_eq_true_of_le (by omega)) r122 (fun _ _ => ?_)
            refine yi_D_run 1 (192, [(3, .inl y3), (0, .inr (.inr (some 34))), (1, .inr (.inr (some q))), (2, .inr (.inr (some Q)))], [.inr (.inr (some 34)), .inl ((wf y3.toNat + wm y3.toNat : Nat) : Int), .inl (wf y3.toNat : Int), .inr (.inr (some Q)), .inr (.inr (some 34))], (J2, G2, R2, Y2), n2, m2) (fun _ => rfl) ?_
            refine yi_D_gr (v := some 40) rfl rfl rfl (at_r hP2.1.1 (j := 27) rfl) (fun _ => ?_)
            refine yi_D_run 1 (196, [(3, .inl y3), (0, .inr (.inr (some 34))), (1, .inr (.inr (some q))), (2, .inr (.inr (some Q)))], [.inl y3, .inr (.inr (some 40)), .inl ((wf y3.toNat + wm y3.toNat : Nat) : Int), .inl (wf y3.toNat : Int), .inr (.inr (some Q)), .inr (.inr (some 34))], (J2, G2, R2, Y2), n2, m2) (fun _ => rfl) ?_
            refine yi_D_rl (v := some q64) rfl rfl hq63 (fun _ _ => ?_)
            refine yi_D_callv rfl (p_solveR bld hP2 hnT (Or.inr (Or.inr (Or.inr ⟨y3.toNat, by omega, hq63⟩))) (bd_nv hP2 (by omega) hq63) (Q := Q) (cd := cd) ⟨by omega, Nat.lt_of_lt_of_le k4N hP2.2.1.2.2.2.1, by rw [(hP2.2.1.2.2.2.2 Q k4N).1]; exact k4Y, by rw [(hP2.2.1.2.2.2.2 Q k4N).2]; exact hQ.2.2 _ (by omega), by rw [(hP2.2.1.2.2.2.2 Q k4N).2]; exact hQ.1⟩ (fun k hk => by rw [fI58 Q _ (by omega)]; exact hcw _ (by omega) k hk) (hpw _ (by omega))) ?_
            rintro _ ⟨I123, L124, R125, Y126, n127, m128, rfl, P129, E130, b131⟩
            have fI132 : ∀ p k, (p = q ∨ p = lb ∨ p = le ∨ p = wb ∨ p = we ∨ p = Q) → I123 p k = I p k := fun p k h => (bd_P_r (q := p) hA hy P129 (by omega) (by rcases h with e | e | e | e | e | e <;> rw [e] <;> omega) k).1 (by omega)
            have fR133 : ∀ p k, p = q → R125 p k = R p k := fun p k h => by rw [h]; exact (bd_P_r (q := q) hA hy P129 hq.2.1 (by have := hq.2.2; omega) k).2 (by omega) (by omega)
            have hq64 := (hP2.1.2.2.1.2 y3.toNat _ (by omega) hq63).1
            have c134 := rs_rb hP2.1.2.1 hq64.2 E130 (by omega) hb2
            have w135 := ws_s (w := y3.toNat) (wv := fun w x => decide (x < T) && wv w x) hP2 (by omega) hq63 E130 b131 hw2
            show yi_D zi_Ms d zi_m303 j141 (200, [(3, .inl y3), (0, .inr (.inr (some 34))), (1, .inr (.inr (some q))), (2, .inr (.inr (some Q)))], [], (I123, L124, R125, Y126), (n2 + n127), (m2 + m128)) _
            refine yi_D_iinc [(3, .inl (y3 + 1)), (0, .inr (.inr (some 34))), (1, .inr (.inr (some q))), (2, .inr (.inr (some Q)))] rfl rfl rfl (by rw [show yi_w (y3 + 1) = y3 + 1 from (yi_wn (by omega) (by omega)).trans (by omega)]; rfl) ?_
            refine yi_D_run 1 (141, [(3, .inl (y3 + 1)), (0, .inr (.inr (some 34))), (1, .inr (.inr (some q))), (2, .inr (.inr (some Q)))], [], (I123, L124, R125, Y126), (n2 + n127), (m2 + m128)) (fun _ => rfl) ?_
            exact yi_D_mono (ih141 (by omega) (y3 + 1) I123 L124 R125 Y126 (n2 + n127) (m2 + m128) (by omega) P129 c134 (by rw [show (y3 + 1).toNat = y3.toNat + 1 by omega]; exact w135)) (by omega)
      exact pt141 j88 (Nat.le_refl _) 0 J1 G1 R1 Y1 n1 m1 (by omega) hP1 (rb_S_c hb1 (fun x _ => by rw [show y3.toNat = lw by omega])) (fun w hw => absurd hw (by omega))
    · refine yi_D_if2 false rfl (yi_ge_f h57) ?_
      refine yi_D_run 2 (98, [(3, .inl y3), (0, .inr (.inr (some 34))), (1, .inr (.inr (some q))), (2, .inr (.inr (some Q)))], [.inl 4, .inl y3], (J1, G1, R1, Y1), n1, m1) (fun _ => rfl) ?_
      have h136 : ¬ (4 ≤ y3) := by omega
      refine yi_D_if2 false rfl (yi_ge_f h136) ?_
      refine yi_D_run 3 (104, [(3, .inl y3), (0, .inr (.inr (some 34))), (1, .inr (.inr (some q))), (2, .inr (.inr (some Q)))], [.inr (.inr (some q)), .inr (.inr (some Q)), .inr (.inr (some 34))], (J1, G1, R1, Y1), n1, m1) (fun _ => rfl) ?_
      have r137 : R1 q 8 = some lb := by rw [fR55 q 8 (by omega), hRq.1]
      refine yi_D_gr (v := some lb) rfl rfl (Nat.ble_eq_true_of_le (by omega)) r137 (fun _ => ?_)
      refine yi_D_run 1 (108, [(3, .inl y3), (0, .inr (.inr (some 34))), (1, .inr (.inr (some q))), (2, .inr (.inr (some Q)))], [.inl y3, .inr (.inr (some lb)), .inr (.inr (some Q)), .inr (.inr (some 34))], (J1, G1, R1, Y1), n1, m1) (fun _ => rfl) ?_
      have r138 : J1 lb (y3.toNat) = (lf y3.toNat : Int) := by rw [fI54 lb (y3.toNat) (by omega), (hlw y3.toNat (by omega)).1]
      refine yi_D_il (v := (lf y3.toNat : Int)) rfl (Nat.ble_eq_true_of_le (by omega)) r138 (fun _ _ => ?_)
      refine yi_D_run 1 (110, [(3, .inl y3), (0, .inr (.inr (some 34))), (1, .inr (.inr (some q))), (2, .inr (.inr (some Q)))], [.inr (.inr (some q)), .inl (lf y3.toNat : Int), .inr (.inr (some Q)), .inr (.inr (some 34))], (J1, G1, R1, Y1), n1, m1) (fun _ => rfl) ?_
      have r139 : R1 q 9 = some le := by rw [fR55 q 9 (by omega), hRq.2.1]
      refine yi_D_gr (v := some le) rfl rfl (Nat.ble_eq_true_of_le (by omega)) r139 (fun _ => ?_)
      refine yi_D_run 1 (114, [(3, .inl y3), (0, .inr (.inr (some 34))), (1, .inr (.inr (some q))), (2, .inr (.inr (some Q)))], [.inl y3, .inr (.inr (some le)), .inl (lf y3.toNat : Int), .inr (.inr (some Q)), .inr (.inr (some 34))], (J1, G1, R1, Y1), n1, m1) (fun _ => rfl) ?_
      have r140 : J1 le (y3.toNat) = ((lf y3.toNat + lm y3.toNat : Nat) : Int) := by rw [fI54 le (y3.toNat) (by omega), (hlw y3.toNat (by omega)).2]
      refine yi_D_il (v := ((lf y3.toNat + lm y3.toNat : Nat) : Int)) rfl (Nat.ble_eq_true_of_le (by omega)) r140 (fun _ _ => ?_)
      refine yi_D_run 1 (116, [(3, .inl y3), (0, .inr (.inr (some 34))), (1, .inr (.inr (some q))), (2, .inr (.inr (some Q)))], [.inr (.inr (some 34)), .inl ((lf y3.toNat + lm y3.toNat : Nat) : Int), .inl (lf y3.toNat : Int), .inr (.inr (some Q)), .inr (.inr (some 34))], (J1, G1, R1, Y1), n1, m1) (fun _ => rfl) ?_
      refine yi_D_gr (v := some 41) rfl rfl rfl (at_r hP1.1.1 (j := 28) rfl) (fun _ => ?_)
      refine yi_D_callv rfl (p_solveR bld hP1 hnT (Or.inr (Or.inl rfl)) (bd_nw hP1 (by omega)) (Q := Q) (cd := cd) ⟨by omega, Nat.lt_of_lt_of_le k4N hP1.2.1.2.2.2.1, by rw [(hP1.2.1.2.2.2.2 Q k4N).1]; exact k4Y, by rw [(hP1.2.1.2.2.2.2 Q k4N).2]; exact hQ.2.1 _ (by omega), by rw [(hP1.2.1.2.2.2.2 Q k4N).2]; exact hQ.1⟩ (fun k hk => by rw [fI54 Q _ (by omega)]; exact hcl _ (by omega) k hk) (hpl _ (by omega))) ?_
      rintro _ ⟨I141, L142, R143, Y144, n145, m146, rfl, P147, E148, b149⟩
      have fI150 : ∀ p k, (p = q ∨ p = lb ∨ p = le ∨ p = wb ∨ p = we ∨ p = Q) → I141 p k = I p k := fun p k h => (bd_P_r (q := p) hA hy P147 (by omega) (by rcases h with e | e | e | e | e | e <;> rw [e] <;> omega) k).1 (by omega)
      have fR151 : ∀ p k, p = q → R143 p k = R p k := fun p k h => by rw [h]; exact (bd_P_r (q := q) hA hy P147 hq.2.1 (by have := hq.2.2; omega) k).2 (by omega) (by omega)
      have c152 := rs_rb hP1.1.2.1 ⟨by have := hP1.1.1.2.2.2; omega, at_k hP1.1.1 (j := 6) rfl⟩ E148 (by omega) hb1
      show yi_D zi_Ms d zi_m303 j88 (122, [(3, .inl y3), (0, .inr (.inr (some 34))), (1, .inr (.inr (some q))), (2, .inr (.inr (some Q)))], [], (I141, L142, R143, Y144), (n1 + n145), (m1 + m146)) _
      refine yi_D_run 1 (123, [(3, .inl y3), (0, .inr (.inr (some 34))), (1, .inr (.inr (some q))), (2, .inr (.inr (some Q)))], [.inr (.inr (some 34))], (I141, L142, R143, Y144), (n1 + n145), (m1 + m146)) (fun _ => rfl) ?_
      refine yi_D_gr (v := some 35) rfl rfl rfl (at_r P147.1.1 (j := 24) rfl) (fun _ => ?_)
      refine yi_D_run 1 (127, [(3, .inl y3), (0, .inr (.inr (some 34))), (1, .inr (.inr (some q))), (2, .inr (.inr (some Q)))], [.inr (.inr (some 34)), .inr (.inr (some 35))], (I141, L142, R143, Y144), (n1 + n145), (m1 + m146)) (fun _ => rfl) ?_
      refine yi_D_gr (v := some 41) rfl rfl rfl (at_r P147.1.1 (j := 28) rfl) (fun _ => ?_)
      refine yi_D_callv rfl (p_keepR (f := 0) bld P147 hnT c152 b149) ?_
      rintro _ ⟨L153, rfl, P154, E155, b156⟩
      show yi_D zi_Ms d zi_m303 j88 (133, [(3, .inl y3), (0, .inr (.inr (some 34))), (1, .inr (.inr (some q))), (2, .inr (.inr (some Q)))], [], (I141, L153, R143, Y144), (n1 + n145), (m1 + m146)) _
      refine yi_D_iinc [(3, .inl (y3 + 1)), (0, .inr (.inr (some 34))), (1, .inr (.inr (some q))), (2, .inr (.inr (some Q)))] rfl rfl rfl (by rw [show yi_w (y3 + 1) = y3 + 1 from (yi_wn (by omega) (by omega)).trans (by omega)]; rfl) ?_
      refine yi_D_run 1 (88, [(3, .inl (y3 + 1)), (0, .inr (.inr (some 34))), (1, .inr (.inr (some q))), (2, .inr (.inr (some Q)))], [], (I141, L153, R143, Y144), (n1 + n145), (m1 + m146)) (fun _ => rfl) ?_
      exact yi_D_mono (ih88 (by omega) (y3 + 1) I141 L153 R143 Y144 (n1 + n145) (m1 + m146) (by omega) P154 (rb_S_c b156 (fun x _ => by rw [show (y3 + 1).toNat = y3.toNat + 1 by omega]; show _ = (decide (x < T) && (allB lv x y3.toNat && lv y3.toNat x)); cases decide (x < T) <;> cases allB lv x y3.toNat <;> cases lv y3.toNat x <;> rfl))) (by omega)
  exact pt88 k (Nat.le_refl _) 0 I33 L50 R35 Y36 ((0 + n23) + n37) ((0 + m24) + m38) (by omega) P51 (rb_S_c b53 (fun x _ => (Bool.and_true _).symm))
