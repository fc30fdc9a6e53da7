/-! The class: the words' rows are built. -/
/-- words' and wishes' rows: each a row of its own -/
def wy_S (R : Nat → Nat → Option Nat) (Y : (Nat → Nat) × (Nat → Nat) × Nat) : Prop := (∀ i f, i < 96 → R 39 i = some f → (110 ≤ f ∧ f < Y.2.2 ∧ Y.1 f = 5) ∧ (∃ c, R f 0 = some c ∧ 110 ≤ c) ∧ (∀ i', i' < 96 → R 39 i' = some f → i' = i) ∧ ∀ j, j < 6 → ¬ R 40 j = some f) ∧ (∀ j f, j < 6 → R 40 j = some f → (110 ≤ f ∧ f < Y.2.2 ∧ Y.1 f = 5) ∧ (∃ c, R f 0 = some c ∧ 110 ≤ c) ∧ ∀ j', j' < 6 → R 40 j' = some f → j' = j)
/-- so many words are there -/
def bw_D (I L : Nat → Nat → Int) (R : Nat → Nat → Option Nat) (Y : (Nat → Nat) × (Nat → Nat) × Nat) (n T da pe ev M : Nat) : Prop := ∀ d x e, d < da → x < pe → e < ev → ev * (pe * d + x) + e < M → ∃ f c, R 39 (16 * d + 4 * x + e) = some f ∧ rw_S I R Y f c n ∧ (∀ z, z < 64 * n → rbc L c z = decide (z < T ∧ z / ev ^ (da * pe - 1 - (pe * d + x)) % ev = e)) ∧ rkc L c n
theorem bw_idx {a b c d m : Nat} (h1 : b < m) (h2 : d < m) (h : m * a + b = m * c + d) : a = c ∧ b = d := by
  have e1 : (m * a + b) / m = a := by rw [Nat.mul_add_div (by omega), Nat.div_eq_of_lt h1]; rfl
  have e2 : (m * c + d) / m = c := by rw [Nat.mul_add_div (by omega), Nat.div_eq_of_lt h2]; rfl
  have e3 : a = c := by rw [← e1, h, e2]
  subst e3
  exact ⟨rfl, by omega⟩
theorem p_fillBlocksI {d : Nat} {I L : Nat → Nat → Int} {R : Nat → Nat → Option Nat} {Y : (Nat → Nat) × (Nat → Nat) × Nat} (hA : at_T R Y) (hK : cz_K R Y) (hy : wy_S R Y) {N B ev e J n T : Nat} {a b c s : Int} (ha : a = (N : Int)) (hb : b = ((e * B : Nat) : Int)) (hc : c = (B : Int)) (hs : s = ((B * ev : Nat) : Int)) (hN : N < 96) (h342 : I 34 2 = (T : Int)) (h349 : I 34 9 = (n : Int)) (hT : T = J * (B * ev)) (hn : T ≤ 64 * n ∧ 1 ≤ n ∧ n ≤ 512) (hT2 : T ≤ 32768) (hB : 0 < B) (hS : B * ev ≤ 32768) (he : e < ev ∧ ev ≤ 4) : yi_P zi_Ms d 307 [.inr (.inr (some 34)), .inl a, .inl b, .inl c, .inl s] (I, L, R, Y) (fun r => ∃ I' L' R' Y' nc ns f c, r = (none, (I', L', R', Y'), nc, ns) ∧ fb_E N f c n I L R Y I' L' R' Y' ∧ (∀ x, x < 64 * n → rbc L' c x = decide (x < T ∧ x / B % ev = e)) ∧ rkc L' c n ∧ cz_K R' Y') := by
  subst ha hb hc hs
  have hNA := hA.2.2.2
  refine (yi_P_a (p_fillBlocks hA hN h342 h349 hT hn hT2 hB hS he (fun f hf => ?_)) (cz_P hK (by decide +kernel) (cy_ve rfl (cy_c (cy_p (by omega)) (cy_c (cy_i _) (cy_c (cy_i _) (cy_c (cy_i _) (cy_c (cy_i _) cy_0)))))))).imp (fun r ⟨⟨I', L', R', Y', nc, ns, f, c, e1, e2, e3, e4⟩, hz⟩ => ?_)
  · obtain ⟨w1, ⟨c, w2, w3⟩, -⟩ := hy.1 N f hN hf
    have z := cz_Kj hK w1.2.1 w1.2.2 w2
    exact ⟨w1, c, w2, w3, z.2.1.2.2, z.2.1.2.1, z.2.1.1⟩
  · subst e1
    exact ⟨I', L', R', Y', nc, ns, f, c, rfl, e2, e3, e4, hz⟩
section BWS
variable {I L I' L' : Nat → Nat → Int} {R R' : Nat → Nat → Option Nat} {Y Y' : (Nat → Nat) × (Nat → Nat) × Nat} {N f c n : Nat}
theorem fb_f (hA : at_T R Y) (hy : wy_S R Y) (hN : N < 96) (h : fb_E N f c n I L R Y I' L' R' Y') : 110 ≤ f ∧ 110 ≤ c := by
  have hNA := hA.2.2.2
  obtain ⟨h1, h2, h3, h4, h5⟩ := h
  have hf : 110 ≤ f := by
    rcases h4 with h | ⟨_, h⟩
    · exact (hy.1 N f hN h).1.1
    · omega
  refine ⟨hf, ?_⟩
  rcases h5 with ⟨a, b⟩ | b
  · obtain ⟨c', e1, e2⟩ := (hy.1 N f hN a).2.1
    rw [b] at e1
    cases e1
    exact e2
  · omega
theorem fb_at (hA : at_T R Y) (hf : 110 ≤ f) (h : fb_E N f c n I L R Y I' L' R' Y') : at_T R' Y' := by
  have hNA := hA.2.2.2
  refine at_T_t hA (fun x hx => ?_) h.2.2.1.1 h.2.2.1.2
  have b : ∀ q ∈ at_L, q.1 < 110 ∧ ¬ q.1 = 39 := by decide
  have z := b x hx
  exact (h.2.1 x.1 x.2.1 (by omega)).2.1 (by omega) (fun e => z.2 e.1)
theorem fb_wy (hA : at_T R Y) (hy : wy_S R Y) (hN : N < 96) (h : fb_E N f c n I L R Y I' L' R' Y') : wy_S R' Y' := by
  have hNA := hA.2.2.2
  obtain ⟨hf, hc⟩ := fb_f hA hy hN h
  obtain ⟨⟨g1, g2, g3⟩, h2, ⟨h3, h3'⟩, h4, h5⟩ := h
  have r39 : ∀ i, ¬ i = N → R' 39 i = R 39 i := fun i hi => (h2 39 i (by omega)).2.1 (by omega) (fun e => hi e.2)
  have r40 : ∀ i, R' 40 i = R 40 i := fun i => (h2 40 i (by omega)).2.1 (by omega) (fun e => absurd e.1 (by omega))
  have rf : ∀ p, p < Y.2.2 → 110 ≤ p → ¬ p = f → R' p 0 = R p 0 := fun p hp h1 hne => (h2 p 0 hp).2.1 hne (fun e => by omega)
  have rowf : (110 ≤ f ∧ f < Y'.2.2 ∧ Y'.1 f = 5) ∧ ∃ c, R' f 0 = some c ∧ 110 ≤ c := ⟨⟨hf, g2.1.2.2.1, g2.1.2.2.2.2.1⟩, c, g2.2.1, hc⟩
  -- f was at N alone, or nowhere
  have onlyN : ∀ i, i < 96 → ¬ i = N → ¬ R 39 i = some f := fun i hi hne e => by
    rcases h4 with h | ⟨_, h⟩
    · exact hne ((hy.1 N f hN h).2.2.1 i hi e)
    · have := (hy.1 i f hi e).1.2.1
      omega
  have not40 : ∀ j, j < 6 → ¬ R 40 j = some f := fun j hj e => by
    rcases h4 with h | ⟨_, h⟩
    · exact (hy.1 N f hN h).2.2.2 j hj e
    · have := (hy.2 j f hj e).1.2.1
      omega
  refine ⟨fun i p hi e => ?_, fun j p hj e => ?_⟩
  · by_cases ci : i = N
    · rw [ci, g1] at e
      cases e
      refine ⟨rowf.1, rowf.2, fun i' hi' e' => ?_, fun j hj e' => ?_⟩
      · by_cases c2 : i' = N
        · omega
        · rw [r39 i' c2] at e'
          exact absurd e' (onlyN i' hi' c2)
      · rw [r40 j] at e'
        exact not40 j hj e'
    · rw [r39 i ci] at e
      obtain ⟨⟨k1, k2, k3⟩, ⟨c', k4, k5⟩, k6, k7⟩ := hy.1 i p hi e
      have hpf : ¬ p = f := fun z => onlyN i hi ci (by rw [e, z])
      refine ⟨⟨k1, by omega, (h3' p k2).1.trans k3⟩, ⟨c', (rf p k2 k1 hpf).trans k4, k5⟩, fun i' hi' e' => ?_, fun j hj e' => ?_⟩
      · by_cases c2 : i' = N
        · rw [c2, g1] at e'
          exact absurd (Option.some.inj e').symm hpf
        · rw [r39 i' c2] at e'
          exact k6 i' hi' e'
      · rw [r40 j] at e'
        exact k7 j hj e'
  · rw [r40 j] at e
    obtain ⟨⟨k1, k2, k3⟩, ⟨c', k4, k5⟩, k6⟩ := hy.2 j p hj e
    have hpf : ¬ p = f := fun z => not40 j hj (by rw [e, z])
    refine ⟨⟨k1, by omega, (h3' p k2).1.trans k3⟩, ⟨c', (rf p k2 k1 hpf).trans k4, k5⟩, fun j' hj' e' => ?_⟩
    rw [r40 j'] at e'
    exact k6 j' hj' e'
theorem fb_bw {T da pe ev d0 x0 e0 : Nat} (hA : at_T R Y) (hK : cz_K R Y) (hy : wy_S R Y) (bld : da ≤ 6 ∧ pe ≤ 4 ∧ ev ≤ 4) (hd : d0 < da) (hx : x0 < pe) (he : e0 < ev) (hN : N = 16 * d0 + 4 * x0 + e0) (hD : bw_D I L R Y n T da pe ev (ev * (pe * d0 + x0) + e0)) (h : fb_E N f c n I L R Y I' L' R' Y') (hb : ∀ z, z < 64 * n → rbc L' c z = decide (z < T ∧ z / ev ^ (da * pe - 1 - (pe * d0 + x0)) % ev = e0)) (hk : rkc L' c n) : bw_D I' L' R' Y' n T da pe ev (ev * (pe * d0 + x0) + (e0 + 1)) := by
  have hNA := hA.2.2.2
  have hN96 : N < 96 := by omega
  obtain ⟨hf, hc⟩ := fb_f hA hy hN96 h
  obtain ⟨⟨g1, g2, g3⟩, h2, ⟨h3, h3'⟩, h4, h5⟩ := h
  intro d x e hd1 hx1 he1 hM
  by_cases same : d = d0 ∧ x = x0 ∧ e = e0
  · obtain ⟨rfl, rfl, rfl⟩ := same
    exact ⟨f, c, by rw [← hN]; exact g1, g2, hb, hk⟩
  · have hlt : ev * (pe * d + x) + e < ev * (pe * d0 + x0) + e0 := by
      by_cases c0 : ev * (pe * d + x) + e = ev * (pe * d0 + x0) + e0
      · exfalso
        obtain ⟨e1, e2⟩ := bw_idx he1 he c0
        obtain ⟨e3, e4⟩ := bw_idx hx1 hx e1
        exact same ⟨e3, e4, e2⟩
      · omega
    obtain ⟨p, cp, k1, k2, k3, k4⟩ := hD d x e hd1 hx1 he1 hlt
    have k2' := k2
    obtain ⟨⟨v1, v2, v3, v4, v5, v6⟩, v7, v8, v9, v10⟩ := k2
    have hi : 16 * d + 4 * x + e < 96 := by omega
    have hne : ¬ 16 * d + 4 * x + e = N := by omega
    have hpf : ¬ p = f := fun z => by
      rcases h4 with h | ⟨_, h⟩
      · exact hne ((hy.1 N f hN96 h).2.2.1 _ hi (by rw [k1, z]))
      · omega
    have hcc : ¬ cp = c := fun z => by
      rcases h5 with ⟨a, b⟩ | b
      · have w := (hy.1 N f hN96 a).1
        exact hpf ((cz_Kj hK w.2.1 w.2.2 b).2.2 p v3 v5 (by rw [v7, z]))
      · omega
    refine ⟨p, cp, ((h2 39 _ (by omega)).2.1 (by omega) (fun z => hne z.2)).trans k1, rw_S_t k2' ((h2 p 1 v3).1 hpf) ((h2 p 0 v3).2.1 hpf (fun z => by have := (hy.1 _ p hi k1).1.1; omega)) h3 h3', fun z hz => ?_, fun k hk2 => ?_⟩
    · rw [← k3 z hz]
      unfold rbc
      rw [(h2 cp _ v4).2.2 hcc]
    · rw [(h2 cp k v4).2.2 hcc]
      exact k4 k hk2
end BWS
/-- what the words' building leaves -/
def bw_F (I L : Nat → Nat → Int) (R : Nat → Nat → Option Nat) (Y : (Nat → Nat) × (Nat → Nat) × Nat) (I' L' : Nat → Nat → Int) (R' : Nat → Nat → Option Nat) (Y' : (Nat → Nat) × (Nat → Nat) × Nat) : Prop := (∀ q k, q < Y.2.2 → (¬ (∃ i, i < 96 ∧ R 39 i = some q) → I' q k = I q k ∧ (¬ q = 39 → R' q k = R q k)) ∧ (¬ (∃ i f, i < 96 ∧ R 39 i = some f ∧ R f 0 = some q) → L' q k = L q k)) ∧ (∀ i f, i < 96 → R' 39 i = some f → R 39 i = some f ∨ Y.2.2 ≤ f) ∧ (∀ i f, i < 96 → R 39 i = some f → R' 39 i = some f) ∧ (∀ i f c, i < 96 → R' 39 i = some f → R' f 0 = some c → (R 39 i = some f ∧ R f 0 = some c) ∨ Y.2.2 ≤ c) ∧ Y.2.2 ≤ Y'.2.2 ∧ ∀ q, q < Y.2.2 → Y'.1 q = Y.1 q ∧ Y'.2.1 q = Y.2.1 q
theorem bw_F_0 {I L : Nat → Nat → Int} {R : Nat → Nat → Option Nat} {Y : (Nat → Nat) × (Nat → Nat) × Nat} : bw_F I L R Y I L R Y := ⟨fun q k _ => ⟨fun _ => ⟨rfl, fun _ => rfl⟩, fun _ => rfl⟩, fun i f _ h => Or.inl h, fun i f _ h => h, fun i f c _ h1 h2 => Or.inl ⟨h1, h2⟩, Nat.le_refl _, fun _ _ => ⟨rfl, rfl⟩⟩
theorem bw_F_s {I L I1 L1 I' L' : Nat → Nat → Int} {R R1 R' : Nat → Nat → Option Nat} {Y Y1 Y' : (Nat → Nat) × (Nat → Nat) × Nat} {N f c n : Nat} (hA : at_T R1 Y1) (hy : wy_S R1 Y1) (hN : N < 96) (h : bw_F I L R Y I1 L1 R1 Y1) (hE : fb_E N f c n I1 L1 R1 Y1 I' L' R' Y') : bw_F I L R Y I' L' R' Y' := by
  have hNA := hA.2.2.2
  obtain ⟨hf, hc⟩ := fb_f hA hy hN hE
  obtain ⟨⟨g1, g2, g3⟩, h2, ⟨h3, h3'⟩, h4, h5⟩ := hE
  obtain ⟨k1, k2, k6, k3, k4, k5⟩ := h
  have fcase : ∀ q, q < Y.2.2 → q = f → ∃ i, i < 96 ∧ R 39 i = some q := fun q hq e => by
    rcases h4 with h | ⟨_, h⟩
    · rcases k2 N f hN h with w | w
      · exact ⟨N, hN, by rw [e]; exact w⟩
      · omega
    · omega
  have ccase : ∀ q, q < Y.2.2 → q = c → ∃ i f, i < 96 ∧ R 39 i = some f ∧ R f 0 = some q := fun q hq e => by
    rcases h5 with ⟨a, b⟩ | h
    · rcases k3 N f c hN a b with w | w
      · exact ⟨N, f, hN, w.1, by rw [e]; exact w.2⟩
      · omega
    · omega
  have r39 : ∀ i, ¬ i = N → R' 39 i = R1 39 i := fun i hi => (h2 39 i (by omega)).2.1 (by omega) (fun e => hi e.2)
  refine ⟨fun q k hq => ⟨fun hn => ?_, fun hn => ?_⟩, fun i p hi e => ?_, fun i p hi e => ?_, fun i p cp hi e1 e2 => ?_, Nat.le_trans k4 h3, fun q hq => ?_⟩
  · have hqf : ¬ q = f := fun e => hn (fcase q hq e)
    have z := (k1 q k hq).1 hn
    have w := h2 q k (by omega)
    exact ⟨(w.1 hqf).trans z.1, fun h39 => (w.2.1 hqf (fun e => h39 e.1)).trans (z.2 h39)⟩
  · have hqc : ¬ q = c := fun e => hn (ccase q hq e)
    exact ((h2 q k (by omega)).2.2 hqc).trans ((k1 q k hq).2 hn)
  · by_cases ci : i = N
    · rw [ci, g1] at e
      cases e
      rcases h4 with h | ⟨_, h⟩
      · rw [ci]; exact k2 N f hN h
      · right; omega
    · rw [r39 i ci] at e
      exact k2 i p hi e
  · by_cases ci : i = N
    · have w := k6 i p hi e
      rw [ci] at w ⊢
      rcases h4 with h | ⟨h, _⟩
      · rw [h] at w
        rw [g1]; exact w
      · rw [h] at w; cases w
    · rw [r39 i ci]; exact k6 i p hi e
  · by_cases ci : i = N
    · rw [ci, g1] at e1
      cases e1
      rw [g2.2.1] at e2
      cases e2
      rcases h5 with ⟨a, b⟩ | h
      · rw [ci]; exact k3 N f c hN a b
      · right; omega
    · rw [r39 i ci] at e1
      have w := (hy.1 i p hi e1)
      have hpf : ¬ p = f := fun z => by
        rcases h4 with h | ⟨_, h⟩
        · exact ci ((hy.1 N f hN h).2.2.1 i hi (by rw [e1, z]))
        · have := w.1.2.1
          omega
      rw [(h2 p 0 w.1.2.1).2.1 hpf (fun z => by have := w.1.1; omega)] at e2
      exact k3 i p cp hi e1 e2
  · have a := k5 q hq
    have b := h3' q (by omega)
    exact ⟨b.1.trans a.1, b.2.trans a.2⟩
/-- a place ahead of all words is as it was -/
theorem bw_F_f {I L I' L' : Nat → Nat → Int} {R R' : Nat → Nat → Option Nat} {Y Y' : (Nat → Nat) × (Nat → Nat) × Nat} (hA : at_T R Y) (hy : wy_S R Y) (h : bw_F I L R Y I' L' R' Y') {q : Nat} (hq : q < 110) (k : Nat) : I' q k = I q k ∧ (¬ q = 39 → R' q k = R q k) := by
  have hNA := hA.2.2.2
  exact (h.1 q k (by omega)).1 (fun ⟨i, hi, e⟩ => by have := (hy.1 i q hi e).1.1; omega)
theorem bw_lt {da pe ev d x e : Nat} (h1 : d < da) (h2 : x < pe) (h3 : e < ev) : ev * (pe * d + x) + e < ev * (da * pe) := by
  have a : pe * d + x < da * pe := kx_lt h1 h2
  have b : ev * (pe * d + x + 1) ≤ ev * (da * pe) := Nat.mul_le_mul_left ev a
  rw [Nat.mul_add, Nat.mul_one] at b
  omega
theorem p_buildWords {d : Nat} {I L : Nat → Nat → Int} {R : Nat → Nat → Option Nat} {Y : (Nat → Nat) × (Nat → Nat) × Nat} (hA : at_T R Y) (hK : cz_K R Y) (hy : wy_S R Y) {n T da pe ev : Nat} (h342 : I 34 2 = (T : Int)) (h347 : I 34 7 = (da : Int)) (h348 : I 34 8 = (pe : Int)) (h349 : I 34 9 = (n : Int)) (bld : da ≤ 6 ∧ pe ≤ 4 ∧ ev ≤ 4) (hT : 0 < ev → T = ev ^ (da * pe)) (hn : T ≤ 64 * n ∧ 1 ≤ n ∧ n ≤ 512) (hT2 : 1 ≤ T ∧ T ≤ 32768) : yi_P zi_Ms d 304 [.inr (.inr (some 34)), .inl (ev : Int)] (I, L, R, Y) (fun r => ∃ I' L' R' Y' nc ns, r = (none, (I', L', R', Y'), nc, ns) ∧ at_T R' Y' ∧ cz_K R' Y' ∧ wy_S R' Y' ∧ bw_F I L R Y I' L' R' Y' ∧ ∀ M, bw_D I' L' R' Y' n T da pe ev M) := by
  refine yi_P_of (M := zi_m304) rfl (fun d k => ?_)
  show yi_D zi_Ms d zi_m304 k (0, [(0, .inr (.inr (some 34))), (1, .inl (ev : Int))], [], (I, L, R, Y), 0, 0) _
  refine yi_D_run 1 (1, [(0, .inr (.inr (some 34))), (1, .inl (ev : Int))], [.inr (.inr (some 34))], (I, L, R, Y), 0, 0) (fun _ => rfl) ?_
  refine yi_D_gi (v := (T : Int)) rfl rfl rfl h342 (fun _ => ?_)
  refine yi_D_run 3 (7, [(3, .inl 1), (2, .inl (T : Int)), (0, .inr (.inr (some 34))), (1, .inl (ev : Int))], [], (I, L, R, Y), 0, 0) (fun _ => rfl) ?_
  have pt7 : ∀ j7, j7 ≤ k → ∀ (y3 : Int) (y2 : Int) (z4 : Int) (z5 : Int) (J1 : Nat → Nat → Int) (G1 : Nat → Nat → Int) (R1 : Nat → Nat → Option Nat) (Y1 : (Nat → Nat) × (Nat → Nat) × Nat) (n1 : Nat) (m1 : Nat), (1 ≤ y3 ∧ y3 ≤ (da : Int) + 1) → (0 < ev → y2 = ((ev ^ (da * pe - pe * (y3 - 1).toNat) : Nat) : Int)) → (at_T R1 Y1) → (cz_K R1 Y1) → (wy_S R1 Y1) → (bw_F I L R Y J1 G1 R1 Y1) → (bw_D J1 G1 R1 Y1 n T da pe ev (ev * (pe * (y3 - 1).toNat))) → yi_D zi_Ms d zi_m304 j7 (7, [(3, .inl y3), (2, .inl y2), (0, .inr (.inr (some 34))), (1, .inl (ev : Int)), (4, .inl z4), (5, .inl z5)], [], (J1, G1, R1, Y1), n1, m1) (fun r => ∃ I' L' R' Y' nc ns, r = (none, (I', L', R', Y'), nc, ns) ∧ at_T R' Y' ∧ cz_K R' Y' ∧ wy_S R' Y' ∧ bw_F I L R Y I' L' R' Y' ∧ ∀ M, bw_D I' L' R' Y' n T da pe ev M) := by
    intro j7
    induction j7 with
    | zero => intros; exact yi_D_0
    | succ j7 ih7 =>
    intro hk7 y3 y2 z4 z5 J1 G1 R1 Y1 n1 m1 hy3 hy21 hA1 hK1 hy1i hF1 hD1
    have f1_2 : J1 34 2 = (T : Int) := ((bw_F_f hA hy hF1 (by omega) 2).1).trans h342
    have f1_7 : J1 34 7 = (da : Int) := ((bw_F_f hA hy hF1 (by omega) 7).1).trans h347
    have f1_8 : J1 34 8 = (pe : Int) := ((bw_F_f hA hy hF1 (by omega) 8).1).trans h348
    have f1_9 : J1 34 9 = (n : Int) := ((bw_F_f hA hy hF1 (by omega) 9).1).trans h349
    refine yi_D_run1 1 (9, [(3, .inl y3), (2, .inl y2), (0, .inr (.inr (some 34))), (1, .inl (ev : Int)), (4, .inl z4), (5, .inl z5)], [.inr (.inr (some 34)), .inl y3], (J1, G1, R1, Y1), n1, m1) (fun _ => rfl) ?_
    refine yi_D_gi (v := (da : Int)) rfl rfl rfl f1_7 (fun _ => ?_)
    by_cases h1 : (da : Int) < y3
    · refine yi_D_if2 true rfl (yi_gt_t h1) ?_
      refine yi_D_retv rfl ?_
      refine ⟨_, _, _, _, _, _, rfl, hA1, hK1, hy1i, hF1, fun M d x e h1 h2 h3 _ => hD1 d x e h1 h2 h3 ?_⟩
      first
      | (exfalso; omega)
      | (have e3 : (y3 - 1).toNat = da := by omega
         rw [e3, Nat.mul_comm pe da]
         exact bw_lt h1 h2 h3)
    · refine yi_D_if2 false rfl (yi_gt_f h1) ?_
      refine yi_D_run 1 (16, [(3, .inl y3), (2, .inl y2), (0, .inr (.inr (some 34))), (1, .inl (ev : Int)), (4, .inl z4), (5, .inl z5)], [.inl (ev : Int)], (J1, G1, R1, Y1), n1, m1) (fun _ => rfl) ?_
      by_cases h2 : (ev : Int) ≤ 0
      · refine yi_D_if1 true rfl (yi_le_t h2) ?_
        refine yi_D_retv rfl ?_
        refine ⟨_, _, _, _, _, _, rfl, hA1, hK1, hy1i, hF1, fun M d x e h1 h2 h3 _ => hD1 d x e h1 h2 h3 ?_⟩
        first
        | (exfalso; omega)
        | (have e3 : (y3 - 1).toNat = da := by omega
           rw [e3, Nat.mul_comm pe da]
           exact bw_lt h1 h2 h3)
      · refine yi_D_if1 false rfl (yi_le_f h2) ?_
        refine yi_D_run 2 (22, [(4, .inl 0), (3, .inl y3), (2, .inl y2), (0, .inr (.inr (some 34))), (1, .inl (ev : Int)), (5, .inl z5)], [], (J1, G1, R1, Y1), n1, m1) (fun _ => rfl) ?_
        have pt22 : ∀ j22, j22 ≤ j7 → ∀ (y4 : Int) (y2b : Int) (z5b : Int) (J2 : Nat → Nat → Int) (G2 : Nat → Nat → Int) (R2 : Nat → Nat → Option Nat) (Y2 : (Nat → Nat) × (Nat → Nat) × Nat) (n2 : Nat) (m2 : Nat), (0 ≤ y4 ∧ y4 ≤ (pe : Int)) → (y2b = ((ev ^ (da * pe - (pe * (y3 - 1).toNat + y4.toNat)) : Nat) : Int)) → (at_T R2 Y2) → (cz_K R2 Y2) → (wy_S R2 Y2) → (bw_F I L R Y J2 G2 R2 Y2) → (bw_D J2 G2 R2 Y2 n T da pe ev (ev * (pe * (y3 - 1).toNat + y4.toNat))) → yi_D zi_Ms d zi_m304 j22 (22, [(4, .inl y4), (3, .inl y3), (2, .inl y2b), (0, .inr (.inr (some 34))), (1, .inl (ev : Int)), (5, .inl z5b)], [], (J2, G2, R2, Y2), n2, m2) (fun r => ∃ I' L' R' Y' nc ns, r = (none, (I', L', R', Y'), nc, ns) ∧ at_T R' Y' ∧ cz_K R' Y' ∧ wy_S R' Y' ∧ bw_F I L R Y I' L' R' Y' ∧ ∀ M, bw_D I' L' R' Y' n T da pe ev M) := by
          intro j22
          induction j22 with
          | zero => intros; exact yi_D_0
          | succ j22 ih22 =>
          intro hk22 y4 y2b z5b J2 G2 R2 Y2 n2 m2 hy4 hy22 hA2 hK2 hy2i hF2 hD2
          have f2_2 : J2 34 2 = (T : Int) := ((bw_F_f hA hy hF2 (by omega) 2).1).trans h342
          have f2_7 : J2 34 7 = (da : Int) := ((bw_F_f hA hy hF2 (by omega) 7).1).trans h347
          have f2_8 : J2 34 8 = (pe : Int) := ((bw_F_f hA hy hF2 (by omega) 8).1).trans h348
          have f2_9 : J2 34 9 = (n : Int) := ((bw_F_f hA hy hF2 (by omega) 9).1).trans h349
          refine yi_D_run1 1 (25, [(4, .inl y4), (3, .inl y3), (2, .inl y2b), (0, .inr (.inr (some 34))), (1, .inl (ev : Int)), (5, .inl z5b)], [.inr (.inr (some 34)), .inl y4], (J2, G2, R2, Y2), n2, m2) (fun _ => rfl) ?_
          refine yi_D_gi (v := (pe : Int)) rfl rfl rfl f2_8 (fun _ => ?_)
          by_cases h3 : (pe : Int) ≤ y4
          · refine yi_D_if2 true rfl (yi_ge_t h3) ?_
            refine yi_D_iinc [(3, .inl (y3 + 1)), (4, .inl y4), (2, .inl y2b), (0, .inr (.inr (some 34))), (1, .inl (ev : Int)), (5, .inl z5b)] rfl rfl rfl (by rw [show yi_w (y3 + 1) = y3 + 1 from (yi_wn (by omega) (by omega)).trans (by omega)]; rfl) ?_
            refine yi_D_run 1 (7, [(3, .inl (y3 + 1)), (4, .inl y4), (2, .inl y2b), (0, .inr (.inr (some 34))), (1, .inl (ev : Int)), (5, .inl z5b)], [], (J2, G2, R2, Y2), n2, m2) (fun _ => rfl) ?_
            refine yi_D_al (al := [(3, .inl (y3 + 1)), (2, .inl y2b), (0, .inr (.inr (some 34))), (1, .inl (ev : Int)), (4, .inl y4), (5, .inl z5b)]) (show ([3, 2, 0, 1, 4, 5] : List Nat).Nodup by decide) (show ([3, 4, 2, 0, 1, 5] : List Nat).Nodup by decide) (yi_mc (List.mem_of_getElem? (i := 0) rfl) (yi_mc (List.mem_of_getElem? (i := 4) rfl) (yi_mc (List.mem_of_getElem? (i := 1) rfl) (yi_mc (List.mem_of_getElem? (i := 2) rfl) (yi_mc (List.mem_of_getElem? (i := 3) rfl) (yi_mc (List.mem_of_getElem? (i := 5) rfl) yi_mn)))))) ?_
            exact yi_D_mono (ih7 (by omega) (y3 + 1) y2b y4 z5b J2 G2 R2 Y2 n2 m2 (by omega) (fun _ => by rw [hy22, show y4.toNat = pe by omega, show (y3 + 1 - 1).toNat = (y3 - 1).toNat + 1 by omega, Nat.mul_add pe, Nat.mul_one]) hA2 hK2 hy2i hF2 (by rw [show (y3 + 1 - 1).toNat = (y3 - 1).toNat + 1 by omega, Nat.mul_add pe, Nat.mul_one]; rw [show y4.toNat = pe by omega] at hD2; exact hD2)) (by omega)
          · refine yi_D_if2 false rfl (yi_ge_f h3) ?_
            refine yi_D_run 2 (33, [(4, .inl y4), (3, .inl y3), (2, .inl y2b), (0, .inr (.inr (some 34))), (1, .inl (ev : Int)), (5, .inl z5b)], [.inl (ev : Int), .inl y2b], (J2, G2, R2, Y2), n2, m2) (fun _ => rfl) ?_
            have hkP : (pe * (y3 - 1).toNat + y4.toNat) < da * pe := kx_lt (by omega) (by omega)
            obtain ⟨B, hB⟩ : ∃ B, B = ev ^ (da * pe - 1 - (pe * (y3 - 1).toNat + y4.toNat)) := ⟨_, rfl⟩
            have hpow : ev ^ (da * pe - (pe * (y3 - 1).toNat + y4.toNat)) = B * ev := by rw [hB, show da * pe - (pe * (y3 - 1).toNat + y4.toNat) = (da * pe - 1 - (pe * (y3 - 1).toNat + y4.toNat)) + 1 by omega, Nat.pow_succ]
            have hBd : y2b / (ev : Int) = (B : Int) := by rw [hy22, hpow, Int.natCast_mul]; exact Int.mul_ediv_cancel _ (by omega)
            have hBpos : 0 < B := by rw [hB]; exact Nat.pow_pos (by omega)
            have hTJ : T = ev ^ (pe * (y3 - 1).toNat + y4.toNat) * (B * ev) := by rw [hT (by omega), ← hpow, ← Nat.pow_add, show (pe * (y3 - 1).toNat + y4.toNat) + (da * pe - (pe * (y3 - 1).toNat + y4.toNat)) = da * pe by omega]
            have hBT : B * ev ≤ 32768 := by
              have h1 : B * ev ≤ ev ^ (pe * (y3 - 1).toNat + y4.toNat) * (B * ev) := Nat.le_mul_of_pos_left _ (Nat.pow_pos (by omega))
              omega
            have hBB : B ≤ B * ev := Nat.le_mul_of_pos_right B (by omega)
            have hy2n : 0 ≤ y2b := by omega
            refine yi_D_idiv rfl (by omega) ((B : Int)) (yi_dv hy2n hBd (by omega) (by omega)) ?_
            refine yi_D_run 3 (38, [(5, .inl 0), (2, .inl (B : Int)), (4, .inl y4), (3, .inl y3), (0, .inr (.inr (some 34))), (1, .inl (ev : Int))], [], (J2, G2, R2, Y2), n2, m2) (fun _ => rfl) ?_
            have pt38 : ∀ j38, j38 ≤ j22 → ∀ (y5 : Int) (J3 : Nat → Nat → Int) (G3 : Nat → Nat → Int) (R3 : Nat → Nat → Option Nat) (Y3 : (Nat → Nat) × (Nat → Nat) × Nat) (n3 : Nat) (m3 : Nat), (0 ≤ y5 ∧ y5 ≤ (ev : Int)) → (at_T R3 Y3) → (cz_K R3 Y3) → (wy_S R3 Y3) → (bw_F I L R Y J3 G3 R3 Y3) → (bw_D J3 G3 R3 Y3 n T da pe ev (ev * (pe * (y3 - 1).toNat + y4.toNat) + y5.toNat)) → yi_D zi_Ms d zi_m304 j38 (38, [(5, .inl y5), (2, .inl (B : Int)), (4, .inl y4), (3, .inl y3), (0, .inr (.inr (some 34))), (1, .inl (ev : Int))], [], (J3, G3, R3, Y3), n3, m3) (fun r => ∃ I' L' R' Y' nc ns, r = (none, (I', L', R', Y'), nc, ns) ∧ at_T R' Y' ∧ cz_K R' Y' ∧ wy_S R' Y' ∧ bw_F I L R Y I' L' R' Y' ∧ ∀ M, bw_D I' L' R' Y' n T da pe ev M) := by
              intro j38
              induction j38 with
              | zero => intros; exact yi_D_0
              | succ j38 ih38 =>
              intro hk38 y5 J3 G3 R3 Y3 n3 m3 hy5 hA3 hK3 hy3i hF3 hD3
              have f3_2 : J3 34 2 = (T : Int) := ((bw_F_f hA hy hF3 (by omega) 2).1).trans h342
              have f3_7 : J3 34 7 = (da : Int) := ((bw_F_f hA hy hF3 (by omega) 7).1).trans h347
              have f3_8 : J3 34 8 = (pe : Int) := ((bw_F_f hA hy hF3 (by omega) 8).1).trans h348
              have f3_9 : J3 34 9 = (n : Int) := ((bw_F_f hA hy hF3 (by omega) 9).1).trans h349
              refine yi_D_run1 1 (41, [(5, .inl y5), (2, .inl (B : Int)), (4, .inl y4), (3, .inl y3), (0, .inr (.inr (some 34))), (1, .inl (ev : Int))], [.inl (ev : Int), .inl y5], (J3, G3, R3, Y3), n3, m3) (fun _ => rfl) ?_
              by_cases h4 : (ev : Int) ≤ y5
              · refine yi_D_if2 true rfl (yi_ge_t h4) ?_
                refine yi_D_iinc [(4, .inl (y4 + 1)), (5, .inl y5), (2, .inl (B : Int)), (3, .inl y3), (0, .inr (.inr (some 34))), (1, .inl (ev : Int))] rfl rfl rfl (by rw [show yi_w (y4 + 1) = y4 + 1 from (yi_wn (by omega) (by omega)).trans (by omega)]; rfl) ?_
                refine yi_D_run 1 (22, [(4, .inl (y4 + 1)), (5, .inl y5), (2, .inl (B : Int)), (3, .inl y3), (0, .inr (.inr (some 34))), (1, .inl (ev : Int))], [], (J3, G3, R3, Y3), n3, m3) (fun _ => rfl) ?_
                refine yi_D_al (al := [(4, .inl (y4 + 1)), (3, .inl y3), (2, .inl (B : Int)), (0, .inr (.inr (some 34))), (1, .inl (ev : Int)), (5, .inl y5)]) (show ([4, 3, 2, 0, 1, 5] : List Nat).Nodup by decide) (show ([4, 5, 2, 3, 0, 1] : List Nat).Nodup by decide) (yi_mc (List.mem_of_getElem? (i := 0) rfl) (yi_mc (List.mem_of_getElem? (i := 5) rfl) (yi_mc (List.mem_of_getElem? (i := 2) rfl) (yi_mc (List.mem_of_getElem? (i := 1) rfl) (yi_mc (List.mem_of_getElem? (i := 3) rfl) (yi_mc (List.mem_of_getElem? (i := 4) rfl) yi_mn)))))) ?_
                exact yi_D_mono (ih22 (by omega) (y4 + 1) (B : Int) y5 J3 G3 R3 Y3 n3 m3 (by omega) (by rw [hB, show (y4 + 1).toNat = y4.toNat + 1 by omega, show da * pe - 1 - (pe * (y3 - 1).toNat + y4.toNat) = da * pe - (pe * (y3 - 1).toNat + (y4.toNat + 1)) by omega]) hA3 hK3 hy3i hF3 (by rw [show (y4 + 1).toNat = y4.toNat + 1 by omega, ← Nat.add_assoc, Nat.mul_add ev, Nat.mul_one]; rw [show y5.toNat = ev by omega] at hD3; exact hD3)) (by omega)
              · refine yi_D_if2 false rfl (yi_ge_f h4) ?_
                refine yi_D_run 4 (50, [(5, .inl y5), (2, .inl (B : Int)), (4, .inl y4), (3, .inl y3), (0, .inr (.inr (some 34))), (1, .inl (ev : Int))], [.inl y5, .inl y3, .inl y4, .inr (.inr (some 34))], (J3, G3, R3, Y3), n3, m3) (fun _ => rfl) ?_
                refine yi_D_calls rfl (p_wordNumber (by omega) (by omega) (by omega)) ?_
                rintro _ rfl
                show yi_D zi_Ms d zi_m304 j38 (53, [(5, .inl y5), (2, .inl (B : Int)), (4, .inl y4), (3, .inl y3), (0, .inr (.inr (some 34))), (1, .inl (ev : Int))], [.inl (16 * (y3 - 1) + 4 * y4 + y5), .inr (.inr (some 34))], (J3, G3, R3, Y3), n3, m3) _
                refine yi_D_run 2 (56, [(5, .inl y5), (2, .inl (B : Int)), (4, .inl y4), (3, .inl y3), (0, .inr (.inr (some 34))), (1, .inl (ev : Int))], [.inl (B : Int), .inl y5, .inl (16 * (y3 - 1) + 4 * y4 + y5), .inr (.inr (some 34))], (J3, G3, R3, Y3), n3, m3) (fun _ => rfl) ?_
                have hmm : y5.toNat * B ≤ ev * B := Nat.mul_le_mul_right B (by omega)
                rw [Nat.mul_comm ev B] at hmm
                refine yi_D_imul rfl (((y5.toNat * B : Nat) : Int)) (by rw [show y5 * (B : Int) = ((y5.toNat * B : Nat) : Int) by rw [Int.natCast_mul, show ((y5.toNat : Nat) : Int) = y5 by omega]]; exact yi_wn (by omega) (by omega)) ?_
                refine yi_D_run 3 (60, [(5, .inl y5), (2, .inl (B : Int)), (4, .inl y4), (3, .inl y3), (0, .inr (.inr (some 34))), (1, .inl (ev : Int))], [.inl (ev : Int), .inl (B : Int), .inl (B : Int), .inl ((y5.toNat * B : Nat) : Int), .inl (16 * (y3 - 1) + 4 * y4 + y5), .inr (.inr (some 34))], (J3, G3, R3, Y3), n3, m3) (fun _ => rfl) ?_
                refine yi_D_imul rfl (((B * ev : Nat) : Int)) (by rw [← Int.natCast_mul]; exact yi_wn (by omega) (by omega)) ?_
                refine yi_D_callv rfl (p_fillBlocksI hA3 hK3 hy3i (N := 16 * (y3 - 1).toNat + 4 * y4.toNat + y5.toNat) (B := B) (e := y5.toNat) (ev := ev) (J := ev ^ (pe * (y3 - 1).toNat + y4.toNat)) (by omega) rfl rfl rfl (by omega) f3_2 f3_9 hTJ hn (by omega) hBpos hBT (by omega)) ?_
                rintro _ ⟨I5, L6, R7, Y8, n9, m10, f11, c12, rfl, E13, b14, k15, K16⟩
                have hA17 := fb_at hA3 (fb_f hA3 hy3i (by omega) E13).1 E13
                have hy18 := fb_wy hA3 hy3i (by omega) E13
                have hF19 := bw_F_s hA3 hy3i (by omega) hF3 E13
                have hD20 := fb_bw hA3 hK3 hy3i bld (by omega) (by omega) (by omega) rfl hD3 E13 (fun z hz => by rw [b14 z hz, hB]) k15
                rw [show y5.toNat + 1 = (y5 + 1).toNat by omega] at hD20
                show yi_D zi_Ms d zi_m304 j38 (64, [(5, .inl y5), (2, .inl (B : Int)), (4, .inl y4), (3, .inl y3), (0, .inr (.inr (some 34))), (1, .inl (ev : Int))], [], (I5, L6, R7, Y8), (n3 + n9), (m3 + m10)) _
                refine yi_D_iinc [(5, .inl (y5 + 1)), (2, .inl (B : Int)), (4, .inl y4), (3, .inl y3), (0, .inr (.inr (some 34))), (1, .inl (ev : Int))] rfl rfl rfl (by rw [show yi_w (y5 + 1) = y5 + 1 from (yi_wn (by omega) (by omega)).trans (by omega)]; rfl) ?_
                refine yi_D_run 1 (38, [(5, .inl (y5 + 1)), (2, .inl (B : Int)), (4, .inl y4), (3, .inl y3), (0, .inr (.inr (some 34))), (1, .inl (ev : Int))], [], (I5, L6, R7, Y8), (n3 + n9), (m3 + m10)) (fun _ => rfl) ?_
                exact yi_D_mono (ih38 (by omega) (y5 + 1) I5 L6 R7 Y8 (n3 + n9) (m3 + m10) (by omega) hA17 K16 hy18 hF19 hD20) (by omega)
            exact pt38 j22 (Nat.le_refl _) 0 J2 G2 R2 Y2 n2 m2 (by omega) hA2 hK2 hy2i hF2 hD2
        exact pt22 j7 (Nat.le_refl _) 0 y2 z5 J1 G1 R1 Y1 n1 m1 (by omega) (hy21 (by omega)) hA1 hK1 hy1i hF1 hD1
  refine yi_D_al (al := [(3, .inl 1), (2, .inl (T : Int)), (0, .inr (.inr (some 34))), (1, .inl (ev : Int)), (4, .inl 0), (5, .inl 0)]) (show ([3, 2, 0, 1, 4, 5] : List Nat).Nodup by decide) (show ([3, 2, 0, 1] : List Nat).Nodup by decide) (yi_mc (List.mem_of_getElem? (i := 0) rfl) (yi_mc (List.mem_of_getElem? (i := 1) rfl) (yi_mc (List.mem_of_getElem? (i := 2) rfl) (yi_mc (List.mem_of_getElem? (i := 3) rfl) yi_mn)))) ?_
  exact pt7 k (Nat.le_refl _) 1 (T : Int) 0 0 I L R Y 0 0 (by omega) (fun h => by rw [show ((1 : Int) - 1).toNat = 0 by omega, Nat.mul_zero, Nat.sub_zero, hT h]) hA hK hy bw_F_0 (fun d x e _ _ _ h => absurd h (by rw [show ((1 : Int) - 1).toNat = 0 by omega, Nat.mul_zero, Nat.mul_zero]; omega))
