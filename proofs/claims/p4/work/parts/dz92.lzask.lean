/-! The class asks: what stays, what is new. -/
/-- the class's story, what is kept, what is left, what is asked -/
def lz_D (I L : Nat → Nat → Int) (R : Nat → Nat → Option Nat) (Y : (Nat → Nat) × (Nat → Nat) × Nat) (pf : Nat → Bool) (n da pe ev pr q c u : Nat) (A : ss_R) (W : Nat → ss_R) (l : ss_R) (S : ss_T) (U : Nat → ss_T) (M : Nat → Option (ss_T × Option ss_R)) (aq : Option ss_R) : Prop := ca_W I L R Y pf n da pe ev q A W ∧ ca_L I L R Y pf n c l ∧ sc_S I L R Y pf n da pe pr 50 S ∧ ck_P I L R Y pf n da pe pr u U M ∧ sa_A I L R Y pf n 50 aq ∧ (∀ x, pf x = true → ¬ qs_S R x) ∧ (¬ c = 16 ∧ ¬ c = 43 ∧ ¬ R 60 0 = some c)
/-- a row's bits -/
def rr_b (n T : Nat) (v : Nat → Bool) (r : ss_R) : Prop := (∀ k, k < n → b64 (r k)) ∧ ∀ x, x < 64 * n → yb (r (x / 64)) (x % 64) = (decide (x < T) && v x)
section LZD
variable {I L I' L' : Nat → Nat → Int} {R R' : Nat → Nat → Option Nat} {Y Y' : (Nat → Nat) × (Nat → Nat) × Nat} {pf pf' : Nat → Bool} {n da pe ev pr q c u p : Nat} {S : ss_T} {A l : ss_R} {W : Nat → ss_R} {U : Nat → ss_T} {M : Nat → Option (ss_T × Option ss_R)} {aq : Option ss_R}
theorem lz_fr (h : lz_D I L R Y pf n da pe ev pr q c u A W l S U M aq) (hq : 58 ≤ q) (hF : tf_F I L R Y I' L' R' Y') (hn : ∀ x, R' 60 0 = some x → R 60 0 = some x ∨ Y.2.2 ≤ x) : lz_D I' L' R' Y' pf n da pe ev pr q c u A W l S U M aq := by
  obtain ⟨h1, h2, h3, h4, h5, h6, h7⟩ := h
  have z := ca_fr h1 h2 h3 h4 h5 h6 h7 hq hF
  have hT := h1.1.2
  have hN := h1.1.1.2.2.2
  have hcN := h2.1.1.2.2.2.1
  obtain ⟨fI, fL, fR, fN, fY⟩ := hF
  have r : ∀ x k, (x = 62 ∨ x = 41 ∨ x = 46) → R' x k = R x k := fun x k hx => fR x k (by omega) (fun h => by unfold tf_R at h; omega)
  refine ⟨z.2.1, z.2.2.1, z.2.2.2.1, z.2.2.2.2.1, z.2.2.2.2.2, fun x hx hs => h6 x hx ?_, h7.1, h7.2.1, fun e => ?_⟩
  · unfold qs_S at hs ⊢
    rcases hs with w | w | w | w | w | w
    · exact Or.inl w
    · exact Or.inr (Or.inl w)
    · rcases hn x w with y | y
      · exact Or.inr (Or.inr (Or.inl y))
      · have := (hT x hx).2.1; omega
    · rw [r 62 0 (by omega)] at w
      exact Or.inr (Or.inr (Or.inr (Or.inl w)))
    · rw [r 41 0 (by omega)] at w
      exact Or.inr (Or.inr (Or.inr (Or.inr (Or.inl w))))
    · rw [r 46 1 (by omega)] at w
      exact Or.inr (Or.inr (Or.inr (Or.inr (Or.inr w))))
  · rcases hn c e with y | y
    · exact h7.2.2 y
    · omega
theorem fr_S_a {f : Nat} {r : ss_R} (h : fr_S I L R Y pf n f r) (hR : ∀ x, R' x 0 = R x 0) : fr_S I L R' Y pf n f r := by
  obtain ⟨c, h1, h2⟩ := h
  exact ⟨c, rw_S_t h1 rfl (hR f) (Nat.le_refl _) (fun _ _ => ⟨rfl, rfl⟩), h2⟩
theorem sc_S_a (h : sc_S I L R Y pf n da pe pr p S) (hR : ∀ x k, ¬ k = 5 → R' x k = R x k) (h1 : ∀ i, i < 12 → R' (p + 1) i = R (p + 1) i) (ht : S.1.1 ≤ 12) : sc_S I L R' Y pf n da pe pr p S := by
  obtain ⟨a1, a2, a3, a4, a5, a6⟩ := h
  refine ⟨sy_T_t a1 (fun k hk => hR p k (by omega)) (Nat.le_refl _) (fun _ _ => ⟨rfl, rfl⟩), a2, a3, fun i hi => ?_, a5, a6⟩
  obtain ⟨y, y1, z, z5, f, z6, z7⟩ := a4 i hi
  exact ⟨y, (h1 i (by omega)).trans y1, z, z5, f, (hR y 3 (by omega)).trans z6, fr_S_a z7 (fun x => hR x 0 (by omega))⟩
/-- another row is asked -/
theorem lz_ask {f c2 : Nat} {r : ss_R} (h : lz_D I L R Y pf n da pe ev pr q c u A W l S U M aq) (ht : S.1.1 ≤ 12) (hR5 : R' 50 5 = some f) (hR : ∀ x k, ¬ (x = 50 ∧ k = 5) → R' x k = R x k) (hf : rw_S I R Y f c2 n) (hr : ∀ k, k < n → L c2 k = r k) (hn : ¬ qs_S R f ∧ ¬ qs_S R c2) (hk : ¬ f = 58 ∧ ¬ c2 = c ∧ ¬ f = c) : ∃ pf', (∀ x, pf x = true → pf' x = true) ∧ lz_D I L R' Y pf' n da pe ev pr q c u A W l S U M (some r) := by
  obtain ⟨h1, h2, h3, h4, h5, h6, h7⟩ := h
  have hA := h1.1.1
  have k58 : Y.1 58 = 5 := at_k hA (j := 11) rfl
  have k60 : Y.1 60 = 5 := at_k hA (j := 12) rfl
  have k50 : Y.1 50 = 9 := at_k hA (j := 10) rfl
  have k51 : Y.1 51 = 26 := at_nk hA (j := 12) rfl
  obtain ⟨⟨f1, f2, f3, f4, f5, f6⟩, f7, f8, f9, f10⟩ := id hf
  have hm : ∀ x, pf x = true → (pf x || (Nat.beq x f || Nat.beq x c2)) = true := fun x hx => by rw [hx]; rfl
  have hT' : pf_T (fun x => pf x || (Nat.beq x f || Nat.beq x c2)) Y := fun x hx => by
    have hx : (pf x || (Nat.beq x f || Nat.beq x c2)) = true := hx
    rw [Bool.or_eq_true, Bool.or_eq_true] at hx
    rcases hx with hx | hx | hx
    · exact h1.1.2 x hx
    · rw [Nat.eq_of_beq_eq_true hx]; exact ⟨f1, f3, Or.inl f5⟩
    · rw [Nat.eq_of_beq_eq_true hx]; exact ⟨f2, f4, Or.inr (Or.inr f6)⟩
  have nb : ∀ x, pf x = false → ¬ x = f → ¬ x = c2 → (pf x || (Nat.beq x f || Nat.beq x c2)) = false := fun x hx e1 e2 => by
    rw [hx]
    cases b1 : Nat.beq x f with
    | true => exact absurd (Nat.eq_of_beq_eq_true b1) e1
    | false =>
      cases b2 : Nat.beq x c2 with
      | true => exact absurd (Nat.eq_of_beq_eq_true b2) e2
      | false => rfl
  have q60 := (qs_n hn.1).2.1
  have n58 := nb 58 h1.2.2.2.2.2.1 (fun e => hk.1 e.symm) (fun e => by rw [← e] at f6; omega)
  have n60 := nb 60 h1.2.2.2.2.2.2 (fun e => q60.2.2.2.1 e.symm) (fun e => by rw [← e] at f6; omega)
  have hRk : ∀ x k, ¬ k = 5 → R' x k = R x k := fun x k h => hR x k (by omega)
  have hqs : ∀ x, qs_S R' x → qs_S R x := fun x h => by
    unfold qs_S at h ⊢
    rw [hR 60 0 (by omega), hR 62 0 (by omega), hR 41 0 (by omega), hR 46 1 (by omega)] at h
    exact h
  have hWm := ca_W_m h1 hm hT' ⟨n58, n60⟩
  refine ⟨_, hm, ?_, ?_, ?_, ?_, ?_, ?_, h7.1, h7.2.1, ?_⟩
  · obtain ⟨⟨a1, a2⟩, ⟨b1, b2⟩, c1, c2', c3, c4⟩ := hWm
    refine ⟨⟨at_T_t a1 (fun x hx => ?_) (Nat.le_refl _) (fun _ _ => ⟨rfl, rfl⟩), a2⟩, ⟨(hR 10 16 (by omega)).trans b1, b2⟩, c1, fr_S_a c2' (fun x => hRk x 0 (by omega)), fun d x e hd hx he => (c3 d x e hd hx he).imp (fun g ⟨g1, g2⟩ => ⟨(hR 39 _ (by omega)).trans g1, fr_S_a g2 (fun x => hRk x 0 (by omega))⟩), c4⟩
    have b : ∀ x ∈ at_L, ¬ (x.1 = 50 ∧ x.2.1 = 5) := by decide
    exact hR _ _ (b x hx)
  · exact ⟨rw_S_t h2.1 rfl (hRk 58 0 (by omega)) (Nat.le_refl _) (fun _ _ => ⟨rfl, rfl⟩), h2.2.1, nb c h2.2.2 (fun e => hk.2.2 e.symm) (fun e => hk.2.1 e.symm)⟩
  · exact sc_S_a (sc_S_m h3 hm) hRk (fun i hi => hR 51 i (by omega)) ht
  · obtain ⟨⟨ps, g1, g2, g3, g4, g5⟩, m1, m2⟩ := ck_P_m h4 hm
    have s51 : ∀ pb, 110 ≤ pb → ∀ i, R' (pb + 1) i = R (pb + 1) i := fun pb h i => hR _ i (by omega)
    have sct : ∀ pb Sx, 110 ≤ pb → sc_S I L R Y (fun x => pf x || (Nat.beq x f || Nat.beq x c2)) n da pe pr pb Sx → sc_S I L R' Y (fun x => pf x || (Nat.beq x f || Nat.beq x c2)) n da pe pr pb Sx := fun pb Sx hp hs => by
      obtain ⟨a1, a2, a3, a4, a5, a6⟩ := hs
      refine ⟨sy_T_t a1 (fun k hk => hR pb k (by omega)) (Nat.le_refl _) (fun _ _ => ⟨rfl, rfl⟩), a2, a3, fun i hi => ?_, a5, a6⟩
      obtain ⟨y, y1, z, z5, g, z6, z7⟩ := a4 i hi
      exact ⟨y, (s51 pb hp i).trans y1, z, z5, g, (hRk y 3 (by omega)).trans z6, fr_S_a z7 (fun x => hRk x 0 (by omega))⟩
    refine ⟨⟨ps, g1, g2, g3, g4, fun j hj => ?_⟩, fun i hi p hp => ?_, fun m hm' => ?_⟩
    · obtain ⟨p, p1, p2⟩ := g5 j hj
      exact ⟨p, (hR 56 _ (by omega)).trans p1, sct p _ (m1 ((ps + j) % 16) (Nat.mod_lt _ (by omega)) p p1).2.1 p2⟩
    · rw [hR 56 i (by omega)] at hp
      have z := m1 i hi p hp
      exact ⟨sy_T_t z.1 (fun k hk => hR p k (by omega)) (Nat.le_refl _) (fun _ _ => ⟨rfl, rfl⟩), z.2.1, fun i' hi' h' => z.2.2.1 i' hi' (by rw [hR 56 i' (by omega)] at h'; exact h'), fun m hm h' => z.2.2.2 m hm (by rw [hR 57 m (by omega)] at h'; exact h')⟩
    · rcases m2 m hm' with ⟨z1, z2⟩ | ⟨p, Sm, am, z1, z2, z3, z4, z5, z6⟩
      · exact Or.inl ⟨z1, (hR 57 m (by omega)).trans z2⟩
      · refine Or.inr ⟨p, Sm, am, z1, (hR 57 m (by omega)).trans z2, z3, sct p _ z3 z4, ?_, fun m' hm' h' => z6 m' hm' (by rw [hR 57 m' (by omega)] at h'; exact h')⟩
        rcases z5 with ⟨w1, w2⟩ | ⟨r2, g, w1, w2, w3⟩
        · exact Or.inl ⟨w1, (hR p 5 (by omega)).trans w2⟩
        · exact Or.inr ⟨r2, g, w1, (hR p 5 (by omega)).trans w2, fr_S_a w3 (fun x => hRk x 0 (by omega))⟩
  · exact Or.inr ⟨r, f, rfl, hR5, c2, rw_S_t hf rfl (hRk f 0 (by omega)) (Nat.le_refl _) (fun _ _ => ⟨rfl, rfl⟩), hr, (by show (pf f || (Nat.beq f f || Nat.beq f c2)) = true; rw [Nat.beq_refl]; simp), (by show (pf c2 || (Nat.beq c2 f || Nat.beq c2 c2)) = true; rw [Nat.beq_refl]; simp)⟩
  · intro x hx
    have hx : (pf x || (Nat.beq x f || Nat.beq x c2)) = true := hx
    rw [Bool.or_eq_true, Bool.or_eq_true] at hx
    rcases hx with hx | hx | hx
    · exact fun hs => h6 x hx (hqs x hs)
    · rw [Nat.eq_of_beq_eq_true hx]; exact fun hs => hn.1 (hqs f hs)
    · rw [Nat.eq_of_beq_eq_true hx]; exact fun hs => hn.2 (hqs c2 hs)
  · rw [hR 60 0 (by omega)]
    exact h7.2.2
end LZD
