/-! The class's state: the past's count; a mark laid. -/
section CAV
variable {I L I' L' : Nat → Nat → Int} {R R' : Nat → Nat → Option Nat} {Y Y' : (Nat → Nat) × (Nat → Nat) × Nat} {pf pf' : Nat → Bool} {n da pe ev pr q c p s u u' x d : Nat} {S : ss_T} {A l : ss_R} {W : Nat → ss_R} {U U' : Nat → ss_T} {M : Nat → Option (ss_T × Option ss_R)} {aq : Option ss_R}
/-- a story that is now what another was, but for what is asked -/
theorem sc_S_e (h : sc_S I L R Y pf n da pe pr s S) (hk : pf_K I L R Y pf I' L' R' Y' pf') (hT : sy_T R' Y' p) (d1 : I' p 6 = I s 6 ∧ I' p 7 = I s 7 ∧ I' p 8 = I s 8) (d5 : ∀ k, k < 12 → R' (p + 1) k = R (s + 1) k) (d6 : ∀ k, k < 5 → I' (p + 2) k = I (s + 2) k) (d7 : ∀ k, k < 24 → I' (p + 3) k = I (s + 3) k) (d8 : ∀ k, k < 20 → I' (p + 4) k = I (s + 4) k ∧ I' (p + 5) k = I (s + 5) k) (b : da ≤ 6 ∧ pe ≤ 4 ∧ pr ≤ 5 ∧ S.1.1 ≤ 12 ∧ S.1.2.2 ≤ 20) : sc_S I' L' R' Y' pf' n da pe pr p S := by
  obtain ⟨h1, ⟨a1, a2, a3⟩, h2, h3, h4, h5⟩ := h
  refine ⟨hT, ⟨d1.1.trans a1, d1.2.1.trans a2, d1.2.2.trans a3⟩, fun j hj => (d6 j (by omega)).trans (h2 j hj), fun i hi => ?_, fun d q hd hq => (d7 _ (by omega)).trans (h4 d q hd hq), fun i hi => ⟨(d8 i (by omega)).1.trans (h5 i hi).1, (d8 i (by omega)).2.trans (h5 i hi).2⟩⟩
  obtain ⟨y, e1, e2⟩ := h3 i hi
  exact ⟨y, (d5 i (by omega)).trans e1, sy_S_t e2 hk⟩
/-- the past's numbers change, nothing else -/
theorem ca_10 (hW : ca_W I L R Y pf n da pe ev q A W) (hL : ca_L I L R Y pf n c l) (h50 : sc_S I L R Y pf n da pe pr 50 S) (ha : sa_A I L R Y pf n 50 aq) (f : ∀ x k, ¬ (x = 10 ∧ (k = 17 ∨ k = 18)) → I' x k = I x k) : pf_K I L R Y pf I' L R Y pf ∧ ca_W I' L R Y pf n da pe ev q A W ∧ ca_L I' L R Y pf n c l ∧ sc_S I' L R Y pf n da pe pr 50 S ∧ sa_A I' L R Y pf n 50 aq := by
  have hA := hW.1.1
  have hpf := hW.1.2
  have hK : pf_K I L R Y pf I' L R Y pf := ⟨fun x k hx => ⟨f x k (by have := pf_at hpf hA hx; omega), rfl, rfl⟩, fun _ h => h, Nat.le_refl _, fun _ _ => ⟨rfl, rfl⟩⟩
  have e0 := at_k hA (j := 0) rfl
  have b4 := hW.2.1.2.2.2.1
  have nq : ¬ q = 10 := fun e => by subst e; omega
  exact ⟨hK, ca_W_t hW hK (fun _ _ => rfl) rfl (fun k => f q k (by omega)) (fun _ => rfl), ca_L_t hL (f 58 1 (by omega)) rfl (fun _ => rfl) (Nat.le_refl _) (fun _ _ => ⟨rfl, rfl⟩), sc_S_t h50 hK (fun x k h1 h2 => ⟨f x k (by omega), rfl⟩), sa_A_t ha hK rfl⟩
theorem ck_P_u {ps' : Nat} (hP : ck_P I L R Y pf n da pe pr u U M) (hK : pf_K I L R Y pf I' L R Y pf) (f : ∀ x k, ¬ (x = 10 ∧ (k = 17 ∨ k = 18)) → I' x k = I x k) (e17 : I' 10 17 = (ps' : Int)) (hps : ps' < 16) (e18 : I' 10 18 = (u' : Int)) (hu : u' ≤ 16) (hc : u' = 0 ∨ (u' ≤ u ∧ I' 10 17 = I 10 17)) : ck_P I' L R Y pf n da pe pr u' U M := by
  obtain ⟨⟨ps, g1, g2, g3, g4, g5⟩, m1, m2⟩ := hP
  have rg : ∀ p, 110 ≤ p → ∀ x k, p ≤ x → x ≤ p + 5 → I' x k = I x k ∧ R x k = R x k := fun p h x k h1 h2 => ⟨f x k (by omega), rfl⟩
  refine ⟨⟨ps', e17, hps, e18, hu, fun j hj => ?_⟩, m1, fun m hm => ?_⟩
  · rcases hc with hc | hc
    · omega
    · obtain ⟨p, p1, p2⟩ := g5 j (by omega)
      have e : ps' = ps := by omega
      subst e
      exact ⟨p, p1, sc_S_t p2 hK (rg p (m1 _ (Nat.mod_lt _ (by omega)) p p1).2.1)⟩
  · rcases m2 m hm with z | ⟨p, Sm, am, z1, z2, z3, z4, z5, z6⟩
    · exact Or.inl z
    · exact Or.inr ⟨p, Sm, am, z1, z2, z3, sc_S_t z4 hK (rg p z3), sa_A_t z5 hK rfl, z6⟩
/-- one mark is laid -/
def ms_p (M : Nat → Option (ss_T × Option ss_R)) (x : Nat) (S : ss_T) (aq : Option ss_R) : Nat → Option (ss_T × Option ss_R) := fun m => if m = x then some (S, aq) else M m
theorem ck_P_mk {pb : Nat} (hx : x < 4) (hb : da ≤ 6 ∧ pe ≤ 4 ∧ pr ≤ 5 ∧ S.1.1 ≤ 12 ∧ S.1.2.2 ≤ 20) (hA : at_T R Y) (h : ck_P I L R Y pf n da pe pr u U M) (h50 : sc_S I L R Y pf n da pe pr 50 S) (ha : sa_A I L R Y pf n 50 aq) (hk : pf_K I L R Y pf I' L' R' Y' pf) (r1 : R' 57 x = some pb) (r2 : sy_T R' Y' pb) (r3 : sy_D I R I' R' pb 50) (r4 : (R 57 x = some pb ∧ Y' = Y) ∨ (R 57 x = none ∧ pb = Y.2.2 ∧ Y'.2.2 = Y.2.2 + 6)) (r7 : ∀ z k, z < Y.2.2 → ¬ (pb ≤ z ∧ z ≤ pb + 5) → I' z k = I z k ∧ (¬ (z = 57 ∧ k = x) → R' z k = R z k)) : ck_P I' L' R' Y' pf n da pe pr u U (ms_p M x S aq) := by
  obtain ⟨⟨ps, f1, f2, f3, f4, f5⟩, g1, g2⟩ := h
  have hn := hA.2.2.2
  have hN := hk.2.2.1
  have pbo : R 57 x = some pb → 110 ≤ pb ∧ sy_T R Y pb := fun a => by
    rcases g2 x hx with ⟨-, z⟩ | ⟨p', Sm, am, -, z, z3, z4, -, -⟩
    · rw [z] at a; cases a
    · rw [z] at a; cases a; exact ⟨z3, z4.1⟩
  have pb110 : 110 ≤ pb := by
    rcases r4 with ⟨a, -⟩ | ⟨-, a, -⟩
    · exact (pbo a).1
    · omega
  have s56 : ∀ i, R' 56 i = R 56 i := fun i => (r7 56 i (by omega) (by omega)).2 (by omega)
  have s57 : ∀ m, ¬ m = x → R' 57 m = R 57 m := fun m hm => (r7 57 m (by omega) (by omega)).2 (by omega)
  have nb : ∀ i, i < 16 → ∀ p, R 56 i = some p → ¬ p = pb := by
    intro i hi p hp e
    subst e
    have z := g1 i hi p hp
    rcases r4 with ⟨a, -⟩ | ⟨-, a, -⟩
    · exact z.2.2.2 x hx a
    · have := z.1.1.2.1
      omega
  have nm : ∀ m, m < 4 → ¬ m = x → ∀ p, R 57 m = some p → ¬ p = pb := by
    intro m hm hne p hp e
    subst e
    rcases g2 m hm with ⟨-, z⟩ | ⟨p', Sm, am, -, z, -, z4, -, z6⟩
    · rw [z] at hp; cases hp
    · rw [z] at hp
      cases hp
      rcases r4 with ⟨a, -⟩ | ⟨-, a, -⟩
      · exact hne (z6 x hx a).symm
      · have := z4.1.1.2.1
        omega
  have reg : ∀ p, sy_T R Y p → 110 ≤ p → ¬ p = pb → ∀ z k, p ≤ z → z ≤ p + 5 → I' z k = I z k ∧ R' z k = R z k := by
    intro p hp h110 hne z k h1 h2
    have hz : z < Y.2.2 := by have := hp.1.2.1; omega
    have hd : ¬ (pb ≤ z ∧ z ≤ pb + 5) := by
      rcases r4 with ⟨a, -⟩ | ⟨-, a, -⟩
      · have := sy_T_dis hp (pbo a).2 hne
        omega
      · omega
    exact ⟨(r7 z k hz hd).1, (r7 z k hz hd).2 (by omega)⟩
  refine ⟨⟨ps, ((r7 10 17 (by omega) (by omega)).1).trans f1, f2, ((r7 10 18 (by omega) (by omega)).1).trans f3, f4, fun j hj => ?_⟩, fun i hi p hp => ?_, fun m hm => ?_⟩
  · obtain ⟨p, p1, p2⟩ := f5 j hj
    have hi : (ps + j) % 16 < 16 := Nat.mod_lt _ (by omega)
    have z := g1 _ hi p p1
    exact ⟨p, (s56 _).trans p1, sc_S_t p2 hk (reg p z.1 z.2.1 (nb _ hi p p1))⟩
  · rw [s56] at hp
    have z := g1 i hi p hp
    have hne := nb i hi p hp
    refine ⟨sy_T_t z.1 (fun k _ => (reg p z.1 z.2.1 hne p k (by omega) (by omega)).2) hN hk.2.2.2, z.2.1, fun i' hi' h' => z.2.2.1 i' hi' (by rw [s56] at h'; exact h'), fun m hm h' => ?_⟩
    by_cases e : m = x
    · rw [e, r1] at h'
      exact hne (Option.some.inj h').symm
    · rw [s57 m e] at h'
      exact z.2.2.2 m hm h'
  · unfold ms_p
    by_cases e : m = x
    · subst e
      rw [if_pos rfl]
      refine Or.inr ⟨pb, S, aq, rfl, r1, pb110, sc_S_d h50 hk r2 r3 hb, sa_A_d ha hk r3.1.2.2.2, fun m' hm' h' => ?_⟩
      by_cases e : m' = m
      · exact e
      · rw [s57 m' e] at h'
        exact absurd rfl (nm m' hm' e pb h')
    · rw [if_neg e]
      rcases g2 m hm with ⟨z1, z2⟩ | ⟨p, Sm, am, z1, z2, z3, z4, z5, z6⟩
      · exact Or.inl ⟨z1, (s57 m e).trans z2⟩
      · have hne := nm m hm e p z2
        have rg := reg p z4.1 z3 hne
        refine Or.inr ⟨p, Sm, am, z1, (s57 m e).trans z2, z3, sc_S_t z4 hk rg, sa_A_t z5 hk (rg p 5 (by omega) (by omega)).2, fun m' hm' h' => ?_⟩
        by_cases e' : m' = x
        · rw [e', r1] at h'
          exact absurd (Option.some.inj h').symm hne
        · rw [s57 m' e'] at h'
          exact z6 m' hm' h'
end CAV
