/-! The class's whole state, and how a story that is remembered changes it. -/
/-- the land's head, the worlds' rows -/
def ca_W (I L : Nat → Nat → Int) (R : Nat → Nat → Option Nat) (Y : (Nat → Nat) × (Nat → Nat) × Nat) (pf : Nat → Bool) (n da pe ev q : Nat) (A : ss_R) (W : Nat → ss_R) : Prop := (at_T R Y ∧ pf_T pf Y) ∧ (R 10 16 = some q ∧ 10 ≤ q ∧ q < Y.2.2 ∧ Y.1 q = 3 ∧ I q 14 = (da : Int) ∧ I q 15 = (pe : Int) ∧ I q 16 = (ev : Int)) ∧ ((da ≤ 6 ∧ pe ≤ 4 ∧ ev ≤ 4) ∧ 1 ≤ n) ∧ fr_S I L R Y pf n 35 A ∧ (∀ d x e, d < da → x < pe → e < ev → ∃ f, R 39 (16 * d + 4 * x + e) = some f ∧ fr_S I L R Y pf n f (W (ev * (pe * d + x) + e))) ∧ (pf 58 = false ∧ pf 60 = false)
/-- what is left -/
def ca_L (I L : Nat → Nat → Int) (R : Nat → Nat → Option Nat) (Y : (Nat → Nat) × (Nat → Nat) × Nat) (pf : Nat → Bool) (n c : Nat) (l : ss_R) : Prop := rw_S I R Y 58 c n ∧ (∀ k, k < n → L c k = l k) ∧ pf c = false
/-- stories that are past, marks -/
def ck_P (I L : Nat → Nat → Int) (R : Nat → Nat → Option Nat) (Y : (Nat → Nat) × (Nat → Nat) × Nat) (pf : Nat → Bool) (n da pe pr u : Nat) (U : Nat → ss_T) (M : Nat → Option (ss_T × Option ss_R)) : Prop := (∃ ps : Nat, I 10 17 = (ps : Int) ∧ ps < 16 ∧ I 10 18 = (u : Int) ∧ u ≤ 16 ∧ ∀ j, j < u → ∃ pb, R 56 ((ps + j) % 16) = some pb ∧ sc_S I L R Y pf n da pe pr pb (U j)) ∧ (∀ i, i < 16 → ∀ pb, R 56 i = some pb → sy_T R Y pb ∧ 110 ≤ pb ∧ (∀ i', i' < 16 → R 56 i' = some pb → i' = i) ∧ ∀ m, m < 4 → ¬ R 57 m = some pb) ∧ (∀ m, m < 4 → (M m = none ∧ R 57 m = none) ∨ ∃ pb Sm am, M m = some (Sm, am) ∧ R 57 m = some pb ∧ 110 ≤ pb ∧ sc_S I L R Y pf n da pe pr pb Sm ∧ sa_A I L R Y pf n pb am ∧ ∀ m', m' < 4 → R 57 m' = some pb → m' = m)
section CAS
variable {I L I' L' : Nat → Nat → Int} {R R' : Nat → Nat → Option Nat} {Y Y' : (Nat → Nat) × (Nat → Nat) × Nat} {pf pf' : Nat → Bool} {n da pe ev pr q c p u : Nat} {S : ss_T} {A l : ss_R} {W : Nat → ss_R} {U : Nat → ss_T} {M : Nat → Option (ss_T × Option ss_R)} {aq : Option ss_R}
theorem ca_W_t (h : ca_W I L R Y pf n da pe ev q A W) (hk : pf_K I L R Y pf I' L' R' Y' pf) (hA : ∀ x ∈ at_L, R' x.1 x.2.1 = R x.1 x.2.1) (h16 : R' 10 16 = R 10 16) (hq : ∀ k, I' q k = I q k) (h39 : ∀ k, R' 39 k = R 39 k) : ca_W I' L' R' Y' pf n da pe ev q A W := by
  obtain ⟨⟨a1, a2⟩, ⟨b1, b2, b3, b4, b5, b6, b7⟩, c1, c2, c3, c4⟩ := h
  refine ⟨⟨at_T_t a1 hA hk.2.2.1 hk.2.2.2, fun x hx => ?_⟩, ⟨h16.trans b1, b2, by have := hk.2.2.1; omega, (hk.2.2.2 q b3).1.trans b4, (hq 14).trans b5, (hq 15).trans b6, (hq 16).trans b7⟩, c1, fr_S_t c2 hk, fun d x e hd hx he => ?_, c4⟩
  · have z := a2 x hx
    have y := hk.2.2.2 x z.2.1
    have := hk.2.2.1
    rw [y.1]
    exact ⟨z.1, by omega, z.2.2⟩
  · obtain ⟨f, e1, e2⟩ := c3 d x e hd hx he
    exact ⟨f, (h39 _).trans e1, fr_S_t e2 hk⟩
/-- at remember: the past has one story more -/
theorem ck_P_rem {ps at0 pb : Nat} (hb : da ≤ 6 ∧ pe ≤ 4 ∧ pr ≤ 5 ∧ S.1.1 ≤ 12 ∧ S.1.2.2 ≤ 20) (hpf : pf_T pf Y) (hA : at_T R Y) (h : ck_P I L R Y pf n da pe pr u U M) (h50 : sc_S I L R Y pf n da pe pr 50 S) (e17 : I 10 17 = (ps : Int)) (hat : at0 = (ps + u) % 16) (hk : pf_K I L R Y pf I' L' R' Y' pf) (r1 : R' 56 at0 = some pb) (r2 : sy_T R' Y' pb) (r3 : sy_D I R I' R' pb 50) (r4 : (R 56 at0 = some pb ∧ Y' = Y) ∨ (R 56 at0 = none ∧ pb = Y.2.2 ∧ Y'.2.2 = Y.2.2 + 6)) (r5 : I' 10 18 = (if u < 16 then (u : Int) + 1 else 16)) (r6 : I' 10 17 = (if u < 16 then (ps : Int) else ((ps : Int) + 1) % 16)) (r7 : ∀ x k, x < Y.2.2 → ¬ (pb ≤ x ∧ x ≤ pb + 5) → (¬ (x = 10 ∧ (k = 17 ∨ k = 18)) → I' x k = I x k) ∧ (¬ (x = 56 ∧ k = at0) → R' x k = R x k)) : ck_P I' L' R' Y' pf n da pe pr (us_n u) (us_p u U S) M := by
  obtain ⟨⟨ps', f1, f2, f3, f4, f5⟩, g1, g2⟩ := h
  have hps : ps' = ps := by omega
  subst hps
  have hn := hA.2.2.2
  have hN := hk.2.2.1
  have kp56 : Y.1 56 = 25 := at_nk hA (j := 17) rfl
  have kp57 : Y.1 57 = 25 := at_nk hA (j := 18) rfl
  have pb110 : 110 ≤ pb := by
    rcases r4 with ⟨a, -⟩ | ⟨-, a, -⟩
    · exact (g1 at0 (by omega) pb a).2.1
    · omega
  -- other slots of 56, and 57, are as they were
  have s56 : ∀ i, ¬ i = at0 → R' 56 i = R 56 i := fun i hi => (r7 56 i (by omega) (by omega)).2 (by omega)
  have s57 : ∀ m, R' 57 m = R 57 m := fun m => (r7 57 m (by omega) (by omega)).2 (by omega)
  -- another story that stands: not at pb
  have nb : ∀ i, i < 16 → ¬ i = at0 → ∀ p, R 56 i = some p → ¬ p = pb := by
    intro i hi hne p hp e
    subst e
    rcases r4 with ⟨a, -⟩ | ⟨-, a, -⟩
    · exact hne ((g1 at0 (by omega) p a).2.2.1 i hi hp)
    · have := (g1 i hi p hp).1.1.2.1
      omega
  have nm : ∀ m, m < 4 → ∀ p, R 57 m = some p → ¬ p = pb := by
    intro m hm p hp e
    subst e
    rcases r4 with ⟨a, -⟩ | ⟨-, a, -⟩
    · exact (g1 at0 (by omega) p a).2.2.2 m hm hp
    · rcases g2 m hm with ⟨-, z⟩ | ⟨p', Sm, am, -, z, -, z2, -⟩
      · rw [z] at hp; cases hp
      · rw [z] at hp
        cases hp
        have := z2.1.1.2.1
        omega
  have reg : ∀ p, sy_T R Y p → 110 ≤ p → ¬ p = pb → ∀ x k, p ≤ x → x ≤ p + 5 → I' x k = I x k ∧ R' x k = R x k := by
    intro p hp h110 hne x k h1 h2
    have hx : x < Y.2.2 := by have := hp.1.2.1; omega
    have hd : ¬ (pb ≤ x ∧ x ≤ pb + 5) := by
      rcases r4 with ⟨a, -⟩ | ⟨-, a, -⟩
      · have := sy_T_dis hp (g1 at0 (by omega) pb a).1 hne
        omega
      · omega
    exact ⟨(r7 x k hx hd).1 (by omega), (r7 x k hx hd).2 (by omega)⟩
  have hold : ∀ i, i < 16 → ¬ i = at0 → ∀ p T, R 56 i = some p → sc_S I L R Y pf n da pe pr p T → R' 56 i = some p ∧ sc_S I' L' R' Y' pf n da pe pr p T := by
    intro i hi hne p T hp hs
    exact ⟨(s56 i hne).trans hp, sc_S_t hs hk (reg p (g1 i hi p hp).1 (g1 i hi p hp).2.1 (nb i hi hne p hp))⟩
  have hnew : sc_S I' L' R' Y' pf n da pe pr pb S := sc_S_d h50 hk r2 r3 hb
  refine ⟨?_, fun i hi p hp => ?_, fun m hm => ?_⟩
  · unfold us_n us_p
    by_cases c : u < 16
    · rw [if_pos c] at r5 r6
      refine ⟨ps', r6, f2, by rw [if_pos c]; omega, by rw [if_pos c]; omega, fun j hj => ?_⟩
      rw [if_pos c] at hj
      rw [if_pos c]
      by_cases e : j = u
      · rw [if_pos e]
        exact ⟨pb, by rw [show (ps' + j) % 16 = at0 by omega]; exact r1, hnew⟩
      · rw [if_neg e]
        obtain ⟨p, p1, p2⟩ := f5 j (by omega)
        have z := hold _ (Nat.mod_lt _ (by omega)) (by omega) p _ p1 p2
        exact ⟨p, z.1, z.2⟩
    · rw [if_neg c] at r5 r6
      refine ⟨(ps' + 1) % 16, by rw [r6]; omega, Nat.mod_lt _ (by omega), by rw [if_neg c]; omega, by rw [if_neg c]; omega, fun j hj => ?_⟩
      rw [if_neg c] at hj
      rw [if_neg c]
      by_cases e : j < 15
      · rw [if_pos e]
        obtain ⟨p, p1, p2⟩ := f5 (j + 1) (by omega)
        have z := hold _ (Nat.mod_lt _ (by omega)) (by omega) p _ p1 p2
        refine ⟨p, ?_, z.2⟩
        rw [show ((ps' + 1) % 16 + j) % 16 = (ps' + (j + 1)) % 16 by omega]
        exact z.1
      · rw [if_neg e]
        exact ⟨pb, by rw [show ((ps' + 1) % 16 + j) % 16 = at0 by omega]; exact r1, hnew⟩
  · by_cases e : i = at0
    · subst e
      rw [r1] at hp
      cases hp
      refine ⟨r2, pb110, fun i' hi' h' => ?_, fun m hm h' => ?_⟩
      · by_cases e : i' = i
        · exact e
        · rw [s56 i' e] at h'
          exact absurd rfl (nb i' hi' e pb h')
      · rw [s57 m] at h'
        exact absurd rfl (nm m hm pb h')
    · rw [s56 i e] at hp
      have z := g1 i hi p hp
      have hne := nb i hi e p hp
      refine ⟨sy_T_t z.1 (fun k _ => (reg p z.1 z.2.1 hne p k (by omega) (by omega)).2) hN hk.2.2.2, z.2.1, fun i' hi' h' => ?_, fun m hm h' => ?_⟩
      · by_cases e' : i' = at0
        · subst e'
          rw [r1] at h'
          exact absurd (Option.some.inj h').symm hne
        · rw [s56 i' e'] at h'
          exact z.2.2.1 i' hi' h'
      · rw [s57 m] at h'
        exact z.2.2.2 m hm h'
  · rcases g2 m hm with ⟨z1, z2⟩ | ⟨p, Sm, am, z1, z2, z3, z4, z5, z6⟩
    · exact Or.inl ⟨z1, (s57 m).trans z2⟩
    · have hne := nm m hm p z2
      have rg := reg p z4.1 z3 hne
      exact Or.inr ⟨p, Sm, am, z1, (s57 m).trans z2, z3, sc_S_t z4 hk rg, sa_A_t z5 hk (rg p 5 (by omega) (by omega)).2, fun m' hm' h' => z6 m' hm' (by rw [s57 m'] at h'; exact h')⟩
end CAS
