/-! The class's state: what is left, reckoned anew; a saying struck. -/
section CAU
variable {I L I' L' : Nat → Nat → Int} {R R' : Nat → Nat → Option Nat} {Y Y' : (Nat → Nat) × (Nat → Nat) × Nat} {pf : Nat → Bool} {n da pe ev pr q c p u d x : Nat} {S : ss_T} {A l : ss_R} {W : Nat → ss_R} {U : Nat → ss_T} {M : Nat → Option (ss_T × Option ss_R)} {aq : Option ss_R}
/-- cells of what is left change, nothing else -/
theorem ca_58 (hW : ca_W I L R Y pf n da pe ev q A W) (hL : ca_L I L R Y pf n c l) (h50 : sc_S I L R Y pf n da pe pr 50 S) (hP : ck_P I L R Y pf n da pe pr u U M) (ha : sa_A I L R Y pf n 50 aq) (fI : ∀ x k, x < Y.2.2 → ¬ (x = 58 ∧ k = 1) → I' x k = I x k) (fR : ∀ x k, x < Y.2.2 → R' x k = R x k) (fL : ∀ x k, x < Y.2.2 → ¬ x = c → L' x k = L x k) : pf_K I L R Y pf I' L' R' Y pf ∧ ca_W I' L' R' Y pf n da pe ev q A W ∧ sc_S I' L' R' Y pf n da pe pr 50 S ∧ ck_P I' L' R' Y pf n da pe pr u U M ∧ sa_A I' L' R' Y pf n 50 aq := by
  have hA := hW.1.1
  have hpf := hW.1.2
  have hn := hA.2.2.2
  have p58 := hW.2.2.2.2.2.1
  have pc := hL.2.2
  have hK : pf_K I L R Y pf I' L' R' Y pf := by
    refine ⟨fun x k hx => ?_, fun _ h => h, Nat.le_refl _, fun _ _ => ⟨rfl, rfl⟩⟩
    have z := (hpf x hx).2.1
    refine ⟨fI x k z (fun h => ?_), fL x k z (fun h => ?_), fR x k z⟩
    · rw [h.1, p58] at hx; cases hx
    · rw [h, pc] at hx; cases hx
  have k58 : Y.1 58 = 5 := at_k hA (j := 11) rfl
  obtain ⟨-, ⟨b1, b2, b3, b4, -⟩, -⟩ := id hW
  have nq : ¬ q = 58 := fun e => by subst e; omega
  have rg : ∀ p, sy_T R Y p → ∀ x k, p ≤ x → x ≤ p + 5 → I' x k = I x k ∧ R' x k = R x k := fun p hp x k h1 h2 => by
    have hx : x < Y.2.2 := by have := hp.1.2.1; omega
    have h58 : ¬ (p ≤ 58 ∧ 58 ≤ p + 5) := sy_no hp (by omega)
    exact ⟨fI x k hx (by omega), fR x k hx⟩
  obtain ⟨⟨ps, g1, g2, g3, g4, g5⟩, m1, m2⟩ := hP
  refine ⟨hK, ca_W_t hW hK (fun x hx => ?_) (fR 10 16 (by omega)) (fun k => fI q k b3 (by omega)) (fun k => fR 39 k (by omega)), sc_S_t h50 hK (rg 50 h50.1), ⟨⟨ps, (fI 10 17 (by omega) (by omega)).trans g1, g2, (fI 10 18 (by omega) (by omega)).trans g3, g4, fun j hj => ?_⟩, fun i hi p hp => ?_, fun m hm => ?_⟩, sa_A_t ha hK (fR 50 5 (by omega))⟩
  · have b : ∀ x ∈ at_L, x.1 < 110 := by decide
    exact fR _ _ (by have := b x hx; omega)
  · obtain ⟨p, p1, p2⟩ := g5 j hj
    exact ⟨p, (fR 56 _ (by omega)).trans p1, sc_S_t p2 hK (rg p p2.1)⟩
  · rw [fR 56 i (by omega)] at hp
    have z := m1 i hi p hp
    exact ⟨sy_T_t z.1 (fun k _ => (rg p z.1 p k (by omega) (by omega)).2) (Nat.le_refl _) (fun _ _ => ⟨rfl, rfl⟩), z.2.1, fun i' hi' h' => z.2.2.1 i' hi' (by rw [fR 56 i' (by omega)] at h'; exact h'), fun m hm h' => z.2.2.2 m hm (by rw [fR 57 m (by omega)] at h'; exact h')⟩
  · rcases m2 m hm with ⟨z1, z2⟩ | ⟨p, Sm, am, z1, z2, z3, z4, z5, z6⟩
    · exact Or.inl ⟨z1, (fR 57 m (by omega)).trans z2⟩
    · exact Or.inr ⟨p, Sm, am, z1, (fR 57 m (by omega)).trans z2, z3, sc_S_t z4 hK (rg p z4.1), sa_A_t z5 hK (rg p z4.1 p 5 (by omega) (by omega)).2, fun m' hm' h' => z6 m' hm' (by rw [fR 57 m' (by omega)] at h'; exact h')⟩
/-- left, reckoned anew -/
theorem p_leftC (hW : ca_W I L R Y pf n da pe ev q A W) (hL : ca_L I L R Y pf n c l) (h50 : sc_S I L R Y pf n da pe pr 50 S) (hP : ck_P I L R Y pf n da pe pr u U M) (ha : sa_A I L R Y pf n 50 aq) (hb : S.1.1 ≤ 12) (hcb : ∀ k, k < da * pe → S.2.2.2.2.1 k = -1 ∨ (0 ≤ S.2.2.2.2.1 k ∧ S.2.2.2.2.1 k < ev)) : yi_P zi_Ms d 169 [.inr (.inr (some 10))] (I, L, R, Y) (fun r => ∃ I' L' R' Y' nc ns, r = (none, (I', L', R', Y'), nc, ns) ∧ ca_W I' L' R' Y' pf n da pe ev q A W ∧ ca_L I' L' R' Y' pf n c (lf (gd A W ev S.2.2.2.2.1 (da * pe)) S.2.2.1 S.1.1) ∧ sc_S I' L' R' Y' pf n da pe pr 50 S ∧ ck_P I' L' R' Y' pf n da pe pr u U M ∧ sa_A I' L' R' Y' pf n 50 aq) := by
  have hA := hW.1.1
  have hn := hA.2.2.2
  obtain ⟨-, ⟨h16, hq, hqN, hq3, hda, hpe, hev⟩, ⟨bld, hn1⟩, ⟨cl, hl1, hl2, hl3, hl4⟩, hwd, p58, -⟩ := id hW
  obtain ⟨hc1, hc2, hc3⟩ := id hL
  have ncl : ¬ c = cl := fun e => by rw [e, hl4] at hc3; cases hc3
  have hwd2 : wd_C I L R Y n da pe ev W 58 c := fun d x e hd hx he => by
    obtain ⟨f, e1, cf, e2, e3, e4, e5⟩ := hwd d x e hd hx he
    exact ⟨f, cf, e1, e2, e3, (fun h => by rw [h, p58] at e4; cases e4), (fun h => by rw [h, hc3] at e5; cases e5)⟩
  have hsg : sg_C I L R Y n 50 S.1.1 S.2.2.1 58 c := fun i hi => by
    obtain ⟨y, e1, ⟨y1, y2, y3, y4⟩, -, f, e2, cf, e3, e4, e5, e6⟩ := h50.2.2.2.1 i hi
    exact ⟨y, f, cf, e1, y1, y2, e2, e3, e4, (fun h => by rw [h, p58] at e5; cases e5), (fun h => by rw [h, hc3] at e6; cases e6)⟩
  refine (p_refreshLeft (cm := S.2.2.2.2.1) (rows := S.2.2.1) hA h16 hq hqN hda hpe hev bld ⟨hc1.1.2.1, hc1.1.2.2.2.1, hc1.1.2.2.2.2.2⟩ hc1.2.1 hl1 hl2 ncl hwd2 (fun d x hd hx => h50.2.2.2.2.1 d x hd hx) hcb hn1 h50.2.1.1 hb hsg).imp ?_
  rintro r ⟨I', L', R', Y', nc, ns, c', rfl, ⟨z1, z2, z3, z4⟩, hg, hf⟩
  rcases z4 with ⟨rfl, rfl, -⟩ | ⟨-, -, -, hlt⟩
  · have fR : ∀ x k, x < Y'.2.2 → R' x k = R x k := fun x k hx => by
      by_cases e : x = 58 ∧ k = 0
      · rw [e.1, e.2, z1.1, hc1.2.1]
      · exact (z2 x k hx).2 e
    have z := ca_58 hW hL h50 hP ha (fun x k hx h => (z2 x k hx).1 h) fR (fun x k hx h => hf x k hx (fun e => h e.1))
    exact ⟨I', L', R', Y', nc, ns, rfl, z.2.1, ⟨⟨hc1.1, z1.1, z1.2.1, z1.2.2.1, hc1.2.2.2.2⟩, hg, hc3⟩, z.2.2⟩
  · exact absurd hc1.2.2.2.1 (by omega)
/-- a saying is out -/
theorem sc_S_rm (h : sc_S I L R Y pf n da pe pr 50 S) (hK : pf_K I L R Y pf I' L R' Y pf) (hx : x < S.1.1) (e0 : I' 50 6 = (S.1.1 : Int) - 1) (e1 : ∀ k, x ≤ k → k < S.1.1 - 1 → R' 51 k = R 51 (k + 1)) (fI : ∀ q k, ¬ (q = 50 ∧ k = 6) → I' q k = I q k) (fR : ∀ q k, ¬ (q = 51 ∧ x ≤ k ∧ k < S.1.1 - 1) → R' q k = R q k) : sc_S I' L R' Y pf n da pe pr 50 (ss_rm S x) := by
  obtain ⟨h1, ⟨a1, a2, a3⟩, h2, h3, h4, h5⟩ := h
  refine ⟨sy_T_t h1 (fun k _ => fR 50 k (by omega)) (Nat.le_refl _) (fun _ _ => ⟨rfl, rfl⟩), ⟨?_, (fI 50 7 (by omega)).trans a2, (fI 50 8 (by omega)).trans a3⟩, fun j hj => (fI 52 j (by omega)).trans (h2 j hj), fun i hi => ?_, fun d q hd hq => (fI 53 _ (by omega)).trans (h4 d q hd hq), fun i hi => ⟨(fI 54 i (by omega)).trans (h5 i hi).1, (fI 55 i (by omega)).trans (h5 i hi).2⟩⟩
  · show I' 50 6 = ((S.1.1 - 1 : Nat) : Int)
    rw [e0]
    omega
  · have hi : i < S.1.1 - 1 := hi
    show ∃ y, R' 51 i = some y ∧ sy_S I' L R' Y pf n y (if i < x then S.2.1 i else S.2.1 (i + 1)) ((if i < x then S.2.2.1 i else S.2.2.1 (i + 1)))
    by_cases c : i < x
    · rw [if_pos c, if_pos c]
      obtain ⟨y, z1, z2⟩ := h3 i (by omega)
      exact ⟨y, (fR 51 i (by omega)).trans z1, sy_S_t z2 hK⟩
    · rw [if_neg c, if_neg c]
      obtain ⟨y, z1, z2⟩ := h3 (i + 1) (by omega)
      exact ⟨y, (e1 i (by omega) hi).trans z1, sy_S_t z2 hK⟩
end CAU
