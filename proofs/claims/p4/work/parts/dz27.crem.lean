/-! The class's state: remembered; a change of the story alone. -/
section CAT
variable {I L I' L' : Nat → Nat → Int} {R R' : Nat → Nat → Option Nat} {Y Y' : (Nat → Nat) × (Nat → Nat) × Nat} {pf : Nat → Bool} {n da pe ev pr q c p u d : Nat} {S : ss_T} {A l : ss_R} {W : Nat → ss_R} {U : Nat → ss_T} {M : Nat → Option (ss_T × Option ss_R)} {aq : Option ss_R}
theorem pf_T_t (h : pf_T pf Y) (hN : Y.2.2 ≤ Y'.2.2) (hY : ∀ q, q < Y.2.2 → Y'.1 q = Y.1 q ∧ Y'.2.1 q = Y.2.1 q) : pf_T pf Y' := fun x hx => by
  have z := h x hx
  rw [(hY x z.2.1).1]
  exact ⟨z.1, by omega, z.2.2⟩
/-- a cell of another kind is in no story -/
theorem sy_no (h : sy_T R Y p) {x : Nat} (hx : ¬ Y.1 x = 9 ∧ ¬ Y.1 x = 26 ∧ ¬ Y.1 x = 20) : ¬ (p ≤ x ∧ x ≤ p + 5) := by
  obtain ⟨⟨-, -, a3, a4, a5, a6, a7, a8⟩, -⟩ := h
  intro hc
  have e : x = p ∨ x = p + 1 ∨ x = p + 2 ∨ x = p + 3 ∨ x = p + 4 ∨ x = p + 5 := by omega
  rcases e with rfl | rfl | rfl | rfl | rfl | rfl <;> omega
theorem ca_L_t (h : ca_L I L R Y pf n c l) (hI : I' 58 1 = I 58 1) (hR : R' 58 0 = R 58 0) (hL : ∀ k, L' c k = L c k) (hN : Y.2.2 ≤ Y'.2.2) (hY : ∀ q, q < Y.2.2 → Y'.1 q = Y.1 q ∧ Y'.2.1 q = Y.2.1 q) : ca_L I' L' R' Y' pf n c l := ⟨rw_S_t h.1 hI hR hN hY, fun k hk => (hL k).trans (h.2.1 k hk), h.2.2⟩
/-- remember -/
theorem p_remC (hW : ca_W I L R Y pf n da pe ev q A W) (hL : ca_L I L R Y pf n c l) (h50 : sc_S I L R Y pf n da pe pr 50 S) (hP : ck_P I L R Y pf n da pe pr u U M) (ha : sa_A I L R Y pf n 50 aq) (hb : da ≤ 6 ∧ pe ≤ 4 ∧ pr ≤ 5 ∧ S.1.1 ≤ 12 ∧ S.1.2.2 ≤ 20) : yi_P zi_Ms d 170 [.inr (.inr (some 10))] (I, L, R, Y) (fun r => ∃ I' L' R' Y' nc ns, r = (none, (I', L', R', Y'), nc, ns) ∧ ca_W I' L' R' Y' pf n da pe ev q A W ∧ ca_L I' L' R' Y' pf n c l ∧ sc_S I' L' R' Y' pf n da pe pr 50 S ∧ ck_P I' L' R' Y' pf n da pe pr (us_n u) (us_p u U S) M ∧ sa_A I' L' R' Y' pf n 50 aq ∧ pf_K I L R Y pf I' L' R' Y' pf ∧ (∀ k, I' q k = I q k ∧ R' q k = R q k)) := by
  have hA := hW.1.1
  have hpf := hW.1.2
  have hn := hA.2.2.2
  obtain ⟨ps, e17, f2, e18, f4, -⟩ := hP.1
  have hp0 : ∀ pb, R 56 ((ps + u) % 16) = some pb → sy_T R Y pb ∧ 110 ≤ pb := fun pb hpb => by
    have z := hP.2.1 ((ps + u) % 16) (Nat.mod_lt _ (by omega)) pb hpb
    exact ⟨z.1, z.2.1⟩
  refine (p_remember hA e17 e18 f2 f4 rfl hp0).imp ?_
  rintro r ⟨I', L', R', Y', nc, ns, pb, rfl, r1, r2, r3, r4, ⟨r5, r6⟩, r7, r8, rN, rY⟩
  have hpf' : pf_T pf Y' := pf_T_t hpf rN rY
  have hq110 : 110 ≤ pb := by
    rcases r4 with ⟨a, -⟩ | ⟨-, a, -⟩
    · exact (hP.2.1 _ (Nat.mod_lt _ (by omega)) pb a).2.1
    · omega
  have out : ∀ x, x < Y.2.2 → ¬ Y.1 x = 9 ∧ ¬ Y.1 x = 26 ∧ ¬ Y.1 x = 20 → ¬ (pb ≤ x ∧ x ≤ pb + 5) := fun x hx hk => sy_no r2 (by rw [(rY x hx).1]; exact hk)
  have hK : pf_K I L R Y pf I' L' R' Y' pf := by
    refine ⟨fun x k hx => ?_, fun _ h => h, rN, rY⟩
    have z := hpf x hx
    have z2 := pf_at hpf hA hx
    have z3 := pf_sy hpf' r2 hx
    exact ⟨(r7 x k z.2.1 z3).1 (by omega), r8 x k z.2.1, (r7 x k z.2.1 z3).2 (by omega)⟩
  obtain ⟨w1, ⟨b1, b2, b3, b4, b5, b6, b7⟩, w3⟩ := id hW
  have oq := out q b3 (by omega)
  have nq : ¬ q = 10 ∧ ¬ q = 56 := by
    have e0 := at_k hA (j := 0) rfl
    have e1 := at_nk hA (j := 17) rfl
    exact ⟨fun e => by subst e; omega, fun e => by subst e; omega⟩
  have cc := hL.1.1
  have oc := out c (by omega) (by omega)
  have k39 : Y.1 39 = 24 := at_nk hA (j := 7) rfl
  refine ⟨I', L', R', Y', nc, ns, rfl, ca_W_t hW hK (fun x hx => ?_) ((r7 10 16 (by omega) (by omega)).2 (by omega)) (fun k => (r7 q k b3 oq).1 (by omega)) (fun k => (r7 39 k (by omega) (by omega)).2 (by omega)), ca_L_t hL ((r7 58 1 (by omega) (by omega)).1 (by omega)) ((r7 58 0 (by omega) (by omega)).2 (by omega)) (fun k => r8 c k (by omega)) rN rY, sc_S_t h50 hK (fun x k h1 h2 => ⟨(r7 x k (by omega) (by omega)).1 (by omega), (r7 x k (by omega) (by omega)).2 (by omega)⟩), ck_P_rem hb hpf hA hP h50 e17 rfl hK r1 r2 r3 r4 r5 r6 r7, sa_A_t ha hK ((r7 50 5 (by omega) (by omega)).2 (by omega)), hK, fun k => ⟨(r7 q k b3 oq).1 (by omega), (r7 q k b3 oq).2 (by omega)⟩⟩
  have hx2 : x.1 < 110 ∧ ¬ x.1 = 56 := by
    have b : ∀ x ∈ at_L, x.1 < 110 ∧ ¬ x.1 = 56 := by decide
    exact b x hx
  exact (r7 x.1 x.2.1 (by omega) (by omega)).2 (by omega)
/-- the story alone changes: all else of the state stays -/
theorem ca_50 (hW : ca_W I L R Y pf n da pe ev q A W) (hL : ca_L I L R Y pf n c l) (hP : ck_P I L R Y pf n da pe pr u U M) (hf : ∀ x k, ¬ (50 ≤ x ∧ x ≤ 55) → I' x k = I x k ∧ R' x k = R x k) (hR : ∀ k, k < 5 → R' 50 k = R 50 k) : pf_K I L R Y pf I' L R' Y pf ∧ ca_W I' L R' Y pf n da pe ev q A W ∧ ca_L I' L R' Y pf n c l ∧ ck_P I' L R' Y pf n da pe pr u U M := by
  have hA := hW.1.1
  have hpf := hW.1.2
  have hn := hA.2.2.2
  have h50 := sy_T_at hA
  have hK : pf_K I L R Y pf I' L R' Y pf := ⟨fun x k hx => by
    have z := hf x k (pf_sy hpf h50 hx)
    exact ⟨z.1, rfl, z.2⟩, fun _ h => h, Nat.le_refl _, fun _ _ => ⟨rfl, rfl⟩⟩
  have b4 := hW.2.1.2.2.2.1
  have oq : ¬ (50 ≤ q ∧ q ≤ 50 + 5) := sy_no h50 (by omega)
  obtain ⟨⟨ps, g1, g2, g3, g4, g5⟩, m1, m2⟩ := hP
  have rg : ∀ p, 110 ≤ p → ∀ x k, p ≤ x → x ≤ p + 5 → I' x k = I x k ∧ R' x k = R x k := fun p h110 x k h1 h2 => hf x k (by omega)
  refine ⟨hK, ca_W_t hW hK (fun x hx => ?_) (hf 10 16 (by omega)).2 (fun k => (hf q k (by omega)).1) (fun k => (hf 39 k (by omega)).2), ca_L_t hL (hf 58 1 (by omega)).1 (hf 58 0 (by omega)).2 (fun _ => rfl) (Nat.le_refl _) (fun _ _ => ⟨rfl, rfl⟩), ⟨ps, (hf 10 17 (by omega)).1.trans g1, g2, (hf 10 18 (by omega)).1.trans g3, g4, fun j hj => ?_⟩, fun i hi p hp => ?_, fun m hm => ?_⟩
  · by_cases c : 50 ≤ x.1 ∧ x.1 ≤ 55
    · have b : ∀ x ∈ at_L, 50 ≤ x.1 ∧ x.1 ≤ 55 → x.1 = 50 ∧ x.2.1 < 5 := by decide
      obtain ⟨e1, e2⟩ := b x hx c
      rw [e1]
      exact hR _ e2
    · exact (hf x.1 x.2.1 c).2
  · obtain ⟨p, p1, p2⟩ := g5 j hj
    have z := m1 _ (Nat.mod_lt _ (by omega)) p p1
    exact ⟨p, (hf 56 _ (by omega)).2.trans p1, sc_S_t p2 hK (rg p z.2.1)⟩
  · rw [(hf 56 i (by omega)).2] at hp
    have z := m1 i hi p hp
    exact ⟨sy_T_t z.1 (fun k _ => (rg p z.2.1 p k (by omega) (by omega)).2) (Nat.le_refl _) (fun _ _ => ⟨rfl, rfl⟩), z.2.1, fun i' hi' h' => z.2.2.1 i' hi' (by rw [(hf 56 i' (by omega)).2] at h'; exact h'), fun m hm h' => z.2.2.2 m hm (by rw [(hf 57 m (by omega)).2] at h'; exact h')⟩
  · rcases m2 m hm with ⟨z1, z2⟩ | ⟨p, Sm, am, z1, z2, z3, z4, z5, z6⟩
    · exact Or.inl ⟨z1, (hf 57 m (by omega)).2.trans z2⟩
    · exact Or.inr ⟨p, Sm, am, z1, (hf 57 m (by omega)).2.trans z2, z3, sc_S_t z4 hK (rg p z3), sa_A_t z5 hK (rg p z3 p 5 (by omega) (by omega)).2, fun m' hm' h' => z6 m' hm' (by rw [(hf 57 m' (by omega)).2] at h'; exact h')⟩
/-- one promise more -/
theorem sc_S_pm {x y : Int} (h : sc_S I L R Y pf n da pe pr 50 S) (hK : pf_K I L R Y pf I' L R Y pf) (b : da ≤ 6 ∧ pe ≤ 4 ∧ pr ≤ 5 ∧ S.1.1 ≤ 12 ∧ S.1.2.2 < 20) (e1 : I' 50 8 = (S.1.2.2 : Int) + 1) (e2 : I' 54 S.1.2.2 = x) (e3 : I' 55 S.1.2.2 = y) (f : ∀ q k, ¬ (q = 50 ∧ k = 8) ∧ ¬ (q = 54 ∧ k = S.1.2.2) ∧ ¬ (q = 55 ∧ k = S.1.2.2) → I' q k = I q k) : sc_S I' L R Y pf n da pe pr 50 (ss_pm S x y) := by
  obtain ⟨h1, ⟨a1, a2, a3⟩, h2, h3, h4, h5⟩ := h
  refine ⟨h1, ⟨(f 50 6 (by omega)).trans a1, (f 50 7 (by omega)).trans a2, e1⟩, fun j hj => (f 52 j (by omega)).trans (h2 j hj), fun i hi => ?_, fun d q hd hq => (f 53 _ (by omega)).trans (h4 d q hd hq), fun i hi => ?_⟩
  · obtain ⟨y, e1, e2⟩ := h3 i hi
    exact ⟨y, e1, sy_S_t e2 hK⟩
  · have hi : i < S.1.2.2 + 1 := hi
    show I' 54 i = (if i = S.1.2.2 then (x, y) else S.2.2.2.2.2 i).1 ∧ I' 55 i = (if i = S.1.2.2 then (x, y) else S.2.2.2.2.2 i).2
    by_cases c : i = S.1.2.2
    · rw [if_pos c, c]
      exact ⟨e2, e3⟩
    · rw [if_neg c]
      have z := h5 i (by omega)
      exact ⟨(f 54 i (by omega)).trans z.1, (f 55 i (by omega)).trans z.2⟩
end CAT
