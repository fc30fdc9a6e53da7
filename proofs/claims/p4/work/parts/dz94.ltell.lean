/-! The class: a saying is added. -/
/-- the story with one saying more -/
def ss_tl (S : ss_T) (t price m pz : Int) (r : Nat → Int) : ss_T := ((S.1.1 + 1, S.1.2.1, S.1.2.2), (fun i => if i = S.1.1 then (t, price, m) else S.2.1 i), (fun i => if i = S.1.1 then r else S.2.2.1 i), (fun j => if (j : Int) = t then pz else S.2.2.2.1 j), S.2.2.2.2.1, S.2.2.2.2.2)
/-- who holds what is guarded is no story -/
theorem cg_no {sg : Nat → Bool} {R : Nat → Nat → Option Nat} {Y : (Nat → Nat) × (Nat → Nat) × Nat} {p x : Nat} (h : cg_I (cg_pr sg Y) R Y) (hs : sg x = true) (hp : sy_T R Y p) (h9 : ∀ x, sg x = true → ¬ Y.1 x = 9) : ¬ (p ≤ x ∧ x ≤ p + 5) := by
  intro ⟨h1, h2⟩
  obtain ⟨⟨a1, a2, a3, a4, a5, a6, a7, a8⟩, ⟨b0, b1, b2, b3, b4⟩, -⟩ := hp
  by_cases e : x = p
  · exact h9 x hs (by rw [e]; exact a3)
  · have hsl : R p (x - p - 1) = some x := by
      have hx : x = p + 1 ∨ x = p + 2 ∨ x = p + 3 ∨ x = p + 4 ∨ x = p + 5 := by omega
      rcases hx with rfl | rfl | rfl | rfl | rfl
      · rw [show p + 1 - p - 1 = 0 by omega]; exact b0
      · rw [show p + 2 - p - 1 = 1 by omega]; exact b1
      · rw [show p + 3 - p - 1 = 2 by omega]; exact b2
      · rw [show p + 4 - p - 1 = 3 by omega]; exact b3
      · rw [show p + 5 - p - 1 = 4 by omega]; exact b4
    have z := ((h.2 (fun _ _ => 0) (fun _ _ => 0)).1 p (x - p - 1) x (show p < Y.2.2 by omega) hsl).2 (by unfold cg_pr; rw [hs]; rfl)
    rcases z with z | z | z
    · have z : (sg p || (Nat.beq (Y.1 p) 24 && (Nat.ble 10 p && Nat.ble (p + 1) Y.2.2))) = true := z
      rw [Bool.or_eq_true, Bool.and_eq_true] at z
      rcases z with z | z
      · exact h9 p z a3
      · have := Nat.eq_of_beq_eq_true z.1; omega
    · have z : cg_fg (Y.1 p) (x - p - 1) = true := z
      rw [a3] at z
      cases z
    · cases z.1
section LTL
variable {I L I' L' : Nat → Nat → Int} {R R' : Nat → Nat → Option Nat} {Y : (Nat → Nat) × (Nat → Nat) × Nat} {pf : Nat → Bool} {n da pe ev pr q c u : Nat} {S : ss_T} {A l : ss_R} {W : Nat → ss_R} {U : Nat → ss_T} {M : Nat → Option (ss_T × Option ss_R)} {aq : Option ss_R}
theorem lz_tell {f c2 y : Nat} {t price m pz : Int} {r : ss_R} (h : lz_D I L R Y pf n da pe ev pr q c u A W l S U M aq) (ht : S.1.1 < 12) (hq : 58 ≤ q) (h0 : 0 ≤ t ∧ t < 5) (hf : rw_S I R Y f c2 n) (hr : ∀ k, k < n → L c2 k = r k) (hy : (10 ≤ y ∧ y < Y.2.2 ∧ Y.1 y = 10) ∧ (I y 0 = t ∧ I y 1 = price ∧ I y 2 = m) ∧ R y 3 = some f) (hn : ¬ qs_S R f ∧ ¬ qs_S R c2 ∧ ¬ qs_S R y) (hk : ¬ f = 58 ∧ ¬ c2 = c ∧ ¬ f = c ∧ ¬ y = c) (e6 : I' 50 6 = (S.1.1 : Int) + 1) (ep : I' 52 t.toNat = pz) (eI : ∀ x k, ¬ (x = 50 ∧ k = 6) → ¬ (x = 52 ∧ k = t.toNat) → I' x k = I x k) (e51 : R' 51 S.1.1 = some y) (eR : ∀ x k, ¬ (x = 51 ∧ k = S.1.1) → R' x k = R x k) (eL : ∀ x k, ¬ (x = c ∧ k < n) → L' x k = L x k) (el : ∀ k, k < n → L' c k = yi_land (l k) (r k)) : ∃ pf', (∀ x, pf x = true → pf' x = true) ∧ lz_D I' L' R' Y pf' n da pe ev pr q c u A W (fun k => yi_land (l k) (r k)) (ss_tl S t price m pz r) U M aq := by
  obtain ⟨h1, h2, h3, h4, h5, h6, h7⟩ := h
  have hA := h1.1.1
  have hN := hA.2.2.2
  have k58 : Y.1 58 = 5 := at_k hA (j := 11) rfl
  have k60 : Y.1 60 = 5 := at_k hA (j := 12) rfl
  have k50 : Y.1 50 = 9 := at_k hA (j := 10) rfl
  have k51 : Y.1 51 = 26 := at_nk hA (j := 12) rfl
  have k52 : Y.1 52 = 20 := at_nk hA (j := 13) rfl
  obtain ⟨⟨f1, f2, f3, f4, f5, f6⟩, f7, f8, f9, f10⟩ := id hf
  obtain ⟨⟨y1, y2, y3⟩, ⟨y4, y5, y6⟩, y7⟩ := hy
  generalize hpf : (fun x => pf x || (Nat.beq x f || (Nat.beq x c2 || Nat.beq x y))) = pg
  have hpe : ∀ x, pg x = (pf x || (Nat.beq x f || (Nat.beq x c2 || Nat.beq x y))) := fun x => by rw [← hpf]
  have hpi : ∀ x, pg x = true → pf x = true ∨ x = f ∨ x = c2 ∨ x = y := fun x hx => by
    rw [hpe, Bool.or_eq_true, Bool.or_eq_true, Bool.or_eq_true] at hx
    rcases hx with hx | hx | hx | hx
    · exact Or.inl hx
    · exact Or.inr (Or.inl (Nat.eq_of_beq_eq_true hx))
    · exact Or.inr (Or.inr (Or.inl (Nat.eq_of_beq_eq_true hx)))
    · exact Or.inr (Or.inr (Or.inr (Nat.eq_of_beq_eq_true hx)))
  have hm : ∀ x, pf x = true → pg x = true := fun x hx => by rw [hpe, hx]; rfl
  have pF : pg f = true := by rw [hpe, Nat.beq_refl]; simp
  have pC : pg c2 = true := by rw [hpe, Nat.beq_refl]; simp
  have pY : pg y = true := by rw [hpe, Nat.beq_refl]; simp
  have hT' : pf_T pg Y := fun x hx => by
    rcases hpi x hx with hx | hx | hx | hx
    · exact h1.1.2 x hx
    · rw [hx]; exact ⟨f1, f3, Or.inl f5⟩
    · rw [hx]; exact ⟨f2, f4, Or.inr (Or.inr f6)⟩
    · rw [hx]; exact ⟨y1, y2, Or.inr (Or.inl y3)⟩
  have nb : ∀ x, pf x = false → ¬ x = f → ¬ x = c2 → ¬ x = y → pg x = false := fun x hx e1 e2 e3 => by
    cases b : pg x with
    | false => rfl
    | true =>
      rcases hpi x b with z | z | z | z
      · rw [hx] at z; cases z
      · exact absurd z e1
      · exact absurd z e2
      · exact absurd z e3
  have q60 := (qs_n hn.1).2.1
  have n58 := nb 58 h1.2.2.2.2.2.1 (fun e => hk.1 e.symm) (fun e => by rw [← e] at f6; omega) (fun e => by rw [← e] at y3; omega)
  have n60 := nb 60 h1.2.2.2.2.2.2 (fun e => q60.2.2.2.1 e.symm) (fun e => by rw [← e] at f6; omega) (fun e => by rw [← e] at y3; omega)
  have nc := nb c h2.2.2 (fun e => hk.2.2.1 e.symm) (fun e => hk.2.1 e.symm) (fun e => hk.2.2.2 e.symm)
  have hK : pf_K I L R Y pg I' L' R' Y pg := by
    refine ⟨fun x k hx => ?_, fun _ h => h, Nat.le_refl _, fun _ _ => ⟨rfl, rfl⟩⟩
    have z := (hT' x hx).2.2
    refine ⟨eI x k (fun e => by rw [e.1] at z; omega) (fun e => by rw [e.1] at z; omega), eL x k (fun e => by rw [e.1, nc] at hx; cases hx), eR x k (fun e => by rw [e.1] at z; omega)⟩
  have hqs : ∀ x, qs_S R' x → qs_S R x := fun x h => by
    unfold qs_S at h ⊢
    rw [eR 60 0 (by omega), eR 62 0 (by omega), eR 41 0 (by omega), eR 46 1 (by omega)] at h
    exact h
  have q3 := h1.2.1.2.2.2.1
  have rg : ∀ p, 110 ≤ p → ∀ x k, p ≤ x → x ≤ p + 5 → I' x k = I x k ∧ R' x k = R x k := fun p hp x k h1 h2 => ⟨eI x k (by omega) (by omega), eR x k (by omega)⟩
  refine ⟨pg, hm, ?_, ?_, ?_, ?_, ?_, ?_, h7.1, h7.2.1, ?_⟩
  · refine ca_W_t (ca_W_m h1 hm hT' ⟨n58, n60⟩) hK (fun x hx => ?_) (eR 10 16 (by omega)) (fun k => eI q k (by omega) (by omega)) (fun k => eR 39 k (by omega))
    have b : ∀ x ∈ at_L, ¬ x.1 = 51 := by decide
    exact eR _ _ (fun e => b x hx e.1)
  · exact ⟨rw_S_t h2.1 (eI 58 1 (by omega) (by omega)) (eR 58 0 (by omega)) (Nat.le_refl _) (fun _ _ => ⟨rfl, rfl⟩), el, nc⟩
  · obtain ⟨a1, ⟨a2, a3, a4⟩, a5, a6, a7, a8⟩ := sc_S_m h3 hm
    refine ⟨sy_T_t a1 (fun k _ => eR 50 k (by omega)) (Nat.le_refl _) (fun _ _ => ⟨rfl, rfl⟩), ⟨e6, (eI 50 7 (by omega) (by omega)).trans a3, (eI 50 8 (by omega) (by omega)).trans a4⟩, fun j hj => ?_, fun i hi => ?_, fun d x hd hx => (eI 53 _ (by omega) (by omega)).trans (a7 d x hd hx), fun i hi => ⟨(eI 54 i (by omega) (by omega)).trans (a8 i hi).1, (eI 55 i (by omega) (by omega)).trans (a8 i hi).2⟩⟩
    · show I' 52 j = if (j : Int) = t then pz else S.2.2.2.1 j
      by_cases c : (j : Int) = t
      · rw [if_pos c, show j = t.toNat by omega]
        exact ep
      · rw [if_neg c, eI 52 j (by omega) (by omega)]
        exact a5 j hj
    · have hi : i < S.1.1 + 1 := hi
      show ∃ y, R' 51 i = some y ∧ sy_S I' L' R' Y pg n y (if i = S.1.1 then (t, price, m) else S.2.1 i) (if i = S.1.1 then r else S.2.2.1 i)
      by_cases c : i = S.1.1
      · rw [if_pos c, if_pos c, c]
        refine ⟨y, e51, ⟨y1, y2, y3, pY⟩, ⟨((hK.1 y 0 pY).1).trans y4, ((hK.1 y 1 pY).1).trans y5, ((hK.1 y 2 pY).1).trans y6⟩, f, ((hK.1 y 3 pY).2.2).trans y7, c2, rw_S_t hf ((hK.1 f 1 pF).1) ((hK.1 f 0 pF).2.2) (Nat.le_refl _) (fun _ _ => ⟨rfl, rfl⟩), fun k hk => ((hK.1 c2 k pC).2.1).trans (hr k hk), pF, pC⟩
      · rw [if_neg c, if_neg c]
        obtain ⟨z, z1, z2⟩ := a6 i (by omega)
        exact ⟨z, (eR 51 i (by omega)).trans z1, sy_S_t z2 hK⟩
  · obtain ⟨⟨ps, g1, g2, g3, g4, g5⟩, m1, m2⟩ := ck_P_m h4 hm
    refine ⟨⟨ps, (eI 10 17 (by omega) (by omega)).trans g1, g2, (eI 10 18 (by omega) (by omega)).trans g3, g4, fun j hj => ?_⟩, fun i hi p hp => ?_, fun m hm' => ?_⟩
    · obtain ⟨p, p1, p2⟩ := g5 j hj
      exact ⟨p, (eR 56 _ (by omega)).trans p1, sc_S_t p2 hK (rg p (m1 ((ps + j) % 16) (Nat.mod_lt _ (by omega)) p p1).2.1)⟩
    · rw [eR 56 i (by omega)] at hp
      have z := m1 i hi p hp
      exact ⟨sy_T_t z.1 (fun k _ => (rg p z.2.1 p k (by omega) (by omega)).2) (Nat.le_refl _) (fun _ _ => ⟨rfl, rfl⟩), z.2.1, fun i' hi' h' => z.2.2.1 i' hi' (by rw [eR 56 i' (by omega)] at h'; exact h'), fun m hm h' => z.2.2.2 m hm (by rw [eR 57 m (by omega)] at h'; exact h')⟩
    · rcases m2 m hm' with ⟨z1, z2⟩ | ⟨p, Sm, am, z1, z2, z3, z4, z5, z6⟩
      · exact Or.inl ⟨z1, (eR 57 m (by omega)).trans z2⟩
      · exact Or.inr ⟨p, Sm, am, z1, (eR 57 m (by omega)).trans z2, z3, sc_S_t z4 hK (rg p z3), sa_A_t z5 hK (rg p z3 p 5 (by omega) (by omega)).2, fun m' hm' h' => z6 m' hm' (by rw [eR 57 m' (by omega)] at h'; exact h')⟩
  · exact sa_A_t (sa_A_m h5 hm) hK (eR 50 5 (by omega))
  · intro x hx hs
    rcases hpi x hx with z | z | z | z
    · exact h6 x z (hqs x hs)
    · rw [z] at hs; exact hn.1 (hqs f hs)
    · rw [z] at hs; exact hn.2.1 (hqs c2 hs)
    · rw [z] at hs; exact hn.2.2 (hqs y hs)
  · rw [eR 60 0 (by omega)]
    exact h7.2.2
end LTL
