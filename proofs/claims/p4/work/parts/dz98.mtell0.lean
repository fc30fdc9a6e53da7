/-! What the check's tell wants. -/
/-- two ways that meet -/
theorem yi_D_jn {Ms : List zi_M} {d : Nat} {M : zi_M} {k : Nat} {Q : yi_R → Prop} {a : yi_F} {f : Int → yi_F} (z0 : Int) (h2 : yi_D Ms d M k (f z0) Q → yi_D Ms d M k a Q) (h1 : ∀ z, z = z0 → yi_D Ms d M k (f z) Q) : yi_D Ms d M k a Q := h2 (h1 _ rfl)
theorem sm_B_tl {I L I' L' : Nat → Nat → Int} {n P pr : Nat} {S : ss_T} {t price m pz : Int} {r : Nat → Int} (h : sm_B I L n P pr 0 S) (hb : P ≤ 24 ∧ pr ≤ 5 ∧ S.1.1 < 12 ∧ S.1.2.2 ≤ 20 ∧ n ≤ 512) (ht : 0 ≤ t ∧ t < 5) (h0 : I' 100 0 = (S.1.1 : Int) + 1) (h1 : I' 100 (8 + 3 * S.1.1) = t ∧ I' 100 (9 + 3 * S.1.1) = price ∧ I' 100 (10 + 3 * S.1.1) = m) (h3 : I' 100 (3 + t.toNat) = pz) (h2 : ∀ i, ¬ i = 0 → ¬ i = 8 + 3 * S.1.1 → ¬ i = 9 + 3 * S.1.1 → ¬ i = 10 + 3 * S.1.1 → ¬ i = 3 + t.toNat → I' 100 i = I 100 i) (l1 : ∀ k, k < n → L' 97 (512 * (60 + S.1.1) + k) = r k) (l2 : ∀ i k, i < S.1.1 → k < n → L' 97 (512 * (60 + i) + k) = L 97 (512 * (60 + i) + k)) : sm_B I' L' n P pr 0 (ss_tl S t price m pz r) := by
  obtain ⟨⟨a1, a2, a3⟩, a4, a5, a6, a7, a8⟩ := h
  have g : ∀ i, ¬ i = 0 → ¬ (8 + 3 * S.1.1 ≤ i ∧ i ≤ 10 + 3 * S.1.1) → ¬ i = 3 + t.toNat → I' 100 i = I 100 i := fun i x y z => h2 i x (by omega) (by omega) (by omega) z
  refine ⟨⟨h0, (g _ (by omega) (by omega) (by omega)).trans a2, (g _ (by omega) (by omega) (by omega)).trans a3⟩, fun p hp => ?_, fun i hi => ?_, fun i k hi hk => ?_, fun k hk => (g _ (by omega) (by omega) (by omega)).trans (a7 k hk), fun i hi => ?_⟩
  · show I' 100 (110 * 0 + 3 + p) = (if (p : Int) = t then pz else S.2.2.2.1 p)
    by_cases c : (p : Int) = t
    · rw [if_pos c]
      exact (congrArg (I' 100) (by omega)).trans h3
    · rw [if_neg c]
      exact (g _ (by omega) (by omega) (by omega)).trans (a4 p hp)
  · have hi : i < S.1.1 + 1 := hi
    show I' 100 (110 * 0 + 8 + 3 * i) = (if i = S.1.1 then (t, price, m) else S.2.1 i).1 ∧ I' 100 (110 * 0 + 9 + 3 * i) = (if i = S.1.1 then (t, price, m) else S.2.1 i).2.1 ∧ I' 100 (110 * 0 + 10 + 3 * i) = (if i = S.1.1 then (t, price, m) else S.2.1 i).2.2
    by_cases c : i = S.1.1
    · rw [if_pos c, c]
      exact ⟨(congrArg (I' 100) (by omega)).trans h1.1, (congrArg (I' 100) (by omega)).trans h1.2.1, (congrArg (I' 100) (by omega)).trans h1.2.2⟩
    · rw [if_neg c]
      have z := a5 i (by omega)
      exact ⟨(g _ (by omega) (by omega) (by omega)).trans z.1, (g _ (by omega) (by omega) (by omega)).trans z.2.1, (g _ (by omega) (by omega) (by omega)).trans z.2.2⟩
  · have hi : i < S.1.1 + 1 := hi
    show L' 97 (512 * (60 + 12 * 0 + i) + k) = (if i = S.1.1 then r else S.2.2.1 i) k
    by_cases c : i = S.1.1
    · rw [if_pos c, c]
      exact (congrArg (L' 97) (by omega)).trans (l1 k hk)
    · rw [if_neg c]
      exact (l2 i k (by omega) hk).trans (a6 i k (by omega) hk)
  · have hi : i < S.1.2.2 := hi
    have z := a8 i hi
    exact ⟨(g _ (by omega) (by omega) (by omega)).trans z.1, (g _ (by omega) (by omega) (by omega)).trans z.2⟩
/-- a price's programme as it stands in the check -/
theorem q_worthL {d : Nat} {I L : Nat → Nat → Int} {R : Nat → Nat → Option Nat} {Y : (Nat → Nat) × (Nat → Nat) × Nat} (hS : ym_S (R, Y)) {pe ev da s : Nat} {x : Int} {fa : Nat → Int} {cs : List (Int × Int)} {ld : Nat → Int} (hx : x = (s : Int)) (hda : I 88 0 = (da : Int)) (hpe : I 88 1 = (pe : Int)) (hev : I 88 2 = (ev : Int)) (bld : da ≤ 6 ∧ pe ≤ 4 ∧ ev ≤ 4) (hfa : ∀ j, j < 3 → I 95 j = fa j) (hk : lk_R I ld cs) (hs : sgC cs s) (hw : wfN 25 (sgm cs s)) (hp : ∀ c ∈ sgm cs s, okP c) : yi_P zi_Ms d 135 [.inr (.inr (some 82)), .inl x] (I, L, R, Y) (fun r => ∃ I', r = (some (.inl (((rn fa (fun _ => false) (sgm cs s) []).getD []).headD 0)), (I', L, R, Y), 0, 0) ∧ ∀ p k, ¬ p = 96 → I' p k = I p k) := by
  subst hx
  obtain ⟨v, hv⟩ := hw fa (fun _ => false) [] (by show 0 + 25 ≤ 64; omega)
  obtain ⟨sk, k0, k1, k2, k3⟩ := rn_sk (sgm cs s) [] [v] hv (by show 0 ≤ 64; omega)
  obtain ⟨c1, c2⟩ := lk_c hk hs
  have hs' : s + (sgm cs s).length < cs.length := hs
  have h1000 := hk.2.2.2.1
  have e : ((rn fa (fun _ => false) (sgm cs s) []).getD []).headD 0 = v := by
    rw [hv]
    rfl
  rw [e]
  refine q_worthAt hS hda hpe hev bld hfa (hcl := fun _ => false) (sk := sk) (N := (sgm cs s).length) ⟨⟨by omega, by omega⟩, fun k hk => ?_, c2, k0, k1⟩
  obtain ⟨e1, e2⟩ := c1 k hk
  have hc := hp _ (getD_mem hk)
  rw [e1, e2]
  refine ⟨?_, k2 k hk, fun h => ?_, fun h => ?_⟩
  · rcases hc with z | z | z <;> omega
  · rcases hc with z | z | z <;> omega
  · exfalso
    rcases hc with z | z | z <;> omega
