/-! A land that was read becomes the land. -/
theorem ym_LL_t {I J : Nat → Nat → Int} (e : ∀ k, J 88 k = I 88 k) (e1 : ∀ k, J 89 k = I 89 k) (e2 : ∀ k, J 90 k = I 90 k) (e19 : J 82 19 = I 82 19) (e13 : J 82 13 = I 82 13) (h : ym_LD I ∧ ym_LP I) : ym_LD J ∧ ym_LP J := by
  obtain ⟨a, b⟩ := h
  obtain ⟨a0, a1, a2, a3, a4, a5, a6, a7⟩ := id a
  refine ⟨?_, ym_LP_t b (fun k _ => ⟨e1 k, e2 k⟩) (by omega) (by omega) (by omega) (e _) (e _) (e _) (fun k _ _ => e k)⟩
  unfold ym_LD at a ⊢
  rw [e, e, e, e, e, e, e19]
  exact a
theorem ym_sg_sh {I J : Nat → Nat → Int} : ∀ (n : Nat) {i h h' : Int}, 0 ≤ i → (∀ k : Int, i ≤ k → k < i + n → J 89 k.toNat = I 89 (1100 + k).toNat ∧ J 90 k.toNat = I 90 (1100 + k).toNat) → ym_sg I n (1100 + i) h h' → ym_sg J n i h h'
  | 0, _, _, _, _, _, hs => hs
  | n + 1, i, h, h', h0, he, hs => by
    obtain ⟨m, h1, h2⟩ := hs
    have e := he i (by omega) (by omega)
    refine ⟨m, ?_, ym_sg_sh n (by omega) (fun k a b => he k (by omega) (by omega)) (by rw [show (1100 : Int) + (i + 1) = 1100 + i + 1 by omega]; exact h2)⟩
    unfold ym_s1 at h1 ⊢
    rw [e.1, e.2]
    exact h1
theorem ym_QG_PG {I J : Nat → Nat → Int} {fr c : Int} (h : ym_QG I fr) (hc : I 82 13 = c) (c1 : c ≤ 1005) (e : ∀ k : Nat, (k : Int) < c → J 89 k = I 89 (1100 + k) ∧ J 90 k = I 90 (1100 + k)) : ∃ e, e ≤ 1099 ∧ ym_PG J fr e := by
  obtain ⟨h0, q, h1, h2, h3⟩ := h
  have hq := h1.2.1
  have ee : ∀ k : Int, 0 ≤ k → k < c → J 89 k.toNat = I 89 (1100 + k).toNat ∧ J 90 k.toNat = I 90 (1100 + k).toNat := fun k a b => by
    rw [show (1100 + k).toNat = 1100 + k.toNat by omega]
    exact e k.toNat (by omega)
  refine ⟨q, by omega, ym_sg_sh _ h0 (fun k a b => ee k (by omega) (by omega)) h1.2.2, ?_, h0, hq, by omega, by omega⟩
  rw [(ee q (by omega) (by omega)).1]
  exact h2
theorem ym_PK_of {I J : Nat → Nat → Int} {c : Int} (hd : ym_LD I) (hp : ym_LP I) (hc : I 82 13 = c) (c1 : c ≤ 1005) (e0 : ∀ k : Nat, k < 50 → J 88 k = I 88 (50 + k)) (e : ∀ k : Nat, (k : Int) < c → J 89 k = I 89 (1100 + k) ∧ J 90 k = I 90 (1100 + k)) : ym_PK J := by
  obtain ⟨a0, a1, a2, a3, a4, a5, a6, a7⟩ := hd
  have x4 : J 88 4 = I 88 54 := e0 4 (by omega)
  have x5 : J 88 5 = I 88 55 := e0 5 (by omega)
  have x6 : J 88 6 = I 88 56 := e0 6 (by omega)
  refine ⟨fun k a b => ?_, fun w a b => ?_, ?_⟩
  · rw [x4] at b
    rw [e0 _ (by omega), show 50 + (21 + k).toNat = (71 + k).toNat by omega]
    exact ym_QG_PG (hp.1 k a b) hc c1 e
  · rw [x5] at b
    rw [e0 _ (by omega), e0 _ (by omega), show 50 + (25 + 3 * w).toNat = (75 + 3 * w).toNat by omega, show 50 + (25 + 3 * w + 2).toNat = (75 + 3 * w + 2).toNat by omega]
    exact ⟨(hp.2.1 w a b).1, ym_QG_PG (hp.2.1 w a b).2 hc c1 e⟩
  · rw [x6]
    exact hp.2.2.imp id (fun z => ym_QG_PG z hc c1 e)
theorem ym_LR_of {I J : Nat → Nat → Int} (hd : ym_LD I) (e0 : ∀ k : Nat, k < 50 → J 88 k = I 88 (50 + k)) : ym_LR J ∧ 1 ≤ ym_fo (J 88 0) (J 88 1) (J 88 2) := by
  obtain ⟨a0, a1, a2, a3, a4, a5, a6, a7⟩ := hd
  have x0 : J 88 0 = I 88 50 := e0 0 (by omega)
  have x1 : J 88 1 = I 88 51 := e0 1 (by omega)
  have x2 : J 88 2 = I 88 52 := e0 2 (by omega)
  have x3 : J 88 3 = I 88 53 := e0 3 (by omega)
  have x4 : J 88 4 = I 88 54 := e0 4 (by omega)
  have x5 : J 88 5 = I 88 55 := e0 5 (by omega)
  unfold ym_LR
  rw [x0, x1, x2, x3, x4, x5]
  exact ⟨⟨a0, a1, a2, a3, a4, a5⟩, a7⟩
/-- all that calls of the check keep -/
def ym_IV (I : Nat → Nat → Int) : Prop := ym_LR I ∧ ym_PK I ∧ ym_PW I ∧ ym_ST I ∧ (1 ≤ I 82 24 ∧ I 82 24 ≤ 32768) ∧ (0 ≤ I 82 25 ∧ I 82 25 ≤ 512) ∧ (0 ≤ I 82 18 ∧ I 82 18 ≤ 13) ∧ (0 ≤ I 82 19 ∧ I 82 19 ≤ 13) ∧ (0 ≤ I 82 2 ∧ I 82 2 ≤ 1000) ∧ 1 ≤ ym_fo (I 88 0) (I 88 1) (I 88 2)
theorem ym_IV_t {I J : Nat → Nat → Int} (h : ym_IV I) (e88 : ∀ k : Nat, k < 50 → J 88 k = I 88 k) (lw : ym_LW I J 0) (e98 : ∀ k, J 98 k = I 98 k) (hs : ym_ST J) (e24 : J 82 24 = I 82 24) (e25 : J 82 25 = I 82 25) (e18 : J 82 18 = I 82 18) (n19 : 0 ≤ J 82 19 ∧ J 82 19 ≤ 13) (n2 : 0 ≤ J 82 2 ∧ J 82 2 ≤ 1000) : ym_IV J := by
  obtain ⟨h1, h2, h3, h4, h5, h6, h7, h8, h9, h10⟩ := h
  have l := h1
  obtain ⟨l0, l1, l2, l3, l4, l5⟩ := l
  refine ⟨?_, ym_PK_t ⟨by omega, by omega⟩ e88 lw h2, ?_, hs, by omega, by omega, by omega, n19, n2, ?_⟩
  · unfold ym_LR at h1 ⊢
    rw [e88 0 (by omega), e88 1 (by omega), e88 2 (by omega), e88 3 (by omega), e88 4 (by omega), e88 5 (by omega)]
    exact h1
  · intro k a b c
    rw [e88 0 (by omega), e88 1 (by omega)] at b
    rw [e88 2 (by omega)] at c
    rw [e98]
    exact h3 k a b c
  · rw [e88 0 (by omega), e88 1 (by omega), e88 2 (by omega)]
    exact h10
theorem ym_ST_0 {I : Nat → Nat → Int} (h : ym_S0 I) (h30 : I 82 30 = 0) (hm : ∀ m : Int, 0 ≤ m → m < 5 → I 101 m.toNat = 0 ∧ I 102 m.toNat = 0) : ym_ST I := by
  refine ⟨h, ⟨by omega, fun u a b => absurd b (by omega)⟩, fun m a b => ?_⟩
  have q := hm m a b
  exact ⟨Or.inl q.1, Or.inl q.2, fun _ d => absurd (q.1.symm.trans d) (by decide)⟩
