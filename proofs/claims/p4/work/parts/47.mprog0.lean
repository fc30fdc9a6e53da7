/-! Programmes of codes, with the heights of their pile. -/
def ym_s1 (I : Nat → Nat → Int) (i h h' : Int) : Prop := (1 ≤ I 89 i.toNat ∧ I 89 i.toNat ≤ 11) ∧ (I 89 i.toNat = 2 → 0 ≤ I 90 i.toNat ∧ I 90 i.toNat ≤ 2) ∧ (I 89 i.toNat = 11 → ym_CV (I 90 i.toNat)) ∧ (I 89 i.toNat = 3 → 1 ≤ h ∧ h' = h) ∧ (4 ≤ I 89 i.toNat ∧ I 89 i.toNat ≤ 10 → 2 ≤ h ∧ h' = h - 1) ∧ (I 89 i.toNat = 1 ∨ I 89 i.toNat = 2 ∨ I 89 i.toNat = 11 → h' = h + 1)
def ym_sg (I : Nat → Nat → Int) : Nat → Int → Int → Int → Prop
  | 0, _, h, h' => h = h'
  | n + 1, i, h, h' => ∃ m, ym_s1 I i h m ∧ ym_sg I n (i + 1) m h'
/-- a programme from a place to its end -/
def ym_PG (I : Nat → Nat → Int) (fr e : Int) : Prop := ym_sg I (e - fr).toNat fr 0 1 ∧ I 89 e.toNat = 0 ∧ 0 ≤ fr ∧ fr ≤ e ∧ e ≤ 2199 ∧ e - fr ≤ 1098
theorem ym_s1_t {I J : Nat → Nat → Int} {i h h' : Int} (e1 : J 89 i.toNat = I 89 i.toNat) (e2 : J 90 i.toNat = I 90 i.toNat) (hs : ym_s1 I i h h') : ym_s1 J i h h' := by
  unfold ym_s1 at hs ⊢
  rw [e1, e2]
  exact hs
theorem ym_sg_t {I J : Nat → Nat → Int} : ∀ (n : Nat) {i h h' : Int}, 0 ≤ i → (∀ k : Nat, i ≤ (k : Int) → (k : Int) < i + n → J 89 k = I 89 k ∧ J 90 k = I 90 k) → ym_sg I n i h h' → ym_sg J n i h h'
  | 0, _, _, _, _, _, hs => hs
  | n + 1, i, h, h', h0, he, hs => by
    obtain ⟨m, h1, h2⟩ := hs
    have e := he i.toNat (by omega) (by omega)
    exact ⟨m, ym_s1_t e.1 e.2 h1, ym_sg_t n (by omega) (fun k a b => he k (by omega) (by omega)) h2⟩
theorem ym_PG_t {I J : Nat → Nat → Int} {fr e : Int} (e1 : ∀ k, J 89 k = I 89 k) (e2 : ∀ k, J 90 k = I 90 k) (hP : ym_PG I fr e) : ym_PG J fr e := by
  obtain ⟨h1, h2, h3, h4, h5, h6⟩ := hP
  exact ⟨ym_sg_t _ h3 (fun k _ _ => ⟨e1 k, e2 k⟩) h1, by rw [e1]; exact h2, h3, h4, h5, h6⟩
theorem ym_sg_app {I : Nat → Nat → Int} : ∀ (n : Nat) {k : Nat} {i h h' h2 : Int}, ym_sg I n i h h' → ym_sg I k (i + n) h' h2 → ym_sg I (n + k) i h h2
  | 0, k, i, h, h', h2, a, b => by
    have a : h = h' := a
    subst a
    rw [Nat.zero_add]
    have : i + ((0 : Nat) : Int) = i := by omega
    rw [this] at b
    exact b
  | n + 1, k, i, h, h', h2, a, b => by
    obtain ⟨m, a1, a2⟩ := a
    rw [show n + 1 + k = (n + k) + 1 by omega]
    refine ⟨m, a1, ym_sg_app n a2 ?_⟩
    rw [show i + 1 + (n : Int) = i + ((n + 1 : Nat) : Int) by omega]
    exact b
/-- more may lie below -/
theorem ym_sg_up {I : Nat → Nat → Int} {c : Int} (hc : 0 ≤ c) : ∀ (n : Nat) {i h h' : Int}, ym_sg I n i h h' → ym_sg I n i (h + c) (h' + c)
  | 0, i, h, h', a => by
    have a : h = h' := a
    show h + c = h' + c
    omega
  | n + 1, i, h, h', a => by
    obtain ⟨m, a1, a2⟩ := a
    obtain ⟨b0, b1, b2, b3, b4, b5⟩ := a1
    exact ⟨m + c, ⟨b0, b1, b2, fun z => by have := b3 z; omega, fun z => by have := b4 z; omega, fun z => by have := b5 z; omega⟩, ym_sg_up hc n a2⟩
/-- the programmes of the land -/
def ym_PL (I : Nat → Nat → Int) : Prop := (∀ k : Int, 0 ≤ k → k < I 88 4 → ∃ e, ym_PG I (I 88 (21 + k).toNat) e) ∧ (∀ w : Int, 0 ≤ w → w < I 88 5 → (0 ≤ I 88 (25 + 3 * w).toNat ∧ I 88 (25 + 3 * w).toNat ≤ 4) ∧ ∃ e, ym_PG I (I 88 (25 + 3 * w + 2).toNat) e) ∧ (I 88 6 < 0 ∨ ∃ e, ym_PG I (I 88 6) e)
theorem ym_PL_t {I J : Nat → Nat → Int} (e0 : ∀ k, J 88 k = I 88 k) (e1 : ∀ k, J 89 k = I 89 k) (e2 : ∀ k, J 90 k = I 90 k) (h : ym_PL I) : ym_PL J := by
  obtain ⟨h1, h2, h3⟩ := h
  refine ⟨fun k a b => ?_, fun w a b => ?_, ?_⟩
  · rw [e0] at b ⊢
    obtain ⟨e, he⟩ := h1 k a b
    exact ⟨e, ym_PG_t e1 e2 he⟩
  · rw [e0] at b
    rw [e0, e0]
    obtain ⟨c, e, he⟩ := h2 w a b
    exact ⟨c, e, ym_PG_t e1 e2 he⟩
  · rw [e0]
    rcases h3 with z | ⟨e, he⟩
    · exact Or.inl z
    · exact Or.inr ⟨e, ym_PG_t e1 e2 he⟩
