/-! What the public calls of the check keep. -/
theorem ym_DY_0 {J : Nat → Nat → Int} (e : J 82 20 = 0) (e2 : 1 ≤ J 88 0 ∧ J 88 0 ≤ 6) : ym_DY J := ⟨Or.inl e, by rw [e]; exact e2⟩
theorem ym_PG_n {I J : Nat → Nat → Int} {m : Int} (h : ym_SG I 0 m 0 1) (e : ym_EM I J m 0 0) (hm : m ≤ 1005) : ym_PG J 1100 (1100 + m) := by
  have b := h.2.1
  have h2 := (ym_SG_t h (ym_LW_e e (Int.le_refl _) (by omega))).2.2
  refine ⟨?_, e.1, by omega, by omega, by omega, by omega⟩
  rw [show (1100 + m - 1100 : Int).toNat = (m - 0).toNat by omega]
  exact h2
/-- how many signs there are behind a long's first bytes -/
def ym_ly (b : Int → Int) (t : Int) : Nat → Int
  | 0 => t
  | j + 1 => if (b (56 - 8 * j) = 10 ∨ (32 ≤ b (56 - 8 * j) ∧ b (56 - 8 * j) ≤ 126)) ∧ ym_ly b t j < 1000 then ym_ly b t j + 1 else ym_ly b t j
theorem ym_ly_b {b : Int → Int} {t : Int} (h : 0 ≤ t ∧ t ≤ 1000) : ∀ j : Nat, 0 ≤ ym_ly b t j ∧ ym_ly b t j ≤ 1000
  | 0 => h
  | j + 1 => by
    have ih := ym_ly_b (b := b) h j
    unfold ym_ly
    split <;> omega
theorem ym_ly_s {b : Int → Int} {t k x : Int} (h0 : 0 ≤ k) (h1 : k ≤ 56) (h8 : k % 8 = 0) (hx : x = ym_ly b t ((56 - k) / 8).toNat) : (if (b k = 10 ∨ (32 ≤ b k ∧ b k ≤ 126)) ∧ x < 1000 then x + 1 else x) = ym_ly b t ((56 - (k - 8)) / 8).toNat := by
  rw [show ((56 - (k - 8)) / 8).toNat = ((56 - k) / 8).toNat + 1 by omega]
  show _ = if (b (56 - 8 * ((((56 - k) / 8).toNat : Nat) : Int)) = 10 ∨ (32 ≤ b (56 - 8 * ((((56 - k) / 8).toNat : Nat) : Int)) ∧ b (56 - 8 * ((((56 - k) / 8).toNat : Nat) : Int)) ≤ 126)) ∧ ym_ly b t ((56 - k) / 8).toNat < 1000 then ym_ly b t ((56 - k) / 8).toNat + 1 else ym_ly b t ((56 - k) / 8).toNat
  rw [show (56 : Int) - 8 * ((((56 - k) / 8).toNat : Nat) : Int) = k by omega, ← hx]
/-- the marks -/
def ym_MB (I : Nat → Nat → Int) : Prop := ∀ m : Int, 0 ≤ m → m < 5 → (I 101 m.toNat = 0 ∨ I 101 m.toNat = 1) ∧ (I 102 m.toNat = 0 ∨ I 102 m.toNat = 1) ∧ (m < 4 → I 101 m.toNat = 1 → ym_SB I (1 + m))
def ym_ST (I : Nat → Nat → Int) : Prop := ym_S0 I ∧ ym_UB I ∧ ym_MB I
theorem ym_UB_t {I J : Nat → Nat → Int} (e : ∀ k, J 100 k = I 100 k) (e3 : J 82 30 = I 82 30) (h : ym_UB I) : ym_UB J := by
  refine ⟨by rw [e3]; exact h.1, fun u a b => ?_⟩
  rw [e3] at b
  exact ym_SB_t (by omega) e (h.2 u a b)
theorem ym_MB_t {I J : Nat → Nat → Int} (e : ∀ k : Nat, 110 ≤ k → k < 550 → J 100 k = I 100 k) (e1 : ∀ k, J 101 k = I 101 k) (e2 : ∀ k, J 102 k = I 102 k) (h : ym_MB I) : ym_MB J := by
  intro m a b
  have q := h m a b
  rw [e1, e2]
  exact ⟨q.1, q.2.1, fun c d => ym_SB_cp (by omega) (by omega) (fun k x y => e _ (by omega) (by omega)) (q.2.2 c d)⟩
theorem ym_ST_t {I J : Nat → Nat → Int} (e : ∀ k, J 100 k = I 100 k) (e3 : J 82 30 = I 82 30) (e1 : ∀ k, J 101 k = I 101 k) (e2 : ∀ k, J 102 k = I 102 k) (h : ym_ST I) : ym_ST J := ⟨ym_S0_t e h.1, ym_UB_t e e3 h.2.1, ym_MB_t (fun k _ _ => e k) e1 e2 h.2.2⟩
theorem ym_S0_lo {I J : Nat → Nat → Int} (e : ∀ k : Nat, k < 110 → J 100 k = I 100 k) (h : ym_S0 I) : ym_S0 J := by
  rw [ym_S0_iff] at h ⊢
  exact ym_SB_cp (by omega) (by omega) (fun k x y => e _ (by omega)) h
theorem ym_ST_k {I J : Nat → Nat → Int} (h : ym_ST I) (hu : ym_UB J) (e : ∀ k : Nat, k < 550 → J 100 k = I 100 k) (e1 : ∀ k, J 101 k = I 101 k) (e2 : ∀ k, J 102 k = I 102 k) : ym_ST J := ⟨ym_S0_lo (fun k hk => e k (by omega)) h.1, hu, ym_MB_t (fun k _ hk => e k hk) e1 e2 h.2.2⟩
/-- a cell of the first block -/
theorem ym_ST_u {I : Nat → Nat → Int} {k : Nat} {z : Int} (h : ym_ST I) (hk : k < 110) (c0 : k = 0 → 0 ≤ z ∧ z ≤ 12) (c1 : k = 1 → 1 ≤ z ∧ z ≤ 7) (c2 : k = 2 → 0 ≤ z ∧ z ≤ 20) (c3 : ∀ s : Int, 0 ≤ s → s < 12 → (k : Int) = 8 + 3 * s → 0 ≤ z ∧ z ≤ 4) (c4 : 44 ≤ k → k < 68 → -1 ≤ z ∧ z ≤ 3) : ym_ST (yi_u I 100 k z) := by
  obtain ⟨⟨h1, h2, h3, h4, h5⟩, hu, hm⟩ := h
  have far : ∀ j : Nat, 110 ≤ j → yi_u I 100 k z 100 j = I 100 j := fun j hj => yi_u_ne _ _ (by omega)
  refine ⟨⟨?_, ?_, ?_, fun s a b => ?_, fun j a b => ?_⟩, ⟨by rw [yi_u_ne _ _ (by omega)]; exact hu.1, fun u a b => ?_⟩, ?_⟩
  · by_cases e : k = 0
    · subst e; rw [yi_u_eq]; exact c0 rfl
    · rw [yi_u_ne _ _ (by omega)]; exact h1
  · by_cases e : k = 1
    · subst e; rw [yi_u_eq]; exact c1 rfl
    · rw [yi_u_ne _ _ (by omega)]; exact h2
  · by_cases e : k = 2
    · subst e; rw [yi_u_eq]; exact c2 rfl
    · rw [yi_u_ne _ _ (by omega)]; exact h3
  · by_cases e : (8 + 3 * s).toNat = k
    · rw [e, yi_u_eq]; exact c3 s a b (by omega)
    · rw [yi_u_ne _ _ (by omega)]; exact h4 s a b
  · by_cases e : (44 + j).toNat = k
    · rw [e, yi_u_eq]; exact c4 (by omega) (by omega)
    · rw [yi_u_ne _ _ (by omega)]; exact h5 j a b
  · rw [yi_u_ne _ _ (by omega)] at b
    exact ym_SB_cp (by omega) (by omega) (fun q x y => far _ (by omega)) (hu.2 u a b)
  · exact ym_MB_t (fun q x _ => far q x) (fun q => yi_u_ne _ _ (by omega)) (fun q => yi_u_ne _ _ (by omega)) hm
/-- the land's programmes, below what is read -/
def ym_PK (I : Nat → Nat → Int) : Prop := (∀ k : Int, 0 ≤ k → k < I 88 4 → ∃ e, e ≤ 1099 ∧ ym_PG I (I 88 (21 + k).toNat) e) ∧ (∀ w : Int, 0 ≤ w → w < I 88 5 → (0 ≤ I 88 (25 + 3 * w).toNat ∧ I 88 (25 + 3 * w).toNat ≤ 4) ∧ ∃ e, e ≤ 1099 ∧ ym_PG I (I 88 (25 + 3 * w + 2).toNat) e) ∧ (I 88 6 < 0 ∨ ∃ e, e ≤ 1099 ∧ ym_PG I (I 88 6) e)
theorem ym_PK_PL {I : Nat → Nat → Int} (h : ym_PK I) : ym_PL I := ⟨fun k a b => (h.1 k a b).imp (fun _ z => z.2), fun w a b => ⟨(h.2.1 w a b).1, (h.2.1 w a b).2.imp (fun _ z => z.2)⟩, h.2.2.imp id (fun z => z.imp (fun _ y => y.2))⟩
theorem ym_PG_lw {I J : Nat → Nat → Int} {fr e : Int} (h : ym_PG I fr e) (he : e ≤ 1099) (lw : ym_LW I J 0) : ym_PG J fr e := by
  obtain ⟨h1, h2, h3, h4, h5, h6⟩ := h
  exact ⟨ym_sg_t _ h3 (fun k _ _ => lw k (by omega)) h1, by rw [(lw e.toNat (by omega)).1]; exact h2, h3, h4, h5, h6⟩
theorem ym_PK_t {I J : Nat → Nat → Int} (hl : I 88 4 ≤ 4 ∧ I 88 5 ≤ 6) (e0 : ∀ k : Nat, k < 50 → J 88 k = I 88 k) (lw : ym_LW I J 0) (h : ym_PK I) : ym_PK J := by
  obtain ⟨h1, h2, h3⟩ := h
  refine ⟨fun k a b => ?_, fun w a b => ?_, ?_⟩
  · rw [e0 4 (by omega)] at b
    rw [e0 _ (by omega)]
    obtain ⟨e, x, y⟩ := h1 k a b
    exact ⟨e, x, ym_PG_lw y x lw⟩
  · rw [e0 5 (by omega)] at b
    rw [e0 _ (by omega), e0 _ (by omega)]
    obtain ⟨c, e, x, y⟩ := h2 w a b
    exact ⟨c, e, x, ym_PG_lw y x lw⟩
  · rw [e0 6 (by omega)]
    exact h3.imp id (fun ⟨e, x, y⟩ => ⟨e, x, ym_PG_lw y x lw⟩)
