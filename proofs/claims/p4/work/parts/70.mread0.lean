/-! Reading: the tokens up to their end; codes that come behind the others. -/
def ym_TK (I : Nat → Nat → Int) (e : Int) : Prop := (0 ≤ e ∧ e ≤ 1000) ∧ I 84 e.toNat = 0 ∧ (∀ k : Int, 0 ≤ k → k ≤ e → 0 ≤ I 85 k.toNat ∧ I 85 k.toNat ≤ 1000)
theorem ym_TK_t {I J : Nat → Nat → Int} {e : Int} (e1 : ∀ k, J 84 k = I 84 k) (e2 : ∀ k, J 85 k = I 85 k) (h : ym_TK I e) : ym_TK J e := by
  obtain ⟨h1, h2, h3⟩ := h
  exact ⟨h1, by rw [e1]; exact h2, fun k a b => by rw [e2]; exact h3 k a b⟩
theorem ym_TK_lt {I : Nat → Nat → Int} {e a : Int} (h : ym_TK I e) (h1 : a ≤ e) (hs : ¬ I 84 a.toNat = 0) : a < e := by
  by_cases hc : a = e
  · subst hc
    exact absurd h.2.1 hs
  · omega
/-- one code more -/
def ym_EM (I J : Nat → Nat → Int) (n c a : Int) : Prop := J 89 (1100 + n).toNat = c ∧ J 90 (1100 + n).toNat = a ∧ ∀ k : Nat, k ≠ (1100 + n).toNat → J 89 k = I 89 k ∧ J 90 k = I 90 k
/-- codes from a place to another, with the pile's heights -/
def ym_SG (I : Nat → Nat → Int) (a b h h' : Int) : Prop := 0 ≤ a ∧ a ≤ b ∧ ym_sg I (b - a).toNat (1100 + a) h h'
def ym_LW (I J : Nat → Nat → Int) (n : Int) : Prop := ∀ k : Nat, (k : Int) < 1100 + n → J 89 k = I 89 k ∧ J 90 k = I 90 k
theorem ym_LW_r (I : Nat → Nat → Int) (n : Int) : ym_LW I I n := fun _ _ => ⟨rfl, rfl⟩
theorem ym_LW_t {I J G : Nat → Nat → Int} {n m : Int} (h1 : ym_LW I J n) (h2 : ym_LW J G m) (hm : n ≤ m) : ym_LW I G n := fun k hk => by
  have a := h1 k hk
  have b := h2 k (by omega)
  exact ⟨b.1.trans a.1, b.2.trans a.2⟩
theorem ym_LW_e {I J : Nat → Nat → Int} {n m c a : Int} (h : ym_EM I J m c a) (hm : n ≤ m) (h0 : 0 ≤ m) : ym_LW I J n := fun k hk => h.2.2 k (by omega)
theorem ym_LW_f {I J G : Nat → Nat → Int} {n : Int} (h1 : ym_LW I J n) (e1 : ∀ k, G 89 k = J 89 k) (e2 : ∀ k, G 90 k = J 90 k) : ym_LW I G n := fun k hk => by
  rw [e1, e2]
  exact h1 k hk
theorem ym_LW_g {I J G : Nat → Nat → Int} {n : Int} (h1 : ym_LW J G n) (e1 : ∀ k, J 89 k = I 89 k) (e2 : ∀ k, J 90 k = I 90 k) : ym_LW I G n := fun k hk => by
  rw [← e1, ← e2]
  exact h1 k hk
theorem ym_SG_t {I J : Nat → Nat → Int} {a b h h' : Int} (hs : ym_SG I a b h h') (hl : ym_LW I J b) : ym_SG J a b h h' := by
  obtain ⟨h0, h1, h2⟩ := hs
  exact ⟨h0, h1, ym_sg_t _ (by omega) (fun k x y => hl k (by omega)) h2⟩
theorem ym_SG_app {I : Nat → Nat → Int} {a b c h h' h2 : Int} (x : ym_SG I a b h h') (y : ym_SG I b c h' h2) : ym_SG I a c h h2 := by
  obtain ⟨x0, x1, x2⟩ := x
  obtain ⟨y0, y1, y2⟩ := y
  refine ⟨x0, by omega, ?_⟩
  rw [show (c - a).toNat = (b - a).toNat + (c - b).toNat by omega]
  refine ym_sg_app _ x2 ?_
  rw [show (1100 + a + ((b - a).toNat : Int)) = 1100 + b by omega]
  exact y2
theorem ym_SG_up {I : Nat → Nat → Int} {a b h h' c : Int} (hc : 0 ≤ c) (x : ym_SG I a b h h') : ym_SG I a b (h + c) (h' + c) := ⟨x.1, x.2.1, ym_sg_up hc _ x.2.2⟩
theorem ym_SG_1 {I J : Nat → Nat → Int} {n c x h h' : Int} (e : ym_EM I J n c x) (h0 : 0 ≤ n) (c0 : 1 ≤ c ∧ c ≤ 11) (c1 : c = 2 → 0 ≤ x ∧ x ≤ 2) (c2 : c = 11 → ym_CV x) (c3 : c = 3 → 1 ≤ h ∧ h' = h) (c4 : 4 ≤ c ∧ c ≤ 10 → 2 ≤ h ∧ h' = h - 1) (c5 : c = 1 ∨ c = 2 ∨ c = 11 → h' = h + 1) : ym_SG J n (n + 1) h h' := by
  refine ⟨h0, by omega, ?_⟩
  rw [show (n + 1 - n).toNat = 1 by omega]
  refine ⟨h', ?_, rfl⟩
  unfold ym_s1
  rw [e.1, e.2.1]
  exact ⟨c0, c1, c2, c3, c4, c5⟩
/-- two parts and what joins them -/
theorem ym_SG_bin {J I3 I4 : Nat → Nat → Int} {a b c o : Int} (x : ym_SG J a b 0 1) (hl : ym_LW J I3 b) (y : ym_SG I3 b c 0 1) (e : ym_EM I3 I4 c o 0) (o0 : 4 ≤ o) (o1 : o ≤ 10) : ym_SG I4 a (c + 1) 0 1 := by
  have y0 := y.1
  have y1 := y.2.1
  have y2 : ym_SG I3 b c 1 2 := ym_SG_up (c := 1) (by omega) y
  have z := ym_SG_app (ym_SG_t x hl) y2
  refine ym_SG_app (ym_SG_t z (ym_LW_e e (Int.le_refl _) (by omega))) (ym_SG_1 e (by omega) (by omega) (by omega) (by omega) (by omega) (by omega) (by omega))
theorem ym_SG_not {I3 I4 : Nat → Nat → Int} {a c : Int} (x : ym_SG I3 a c 0 1) (e : ym_EM I3 I4 c 3 0) : ym_SG I4 a (c + 1) 0 1 := by
  have y0 := x.1
  have y1 := x.2.1
  refine ym_SG_app (ym_SG_t x (ym_LW_e e (Int.le_refl _) (by omega))) (ym_SG_1 e (by omega) (by omega) (by omega) (by omega) (by omega) (by omega) (by omega))
theorem ym_SG_leaf {I J : Nat → Nat → Int} {n c x : Int} (e : ym_EM I J n c x) (h0 : 0 ≤ n) (hc : c = 1 ∨ (c = 2 ∧ 0 ≤ x ∧ x ≤ 2) ∨ (c = 11 ∧ ym_CV x)) : ym_SG J n (n + 1) 0 1 := by
  rcases hc with z | z | z
  · exact ym_SG_1 e h0 (by omega) (by omega) (by omega) (by omega) (by omega) (by omega)
  · exact ym_SG_1 e h0 (by omega) (fun _ => z.2) (by omega) (by omega) (by omega) (by omega)
  · exact ym_SG_1 e h0 (by omega) (by omega) (fun _ => z.2) (by omega) (by omega) (by omega)
