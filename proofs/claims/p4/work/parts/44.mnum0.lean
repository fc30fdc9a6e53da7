/-! Numbers. -/
theorem yi_mb {a b A B : Int} (ha : 0 ≤ a) (hA : a ≤ A) (hb : 0 ≤ b) (hB : b ≤ B) : 0 ≤ a * b ∧ a * b ≤ A * B := ⟨Int.mul_nonneg ha hb, Int.mul_le_mul hA hB hb (Int.le_trans ha hA)⟩
theorem yi_shl1 {s : Int} (h0 : 0 ≤ s) (h1 : s ≤ 12) : 1 ≤ yi_shl 1 s ∧ yi_shl 1 s ≤ 4096 := by
  rcases (show s = 0 ∨ s = 1 ∨ s = 2 ∨ s = 3 ∨ s = 4 ∨ s = 5 ∨ s = 6 ∨ s = 7 ∨ s = 8 ∨ s = 9 ∨ s = 10 ∨ s = 11 ∨ s = 12 by omega) with z | z | z | z | z | z | z | z | z | z | z | z | z <;> subst z <;> decide
theorem yi_and1 (x : Int) : 0 ≤ yi_iand x 1 ∧ yi_iand x 1 ≤ 1 := by
  unfold yi_iand
  obtain ⟨j, hj, e⟩ := pk_andE (Int32.ofInt x) (m := 1) 1 (by decide)
  have e1 : Int32.ofInt 1 = 1 := by decide
  rw [e1, e, nI_toInt (by omega)]
  omega
/-- how many futures, day by day and one by one; above the most it stays -/
def ym_fn (e : Int) : Nat → Int
  | 0 => 1
  | k + 1 => if 32768 < ym_fn e k then ym_fn e k else yi_W (ym_fn e k * e)
def ym_fo (da pe ev : Int) : Int := (fun n : Int => if 32768 < n then -1 else yi_w n) (if 0 < ev then ym_fn ev (da * pe).toNat else 1)
theorem ym_fn_b {e : Int} (h0 : 1 ≤ e) (h1 : e ≤ 5) : ∀ k : Nat, 1 ≤ ym_fn e k ∧ ym_fn e k ≤ 163840
  | 0 => ⟨(by decide : (1 : Int) ≤ 1), (by decide : (1 : Int) ≤ 163840)⟩
  | k + 1 => by
    have ih := ym_fn_b h0 h1 k
    have e1 : ym_fn e (k + 1) = if 32768 < ym_fn e k then ym_fn e k else yi_W (ym_fn e k * e) := rfl
    rw [e1]
    split
    · exact ih
    · rename_i hc
      have hm := yi_mb (a := ym_fn e k) (b := e) (A := 32768) (B := 5) (by omega) (by omega) (by omega) h1
      have hm2 : 1 * 1 ≤ ym_fn e k * e := Int.mul_le_mul ih.1 h0 (by omega) (by omega)
      have e2 : yi_W (ym_fn e k * e) = ym_fn e k * e := by
        unfold yi_W
        omega
      rw [e2]
      omega
theorem ym_fo_b {da pe ev : Int} (h1 : ev ≤ 5) : ym_fo da pe ev = -1 ∨ (1 ≤ ym_fo da pe ev ∧ ym_fo da pe ev ≤ 32768) := by
  unfold ym_fo
  dsimp only
  by_cases he : 0 < ev
  · rw [if_pos he]
    have := ym_fn_b (e := ev) (by omega) h1 (da * pe).toNat
    by_cases hn : 32768 < ym_fn ev (da * pe).toNat
    · left
      rw [if_pos hn]
    · right
      rw [if_neg hn, yi_wn (by omega) (by omega)]
      omega
  · rw [if_neg he]
    right
    decide
/-- the land's own numbers -/
def ym_LR (I : Nat → Nat → Int) : Prop := (1 ≤ I 88 0 ∧ I 88 0 ≤ 6) ∧ (0 ≤ I 88 1 ∧ I 88 1 ≤ 4) ∧ (0 ≤ I 88 2 ∧ I 88 2 ≤ 4) ∧ (0 ≤ I 88 3 ∧ I 88 3 ≤ 5) ∧ (0 ≤ I 88 4 ∧ I 88 4 ≤ 4) ∧ (0 ≤ I 88 5 ∧ I 88 5 ≤ 6)
theorem ym_LR_t {I J : Nat → Nat → Int} (e : ∀ k, J 88 k = I 88 k) (h : ym_LR I) : ym_LR J := by
  unfold ym_LR at h ⊢
  rw [e, e, e, e, e, e]
  exact h
/-- digits: the powers are no 0 -/
def ym_PW (I : Nat → Nat → Int) : Prop := ∀ k : Int, 0 ≤ k → k < I 88 0 * I 88 1 → 1 ≤ I 88 2 → 1 ≤ I 98 k.toNat
theorem ym_PW_t {I J : Nat → Nat → Int} (e : ∀ k, J 88 k = I 88 k) (e2 : ∀ k, J 98 k = I 98 k) (h : ym_PW I) : ym_PW J := by
  intro k h0 h1 h2
  rw [e, e] at h1
  rw [e] at h2
  rw [e2]
  exact h k h0 h1 h2
theorem yi_db {f p : Int} (hf : 0 ≤ f) (hp : 1 ≤ p) : 0 ≤ f / p ∧ f / p ≤ f := ⟨Int.ediv_nonneg hf (by omega), Int.ediv_le_self p hf⟩
/-- a clause that can be looked at -/
def ym_CV (c : Int) : Prop := 0 ≤ c ∧ c < 3072 ∧ (c / 8 % 16 ≤ 2 → 1 ≤ c % 8 ∧ c % 8 ≤ 6) ∧ (7 ≤ c / 8 % 16 → c / 8 % 16 ≤ 8 ∧ c / 512 ≤ 3 ∧ c % 8 ≤ 3)
theorem ym_fn_u {e : Int} : ∀ (m t : Nat), t ≤ m → ym_fn e m ≤ 32768 → ym_fn e t ≤ 32768
  | 0, t, h, hm => by
    have : t = 0 := by omega
    rw [this]
    exact hm
  | m + 1, t, h, hm => by
    by_cases ht : t = m + 1
    · rw [ht]; exact hm
    · have e1 : ym_fn e (m + 1) = if 32768 < ym_fn e m then ym_fn e m else yi_W (ym_fn e m * e) := rfl
      by_cases hc : 32768 < ym_fn e m
      · rw [e1, if_pos hc] at hm
        omega
      · exact ym_fn_u m t (by omega) (by omega)
theorem ym_fn_s {e : Int} {t : Nat} (h0 : 1 ≤ e) (h1 : e ≤ 5) (h : ym_fn e t ≤ 32768) : ym_fn e (t + 1) = ym_fn e t * e := by
  have e1 : ym_fn e (t + 1) = if 32768 < ym_fn e t then ym_fn e t else yi_W (ym_fn e t * e) := rfl
  have b := ym_fn_b h0 h1 t
  have hm := yi_mb (a := ym_fn e t) (b := e) (A := 32768) (B := 5) (by omega) h (by omega) h1
  rw [e1, if_neg (by omega)]
  unfold yi_W
  omega
theorem ym_fo_u {da pe ev : Int} (hp : 1 ≤ ev) (h : 1 ≤ ym_fo da pe ev) : ym_fn ev (da * pe).toNat ≤ 32768 := by
  unfold ym_fo at h
  dsimp only at h
  rw [if_pos (show 0 < ev by omega)] at h
  by_cases hc : 32768 < ym_fn ev (da * pe).toNat
  · rw [if_pos hc] at h
    omega
  · omega
