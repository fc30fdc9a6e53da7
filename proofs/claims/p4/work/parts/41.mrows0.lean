/-! Rows of the check's bits. -/
theorem yi_lce {a b : Int} : yi_lcmp a b = 0 ↔ a = b := by
  unfold yi_lcmp
  split
  · constructor <;> intro h <;> omega
  · split
    · constructor <;> intro _ <;> first | rfl | assumption
    · constructor <;> intro h <;> omega
theorem yi_lcl {a b : Int} : yi_lcmp a b < 0 ↔ a < b := by
  unfold yi_lcmp
  split
  · constructor <;> intro h <;> omega
  · split
    · constructor <;> intro h <;> omega
    · constructor <;> intro h <;> omega
theorem yi_lcg {a b : Int} : 0 < yi_lcmp a b ↔ b < a := by
  unfold yi_lcmp
  split
  · constructor <;> intro h <;> omega
  · split
    · constructor <;> intro h <;> omega
    · constructor <;> intro h <;> omega
theorem yi_Leq_t {a b : Int} (h : a = b) : yi_cmp .eq (yi_lcmp a b) 0 = true := yi_eq_t (yi_lce.mpr h)
theorem yi_Leq_f {a b : Int} (h : ¬ a = b) : yi_cmp .eq (yi_lcmp a b) 0 = false := yi_eq_f (fun z => h (yi_lce.mp z))
theorem yi_Lne_t {a b : Int} (h : ¬ a = b) : yi_cmp .ne (yi_lcmp a b) 0 = true := yi_ne_t (fun z => h (yi_lce.mp z))
theorem yi_Lne_f {a b : Int} (h : a = b) : yi_cmp .ne (yi_lcmp a b) 0 = false := yi_ne_f (yi_lce.mpr h)
theorem yi_Llt_t {a b : Int} (h : a < b) : yi_cmp .lt (yi_lcmp a b) 0 = true := yi_lt_t (yi_lcl.mpr h)
theorem yi_Llt_f {a b : Int} (h : ¬ a < b) : yi_cmp .lt (yi_lcmp a b) 0 = false := yi_lt_f (fun z => h (yi_lcl.mp z))
theorem yi_Lgt_t {a b : Int} (h : b < a) : yi_cmp .gt (yi_lcmp a b) 0 = true := yi_gt_t (yi_lcg.mpr h)
theorem yi_Lgt_f {a b : Int} (h : ¬ b < a) : yi_cmp .gt (yi_lcmp a b) 0 = false := yi_gt_f (fun z => h (yi_lcg.mp z))
theorem yi_Lge_t {a b : Int} (h : b ≤ a) : yi_cmp .ge (yi_lcmp a b) 0 = true := yi_ge_t (by
  have := yi_lcl (a := a) (b := b)
  omega)
theorem yi_Lge_f {a b : Int} (h : ¬ b ≤ a) : yi_cmp .ge (yi_lcmp a b) 0 = false := yi_ge_f (by
  have := yi_lcl (a := a) (b := b)
  omega)
theorem yi_Lle_t {a b : Int} (h : a ≤ b) : yi_cmp .le (yi_lcmp a b) 0 = true := yi_le_t (by
  have := yi_lcg (a := a) (b := b)
  omega)
theorem yi_Lle_f {a b : Int} (h : ¬ a ≤ b) : yi_cmp .le (yi_lcmp a b) 0 = false := yi_le_f (by
  have := yi_lcg (a := a) (b := b)
  omega)
/-- a row is written up to a place -/
def ym_rw (L : Nat → Nat → Int) (row n : Int) (f : Nat → Int) : Nat → Nat → Int := fun p i => if p = 97 ∧ 512 * row ≤ (i : Int) ∧ (i : Int) < 512 * row + n then f ((i : Int) - 512 * row).toNat else L p i
theorem ym_rw_0 (L : Nat → Nat → Int) (row : Int) (f : Nat → Int) : ym_rw L row 0 f = L := by
  funext p i
  exact if_neg (by omega)
theorem ym_rw_p (L : Nat → Nat → Int) (row n : Int) (f : Nat → Int) {p i : Nat} (hp : p ≠ 97) : ym_rw L row n f p i = L p i := if_neg (fun z => hp z.1)
theorem ym_rw_o (L : Nat → Nat → Int) (row n : Int) (f : Nat → Int) {i : Nat} (h : ¬ (512 * row ≤ (i : Int) ∧ (i : Int) < 512 * row + n)) : ym_rw L row n f 97 i = L 97 i := if_neg (fun z => h z.2)
theorem ym_rw_i (L : Nat → Nat → Int) (row n : Int) (f : Nat → Int) {i : Nat} (h : 512 * row ≤ (i : Int) ∧ (i : Int) < 512 * row + n) : ym_rw L row n f 97 i = f ((i : Int) - 512 * row).toNat := if_pos ⟨rfl, h⟩
theorem ym_rw_s {L : Nat → Nat → Int} {row k : Int} {f : Nat → Int} {v : Int} (h0 : 0 ≤ row) (hk : 0 ≤ k) (hv : v = f k.toNat) : yi_u (ym_rw L row k f) 97 (512 * row + k).toNat v = ym_rw L row (k + 1) f := by
  funext p i
  by_cases hp : p = 97 ∧ i = (512 * row + k).toNat
  · obtain ⟨rfl, rfl⟩ := hp
    rw [yi_u_eq, ym_rw_i _ _ _ _ (by omega), hv]
    congr 1
    omega
  · rw [yi_u_ne _ _ hp]
    by_cases h97 : p = 97
    · subst h97
      have hi : i ≠ (512 * row + k).toNat := fun z => hp ⟨rfl, z⟩
      by_cases hc : 512 * row ≤ (i : Int) ∧ (i : Int) < 512 * row + k
      · rw [ym_rw_i _ _ _ _ hc, ym_rw_i _ _ _ _ (by omega)]
      · rw [ym_rw_o _ _ _ _ hc, ym_rw_o _ _ _ _ (by omega)]
    · rw [ym_rw_p _ _ _ _ h97, ym_rw_p _ _ _ _ h97]
