/-! What the law keeps of the marks. -/
def lw_W (I : cl_I) (R : cl_Rr) (Y : cl_Y) : Prop := mk_C R Y ∧ mn_I R Y ∧ ∀ k, k < 4 → (R 57 k = none ↔ I 101 k = 0)
section LWW
variable {I L I0 I1 L1 I2 L2 : cl_I} {R R1 : cl_Rr} {Y Y1 : cl_Y}
/-- a call of both that is neither land nor mark -/
theorem lw_W_s (h : lw_W I R Y) (hc : cn_H R Y R1 Y1) (hm : mn_H I I1 R1 Y1) (hm2 : mn_H I1 I2 R1 Y1) : lw_W I2 R1 Y1 := by
  have z := mk_C_h h.1 hc
  exact ⟨z.1, hm.1, fun k hk => by rw [z.2 k, hm2.2 k, hm.2 k]; exact h.2.2 k hk⟩
theorem lw_W_l {f : Int} (h : lw_W I R Y) (hC : mk_C R1 Y1) (a : (f = 0 ∧ ∀ k, k < 4 → R1 57 k = none) ∨ (¬ f = 0 ∧ ∀ k, R1 57 k = R 57 k)) (hm : mn_H I I1 R1 Y1) (b : (f = 0 ∧ ∀ k : Nat, k < 4 → I2 101 k = 0) ∨ (¬ f = 0 ∧ ∀ k : Nat, I2 101 k = I1 101 k)) : lw_W I2 R1 Y1 := by
  refine ⟨hC, hm.1, fun k hk => ?_⟩
  rcases a with ⟨a1, a2⟩ | ⟨a1, a2⟩ <;> rcases b with ⟨b1, b2⟩ | ⟨b1, b2⟩
  · exact ⟨fun _ => b2 k hk, fun _ => a2 k hk⟩
  · exact absurd a1 b1
  · exact absurd b1 a1
  · rw [a2 k, b2 k, hm.2 k]
    exact h.2.2 k hk
theorem lw_W_m {m bk z1 z2 : Int} (h : lw_W I R Y) (hC : mk_C R1 Y1) (a : mk_Q R R1 m bk z1) (hm : mn_H I I1 R1 Y1) (b : mq_Q I1 I2 m bk z2) : z1 = z2 ∧ lw_W I2 R1 Y1 := by
  have key : ((0 ≤ m ∧ m < 4) ∧ (bk = 0 ∨ ¬ R 57 m.toNat = none)) ↔ ((0 ≤ m ∧ m < 4) ∧ (bk = 0 ∨ ¬ I1 101 m.toNat = 0)) := by
    refine and_congr_right (fun hm1 => or_congr_right (not_congr ?_))
    rw [hm.2]
    exact h.2.2 m.toNat (by omega)
  have e : z1 = z2 := by
    rcases a.1 with ⟨a1, a2⟩ | ⟨a1, a2⟩ <;> rcases b.1 with ⟨b1, b2⟩ | ⟨b1, b2⟩
    · rw [a2, b2]
    · exact absurd (key.1 a1) b1
    · exact absurd (key.2 b1) a1
    · rw [a2, b2]
  refine ⟨e, hC, hm.1, fun k hk => ?_⟩
  rw [a.2 k hk, b.2 k hk, e, hm.2 k]
  exact and_congr_left (fun _ => h.2.2 k hk)
end LWW
