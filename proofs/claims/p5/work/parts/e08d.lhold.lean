/-! What a call of the class keeps, at one look; first's frame. -/
def lw_H (I L : cl_I) (R : cl_Rr) (Y : cl_Y) (I1 L1 : cl_I) (R1 : cl_Rr) (Y1 : cl_Y) : Prop := cx_H I L R I1 L1 R1 Y1 ∧ (∀ q, 58 ≤ q → (q + 13 < 82 ∨ 110 ≤ q) → cw_I q R Y → cw_H q I L R Y I1 L1 R1 Y1) ∧ cm_H I L I1 L1 R1 Y1
theorem lw_H_109 {I L I1 L1 : cl_I} {R R1 : cl_Rr} {Y Y1 : cl_Y} {z : Int} (h : lw_H I L R Y I1 L1 R1 Y1) : lw_H I L R Y I1 (yi_u L1 109 0 z) R1 Y1 := by
  obtain ⟨h1, h2, h3, h4, h5⟩ := h
  refine ⟨cx_H_109 h1, fun q a b hi => ?_, h3, fun p k hp => ⟨(h4 p k hp).1, ?_⟩, h5⟩
  · obtain ⟨c1, c2, c3⟩ := h2 q a b hi
    refine ⟨c1, fun p k hp => ⟨(c2 p k hp).1, ?_, (c2 p k hp).2.2⟩, c3⟩
    rw [yi_u_ne _ _ (fun e => ?_)]
    · exact (c2 p k hp).2.1
    · rcases hp with hp | hp
      · have := cw_pr_i hp
        omega
      · rw [e.1] at hp
        cases hp
  · rw [yi_u_ne _ _ (fun e => by rw [e.1] at hp; cases hp)]
    exact (h4 p k hp).2
theorem lw_H_r {I L : cl_I} {R : cl_Rr} {Y : cl_Y} (h : cx_I R Y) (h2 : cm_I R Y) : lw_H I L R Y I L R Y := ⟨cx_H_r h, fun q _ _ hi => ⟨hi, fun _ _ _ => ⟨rfl, rfl, rfl⟩, fun _ _ => ⟨rfl, rfl⟩, Nat.le_refl _⟩, h2, fun _ _ _ => ⟨rfl, rfl⟩, rfl⟩
theorem lw_first {d k : Nat} {I L : cl_I} {R : cl_Rr} {Y : cl_Y} (hc : cx_I R Y) (hm : cm_I R Y) (hY : 11 ≤ Y.2.2) {x y w : Int} : yi_D zi_Ms d zi_mg k (0, [(0, .inr (.inr (some 10))), (1, .inl x), (2, .inl y), (3, .inl w)], [], (I, L, R, Y), 0, 0) (fun r => lw_H I L R Y r.2.1.1 r.2.1.2.1 r.2.1.2.2.1 r.2.1.2.2.2) := fun n j r h e => ⟨cx_first hc n j r h e, fun q a _ hi => cw_first (by omega) hi hY n j r h e, cm_first hm hY n j r h e⟩
theorem lw_M_s {n nc ns c1 s1 : Nat} {I L I1 L1 I2 L2 : cl_I} {R R1 : cl_Rr} {Y Y1 : cl_Y} (hM : lw_M n I L R Y nc ns) (hP : cl_P [] I L R Y I1 L1 R1 Y1) (hc : c1 ≤ 700) (hs : s1 ≤ 13896) (hx : lw_H I L R Y I1 L1 R1 Y1) (mf : ym_MF I1 L1 I2 L2) (iv : ym_IV I2) (e2 : I2 82 2 = I1 82 2 ∧ ym_MT I1 L1 I2 L2) (hm2 : cm_H I1 L1 I2 L2 R1 Y1) : lw_M (n + 1) I2 L2 R1 Y1 (nc + c1 + 0) (ns + s1 + 0) := ⟨lw_K_s hM.1 hP hc hs hx.1 mf iv e2, lw_W_s hM.2 hx.2.1 hx.2.2 mf hm2⟩
theorem hz_M : lw_M 0 (hz zi_A0).1 (hz zi_A0).2.1 (hz zi_A0).2.2.1 (hz zi_A0).2.2.2 100 177797 := ⟨hz_K, hw_W⟩
