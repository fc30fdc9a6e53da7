/-! What the law keeps of the tapes. -/
def lw_T (I L : cl_I) (R : cl_Rr) (Y : cl_Y) : Prop := cx_I R Y ∧ (R 10 0 = some 11 ∧ R 10 1 = some 12) ∧ cs_S R Y ∧ tl_R (I 13, I 12 5) (I 83, I 82 2) ∧ ((∀ j : Nat, j < 29 → L 17 j = sp_W32.getD j 0) ∧ (L 18 0 = 72564293 ∧ L 18 1 = 1265842 ∧ L 18 2 = 671108) ∧ (∀ w : Nat, w < 32 → L 87 w = sp_W37.getD w 0))
def lw_K (n : Nat) (I L : cl_I) (R : cl_Rr) (Y : cl_Y) (nc ns : Nat) : Prop := lw_J n I L R Y nc ns ∧ lw_T I L R Y
section LWT
variable {I L I0 I1 L1 I2 L2 : cl_I} {R R1 : cl_Rr} {Y Y1 : cl_Y}
theorem lw_T_s (hC : cl_C [] I L R Y) (hT : lw_T I L R Y) (hP : cl_P [] I0 L R Y I1 L1 R1 Y1) (hc : cx_H I L R I1 L1 R1 Y1) (mf : ym_MF I1 L1 I2 L2) (mt : ym_MT I1 L1 I2 L2) (ht : tl_R (I2 13, I2 12 5) (I2 83, I2 82 2)) : lw_T I2 L2 R1 Y1 := by
  have hl : ∀ p, p < 110 → p < Y.2.2 := fun p hp => Nat.lt_of_lt_of_le hp hC.2.2.1.1
  obtain ⟨t1, t2, t3, t4, t5, t6, t7⟩ := hT
  have r := hc.2.2
  refine ⟨hc.1, ⟨(r 10 0 rfl).trans t2.1, (r 10 1 rfl).trans t2.2⟩, ?_, ht, fun j hj => ?_, ?_, fun w hw => ?_⟩
  · have y : ∀ p, p < 110 → Y1.2.1 p = Y.2.1 p := fun p hp => (hP.2.1.2 p (hl p hp)).2
    unfold cs_S
    rw [r 11 0 rfl, r 11 1 rfl, r 11 2 rfl, r 12 0 rfl, r 12 1 rfl, r 12 2 rfl, r 12 3 rfl, r 12 4 rfl, y 13 (by omega), y 14 (by omega), y 15 (by omega), y 16 (by omega), y 17 (by omega), y 18 (by omega), y 19 (by omega)]
    exact t3
  · rw [(mf 17 j (by omega)).2, (hc.2.1 17 j rfl).2]
    exact t5 j hj
  · rw [(mf 18 0 (by omega)).2, (mf 18 1 (by omega)).2, (mf 18 2 (by omega)).2, (hc.2.1 18 0 rfl).2, (hc.2.1 18 1 rfl).2, (hc.2.1 18 2 rfl).2]
    exact t6
  · rw [(mt w).2, (hP.2.2.1 87 w (by omega) (by omega)).2.1]
    exact t7 w hw
theorem lw_T_t (hT : lw_T I L R Y) (hP : cl_P [] I L R Y I1 L1 R1 Y1) (hc : cx_H I L R I1 L1 R1 Y1) (mf : ym_MF I1 L1 I2 L2) (e2 : I2 82 2 = I1 82 2) (mt : ym_MT I1 L1 I2 L2) : tl_R (I2 13, I2 12 5) (I2 83, I2 82 2) := by
  have a : I2 13 = I 13 := funext fun k => ((mf 13 k (by omega)).1).trans (hc.2.1 13 k rfl).1
  have b : I2 83 = I 83 := funext fun k => ((mt k).1).trans (hP.2.2.1 83 k (by omega) (by omega)).1
  have c : I2 12 5 = I 12 5 := ((mf 12 5 (by omega)).1).trans hP.2.2.2
  have d : I2 82 2 = I 82 2 := e2.trans (hP.2.2.1 82 2 (by omega) (by omega)).1
  rw [a, b, c, d]
  exact hT.2.2.2.1
theorem lw_T_0 (hP : cl_P [] (yi_u I 12 5 0) L R Y I1 L1 R1 Y1) (mf : ym_MF I1 L1 I2 L2) (e2 : I2 82 2 = 0) : tl_R (I2 13, I2 12 5) (I2 83, I2 82 2) := by
  have c : I2 12 5 = 0 := ((mf 12 5 (by omega)).1).trans (hP.2.2.2.trans (yi_u_eq _ _ _ _))
  rw [c, e2]
  exact ⟨rfl, (show (0 : Int) ≤ 0 ∧ (0 : Int) ≤ 1000 by decide), fun i hi => absurd (show (i : Int) < 0 from hi) (by omega)⟩
theorem lw_K_s {n nc ns c1 s1 : Nat} (hK : lw_K n I L R Y nc ns) (hP : cl_P [] I L R Y I1 L1 R1 Y1) (hc : c1 ≤ 700) (hs : s1 ≤ 13896) (hx : cx_H I L R I1 L1 R1 Y1) (mf : ym_MF I1 L1 I2 L2) (iv : ym_IV I2) (e2 : I2 82 2 = I1 82 2 ∧ ym_MT I1 L1 I2 L2) : lw_K (n + 1) I2 L2 R1 Y1 (nc + c1 + 0) (ns + s1 + 0) := ⟨lw_J_s hK.1 hP hc hs mf iv e2.1, lw_T_s hK.1.1 hK.2 hP hx mf e2.2 (lw_T_t hK.2 hP hx mf e2.1 e2.2)⟩
theorem lw_K_0 {n nc ns c1 s1 : Nat} (hK : lw_K n I L R Y nc ns) (hP : cl_P [] (yi_u I 12 5 0) L R Y I1 L1 R1 Y1) (hc : c1 ≤ 1350 ∧ s1 ≤ 22800) (h0 : I 12 5 = 0 → c1 ≤ 700 ∧ s1 ≤ 13896) (hx : cx_H I L R I1 L1 R1 Y1) (mf : ym_MF I1 L1 I2 L2) (iv : ym_IV I2) (e2 : I2 82 2 = 0 ∧ ym_MT I1 L1 I2 L2) : lw_K (n + 1) I2 L2 R1 Y1 (nc + c1 + 0) (ns + s1 + 0) := ⟨lw_J_0 hK.1 hP hc h0 mf iv e2.1, lw_T_s hK.1.1 hK.2 hP hx mf e2.2 (lw_T_0 hP mf e2.1)⟩
theorem lw_K_f {n nc ns : Nat} {va vb vc : Int} (hK : lw_K n I L R Y nc ns) (hP : cl_P [] (yi_u I 12 5 (I1 12 5)) L R Y I1 L R Y) (mf : ym_MF I1 L I2 L) (iv : ym_IV I2) (e2 : I2 82 2 = I1 12 5)
    (h1 : (∀ k, I1 13 k = (tl_3 (fun k => yi_w (yi_land (yi_lushr va k) 255)) (fun k => yi_w (yi_land (yi_lushr vb k) 255)) (fun k => yi_w (yi_land (yi_lushr vc k) 255)) (I 13, I 12 5)).1 k) ∧ I1 12 5 = (tl_3 (fun k => yi_w (yi_land (yi_lushr va k) 255)) (fun k => yi_w (yi_land (yi_lushr vb k) 255)) (fun k => yi_w (yi_land (yi_lushr vc k) 255)) (I 13, I 12 5)).2)
    (h2 : (∀ k, I2 83 k = (tl_3 (fun k => yi_iand (yi_w (yi_lshr va k)) 255) (fun k => yi_iand (yi_w (yi_lshr vb k)) 255) (fun k => yi_iand (yi_w (yi_lshr vc k)) 255) (I1 83, I1 82 2)).1 k) ∧ I2 82 2 = (tl_3 (fun k => yi_iand (yi_w (yi_lshr va k)) 255) (fun k => yi_iand (yi_w (yi_lshr vb k)) 255) (fun k => yi_iand (yi_w (yi_lshr vc k)) 255) (I1 83, I1 82 2)).2) : lw_K (n + 1) I2 L R Y (nc + 0 + 0) (ns + 0 + 0) := by
  refine ⟨lw_J_f hK.1 hP mf iv e2, hK.2.1, hK.2.2.1, hK.2.2.2.1, ?_, hK.2.2.2.2.2⟩
  have ht := hK.2.2.2.2.1
  have b : I1 83 = I 83 := funext fun k => ((hP.2.2.1 83 k (by omega) (by omega)).1).trans (yi_u_ne _ _ (by omega))
  have d : I1 82 2 = I 82 2 := ((hP.2.2.1 82 2 (by omega) (by omega)).1).trans (yi_u_ne _ _ (by omega))
  have a : I2 13 = I1 13 := funext fun k => (mf 13 k (by omega)).1
  have c : I2 12 5 = I1 12 5 := (mf 12 5 (by omega)).1
  rw [b, d] at h2
  have e1 : (I2 13, I2 12 5) = tl_3 (fun k => yi_w (yi_land (yi_lushr va k) 255)) (fun k => yi_w (yi_land (yi_lushr vb k) 255)) (fun k => yi_w (yi_land (yi_lushr vc k) 255)) (I 13, I 12 5) := by
    rw [a, c]
    exact Prod.ext (funext h1.1) h1.2
  have e3 : (I2 83, I2 82 2) = tl_3 (fun k => yi_iand (yi_w (yi_lshr va k)) 255) (fun k => yi_iand (yi_w (yi_lshr vb k)) 255) (fun k => yi_iand (yi_w (yi_lshr vc k)) 255) (I 83, I 82 2) := Prod.ext (funext h2.1) h2.2
  rw [e1, e3]
  unfold tl_3
  exact tl_R_f (tl_R_f (tl_R_f ht (fun j hj => tl_by va j hj) 8 (Nat.le_refl _)) (fun j hj => tl_by vb j hj) 8 (Nat.le_refl _)) (fun j hj => tl_by vc j hj) 8 (Nat.le_refl _)
/-- land of both -/
def lw_sp (I : cl_I) (f : Int) : Prop := sp_R (tk_Ks (I 83) (I 82 2).toNat) (tk_Ps (I 83) (I 82 2).toNat) (tk_Vs (I 83) (I 82 2).toNat) (0, 0, 0, [], sp_ld0, sp_nm0, []) (.inr f)
theorem lw_pland {d : Nat} (hC : cl_C [] I L R Y) (hT : lw_T I L R Y) : yi_P zi_Ms d 162 [.inr (.inr (some 10))] (I, L, R, Y) (fun r => ∃ f H n m, r = (some (.inl f), H, n, m) ∧ lw_sp I f) := by
  obtain ⟨t1, t2, t3, ⟨t4a, t4b, t4c⟩, t5, t6, t7⟩ := hT
  have a : I 12 5 = I 82 2 := t4a
  have b : 0 ≤ I 12 5 ∧ I 12 5 ≤ 1000 := t4b
  have c : ∀ i : Nat, (i : Int) < I 12 5 → I 13 i = I 83 i ∧ 10 ≤ I 83 i ∧ I 83 i ≤ 126 := t4c
  exact p_land (s := I 83) (n := (I 82 2).toNat) ⟨t3, trivial⟩ t2 (by have := hC.2.2.1.1; omega) (by omega) (by omega) (fun i hi => (c i (by omega)).1) (fun i hi => by have := c i (by omega); omega) (fun j hj => by rw [t5 j hj]; exact sp_W32_ok j hj) t6
theorem lw_qland {d : Nat} (hS : ym_S (R1, Y1)) (hT : lw_T I L R Y) (hP : cl_P [] (yi_u I 12 5 0) L R Y I1 L1 R1 Y1) : yi_P zi_Ms d 72 [.inr (.inr (some 82))] (I1, L1, R1, Y1) (fun r => ∃ f H n m, r = (some (.inl f), H, n, m) ∧ lw_sp I f) := by
  obtain ⟨t1, t2, t3, ⟨t4a, t4b, t4c⟩, t5, t6, t7⟩ := hT
  have a : I 12 5 = I 82 2 := t4a
  have b : 0 ≤ I 12 5 ∧ I 12 5 ≤ 1000 := t4b
  have f : ∀ k, I1 83 k = I 83 k := fun k => ((hP.2.2.1 83 k (by omega) (by omega)).1).trans (yi_u_ne _ _ (by omega))
  have e : I1 82 2 = I 82 2 := ((hP.2.2.1 82 2 (by omega) (by omega)).1).trans (yi_u_ne _ _ (by omega))
  exact q_land (s := I 83) (n := (I 82 2).toNat) hS (by omega) (by omega) (fun i _ => f i) (fun w hw => by rw [(hP.2.2.1 87 w (by omega) (by omega)).2.1]; exact t7 w hw)
end LWT
