/-! ask, over the tape of the law. -/
def lw_sa (I : cl_I) (ld : Nat → Int) (nm : Int → Int) (f : Int) : Prop := sp_R (tk_Ks (I 83) (I 82 2).toNat) (tk_Ps (I 83) (I 82 2).toNat) (tk_Vs (I 83) (I 82 2).toNat) (3, 0, 0, [10, 22], ld, nm, []) (.inr f)
section LWA
variable {I L I1 L1 : cl_I} {R R1 : cl_Rr} {Y Y1 : cl_Y}
theorem lw_pask {d q0 : Nat} {ld0 : Nat → Int} {nm0 : Int → Int} (hT : lw_T I L R Y) (hL : lq_R q0 ld0 nm0 I L R Y) : yi_P zi_Ms d 139 [.inr (.inr (some 10))] (I, L, R, Y) (fun r => ∃ f H n m, r = (some (.inl f), H, n, m) ∧ lw_sa I ld0 nm0 f) := by
  obtain ⟨t1, t2, t3, ⟨t4a, t4b, t4c⟩, t5, t6, t7⟩ := hT
  have a : I 12 5 = I 82 2 := t4a
  have b : 0 ≤ I 12 5 ∧ I 12 5 ≤ 1000 := t4b
  have c : ∀ i : Nat, (i : Int) < I 12 5 → I 13 i = I 83 i ∧ 10 ≤ I 83 i ∧ I 83 i ≤ 126 := t4c
  have h58 := hL.1.1
  exact p_ask (s := I 83) (n := (I 82 2).toNat) ⟨t3, trivial⟩ t2 hL.1.2.2.1 hL.2.2 (by omega) (by omega) (by omega) (fun i hi => (c i (by omega)).1) (fun i hi => by have := c i (by omega); omega) (fun j hj => by rw [t5 j hj]; exact sp_W32_ok j hj) t6
theorem lw_qask {d : Nat} {ld0 : Nat → Int} {nm0 : Int → Int} (hS : ym_S (R1, Y1)) (hlm : lm_R ld0 nm0 I1 L1) (hT : lw_T I L R Y) (hP : cl_P [] (yi_u I 12 5 0) L R Y I1 L1 R1 Y1) : yi_P zi_Ms d 1 [.inr (.inr (some 82))] (I1, L1, R1, Y1) (fun r => ∃ f H n m, r = (some (.inl f), H, n, m) ∧ lw_sa I ld0 nm0 f) := by
  obtain ⟨t1, t2, t3, ⟨t4a, t4b, t4c⟩, t5, t6, t7⟩ := hT
  have a : I 12 5 = I 82 2 := t4a
  have b : 0 ≤ I 12 5 ∧ I 12 5 ≤ 1000 := t4b
  have f : ∀ k, I1 83 k = I 83 k := fun k => ((hP.2.2.1 83 k (by omega) (by omega)).1).trans (yi_u_ne _ _ (by omega))
  have e : I1 82 2 = I 82 2 := ((hP.2.2.1 82 2 (by omega) (by omega)).1).trans (yi_u_ne _ _ (by omega))
  exact q_ask (s := I 83) (n := (I 82 2).toNat) hS (by omega) (by omega) (fun i _ => f i) (fun w hw => by rw [(hP.2.2.1 87 w (by omega) (by omega)).2.1]; exact t7 w hw) hlm
end LWA
