/-! What the law keeps of the lands. -/
theorem sp_R_v {K P V : Nat → Int} {c s1 s2 : sp_C} {f1 f2 : Int} (h1 : sp_R K P V c (.inl s1)) (e1 : sp_step K P V s1 = .inr f1) (h2 : sp_R K P V c (.inl s2)) (e2 : sp_step K P V s2 = .inr f2) : s1 = s2 := by
  have key : ∀ {s1 s2 : sp_C} {f1 : Int} {n m : Nat}, sp_it K P V n (.inl c) = .inl s1 → sp_step K P V s1 = .inr f1 → sp_it K P V m (.inl c) = .inl s2 → n < m → False := by
    intro s1 s2 f1 n m h1 e1 h2 hlt
    obtain ⟨k, rfl⟩ : ∃ k, m = n + (k + 1) := ⟨m - n - 1, by omega⟩
    rw [sp_it_a, h1] at h2
    have h2 : sp_it K P V k (sp_step K P V s1) = .inl s2 := h2
    rw [e1, sp_it_r] at h2
    cases h2
  obtain ⟨n, h1⟩ := h1
  obtain ⟨m, h2⟩ := h2
  rcases Nat.lt_trichotomy n m with h | h | h
  · exact (key h1 e1 h2 h).elim
  · subst h
    rw [h1] at h2
    exact Sum.inl.inj h2
  · exact (key h2 e2 h1 h).elim
theorem sp_line_0 {K P V : Nat → Int} {a : Nat} {ld : Nat → Int} {nm : Int → Int} {cs : List (Int × Int)} (h : K a = 0) : sp_step K P V (2, a, 0, [], ld, nm, cs) = .inr 0 := by
  show sp_line K P V a ld nm cs = .inr 0
  unfold sp_line
  rw [if_pos h]
def lw_W (I L : cl_I) (R : cl_Rr) (Y : cl_Y) : Prop := cm_I R Y ∧ ∃ q ld nm, lq_R q ld nm I L R Y ∧ lm_R ld nm I L
section LWW
variable {I L I0 I1 L1 I2 L2 : cl_I} {R R1 : cl_Rr} {Y Y1 : cl_Y}
theorem lq_R_MF {q : Nat} {ld : Nat → Int} {nm : Int → Int} (h : lq_R q ld nm I1 L1 R1 Y1) (mf : ym_MF I1 L1 I2 L2) : lq_R q ld nm I2 L2 R1 Y1 := lq_R_m h (fun p k a b => mf p k (by have := h.1.2.1; omega))
/-- a call of both that isn't land -/
theorem lw_W_s (h : lw_W I L R Y) (hw : ∀ q, 58 ≤ q → (q + 13 < 82 ∨ 110 ≤ q) → cw_I q R Y → cw_H q I L R Y I1 L1 R1 Y1) (hm : cm_H I L I1 L1 R1 Y1) (mf : ym_MF I1 L1 I2 L2) (hm2 : cm_H I1 L1 I2 L2 R1 Y1) : lw_W I2 L2 R1 Y1 := by
  obtain ⟨h0, q, ld, nm, hq, hl⟩ := h
  exact ⟨hm.1, q, ld, nm, lq_R_MF (lq_R_h hq (hw q hq.1.1 hq.1.2.1 hq.2.1)) mf, lm_R_h (lm_R_h hl hm) hm2⟩
def lw_s2 (I : cl_I) (c : sp_C) : Prop := sp_R (tk_Ks (I 83) (I 82 2).toNat) (tk_Ps (I 83) (I 82 2).toNat) (tk_Vs (I 83) (I 82 2).toNat) (0, 0, 0, [], sp_ld0, sp_nm0, []) (.inl c)
def lw_LC (I : cl_I) (f : Int) (q0 : Nat) (ld0 : Nat → Int) (nm0 : Int → Int) (I1 L1 : cl_I) (R1 : cl_Rr) (Y1 : cl_Y) : Prop := (¬ f = 0 → lq_R q0 ld0 nm0 I1 L1 R1 Y1) ∧ (f = 0 → ∃ q a ld nm cs, lw_s2 I (2, a, 0, [], ld, nm, cs) ∧ tk_Ks (I 83) (I 82 2).toNat a = 0 ∧ lq_R q ld nm I1 L1 R1 Y1)
def lw_LM (I : cl_I) (f : Int) (I2 L2 : cl_I) : Prop := f = 0 → ∃ a ld nm cs, lw_s2 I (2, a, 0, [], ld, nm, cs) ∧ tk_Ks (I 83) (I 82 2).toNat a = 0 ∧ lm_R ld nm I2 L2
def lw_LG (f : Int) (I1 L1 I2 L2 : cl_I) : Prop := f = 0 ∨ ((∀ k : Nat, k < 50 → I2 88 k = I1 88 k) ∧ (∀ k, I2 93 k = I1 93 k) ∧ (∀ k, L2 91 k = L1 91 k) ∧ I2 82 18 = I1 82 18)
/-- land of both -/
theorem lw_W_l {q0 : Nat} {ld0 : Nat → Int} {nm0 : Int → Int} {f : Int} (hl : lm_R ld0 nm0 I L) (hP : cl_P [] (yi_u I 12 5 0) L R Y I1 L1 R1 Y1) (hm : cm_I R1 Y1) (a : lw_LC I f q0 ld0 nm0 I1 L1 R1 Y1) (b : lw_LG f I1 L1 I2 L2) (c : lw_LM I f I2 L2) (mf : ym_MF I1 L1 I2 L2) : lw_W I2 L2 R1 Y1 := by
  have e : ∀ p k, 82 ≤ p → p ≤ 108 → I1 p k = I p k ∧ L1 p k = L p k := fun p k x y => ⟨((hP.2.2.1 p k x y).1).trans (yi_u_ne _ _ (by omega)), (hP.2.2.1 p k x y).2.1⟩
  by_cases h : f = 0
  · obtain ⟨q, a1, ld, nm, cs, s1, k1, hq⟩ := a.2 h
    obtain ⟨a2, ld', nm', cs', s2, k2, hl2⟩ := c h
    have es := sp_R_v s1 (sp_line_0 k1) s2 (sp_line_0 k2)
    have e1 : ld = ld' := congrArg (fun s : sp_C => s.2.2.2.2.1) es
    have e2 : nm = nm' := congrArg (fun s : sp_C => s.2.2.2.2.2.1) es
    subst e1
    subst e2
    exact ⟨hm, q, ld, nm, lq_R_MF hq mf, hl2⟩
  · rcases b with b | b
    · exact absurd b h
    · refine ⟨hm, q0, ld0, nm0, lq_R_MF (a.1 h) mf, lm_R_t (lm_R_t hl (fun k _ => (e 88 k (by omega) (by omega)).1) (fun k => (e 93 k (by omega) (by omega)).1) (fun k => (e 91 k (by omega) (by omega)).2) (e 82 18 (by omega) (by omega)).1) b.1 b.2.1 b.2.2.1 b.2.2.2⟩
theorem lw_pland2 {d q0 : Nat} {ld0 : Nat → Int} {nm0 : Int → Int} (hC : cl_C [] I L R Y) (hT : lw_T I L R Y) (hL : lq_R q0 ld0 nm0 I L R Y) : yi_P zi_Ms d 162 [.inr (.inr (some 10))] (I, L, R, Y) (fun r => ∃ f I' L' R' Y' n m, r = (some (.inl f), (I', L', R', Y'), n, m) ∧ lw_sp I f ∧ lw_LC I f q0 ld0 nm0 I' L' R' Y') := by
  obtain ⟨t1, t2, t3, ⟨t4a, t4b, t4c⟩, t5, t6, t7⟩ := hT
  have a : I 12 5 = I 82 2 := t4a
  have b : 0 ≤ I 12 5 ∧ I 12 5 ≤ 1000 := t4b
  have c : ∀ i : Nat, (i : Int) < I 12 5 → I 13 i = I 83 i ∧ 10 ≤ I 83 i ∧ I 83 i ≤ 126 := t4c
  exact p_land2 (s := I 83) (n := (I 82 2).toNat) hL ⟨t3, trivial⟩ t2 (by have := hC.2.2.1.1; omega) (by omega) (by omega) (fun i hi => (c i (by omega)).1) (fun i hi => by have := c i (by omega); omega) (fun j hj => by rw [t5 j hj]; exact sp_W32_ok j hj) t6
theorem lw_qland2 {d : Nat} (hS : ym_S (R1, Y1)) (hm : cm_I R1 Y1) (hN : 109 ≤ Y1.2.2) (hT : lw_T I L R Y) (hP : cl_P [] (yi_u I 12 5 0) L R Y I1 L1 R1 Y1) : yi_P zi_Ms d 72 [.inr (.inr (some 82))] (I1, L1, R1, Y1) (fun r => ∃ f I' L' R' Y' n m, r = (some (.inl f), (I', L', R', Y'), n, m) ∧ lw_sp I f ∧ lw_LM I f I' L') := by
  obtain ⟨t1, t2, t3, ⟨t4a, t4b, t4c⟩, t5, t6, t7⟩ := hT
  have a : I 12 5 = I 82 2 := t4a
  have b : 0 ≤ I 12 5 ∧ I 12 5 ≤ 1000 := t4b
  have f : ∀ k, I1 83 k = I 83 k := fun k => ((hP.2.2.1 83 k (by omega) (by omega)).1).trans (yi_u_ne _ _ (by omega))
  have e : I1 82 2 = I 82 2 := ((hP.2.2.1 82 2 (by omega) (by omega)).1).trans (yi_u_ne _ _ (by omega))
  exact q_land2 (s := I 83) (n := (I 82 2).toNat) hS hm hN (by omega) (by omega) (fun i _ => f i) (fun w hw => by rw [(hP.2.2.1 87 w (by omega) (by omega)).2.1]; exact t7 w hw)
end LWW
/-- the class's calls: for all lands at once -/
theorem cw_PA {d mi : Nat} {vs : List yi_V} {I L : Nat → Nat → Int} {R : Nat → Nat → Option Nat} {Y : (Nat → Nat) × (Nat → Nat) × Nat} (hf : cw_ff mi = true) (hv : ∀ q, 58 ≤ q → cw_vs q Y.2.2 (cw_da mi) vs) : yi_P zi_Ms d mi vs (I, L, R, Y) (fun r => ∀ q, 58 ≤ q → (q + 13 < 82 ∨ 110 ≤ q) → cw_I q R Y → cw_H q I L R Y r.2.1.1 r.2.1.2.1 r.2.1.2.2.1 r.2.1.2.2.2) := fun n r e q hq _ hi => cw_P (by omega) hi hf (hv q hq) n r e
