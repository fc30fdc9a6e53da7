/-! Marks and what is asked: the story's state is kept. -/
theorem ym_ST_102 {I : Nat → Nat → Int} {k : Nat} {z : Int} (h : ym_ST I) (hz : z = 0 ∨ z = 1) : ym_ST (yi_u I 102 k z) := by
  refine ⟨ym_S0_t (fun j => yi_u_ne _ _ (by omega)) h.1, ym_UB_t (fun j => yi_u_ne _ _ (by omega)) (yi_u_ne _ _ (by omega)) h.2.1, fun m a b => ?_⟩
  have q := h.2.2 m a b
  refine ⟨by rw [yi_u_ne _ _ (by omega)]; exact q.1, ?_, fun c d => ?_⟩
  · by_cases e : m.toNat = k
    · rw [e, yi_u_eq]; exact hz
    · rw [yi_u_ne _ _ (by omega)]; exact q.2.1
  · rw [yi_u_ne _ _ (by omega)] at d
    exact ym_SB_t (by omega) (fun j => yi_u_ne _ _ (by omega)) (q.2.2 c d)
theorem ym_ST_101 {I : Nat → Nat → Int} {m : Int} (h : ym_ST I) (m0 : 0 ≤ m ∧ m ≤ 3) (hb : ym_SB I (1 + m)) : ym_ST (yi_u I 101 m.toNat 1) := by
  refine ⟨ym_S0_t (fun j => yi_u_ne _ _ (by omega)) h.1, ym_UB_t (fun j => yi_u_ne _ _ (by omega)) (yi_u_ne _ _ (by omega)) h.2.1, fun q a b => ?_⟩
  have w := h.2.2 q a b
  by_cases e : q = m
  · subst e
    refine ⟨by rw [yi_u_eq]; exact Or.inr rfl, by rw [yi_u_ne _ _ (by omega)]; exact w.2.1, fun _ _ => ym_SB_t (by omega) (fun j => yi_u_ne _ _ (by omega)) hb⟩
  · refine ⟨by rw [yi_u_ne _ _ (by omega)]; exact w.1, by rw [yi_u_ne _ _ (by omega)]; exact w.2.1, fun c d => ?_⟩
    rw [yi_u_ne _ _ (by omega)] at d
    exact ym_SB_t (by omega) (fun j => yi_u_ne _ _ (by omega)) (w.2.2 c d)
theorem ym_ST_30 {I : Nat → Nat → Int} {z : Int} (h : ym_ST I) (z0 : 0 ≤ z) (z1 : z ≤ I 82 30) : ym_ST (yi_u I 82 30 z) := by
  have u := h.2.1
  have u1 := u.1
  refine ⟨ym_S0_t (fun j => yi_u_ne _ _ (by omega)) h.1, ⟨by rw [yi_u_eq]; omega, fun q a b => ?_⟩, ym_MB_t (fun j _ _ => yi_u_ne _ _ (by omega)) (fun j => yi_u_ne _ _ (by omega)) (fun j => yi_u_ne _ _ (by omega)) h.2.2⟩
  rw [yi_u_eq] at b
  exact ym_SB_t (by omega) (fun j => yi_u_ne _ _ (by omega)) (u.2 q a (by omega))
theorem ym_ST_cp {I : Nat → Nat → Int} {fr to : Int} (h : ym_ST I) (hf : ym_SB I fr) (f0 : 0 ≤ fr) (t0 : 0 ≤ to ∧ to ≤ 4) : ym_ST (ym_cp I fr to) := by
  obtain ⟨h1, h2, h3⟩ := h
  refine ⟨?_, ⟨by rw [ym_cp_p (by omega)]; exact h2.1, fun u a b => ?_⟩, fun m a b => ?_⟩
  · rw [ym_S0_iff] at h1 ⊢
    exact ym_cp_all (by omega) f0 t0.1 hf (fun _ => h1)
  · rw [ym_cp_p (by omega)] at b
    exact ym_cp_ne (by omega) t0.1 (by omega) (h2.2 u a b)
  · have q := h3 m a b
    refine ⟨by rw [ym_cp_p (by omega)]; exact q.1, by rw [ym_cp_p (by omega)]; exact q.2.1, fun c d => ?_⟩
    rw [ym_cp_p (by omega)] at d
    exact ym_cp_all (by omega) f0 t0.1 hf (fun _ => q.2.2 c d)
