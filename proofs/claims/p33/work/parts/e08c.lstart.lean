/-! The lands behind the constructors. -/
def hw_v (pr : Nat → Bool) (fg : Nat → Bool) (b : Bool) (k : Nat) (v : zi_V) : Bool := match hz_r v with
  | some r => Nat.ble (r + 1) 110 && (!(pr r) || (b || fg k))
  | none => true
def hw_g (pr : Nat → Bool) (fg : Nat → Nat → Bool) (p : Nat) (c : zi_C) : Bool := match c with
  | .inl q => (List.range q.2.length).all (fun k => hw_v pr (fg (hz_k zi_A0 p)) (pr p) k (q.2.getD k (.inl .null)))
  | .inr q => hw_v pr (fun _ => false) false 0 q.2.2.1 && q.2.2.2.all (fun u => hw_v pr (fun _ => false) false 0 u.2)
theorem hw_lk {P : zi_V → Bool} {d : zi_V} (hd : P d = true) : ∀ {us : List (Nat × zi_V)}, us.all (fun u => P u.2) = true → ∀ j : Nat, P (zi_look d us j) = true
  | [], _, _ => hd
  | q :: us, h, j => by
    rw [List.all_cons, Bool.and_eq_true] at h
    have e : zi_look d (q :: us) j = bif Nat.beq q.1 j then q.2 else zi_look d us j := rfl
    rw [e]
    cases Nat.beq q.1 j with
    | true => exact h.1
    | false => exact hw_lk hd h.2 j
theorem hw_v_ok {pr : Nat → Bool} {fg : Nat → Bool} {b : Bool} {k r : Nat} {v : zi_V} (h : hw_v pr fg b k v = true) (e : hz_r v = some r) : r < 110 ∧ (pr r = true → b = true ∨ fg k = true) := by
  unfold hw_v at h
  rw [e] at h
  have h : (Nat.ble (r + 1) 110 && (!(pr r) || (b || fg k))) = true := h
  rw [Bool.and_eq_true, Bool.or_eq_true, Bool.or_eq_true, Bool.not_eq_true'] at h
  refine ⟨Nat.le_of_ble_eq_true h.1, fun hp => ?_⟩
  rcases h.2 with z | z
  · rw [hp] at z; cases z
  · exact z
theorem hw_g_ok {pr : Nat → Bool} {fg : Nat → Nat → Bool} {p k r : Nat} {c : zi_C} (h : hw_g pr fg p c = true) (e : hz_r (match (some c : Option zi_C) with | some (.inl q) => q.2.getD k (.inl .null) | some (.inr q) => zi_look q.2.2.1 q.2.2.2 k | none => .inl .null) = some r) : r < 110 ∧ (pr r = true → pr p = true ∨ fg (hz_k zi_A0 p) k = true) := by
  cases c with
  | inl q =>
    have e : hz_r (q.2.getD k (.inl .null)) = some r := e
    have h : (List.range q.2.length).all (fun k => hw_v pr (fg (hz_k zi_A0 p)) (pr p) k (q.2.getD k (.inl .null))) = true := h
    by_cases hk : k < q.2.length
    · exact hw_v_ok (List.all_eq_true.mp h k (List.mem_range.mpr hk)) e
    · rw [List.getD_eq_getElem?_getD, List.getElem?_eq_none (by omega)] at e
      cases e
  | inr q =>
    have e : hz_r (zi_look q.2.2.1 q.2.2.2 k) = some r := e
    have h : (hw_v pr (fun _ => false) false 0 q.2.2.1 && q.2.2.2.all (fun u => hw_v pr (fun _ => false) false 0 u.2)) = true := h
    rw [Bool.and_eq_true] at h
    have z := hw_v_ok (hw_lk (P := hw_v pr (fun _ => false) false 0) h.1 h.2 k) e
    refine ⟨z.1, fun hp => ?_⟩
    rcases z.2 hp with y | y <;> cases y
theorem hw_np {pr : Nat → Bool} {fg : Nat → Nat → Bool} (ha : (List.range 100).all (fun j => match zi_A0[j]? with | some c => hw_g pr fg (j + 10) c | none => true) = true) (h9 : ∀ p k, p < 10 → pr 10 = true ∨ fg 0 k = true → fg 99 k = true) {p k r : Nat} (e : hz_r (hz_v zi_A0 p k) = some r) : r < 110 ∧ (pr r = true → pr p = true ∨ fg (hz_k zi_A0 p) k = true) := by
  unfold hz_v at e
  by_cases hj : p - 10 < 100
  · have z := List.all_eq_true.mp ha (p - 10) (List.mem_range.mpr hj)
    cases hc : zi_A0[p - 10]? with
    | none => rw [hc] at e; cases e
    | some c =>
      rw [hc] at z e
      have z : hw_g pr fg (p - 10 + 10) c = true := z
      by_cases h10 : 10 ≤ p
      · rw [show p - 10 + 10 = p by omega] at z
        exact hw_g_ok z e
      · rw [show p - 10 + 10 = 10 by omega] at z
        have y := hw_g_ok z e
        refine ⟨y.1, fun hp => Or.inr ?_⟩
        have k9 : hz_k zi_A0 p = 99 := by
          unfold hz_k
          rw [show Nat.ble 10 p = false from Bool.eq_false_iff.mpr (fun x => h10 (Nat.le_of_ble_eq_true x))]
          rfl
        have k10 : hz_k zi_A0 10 = 0 := by decide +kernel
        have y2 := y.2 hp
        rw [k10] at y2
        rw [k9]
        exact h9 p k (by omega) y2
  · have hl : zi_A0.length + 10 = 110 := hz_len
    rw [List.getElem?_eq_none (by omega)] at e
    cases e
theorem hw_ccn : (List.range 100).all (fun j => match zi_A0[j]? with | some c => hw_g cn_pr cn_fg (j + 10) c | none => true) = true := by decide +kernel
theorem hw_cmn : (List.range 100).all (fun j => match zi_A0[j]? with | some c => hw_g mn_pr mn_fg (j + 10) c | none => true) = true := by decide +kernel
theorem hw_Icn : cn_I (hz zi_A0).2.2.1 (hz zi_A0).2.2.2 := fun I L => by
  have hn : (hz zi_A0).2.2.2.2.2 = 110 := hz_len
  refine ⟨fun p k q hp e => ?_, fun p k h => ?_, fun q hq => ?_, (show 10 ≤ (hz zi_A0).2.2.2.2.2 by omega)⟩
  · have z := hw_np hw_ccn (fun p k hp h => by
      rcases h with h | h
      · cases h
      · unfold cn_fg at h ⊢
        rw [Bool.and_eq_true] at h ⊢
        exact ⟨rfl, h.2⟩) (p := p) (k := k) (r := q) e
    exact ⟨(show q < (hz zi_A0).2.2.2.2.2 by omega), fun hq => (z.2 hq).imp id Or.inl⟩
  · unfold cn_ps at h
    rw [Bool.and_eq_true] at h
    have e := Nat.eq_of_beq_eq_true h.1
    subst e
    refine ⟨?_, show 10 < (hz zi_A0).2.2.2.2.2 by omega⟩
    have k10 : (hz zi_A0).2.2.2.1 10 = 0 := by decide +kernel
    show cn_fp ((hz zi_A0).2.2.2.1 10) k = true
    rw [k10]
    exact h.2
  · have := Nat.eq_of_beq_eq_true hq
    show q < (hz zi_A0).2.2.2.2.2
    omega
theorem hw_Imn : mn_I (hz zi_A0).2.2.1 (hz zi_A0).2.2.2 := fun I L => by
  have hn : (hz zi_A0).2.2.2.2.2 = 110 := hz_len
  refine ⟨fun p k q hp e => ?_, fun p k h => ?_, fun q hq => ?_, (show 10 ≤ (hz zi_A0).2.2.2.2.2 by omega)⟩
  · have z := hw_np hw_cmn (fun p k hp h => by
      rcases h with h | h
      · cases h
      · cases h) (p := p) (k := k) (r := q) e
    exact ⟨(show q < (hz zi_A0).2.2.2.2.2 by omega), fun hq => (z.2 hq).imp id Or.inl⟩
  · unfold mn_ps at h
    rw [Bool.and_eq_true] at h
    have e := Nat.eq_of_beq_eq_true h.1
    subst e
    refine ⟨?_, show 82 < (hz zi_A0).2.2.2.2.2 by omega⟩
    have k10 : (hz zi_A0).2.2.2.1 82 = 11 := by decide +kernel
    show mn_fp ((hz zi_A0).2.2.2.1 82) k = true
    rw [k10]
    exact h.2
  · have := Nat.eq_of_beq_eq_true hq
    show q < (hz zi_A0).2.2.2.2.2
    omega
theorem hw_W : lw_W (hz zi_A0).1 (hz zi_A0).2.2.1 (hz zi_A0).2.2.2 := by
  have hn : (hz zi_A0).2.2.2.2.2 = 110 := hz_len
  have all : ∀ k ∈ List.range 4, (hz zi_A0).2.2.1 57 k = none ∧ (hz zi_A0).1 101 k = 0 := by decide +kernel
  refine ⟨⟨hw_Icn, ⟨by decide +kernel, by omega, by decide +kernel, by decide +kernel⟩, fun k hk e => ?_⟩, hw_Imn, fun k hk => ?_⟩
  · rw [(all k (List.mem_range.mpr hk)).1] at e
    cases e
  · exact ⟨fun _ => (all k (List.mem_range.mpr hk)).2, fun _ => (all k (List.mem_range.mpr hk)).1⟩
