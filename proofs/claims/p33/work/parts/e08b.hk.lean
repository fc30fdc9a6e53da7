/-! The tapes behind the constructors. -/
def hz_nr (v : zi_V) : Bool := match hz_r v with
  | some r => !(cx_pr r)
  | none => true
def hz_g (p : Nat) (c : zi_C) : Bool := match c with
  | .inl q => (List.range q.2.length).all (fun k => hz_nr (q.2.getD k (.inl .null)) || cx_sl p k)
  | .inr q => hz_nr q.2.2.1 && q.2.2.2.all (fun u => hz_nr u.2)
theorem hz_nr_ok {v : zi_V} {r : Nat} (h : hz_nr v = true) (e : hz_r v = some r) (hp : cx_pr r = true) : False := by
  unfold hz_nr at h
  rw [e] at h
  dsimp only at h
  rw [hp] at h
  cases h
theorem hz_nr_lk {d : zi_V} (hd : hz_nr d = true) : ∀ {us : List (Nat × zi_V)}, us.all (fun u => hz_nr u.2) = true → ∀ j : Nat, hz_nr (zi_look d us j) = true
  | [], _, _ => hd
  | q :: us, h, j => by
    rw [List.all_cons, Bool.and_eq_true] at h
    have e : zi_look d (q :: us) j = bif Nat.beq q.1 j then q.2 else zi_look d us j := rfl
    rw [e]
    cases Nat.beq q.1 j with
    | true => exact h.1
    | false => exact hz_nr_lk hd h.2 j
theorem hz_g_ok {p k r : Nat} {c : zi_C} (h : hz_g p c = true) (e : hz_r (match (some c : Option zi_C) with | some (.inl q) => q.2.getD k (.inl .null) | some (.inr q) => zi_look q.2.2.1 q.2.2.2 k | none => .inl .null) = some r) (hp : cx_pr r = true) : cx_sl p k = true := by
  cases c with
  | inl q =>
    have e : hz_r (q.2.getD k (.inl .null)) = some r := e
    have h : (List.range q.2.length).all (fun k => hz_nr (q.2.getD k (.inl .null)) || cx_sl p k) = true := h
    by_cases hk : k < q.2.length
    · have z := List.all_eq_true.mp h k (List.mem_range.mpr hk)
      rw [Bool.or_eq_true] at z
      rcases z with z | z
      · exact (hz_nr_ok z e hp).elim
      · exact z
    · rw [List.getD_eq_getElem?_getD, List.getElem?_eq_none (by omega)] at e
      cases e
  | inr q =>
    have e : hz_r (zi_look q.2.2.1 q.2.2.2 k) = some r := e
    have h : (hz_nr q.2.2.1 && q.2.2.2.all (fun u => hz_nr u.2)) = true := h
    rw [Bool.and_eq_true] at h
    exact (hz_nr_ok (hz_nr_lk h.1 h.2 k) e hp).elim
theorem hz_g_all : (List.range 100).all (fun j => match zi_A0[j]? with | some c => hz_g (j + 10) c | none => true) = true := by decide +kernel
theorem hz_np (p k r : Nat) (e : hz_r (hz_v zi_A0 p k) = some r) (hp : cx_pr r = true) : cx_sl p k = true := by
  unfold hz_v at e
  by_cases hj : p - 10 < 100
  · have z := List.all_eq_true.mp hz_g_all (p - 10) (List.mem_range.mpr hj)
    cases hc : zi_A0[p - 10]? with
    | none => rw [hc] at e; cases e
    | some c =>
      rw [hc] at z e
      by_cases h10 : 10 ≤ p
      · have z : hz_g (p - 10 + 10) c = true := z
        rw [show p - 10 + 10 = p by omega] at z
        exact hz_g_ok z e hp
      · have z : hz_g (p - 10 + 10) c = true := z
        rw [show p - 10 + 10 = 10 by omega] at z
        have y := hz_g_ok z e hp
        have n : cx_sl 10 k = false := rfl
        rw [n] at y
        cases y
  · have hl : zi_A0.length + 10 = 110 := hz_len
    rw [List.getElem?_eq_none (by omega)] at e
    cases e
theorem hz_cx : cx_I (hz zi_A0).2.2.1 (hz zi_A0).2.2.2 := by
  intro I L
  have hn : (hz zi_A0).2.2.2.2.2 = 110 := hz_len
  have k10 : (hz zi_A0).2.2.2.1 10 = 0 := by decide +kernel
  have k11 : (hz zi_A0).2.2.2.1 11 = 1 := by decide +kernel
  have k12 : (hz zi_A0).2.2.2.1 12 = 2 := by decide +kernel
  refine ⟨fun p k q e hp => hz_np p k q e hp, fun p k h => ?_, fun q hq => ?_⟩
  · have hp : p = 10 ∨ p = 11 ∨ p = 12 := by
      rcases h with h | h
      · unfold cx_sl at h
        rw [Bool.or_eq_true, Bool.and_eq_true, Bool.and_eq_true] at h
        rcases h with h | h
        · have := Nat.eq_of_beq_eq_true h.1; omega
        · have := Nat.eq_of_beq_eq_true h.1; omega
      · unfold cx_ps at h
        rw [Bool.or_eq_true, Bool.or_eq_true, Bool.and_eq_true, Bool.and_eq_true, Bool.and_eq_true] at h
        rcases h with h | h | h <;> (have := Nat.eq_of_beq_eq_true h.1; omega)
    rcases hp with rfl | rfl | rfl
    · exact ⟨k10, show 10 < (hz zi_A0).2.2.2.2.2 by omega⟩
    · exact ⟨k11, show 11 < (hz zi_A0).2.2.2.2.2 by omega⟩
    · exact ⟨k12, show 12 < (hz zi_A0).2.2.2.2.2 by omega⟩
  · show q < (hz zi_A0).2.2.2.2.2
    unfold cx_pr at hq
    rw [Bool.or_eq_true, Bool.or_eq_true] at hq
    rcases hq with h | h | h <;> (have := Nat.eq_of_beq_eq_true h; omega)
theorem hz_T : lw_T (hz zi_A0).1 (hz zi_A0).2.1 (hz zi_A0).2.2.1 (hz zi_A0).2.2.2 := by
  have e5 : (hz zi_A0).1 12 5 = 0 := by decide +kernel
  have e2 : (hz zi_A0).1 82 2 = 0 := by decide +kernel
  refine ⟨hz_cx, ⟨by decide +kernel, by decide +kernel⟩, ⟨⟨by decide +kernel, by decide +kernel, by decide +kernel⟩, ⟨by decide +kernel, by decide +kernel, by decide +kernel, by decide +kernel, by decide +kernel⟩, ⟨by decide +kernel, by decide +kernel, by decide +kernel, by decide +kernel, by decide +kernel, by decide +kernel, by decide +kernel⟩⟩, ?_, by decide +kernel, ⟨by decide +kernel, by decide +kernel, by decide +kernel⟩, by decide +kernel⟩
  rw [e5, e2]
  exact ⟨rfl, (show (0 : Int) ≤ 0 ∧ (0 : Int) ≤ 1000 by decide), fun i hi => absurd (show (i : Int) < 0 from hi) (by omega)⟩
theorem hz_K : lw_K 0 (hz zi_A0).1 (hz zi_A0).2.1 (hz zi_A0).2.2.1 (hz zi_A0).2.2.2 100 177797 := ⟨hz_J, hz_T⟩
theorem cx_H_109 {I L I1 L1 : cl_I} {R R1 : cl_Rr} {Y1 : cl_Y} {z : Int} (h : cx_H I L R I1 L1 R1 Y1) : cx_H I L R I1 (yi_u L1 109 0 z) R1 Y1 := ⟨h.1, fun p k hp => ⟨(h.2.1 p k hp).1, by
  rw [yi_u_ne _ _ (fun e => by rw [e.1] at hp; cases hp)]
  exact (h.2.1 p k hp).2⟩, h.2.2⟩
theorem cx_H_r {I L : cl_I} {R : cl_Rr} {Y : cl_Y} (h : cx_I R Y) : cx_H I L R I L R Y := ⟨h, fun _ _ _ => ⟨rfl, rfl⟩, fun _ _ _ => rfl⟩
