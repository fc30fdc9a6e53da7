/-! The checks of the tables. -/
def zi_ckM (Ms : List zi_M) (N : zi_M) : Bool := (match N.2.2.2.2.2 with | [p, q] => zi_at p (.code N.1 N.2.1 N.2.2.1 N.2.2.2.1) && zi_at q (.initialized N.1.cls) | _ => false) && !decide (N.1.cls = "java/lang/invoke/MethodHandle") && !decide (N.1.cls = "java/lang/invoke/VarHandle") && plainFor N.1 && Nat.ble N.2.2.1 41 && N.2.2.2.2.1.all (fun ch => ch.2.all (fun q => zi_ok Ms N q.1 q.2))
theorem zi_lk_mem {pc : Nat} {e : zi_E} : ∀ {l : List (Nat × zi_E)}, zi_lk pc l = some e → (pc, e) ∈ l
  | [], h => by cases h
  | q :: l, h => by
    have h : (bif Nat.beq q.1 pc then some q.2 else zi_lk pc l) = some e := h
    cases hb : Nat.beq q.1 pc with
    | true =>
      rw [hb] at h
      have e1 := Nat.eq_of_beq_eq_true hb
      have e2 : q.2 = e := Option.some.inj h
      rw [← e1, ← e2]
      exact List.mem_cons_self
    | false => rw [hb] at h; exact List.mem_cons_of_mem _ (zi_lk_mem h)
theorem zi_lk2_mem {pc : Nat} {e : zi_E} : ∀ {l : zi_T}, zi_lk2 pc l = some e → ∃ ch ∈ l, (pc, e) ∈ ch.2
  | [], h => by cases h
  | q :: l, h => by
    have h : (bif Nat.ble q.1 pc then zi_lk2 pc l else zi_lk pc q.2) = some e := h
    cases hb : Nat.ble q.1 pc with
    | true =>
      rw [hb] at h
      obtain ⟨ch, h1, h2⟩ := zi_lk2_mem h
      exact ⟨ch, List.mem_cons_of_mem _ h1, h2⟩
    | false => rw [hb] at h; exact ⟨q, List.mem_cons_self, zi_lk_mem h⟩
theorem zi_okT_of {Ms : List zi_M} {N : zi_M} (h : N.2.2.2.2.1.all (fun ch => ch.2.all (fun q => zi_ok Ms N q.1 q.2)) = true) : zi_okT Ms N := by
  intro pc e he
  obtain ⟨ch, h1, h2⟩ := zi_lk2_mem he
  exact List.all_eq_true.mp (List.all_eq_true.mp h ch h1) (pc, e) h2
theorem zi_ckM_ok {Ms : List zi_M} {N : zi_M} (h : zi_ckM Ms N = true) : zi_okM N ∧ zi_okT Ms N := by
  unfold zi_ckM at h
  simp only [Bool.and_eq_true, Bool.not_eq_true', decide_eq_false_iff_not] at h
  obtain ⟨⟨⟨⟨⟨h1, h2⟩, h3⟩, h4⟩, h5⟩, h6⟩ := h
  refine ⟨?_, zi_okT_of h6⟩
  split at h1
  · rw [Bool.and_eq_true] at h1
    exact ⟨zi_at_mem h1.1, zi_at_mem h1.2, ⟨h2, h3⟩, h4, Nat.le_of_ble_eq_true h5⟩
  · cases h1
