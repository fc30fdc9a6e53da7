theorem yi_mc {x : Nat × yi_V} {al al' : List (Nat × yi_V)} (h : x ∈ al') (hs : ∀ q ∈ al, q ∈ al') : ∀ q ∈ x :: al, q ∈ al' := by
  intro q hq
  rcases List.mem_cons.mp hq with e | e
  · rw [e]; exact h
  · exact hs q e
theorem yi_mn {al' : List (Nat × yi_V)} : ∀ q ∈ ([] : List (Nat × yi_V)), q ∈ al' := fun q hq => (by cases hq)
