theorem yi_mc {x : Nat × yi_V} {al al' : List (Nat × yi_V)} (h : x ∈ al') (hs : ∀ q ∈ al, q ∈ al') : ∀ q ∈ x :: al, q ∈ al' := by
  intro q hq
  rcases List.mem_cons.mp hq with e | e
  · rw [e]; exact h
  · exact hs q e
theorem yi_mn {al' : List (Nat × yi_V)} : ∀ q ∈ ([] : List (Nat × yi_V)), q ∈ al' := fun q hq => (by cases hq)
section YG
variable {Ms : List zi_M} {d : Nat} {M : zi_M} {Q : yi_R → Prop} {pc n : Nat} {al : List (Nat × yi_V)} {st : List yi_V} {H : yi_H} {nc ns : Nat}
theorem yi_G_ldc2 {j v : Nat} {o : List Nat} (z : Int) (h1 : zi_lk2 pc M.2.2.2.2.1 = some (.ldc2_w j, n, v :: o)) (hz : yi_W v = z) (hg : yi_G Ms d M (pc + n, al, .inr (.inl z) :: st, H, nc, ns) Q) : yi_G Ms d M (pc, al, st, H, nc, ns) Q := yi_G_s _ h1 (fun _ => by rw [← hz]; rfl) hg
theorem yi_G_ldc {j v : Nat} {o : List Nat} (z : Int) (h1 : zi_lk2 pc M.2.2.2.2.1 = some (.ldc j, n, 0 :: v :: o)) (hz : yi_w v = z) (hg : yi_G Ms d M (pc + n, al, .inl z :: st, H, nc, ns) Q) : yi_G Ms d M (pc, al, st, H, nc, ns) Q := yi_G_s _ h1 (fun _ => by rw [← hz]; rfl) hg
theorem yi_G_ldcw {j v : Nat} {o : List Nat} (z : Int) (h1 : zi_lk2 pc M.2.2.2.2.1 = some (.ldc_w j, n, 0 :: v :: o)) (hz : yi_w v = z) (hg : yi_G Ms d M (pc + n, al, .inl z :: st, H, nc, ns) Q) : yi_G Ms d M (pc, al, st, H, nc, ns) Q := yi_G_s _ h1 (fun _ => by rw [← hz]; rfl) hg
end YG
