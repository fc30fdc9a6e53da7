theorem yi_mc {x : Nat × yi_V} {al al' : List (Nat × yi_V)} (h : x ∈ al') (hs : ∀ q ∈ al, q ∈ al') : ∀ q ∈ x :: al, q ∈ al' := by
  intro q hq
  rcases List.mem_cons.mp hq with e | e
  · rw [e]; exact h
  · exact hs q e
theorem yi_mn {al' : List (Nat × yi_V)} : ∀ q ∈ ([] : List (Nat × yi_V)), q ∈ al' := fun q hq => (by cases hq)
section YG
variable {Ms : List zi_M} {d : Nat} {M : zi_M} {Q : yi_R → Prop} {pc n : Nat} {al : List (Nat × yi_V)} {st : List yi_V} {H : yi_H} {nc ns : Nat}
theorem yi_G_ldc2 {j v : Nat} {o : List Nat} (z : Int) (h1 : zi_lk2 pc M.2.2.2.2.1 = some (.ldc2_w j, n, v :: o)) (hz : yi_W v = z) (hg : yi_G Ms d M (pc + n, al, .inr (.inl z) :: st, H, nc, ns) Q) : yi_G Ms d M (pc, al, st, H, nc, ns) Q := yi_G_s _ h1 (fun _ => by rw [← hz]; rfl) hg
theorem yi_G_ldc {j v : Nat} {o : List Nat} (z : Int) (h1 : zi_lk2 pc M.2.2.2.2.1 = some (.ldc j, n, 0 :: v :: o)) (hz : yi_w v = z) (hg : yi_G Ms d M (pc + n, al, .inl z :: st, H, nc, ns) Q) : yi_G Ms d M (pc, al, st, H, nc, ns) Q := yi_G_s _ h1 (fun _ => by rw [← hz]; rfl) hg
theorem yi_G_ldcw {j v : Nat} {o : List Nat} (z : Int) (h1 : zi_lk2 pc M.2.2.2.2.1 = some (.ldc_w j, n, 0 :: v :: o)) (hz : yi_w v = z) (hg : yi_G Ms d M (pc + n, al, .inl z :: st, H, nc, ns) Q) : yi_G Ms d M (pc, al, st, H, nc, ns) Q := yi_G_s _ h1 (fun _ => by rw [← hz]; rfl) hg
end YG
section YG
variable {Ms : List zi_M} {d : Nat} {M : zi_M} {Q : yi_R → Prop} {pc n : Nat} {al : List (Nat × yi_V)} {st : List yi_V} {H : yi_H} {nc ns : Nat}
theorem yi_G_tsi {dd lo hi z : Int} {offs : Array Int} {dt t : Nat} {ts : List Nat} {r : List yi_V} (j : Nat) (h1 : zi_lk2 pc M.2.2.2.2.1 = some (.tableswitch dd lo hi offs, n, dt :: ts)) (hz : z = lo + j) (hj : lo + j ≤ hi) (ht : ts[j]? = some t) (hg : yi_G Ms d M (t, al, r, H, nc, ns) Q) : yi_G Ms d M (pc, al, .inl z :: r, H, nc, ns) Q := yi_G_s _ h1 (fun _ => by
  show ((bif decide (z < lo) || decide (hi < z) then some (.inl (dt, al, r, H, nc, ns)) else (match ts[(z - lo).toNat]? with | some t => some (.inl (t, al, r, H, nc, ns)) | none => none)) : yi_O) = _
  rw [decide_eq_false (show ¬ z < lo by omega), decide_eq_false (show ¬ hi < z by omega), show (z - lo).toNat = j by omega, ht]
  rfl) hg
theorem yi_G_tso {dd lo hi z : Int} {offs : Array Int} {dt : Nat} {ts : List Nat} {r : List yi_V} (h1 : zi_lk2 pc M.2.2.2.2.1 = some (.tableswitch dd lo hi offs, n, dt :: ts)) (hz : z < lo ∨ hi < z) (hg : yi_G Ms d M (dt, al, r, H, nc, ns) Q) : yi_G Ms d M (pc, al, .inl z :: r, H, nc, ns) Q := yi_G_s _ h1 (fun _ => by
  show ((bif decide (z < lo) || decide (hi < z) then some (.inl (dt, al, r, H, nc, ns)) else (match ts[(z - lo).toNat]? with | some t => some (.inl (t, al, r, H, nc, ns)) | none => none)) : yi_O) = _
  rcases hz with hz | hz
  · rw [decide_eq_true hz]
    rfl
  · rw [decide_eq_true hz, Bool.or_true]
    rfl) hg
end YG
theorem yi_b2 {z : Int} {H : yi_H} (hz : z = 0 ∨ z = 1) : ((some (Sum.inl z), H, 0, 0) : yi_R) = (some (Sum.inl 1), H, 0, 0) ∨ ((some (Sum.inl z), H, 0, 0) : yi_R) = (some (Sum.inl 0), H, 0, 0) := by
  rcases hz with z | z
  · right; rw [z]
  · left; rw [z]
section YG
variable {Ms : List zi_M} {d : Nat} {M : zi_M} {Q : yi_R → Prop} {pc n : Nat} {al : List (Nat × yi_V)} {st : List yi_V} {H : yi_H} {nc ns : Nat}
theorem yi_G_lrem {o : List Nat} {x y : Int} {r : List yi_V} (h1 : zi_lk2 pc M.2.2.2.2.1 = some (.lrem, n, o)) (hy : ¬ y = 0) (v : Int) (hv : x.tmod y = v) (hg : yi_G Ms d M (pc + n, al, .inr (.inl v) :: r, H, nc, ns) Q) : yi_G Ms d M (pc, al, .inr (.inl y) :: .inr (.inl x) :: r, H, nc, ns) Q := yi_G_s _ h1 (fun _ => by
  show ((bif decide (y = 0) then none else some (.inl (pc + n, al, .inr (.inl (x.tmod y)) :: r, H, nc, ns))) : yi_O) = _
  rw [decide_eq_false hy, hv]
  rfl) hg
theorem yi_G_ldiv {o : List Nat} {x y : Int} {r : List yi_V} (h1 : zi_lk2 pc M.2.2.2.2.1 = some (.ldiv, n, o)) (hy : ¬ y = 0) (v : Int) (hv : yi_W (x.tdiv y) = v) (hg : yi_G Ms d M (pc + n, al, .inr (.inl v) :: r, H, nc, ns) Q) : yi_G Ms d M (pc, al, .inr (.inl y) :: .inr (.inl x) :: r, H, nc, ns) Q := yi_G_s _ h1 (fun _ => by
  show ((bif decide (y = 0) then none else some (.inl (pc + n, al, .inr (.inl (yi_W (x.tdiv y))) :: r, H, nc, ns))) : yi_O) = _
  rw [decide_eq_false hy, hv]
  rfl) hg
theorem yi_G_lx {i : Instr} {o : List Nat} (g : yi_F) {x y v : Int} {r : List yi_V} {op : Int → Int → Int} (h1 : zi_lk2 pc M.2.2.2.2.1 = some (i, n, o)) (h2 : ∀ call, yi_do call [] M.2.2.1 M.2.2.2.1 pc al (.inr (.inl y) :: .inr (.inl x) :: r) H nc ns i n o = some (.inl (pc + n, al, .inr (.inl (op x y)) :: r, H, nc, ns))) (hv : op x y = v) (hg : yi_G Ms d M (pc + n, al, .inr (.inl v) :: r, H, nc, ns) Q) : yi_G Ms d M (pc, al, .inr (.inl y) :: .inr (.inl x) :: r, H, nc, ns) Q := yi_G_s _ h1 (fun call => by rw [h2, hv]) hg
theorem yi_G_l2i {o : List Nat} {x : Int} {r : List yi_V} (h1 : zi_lk2 pc M.2.2.2.2.1 = some (.l2i, n, o)) (v : Int) (hv : yi_w x = v) (hg : yi_G Ms d M (pc + n, al, .inl v :: r, H, nc, ns) Q) : yi_G Ms d M (pc, al, .inr (.inl x) :: r, H, nc, ns) Q := yi_G_s _ h1 (fun _ => by rw [← hv]; rfl) hg
theorem yi_G_lmul {o : List Nat} {x y : Int} {r : List yi_V} (h1 : zi_lk2 pc M.2.2.2.2.1 = some (.lmul, n, o)) (v : Int) (hv : yi_W (x * y) = v) (hg : yi_G Ms d M (pc + n, al, .inr (.inl v) :: r, H, nc, ns) Q) : yi_G Ms d M (pc, al, .inr (.inl y) :: .inr (.inl x) :: r, H, nc, ns) Q := yi_G_s _ h1 (fun _ => by rw [← hv]; rfl) hg
theorem yi_G_ladd {o : List Nat} {x y : Int} {r : List yi_V} (h1 : zi_lk2 pc M.2.2.2.2.1 = some (.ladd, n, o)) (v : Int) (hv : yi_W (x + y) = v) (hg : yi_G Ms d M (pc + n, al, .inr (.inl v) :: r, H, nc, ns) Q) : yi_G Ms d M (pc, al, .inr (.inl y) :: .inr (.inl x) :: r, H, nc, ns) Q := yi_G_s _ h1 (fun _ => by rw [← hv]; rfl) hg
end YG
theorem yi_Wn {z : Int} (h0 : -9223372036854775808 ≤ z) (h1 : z < 9223372036854775808) : yi_W z = z := by
  unfold yi_W
  omega
theorem yi_dvL {a b v : Int} (ha : 0 ≤ a) (hb : a / b = v) (h0 : -9223372036854775808 ≤ v) (h1 : v < 9223372036854775808) : yi_W (a.tdiv b) = v := by
  rw [Int.tdiv_eq_ediv_of_nonneg ha, hb]
  exact yi_Wn h0 h1
