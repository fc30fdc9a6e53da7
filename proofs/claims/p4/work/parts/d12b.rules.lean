/-! More rules of partial runs: references written and read, nulls, new cells, division of longs. -/
section YD
variable {Ms : List zi_M} {d : Nat} {M : zi_M} {k : Nat} {Q : yi_R → Prop} {pc n : Nat} {al : List (Nat × yi_V)} {st : List yi_V} {I L : Nat → Nat → Int} {R : Nat → Nat → Option Nat} {Y : (Nat → Nat) × (Nat → Nat) × Nat} {nc ns : Nat}
theorem yi_D_prw {j ci f p : Nat} {o : List Nat} {z : Option Nat} (h1 : zi_lk2 pc M.2.2.2.2.1 = some (.putfield j, n, ci :: f :: o)) (hg : Y.1 p = ci → yi_D Ms d M k (pc + n, al, st, (I, L, cl_u R p f z, Y), nc, ns) Q) : yi_D Ms d M k (pc, al, .inr (.inr z) :: .inr (.inr (some p)) :: st, (I, L, R, Y), nc, ns) Q := by
  refine yi_D_l1 (g := (pc + n, al, st, (I, L, cl_u R p f z, Y), nc, ns)) (c := Nat.ble 10 p && (Nat.beq (Y.1 p) ci && Nat.ble (f + 1) (zi_Fs.getD ci ("", [])).2.length && Nat.ble (ci + 1) 20 && yi_fit (zi_ty ci f) (.inr (.inr z)))) h1 rfl (fun call => rfl) (fun h => hg ?_)
  rw [Bool.and_eq_true, Bool.and_eq_true, Bool.and_eq_true, Bool.and_eq_true] at h
  exact Nat.eq_of_beq_eq_true h.2.1.1.1
theorem yi_D_asw {o : List Nat} {p : Nat} {x : Int} {z : Option Nat} (h1 : zi_lk2 pc M.2.2.2.2.1 = some (.aastore, n, o)) (hg : 0 ≤ x → x < Y.2.1 p → yi_D Ms d M k (pc + n, al, st, (I, L, cl_u R p x.toNat z, Y), nc, ns) Q) : yi_D Ms d M k (pc, al, .inr (.inr z) :: .inl x :: .inr (.inr (some p)) :: st, (I, L, R, Y), nc, ns) Q := by
  refine yi_D_l1 (g := (pc + n, al, st, (I, L, cl_u R p x.toNat z, Y), nc, ns)) (c := Nat.ble 10 p && Nat.ble 24 (Y.1 p) && Nat.ble (Y.1 p) 26 && decide (0 ≤ x) && decide (x < Y.2.1 p) && yi_nz (I, L, R, Y) (Y.1 p) z) h1 rfl (fun _ => rfl) (fun h => ?_)
  rw [Bool.and_eq_true, Bool.and_eq_true, Bool.and_eq_true] at h
  exact hg (of_decide_eq_true h.1.1.2) (of_decide_eq_true h.1.2)
theorem yi_D_rl {o : List Nat} {p : Nat} {x : Int} {v : Option Nat} (h1 : zi_lk2 pc M.2.2.2.2.1 = some (.aaload, n, o)) (hp : Nat.ble 10 p = true) (hv : R p x.toNat = v) (hg : 0 ≤ x → x < Y.2.1 p → yi_D Ms d M k (pc + n, al, .inr (.inr v) :: st, (I, L, R, Y), nc, ns) Q) : yi_D Ms d M k (pc, al, .inl x :: .inr (.inr (some p)) :: st, (I, L, R, Y), nc, ns) Q := by
  refine yi_D_l1 (g := (pc + n, al, .inr (.inr v) :: st, (I, L, R, Y), nc, ns)) (c := ((Nat.beq (Y.1 p) (20 + 7) && Nat.ble 7 6) || (Nat.beq 7 7 && Nat.ble 24 (Y.1 p) && Nat.ble (Y.1 p) 26)) && decide (0 ≤ x) && decide (x < Y.2.1 p)) h1 rfl (fun call => ?_) (fun h => ?_)
  · show ((bif Nat.ble 10 p then (bif ((Nat.beq (Y.1 p) (20 + 7) && Nat.ble 7 6) || (Nat.beq 7 7 && Nat.ble 24 (Y.1 p) && Nat.ble (Y.1 p) 26)) && decide (0 ≤ x) && decide (x < Y.2.1 p) then some (.inl (pc + n, al, .inr (.inr (R p x.toNat)) :: st, (I, L, R, Y), nc, ns)) else none) else _) : yi_O) = _
    rw [hp, hv]
    rfl
  · rw [Bool.and_eq_true, Bool.and_eq_true] at h
    exact hg (of_decide_eq_true h.1.2) (of_decide_eq_true h.2)
theorem yi_D_bl {o : List Nat} {p : Nat} {x v : Int} (h1 : zi_lk2 pc M.2.2.2.2.1 = some (.baload, n, o)) (hp : Nat.ble 10 p = true) (hv : I p x.toNat = v) (hg : 0 ≤ x → x < Y.2.1 p → yi_D Ms d M k (pc + n, al, .inl v :: st, (I, L, R, Y), nc, ns) Q) : yi_D Ms d M k (pc, al, .inl x :: .inr (.inr (some p)) :: st, (I, L, R, Y), nc, ns) Q := by
  refine yi_D_l1 (g := (pc + n, al, .inl v :: st, (I, L, R, Y), nc, ns)) (c := ((Nat.beq (Y.1 p) (20 + 2) && Nat.ble 2 6) || (Nat.beq 2 7 && Nat.ble 24 (Y.1 p) && Nat.ble (Y.1 p) 26)) && decide (0 ≤ x) && decide (x < Y.2.1 p)) h1 rfl (fun call => ?_) (fun h => ?_)
  · show ((bif Nat.ble 10 p then (bif ((Nat.beq (Y.1 p) (20 + 2) && Nat.ble 2 6) || (Nat.beq 2 7 && Nat.ble 24 (Y.1 p) && Nat.ble (Y.1 p) 26)) && decide (0 ≤ x) && decide (x < Y.2.1 p) then some (.inl (pc + n, al, .inl (I p x.toNat) :: st, (I, L, R, Y), nc, ns)) else none) else _) : yi_O) = _
    rw [hp, hv]
    rfl
  · rw [Bool.and_eq_true, Bool.and_eq_true] at h
    exact hg (of_decide_eq_true h.1.2) (of_decide_eq_true h.2)
theorem yi_D_nn {off : Int} {t : Nat} {o : List Nat} (h1 : zi_lk2 pc M.2.2.2.2.1 = some (.ifnull off, n, t :: o)) (hg : yi_D Ms d M k (t, al, st, (I, L, R, Y), nc, ns) Q) : yi_D Ms d M k (pc, al, .inr (.inr none) :: st, (I, L, R, Y), nc, ns) Q := yi_D_s _ h1 (fun _ => rfl) hg
theorem yi_D_nnx {off : Int} {t : Nat} {o : List Nat} (h1 : zi_lk2 pc M.2.2.2.2.1 = some (.ifnonnull off, n, t :: o)) (hg : yi_D Ms d M k (pc + n, al, st, (I, L, R, Y), nc, ns) Q) : yi_D Ms d M k (pc, al, .inr (.inr none) :: st, (I, L, R, Y), nc, ns) Q := yi_D_s _ h1 (fun _ => rfl) hg
theorem yi_D_ns {off : Int} {t p : Nat} {o : List Nat} (h1 : zi_lk2 pc M.2.2.2.2.1 = some (.ifnull off, n, t :: o)) (hg : yi_D Ms d M k (pc + n, al, st, (I, L, R, Y), nc, ns) Q) : yi_D Ms d M k (pc, al, .inr (.inr (some p)) :: st, (I, L, R, Y), nc, ns) Q := yi_D_s _ h1 (fun _ => rfl) hg
theorem yi_D_nsx {off : Int} {t p : Nat} {o : List Nat} (h1 : zi_lk2 pc M.2.2.2.2.1 = some (.ifnonnull off, n, t :: o)) (hg : yi_D Ms d M k (t, al, st, (I, L, R, Y), nc, ns) Q) : yi_D Ms d M k (pc, al, .inr (.inr (some p)) :: st, (I, L, R, Y), nc, ns) Q := yi_D_s _ h1 (fun _ => rfl) hg
theorem yi_D_new3 {j ci : Nat} {o : List Nat} (h1 : zi_lk2 pc M.2.2.2.2.1 = some (.new j, n, ci :: o)) (hg : ∀ q I2 L2 R2 Y2 m, yi_mkd q I L R Y I2 L2 R2 Y2 0 → (∀ k, R2 q k = none) → (∀ k, L2 q k = 0) → Y2.1 q = ci → yi_D Ms d M k (pc + n, al, .inr (.inr (some q)) :: st, (I2, L2, R2, Y2), nc + 1, m) Q) : yi_D Ms d M k (pc, al, st, (I, L, R, Y), nc, ns) Q := by
  refine yi_D_l1 (g := (pc + n, al, .inr (.inr (some Y.2.2)) :: st, yi_nw (I, L, R, Y) ci 0, nc + 1, ns + (zi_Fs.getD ci ("", [])).2.length)) (c := Nat.ble (ci + 1) 12) h1 rfl (fun call => rfl) (fun _ => hg _ _ _ _ _ _ (yi_mkd_i ci 0) (fun k => if_pos rfl) (fun k => if_pos rfl) (if_pos rfl))
theorem yi_D_nwa3 {ty : ArrayType} {t : Nat} {o : List Nat} {x : Int} (h1 : zi_lk2 pc M.2.2.2.2.1 = some (.newarray ty, n, t :: o)) (hg : ∀ q I2 L2 R2 Y2 m, yi_mkd q I L R Y I2 L2 R2 Y2 x.toNat → (∀ k, R2 q k = none) → (∀ k, L2 q k = 0) → Y2.1 q = 20 + t → yi_D Ms d M k (pc + n, al, .inr (.inr (some q)) :: st, (I2, L2, R2, Y2), nc + 1, m) Q) : yi_D Ms d M k (pc, al, .inl x :: st, (I, L, R, Y), nc, ns) Q := by
  refine yi_D_l1 (g := (pc + n, al, .inr (.inr (some Y.2.2)) :: st, yi_nw (I, L, R, Y) (20 + t) x.toNat, nc + 1, ns + x.toNat)) (c := decide (0 ≤ x) && decide (x ≤ 1000000) && Nat.ble t 6) h1 rfl (fun call => rfl) (fun _ => hg _ _ _ _ _ _ (yi_mkd_i (20 + t) x.toNat) (fun k => if_pos rfl) (fun k => if_pos rfl) (if_pos rfl))
theorem yi_D_nwb3 {j t : Nat} {o : List Nat} {x : Int} (h1 : zi_lk2 pc M.2.2.2.2.1 = some (.anewarray j, n, t :: o)) (hg : ∀ q I2 L2 R2 Y2 m, yi_mkd q I L R Y I2 L2 R2 Y2 x.toNat → (∀ k, R2 q k = none) → (∀ k, L2 q k = 0) → Y2.1 q = 20 + t → yi_D Ms d M k (pc + n, al, .inr (.inr (some q)) :: st, (I2, L2, R2, Y2), nc + 1, m) Q) : yi_D Ms d M k (pc, al, .inl x :: st, (I, L, R, Y), nc, ns) Q := by
  refine yi_D_l1 (g := (pc + n, al, .inr (.inr (some Y.2.2)) :: st, yi_nw (I, L, R, Y) (20 + t) x.toNat, nc + 1, ns + x.toNat)) (c := decide (0 ≤ x) && decide (x ≤ 1000000) && Nat.ble t 6) h1 rfl (fun call => rfl) (fun _ => hg _ _ _ _ _ _ (yi_mkd_i (20 + t) x.toNat) (fun k => if_pos rfl) (fun k => if_pos rfl) (if_pos rfl))
theorem yi_D_ldiv {o : List Nat} {x y : Int} (h1 : zi_lk2 pc M.2.2.2.2.1 = some (.ldiv, n, o)) (hy : ¬ y = 0) (hg : yi_D Ms d M k (pc + n, al, .inr (.inl (yi_W (x.tdiv y))) :: st, (I, L, R, Y), nc, ns) Q) : yi_D Ms d M k (pc, al, .inr (.inl y) :: .inr (.inl x) :: st, (I, L, R, Y), nc, ns) Q := yi_D_s _ h1 (fun _ => by
  show (((bif decide (y = 0) then none else some (.inl (pc + n, al, .inr (.inl (yi_W (x.tdiv y))) :: st, (I, L, R, Y), nc, ns)))) : yi_O) = _
  rw [decide_eq_false hy]
  rfl) hg
theorem yi_D_lrem {o : List Nat} {x y : Int} (h1 : zi_lk2 pc M.2.2.2.2.1 = some (.lrem, n, o)) (hy : ¬ y = 0) (hg : yi_D Ms d M k (pc + n, al, .inr (.inl (x.tmod y)) :: st, (I, L, R, Y), nc, ns) Q) : yi_D Ms d M k (pc, al, .inr (.inl y) :: .inr (.inl x) :: st, (I, L, R, Y), nc, ns) Q := yi_D_s _ h1 (fun _ => by
  show (((bif decide (y = 0) then none else some (.inl (pc + n, al, .inr (.inl (x.tmod y)) :: st, (I, L, R, Y), nc, ns)))) : yi_O) = _
  rw [decide_eq_false hy]
  rfl) hg
end YD
