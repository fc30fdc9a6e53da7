/-! Rules of the class's heap. -/
section CG
variable {Ms : List zi_M} {d : Nat} {M : zi_M} {Q : yi_R → Prop} {pc n : Nat} {al : List (Nat × yi_V)} {st : List yi_V} {I L : cl_I} {R : cl_Rr} {Y : cl_Y} {nc ns : Nat} {E : List Nat} {p : Nat}
/-- a cell of a kind, whole or not -/
def cl_K (Y : cl_Y) (p t : Nat) : Prop := 10 ≤ p ∧ Y.1 p = t
theorem cl_T_K {t : Nat} (h : cl_T E Y p t) : cl_K Y p t := ⟨h.1, h.2.2.2.2⟩
theorem cl_G_gi {j ci k : Nat} {o : List Nat} (h1 : zi_lk2 pc M.2.2.2.2.1 = some (.getfield j, n, ci :: k :: o)) (ht : cl_K Y p ci) (hc : Nat.ble (ci + 1) 20 = true) (hk : yi_tk (zi_ty ci k) = 0) (hl : Nat.ble (k + 1) (zi_Fs.getD ci ("", [])).2.length = true) (hg : yi_G Ms d M (pc + n, al, .inl (I p k) :: st, (I, L, R, Y), nc, ns) Q) : yi_G Ms d M (pc, al, .inr (.inr (some p)) :: st, (I, L, R, Y), nc, ns) Q := yi_G_get _ h1 (by
  show ((bif Nat.ble 10 p then (bif Nat.beq (Y.1 p) ci && Nat.ble (k + 1) (zi_Fs.getD ci ("", [])).2.length && Nat.ble (ci + 1) 20 then some (.inl (pc + n, al, yi_rd (I, L, R, Y) (yi_tk (zi_ty ci k)) p k :: st, (I, L, R, Y), nc, ns)) else none) else _) : yi_O) = _
  rw [Nat.ble_eq_true_of_le ht.1, ht.2, Nat.beq_refl, hl, hc, hk]
  rfl) hg
theorem cl_G_gl {j ci k : Nat} {o : List Nat} (h1 : zi_lk2 pc M.2.2.2.2.1 = some (.getfield j, n, ci :: k :: o)) (ht : cl_K Y p ci) (hc : Nat.ble (ci + 1) 20 = true) (hk : yi_tk (zi_ty ci k) = 1) (hl : Nat.ble (k + 1) (zi_Fs.getD ci ("", [])).2.length = true) (hg : yi_G Ms d M (pc + n, al, .inr (.inl (L p k)) :: st, (I, L, R, Y), nc, ns) Q) : yi_G Ms d M (pc, al, .inr (.inr (some p)) :: st, (I, L, R, Y), nc, ns) Q := yi_G_get _ h1 (by
  show ((bif Nat.ble 10 p then (bif Nat.beq (Y.1 p) ci && Nat.ble (k + 1) (zi_Fs.getD ci ("", [])).2.length && Nat.ble (ci + 1) 20 then some (.inl (pc + n, al, yi_rd (I, L, R, Y) (yi_tk (zi_ty ci k)) p k :: st, (I, L, R, Y), nc, ns)) else none) else _) : yi_O) = _
  rw [Nat.ble_eq_true_of_le ht.1, ht.2, Nat.beq_refl, hl, hc, hk]
  rfl) hg
theorem cl_G_gr {j ci k : Nat} {o : List Nat} {z : Option Nat} (h1 : zi_lk2 pc M.2.2.2.2.1 = some (.getfield j, n, ci :: k :: o)) (ht : cl_K Y p ci) (hc : Nat.ble (ci + 1) 20 = true) (hk : yi_tk (zi_ty ci k) = 2) (hl : Nat.ble (k + 1) (zi_Fs.getD ci ("", [])).2.length = true) (hz : R p k = z) (hg : yi_G Ms d M (pc + n, al, .inr (.inr z) :: st, (I, L, R, Y), nc, ns) Q) : yi_G Ms d M (pc, al, .inr (.inr (some p)) :: st, (I, L, R, Y), nc, ns) Q := yi_G_get _ h1 (by
  show ((bif Nat.ble 10 p then (bif Nat.beq (Y.1 p) ci && Nat.ble (k + 1) (zi_Fs.getD ci ("", [])).2.length && Nat.ble (ci + 1) 20 then some (.inl (pc + n, al, yi_rd (I, L, R, Y) (yi_tk (zi_ty ci k)) p k :: st, (I, L, R, Y), nc, ns)) else none) else _) : yi_O) = _
  rw [Nat.ble_eq_true_of_le ht.1, ht.2, Nat.beq_refl, hl, hc, hk, ← hz]
  rfl) hg
theorem cl_G_pi {j ci k : Nat} {o : List Nat} {z : Int} (h1 : zi_lk2 pc M.2.2.2.2.1 = some (.putfield j, n, ci :: k :: o)) (ht : cl_K Y p ci) (hc : Nat.ble (ci + 1) 20 = true) (hf : yi_fit (zi_ty ci k) (.inl z) = true) (hl : Nat.ble (k + 1) (zi_Fs.getD ci ("", [])).2.length = true) (hg : yi_G Ms d M (pc + n, al, st, (yi_u I p k z, L, R, Y), nc, ns) Q) : yi_G Ms d M (pc, al, .inl z :: .inr (.inr (some p)) :: st, (I, L, R, Y), nc, ns) Q := yi_G_put _ h1 (by
  show ((bif Nat.ble 10 p && (Nat.beq (Y.1 p) ci && Nat.ble (k + 1) (zi_Fs.getD ci ("", [])).2.length && Nat.ble (ci + 1) 20 && yi_fit (zi_ty ci k) (.inl z)) then some (.inl (pc + n, al, st, (yi_u I p k z, L, R, Y), nc, ns)) else none) : yi_O) = _
  rw [Nat.ble_eq_true_of_le ht.1, ht.2, Nat.beq_refl, hl, hc, hf]
  rfl) hg
theorem cl_G_pl {j ci k : Nat} {o : List Nat} {z : Int} (h1 : zi_lk2 pc M.2.2.2.2.1 = some (.putfield j, n, ci :: k :: o)) (ht : cl_K Y p ci) (hc : Nat.ble (ci + 1) 20 = true) (hf : yi_fit (zi_ty ci k) (.inr (.inl z)) = true) (hl : Nat.ble (k + 1) (zi_Fs.getD ci ("", [])).2.length = true) (hg : yi_G Ms d M (pc + n, al, st, (I, yi_u L p k z, R, Y), nc, ns) Q) : yi_G Ms d M (pc, al, .inr (.inl z) :: .inr (.inr (some p)) :: st, (I, L, R, Y), nc, ns) Q := yi_G_put _ h1 (by
  show ((bif Nat.ble 10 p && (Nat.beq (Y.1 p) ci && Nat.ble (k + 1) (zi_Fs.getD ci ("", [])).2.length && Nat.ble (ci + 1) 20 && yi_fit (zi_ty ci k) (.inr (.inl z))) then some (.inl (pc + n, al, st, (I, yi_u L p k z, R, Y), nc, ns)) else none) : yi_O) = _
  rw [Nat.ble_eq_true_of_le ht.1, ht.2, Nat.beq_refl, hl, hc, hf]
  rfl) hg
theorem cl_G_pr {j ci k : Nat} {o : List Nat} {z : Option Nat} (h1 : zi_lk2 pc M.2.2.2.2.1 = some (.putfield j, n, ci :: k :: o)) (ht : cl_K Y p ci) (hc : Nat.ble (ci + 1) 20 = true) (hf : yi_fit (zi_ty ci k) (.inr (.inr z)) = true) (hl : Nat.ble (k + 1) (zi_Fs.getD ci ("", [])).2.length = true) (hg : yi_G Ms d M (pc + n, al, st, (I, L, cl_u R p k z, Y), nc, ns) Q) : yi_G Ms d M (pc, al, .inr (.inr z) :: .inr (.inr (some p)) :: st, (I, L, R, Y), nc, ns) Q := yi_G_put _ h1 (by
  show ((bif Nat.ble 10 p && (Nat.beq (Y.1 p) ci && Nat.ble (k + 1) (zi_Fs.getD ci ("", [])).2.length && Nat.ble (ci + 1) 20 && yi_fit (zi_ty ci k) (.inr (.inr z))) then some (.inl (pc + n, al, st, (I, L, cl_u R p k z, Y), nc, ns)) else none) : yi_O) = _
  rw [Nat.ble_eq_true_of_le ht.1, ht.2, Nat.beq_refl, hl, hc, hf]
  rfl) hg
theorem cl_ald {t x : Int} {ty : Nat} (ht : cl_T E Y p (20 + ty)) (hy : ty ≤ 6) (h0 : 0 ≤ x) (hx : x < Y.2.1 p) : yi_ald pc n al (.inl x :: .inr (.inr (some p)) :: st) (I, L, R, Y) nc ns ty [] = some (.inl (pc + n, al, yi_rd (I, L, R, Y) (zi_tk ty) p x.toNat :: st, (I, L, R, Y), nc, ns)) := by
  show ((bif Nat.ble 10 p then (bif ((Nat.beq (Y.1 p) (20 + ty) && Nat.ble ty 6) || (Nat.beq ty 7 && Nat.ble 24 (Y.1 p) && Nat.ble (Y.1 p) 26)) && decide (0 ≤ x) && decide (x < Y.2.1 p) then some (.inl (pc + n, al, yi_rd (I, L, R, Y) (zi_tk ty) p x.toNat :: st, (I, L, R, Y), nc, ns)) else none) else _) : yi_O) = _
  rw [Nat.ble_eq_true_of_le ht.1, ht.2.2.2.2, Nat.beq_refl, Nat.ble_eq_true_of_le hy, decide_eq_true h0, decide_eq_true hx]
  rfl
theorem cl_G_iald {o : List Nat} {x : Int} (h1 : zi_lk2 pc M.2.2.2.2.1 = some (.iaload, n, o)) (ht : cl_T E Y p 20) (h0 : 0 ≤ x) (hx : x < Y.2.1 p) (hg : yi_G Ms d M (pc + n, al, .inl (I p x.toNat) :: st, (I, L, R, Y), nc, ns) Q) : yi_G Ms d M (pc, al, .inl x :: .inr (.inr (some p)) :: st, (I, L, R, Y), nc, ns) Q := yi_G_iald _ h1 (cl_ald (t := 0) (ty := 0) ht (by omega) h0 hx) hg
theorem cl_G_lald {o : List Nat} {x : Int} (h1 : zi_lk2 pc M.2.2.2.2.1 = some (.laload, n, o)) (ht : cl_T E Y p 21) (h0 : 0 ≤ x) (hx : x < Y.2.1 p) (hg : yi_G Ms d M (pc + n, al, .inr (.inl (L p x.toNat)) :: st, (I, L, R, Y), nc, ns) Q) : yi_G Ms d M (pc, al, .inl x :: .inr (.inr (some p)) :: st, (I, L, R, Y), nc, ns) Q := yi_G_lald _ h1 (cl_ald (t := 0) (ty := 1) ht (by omega) h0 hx) hg
theorem cl_G_bald {o : List Nat} {x : Int} (h1 : zi_lk2 pc M.2.2.2.2.1 = some (.baload, n, o)) (ht : cl_T E Y p 22) (h0 : 0 ≤ x) (hx : x < Y.2.1 p) (hg : yi_G Ms d M (pc + n, al, .inl (I p x.toNat) :: st, (I, L, R, Y), nc, ns) Q) : yi_G Ms d M (pc, al, .inl x :: .inr (.inr (some p)) :: st, (I, L, R, Y), nc, ns) Q := yi_G_bald _ h1 (cl_ald (t := 0) (ty := 2) ht (by omega) h0 hx) hg
theorem cl_G_cald {o : List Nat} {x : Int} (h1 : zi_lk2 pc M.2.2.2.2.1 = some (.caload, n, o)) (ht : cl_T E Y p 23) (h0 : 0 ≤ x) (hx : x < Y.2.1 p) (hg : yi_G Ms d M (pc + n, al, .inl (I p x.toNat) :: st, (I, L, R, Y), nc, ns) Q) : yi_G Ms d M (pc, al, .inl x :: .inr (.inr (some p)) :: st, (I, L, R, Y), nc, ns) Q := yi_G_cald _ h1 (cl_ald (t := 0) (ty := 3) ht (by omega) h0 hx) hg
theorem cl_G_aald {o : List Nat} {x : Int} {t : Nat} {z : Option Nat} (h1 : zi_lk2 pc M.2.2.2.2.1 = some (.aaload, n, o)) (ht : cl_T E Y p t) (h24 : 24 ≤ t ∧ t ≤ 26) (h0 : 0 ≤ x) (hx : x < Y.2.1 p) (hz : R p x.toNat = z) (hg : yi_G Ms d M (pc + n, al, .inr (.inr z) :: st, (I, L, R, Y), nc, ns) Q) : yi_G Ms d M (pc, al, .inl x :: .inr (.inr (some p)) :: st, (I, L, R, Y), nc, ns) Q := yi_G_aald _ h1 (by
  show ((bif Nat.ble 10 p then (bif ((Nat.beq (Y.1 p) (20 + 7) && Nat.ble 7 6) || (Nat.beq 7 7 && Nat.ble 24 (Y.1 p) && Nat.ble (Y.1 p) 26)) && decide (0 ≤ x) && decide (x < Y.2.1 p) then some (.inl (pc + n, al, yi_rd (I, L, R, Y) (zi_tk 7) p x.toNat :: st, (I, L, R, Y), nc, ns)) else none) else _) : yi_O) = _
  rw [Nat.ble_eq_true_of_le ht.1, ht.2.2.2.2, Nat.ble_eq_true_of_le h24.1, Nat.ble_eq_true_of_le h24.2, decide_eq_true h0, decide_eq_true hx, ← hz]
  cases Nat.beq t (20 + 7) <;> rfl) hg
theorem cl_ast {x : Int} {ty : Nat} {v : yi_V} (ht : cl_T E Y p (20 + ty)) (hy : ty ≤ 3) (h0 : 0 ≤ x) (hx : x < Y.2.1 p) (hf : yi_fit (zi_ft ty) v = true) : yi_ast pc n al (v :: .inl x :: .inr (.inr (some p)) :: st) (I, L, R, Y) nc ns ty = some (.inl (pc + n, al, st, yi_wrt (I, L, R, Y) p x.toNat v, nc, ns)) := by
  show ((bif Nat.ble 10 p && Nat.beq (Y.1 p) (20 + ty) && Nat.ble ty 3 && decide (0 ≤ x) && decide (x < Y.2.1 p) && yi_fit (zi_ft ty) v then some (.inl (pc + n, al, st, yi_wrt (I, L, R, Y) p x.toNat v, nc, ns)) else none) : yi_O) = _
  rw [Nat.ble_eq_true_of_le ht.1, ht.2.2.2.2, Nat.beq_refl, Nat.ble_eq_true_of_le hy, decide_eq_true h0, decide_eq_true hx, hf]
  rfl
theorem cl_G_iast {o : List Nat} {x z : Int} (h1 : zi_lk2 pc M.2.2.2.2.1 = some (.iastore, n, o)) (ht : cl_T E Y p 20) (h0 : 0 ≤ x) (hx : x < Y.2.1 p) (hg : yi_G Ms d M (pc + n, al, st, (yi_u I p x.toNat z, L, R, Y), nc, ns) Q) : yi_G Ms d M (pc, al, .inl z :: .inl x :: .inr (.inr (some p)) :: st, (I, L, R, Y), nc, ns) Q := yi_G_iast _ h1 (cl_ast (ty := 0) ht (by omega) h0 hx rfl) hg
theorem cl_G_last {o : List Nat} {x z : Int} (h1 : zi_lk2 pc M.2.2.2.2.1 = some (.lastore, n, o)) (ht : cl_T E Y p 21) (h0 : 0 ≤ x) (hx : x < Y.2.1 p) (hg : yi_G Ms d M (pc + n, al, st, (I, yi_u L p x.toNat z, R, Y), nc, ns) Q) : yi_G Ms d M (pc, al, .inr (.inl z) :: .inl x :: .inr (.inr (some p)) :: st, (I, L, R, Y), nc, ns) Q := yi_G_last _ h1 (cl_ast (ty := 1) ht (by omega) h0 hx rfl) hg
theorem cl_G_bast {o : List Nat} {x z : Int} (h1 : zi_lk2 pc M.2.2.2.2.1 = some (.bastore, n, o)) (ht : cl_T E Y p 22) (h0 : 0 ≤ x) (hx : x < Y.2.1 p) (hz : z = 0 ∨ z = 1) (hg : yi_G Ms d M (pc + n, al, st, (yi_u I p x.toNat z, L, R, Y), nc, ns) Q) : yi_G Ms d M (pc, al, .inl z :: .inl x :: .inr (.inr (some p)) :: st, (I, L, R, Y), nc, ns) Q := yi_G_bast _ h1 (cl_ast (ty := 2) ht (by omega) h0 hx (by rcases hz with rfl | rfl <;> rfl)) hg
theorem cl_G_cast {o : List Nat} {x z : Int} (h1 : zi_lk2 pc M.2.2.2.2.1 = some (.castore, n, o)) (ht : cl_T E Y p 23) (h0 : 0 ≤ x) (hx : x < Y.2.1 p) (hz : 0 ≤ z ∧ z < 65536) (hg : yi_G Ms d M (pc + n, al, st, (yi_u I p x.toNat z, L, R, Y), nc, ns) Q) : yi_G Ms d M (pc, al, .inl z :: .inl x :: .inr (.inr (some p)) :: st, (I, L, R, Y), nc, ns) Q := yi_G_s _ h1 (fun _ => cl_ast (ty := 3) ht (by omega) h0 hx (by
  show (decide (0 ≤ z) && decide (z < 65536)) = true
  rw [decide_eq_true hz.1, decide_eq_true hz.2]
  rfl)) hg
theorem cl_G_aast {o : List Nat} {x : Int} {t c : Nat} {z : Option Nat} (h1 : zi_lk2 pc M.2.2.2.2.1 = some (.aastore, n, o)) (ht : cl_T E Y p t) (h24 : 24 ≤ t ∧ t ≤ 26) (hc : yi_ec t = c) (h0 : 0 ≤ x) (hx : x < Y.2.1 p) (hz : z = none ∨ ∃ q, z = some q ∧ cl_T E Y q c) (hg : yi_G Ms d M (pc + n, al, st, (I, L, cl_u R p x.toNat z, Y), nc, ns) Q) : yi_G Ms d M (pc, al, .inr (.inr z) :: .inl x :: .inr (.inr (some p)) :: st, (I, L, R, Y), nc, ns) Q := yi_G_s _ h1 (fun _ => by
  show ((bif Nat.ble 10 p && Nat.ble 24 (Y.1 p) && Nat.ble (Y.1 p) 26 && decide (0 ≤ x) && decide (x < Y.2.1 p) && yi_nz (I, L, R, Y) (Y.1 p) z then some (.inl (pc + n, al, st, (I, L, cl_u R p x.toNat z, Y), nc, ns)) else none) : yi_O) = _
  have hn : yi_nz (I, L, R, Y) t z = true := by
    rcases hz with rfl | ⟨q, rfl, hq⟩
    · rfl
    · show (Nat.ble 10 q && Nat.beq (Y.1 q) (yi_ec t)) = true
      rw [Nat.ble_eq_true_of_le hq.1, hq.2.2.2.2, hc, Nat.beq_refl]
      rfl
  rw [Nat.ble_eq_true_of_le ht.1, ht.2.2.2.2, Nat.ble_eq_true_of_le h24.1, Nat.ble_eq_true_of_le h24.2, decide_eq_true h0, decide_eq_true hx, hn]
  rfl) hg
theorem cl_G_len {o : List Nat} {t : Nat} (h1 : zi_lk2 pc M.2.2.2.2.1 = some (.arraylength, n, o)) (ht : cl_T E Y p t) (h24 : 20 ≤ t ∧ t ≤ 26) (hg : yi_G Ms d M (pc + n, al, .inl (Y.2.1 p) :: st, (I, L, R, Y), nc, ns) Q) : yi_G Ms d M (pc, al, .inr (.inr (some p)) :: st, (I, L, R, Y), nc, ns) Q := yi_G_s _ h1 (fun _ => by
  show ((bif Nat.ble 10 p then (bif Nat.ble 20 (Y.1 p) && Nat.ble (Y.1 p) 26 then some (.inl (pc + n, al, .inl (Y.2.1 p) :: st, (I, L, R, Y), nc, ns)) else none) else _) : yi_O) = _
  rw [Nat.ble_eq_true_of_le ht.1, ht.2.2.2.2, Nat.ble_eq_true_of_le h24.1, Nat.ble_eq_true_of_le h24.2]
  rfl) hg
theorem cl_G_new {j ci m : Nat} {o : List Nat} (h1 : zi_lk2 pc M.2.2.2.2.1 = some (.new j, n, ci :: o)) (hc : Nat.ble (ci + 1) 12 = true) (hm : (zi_Fs.getD ci ("", [])).2.length = m) (hg : yi_G Ms d M (pc + n, al, .inr (.inr (some Y.2.2)) :: st, (cl_nf I Y.2.2, cl_nf L Y.2.2, cl_nr R Y.2.2, cl_ny Y ci 0), nc + 1, ns + m) Q) : yi_G Ms d M (pc, al, st, (I, L, R, Y), nc, ns) Q := yi_G_s _ h1 (fun _ => by
  show ((bif Nat.ble (ci + 1) 12 then some (.inl (pc + n, al, .inr (.inr (some Y.2.2)) :: st, (cl_nf I Y.2.2, cl_nf L Y.2.2, cl_nr R Y.2.2, cl_ny Y ci 0), nc + 1, ns + (zi_Fs.getD ci ("", [])).2.length)) else none) : yi_O) = _
  rw [hc, hm]
  rfl) hg
theorem cl_nwa {t : Nat} {x : Int} (h0 : 0 ≤ x) (hx : x ≤ 1000000) (ht : t ≤ 6) : yi_nwa pc n al (.inl x :: st) (I, L, R, Y) nc ns t = some (.inl (pc + n, al, .inr (.inr (some Y.2.2)) :: st, (cl_nf I Y.2.2, cl_nf L Y.2.2, cl_nr R Y.2.2, cl_ny Y (20 + t) x.toNat), nc + 1, ns + x.toNat)) := by
  show ((bif decide (0 ≤ x) && decide (x ≤ 1000000) && Nat.ble t 6 then some (.inl (pc + n, al, .inr (.inr (some Y.2.2)) :: st, (cl_nf I Y.2.2, cl_nf L Y.2.2, cl_nr R Y.2.2, cl_ny Y (20 + t) x.toNat), nc + 1, ns + x.toNat)) else none) : yi_O) = _
  rw [decide_eq_true h0, decide_eq_true hx, Nat.ble_eq_true_of_le ht]
  rfl
theorem cl_G_nwa {j : ArrayType} {t : Nat} {o : List Nat} {x : Int} (h1 : zi_lk2 pc M.2.2.2.2.1 = some (.newarray j, n, t :: o)) (h0 : 0 ≤ x) (hx : x ≤ 1000000) (ht : t ≤ 6) (hg : yi_G Ms d M (pc + n, al, .inr (.inr (some Y.2.2)) :: st, (cl_nf I Y.2.2, cl_nf L Y.2.2, cl_nr R Y.2.2, cl_ny Y (20 + t) x.toNat), nc + 1, ns + x.toNat) Q) : yi_G Ms d M (pc, al, .inl x :: st, (I, L, R, Y), nc, ns) Q := yi_G_s _ h1 (fun _ => cl_nwa h0 hx ht) hg
theorem cl_G_anw {j t : Nat} {o : List Nat} {x : Int} (h1 : zi_lk2 pc M.2.2.2.2.1 = some (.anewarray j, n, t :: o)) (h0 : 0 ≤ x) (hx : x ≤ 1000000) (ht : t ≤ 6) (hg : yi_G Ms d M (pc + n, al, .inr (.inr (some Y.2.2)) :: st, (cl_nf I Y.2.2, cl_nf L Y.2.2, cl_nr R Y.2.2, cl_ny Y (20 + t) x.toNat), nc + 1, ns + x.toNat) Q) : yi_G Ms d M (pc, al, .inl x :: st, (I, L, R, Y), nc, ns) Q := yi_G_s _ h1 (fun _ => cl_nwa h0 hx ht) hg
theorem cl_G_obj {j : Nat} (h1 : zi_lk2 pc M.2.2.2.2.1 = some (.invokespecial j, n, [])) (hc : Nat.ble (yi_cats st) 8 = true) (hg : yi_G Ms d M (pc + n, al, st, (I, L, R, Y), nc, ns) Q) : yi_G Ms d M (pc, al, .inr (.inr (some p)) :: st, (I, L, R, Y), nc, ns) Q := yi_G_s _ h1 (fun _ => by
  show ((bif Nat.ble (yi_cats st) 8 then some (.inl (pc + n, al, st, (I, L, R, Y), nc, ns)) else none) : yi_O) = _
  rw [hc]
  rfl) hg
theorem cl_G_max {j : Nat} {x y v : Int} (h1 : zi_lk2 pc M.2.2.2.2.1 = some (.invokestatic j, n, [0])) (hc : Nat.ble (yi_cats (.inl y :: .inl x :: st)) 10 = true) (hv : (if x < y then y else x) = v) (hg : yi_G Ms d M (pc + n, al, .inl v :: st, (I, L, R, Y), nc, ns) Q) : yi_G Ms d M (pc, al, .inl y :: .inl x :: st, (I, L, R, Y), nc, ns) Q := yi_G_s _ h1 (fun _ => by
  show ((bif Nat.ble (yi_cats (.inl y :: .inl x :: st)) 10 then some (.inl (pc + n, al, .inl (if x < y then y else x) :: st, (I, L, R, Y), nc, ns)) else none) : yi_O) = _
  rw [hc, hv]
  rfl) hg
theorem cl_G_min {j : Nat} {x y v : Int} (h1 : zi_lk2 pc M.2.2.2.2.1 = some (.invokestatic j, n, [1])) (hc : Nat.ble (yi_cats (.inl y :: .inl x :: st)) 10 = true) (hv : (if y < x then y else x) = v) (hg : yi_G Ms d M (pc + n, al, .inl v :: st, (I, L, R, Y), nc, ns) Q) : yi_G Ms d M (pc, al, .inl y :: .inl x :: st, (I, L, R, Y), nc, ns) Q := yi_G_s _ h1 (fun _ => by
  show ((bif Nat.ble (yi_cats (.inl y :: .inl x :: st)) 10 then some (.inl (pc + n, al, .inl (if y < x then y else x) :: st, (I, L, R, Y), nc, ns)) else none) : yi_O) = _
  rw [hc, hv]
  rfl) hg
theorem cl_max {x y : Int} : (if x < y then y else x) = max x y := by
  split <;> omega
theorem cl_min {x y : Int} : (if y < x then y else x) = min x y := by
  split <;> omega
theorem cl_G_nul {off : Int} {t : Nat} {o : List Nat} {z : Option Nat} (q : Bool) (h1 : zi_lk2 pc M.2.2.2.2.1 = some (.ifnull off, n, t :: o)) (h2 : z.isNone = q) (hg : yi_G Ms d M (bif q then t else pc + n, al, st, (I, L, R, Y), nc, ns) Q) : yi_G Ms d M (pc, al, .inr (.inr z) :: st, (I, L, R, Y), nc, ns) Q := yi_G_s _ h1 (fun _ => by
  subst h2
  cases z <;> rfl) hg
theorem cl_G_nnl {off : Int} {t : Nat} {o : List Nat} {z : Option Nat} (q : Bool) (h1 : zi_lk2 pc M.2.2.2.2.1 = some (.ifnonnull off, n, t :: o)) (h2 : z.isNone = q) (hg : yi_G Ms d M (bif q then pc + n else t, al, st, (I, L, R, Y), nc, ns) Q) : yi_G Ms d M (pc, al, .inr (.inr z) :: st, (I, L, R, Y), nc, ns) Q := yi_G_s _ h1 (fun _ => by
  subst h2
  cases z <;> rfl) hg
theorem cl_G_reta {o : List Nat} {z : Option Nat} {ty : FieldType} (h1 : zi_lk2 pc M.2.2.2.2.1 = some (.areturn, n, o)) (hr : M.2.2.2.1 = some ty) (hf : yi_fit ty (.inr (.inr z)) = true) (hq : Q (some (.inr (.inr z)), (I, L, R, Y), nc, ns)) : yi_G Ms d M (pc, al, [.inr (.inr z)], (I, L, R, Y), nc, ns) Q := yi_G_ret h1 rfl (fun _ => by
  show yi_ret 2 M.2.2.2.1 [.inr (.inr z)] = _
  rw [hr]
  show ((bif yi_fit ty (.inr (.inr z)) && Nat.ble 2 (yi_kd (.inr (.inr z))) then some (.inr (some (.inr (.inr z)))) else none) : yi_O) = _
  rw [hf]
  cases z <;> rfl) hq
theorem cl_G_retc {o : List Nat} {z : Int} (h1 : zi_lk2 pc M.2.2.2.2.1 = some (.ireturn, n, o)) (hr : M.2.2.2.1 = some .char) (hz : 0 ≤ z ∧ z < 65536) (hq : Q (some (.inl z), (I, L, R, Y), nc, ns)) : yi_G Ms d M (pc, al, [.inl z], (I, L, R, Y), nc, ns) Q := yi_G_ret h1 rfl (fun _ => by
  show yi_ret 0 M.2.2.2.1 [.inl z] = _
  rw [hr]
  show ((bif (decide (0 ≤ z) && decide (z < 65536)) && true then some (.inr (some (.inl z))) else none) : yi_O) = _
  rw [decide_eq_true hz.1, decide_eq_true hz.2]
  rfl) hq
theorem cl_rcv {ci : Nat} (ht : cl_T E Y p ci) (hc : Nat.ble (ci + 1) 20 = true) : yi_rcv (I, L, R, Y) ci (some (.inr (.inr (some p)))) = true := by
  show (bif Nat.ble 10 p then Nat.beq (Y.1 p) ci && Nat.ble (ci + 1) 20 else _) = true
  rw [Nat.ble_eq_true_of_le ht.1, ht.2.2.2.2, Nat.beq_refl, hc]
  rfl
theorem cl_G_callx {j mi k b : Nat} {o : List Nat} {Qc : yi_R → Prop} (h1 : zi_lk2 pc M.2.2.2.2.1 = some (.invokespecial j, n, mi :: k :: o)) (hk : Nat.ble 1 k = true) (hr : st[k - 1]? = some (.inr (.inr (some b)))) (h3 : (Nat.ble k st.length && Nat.ble (yi_cats (st.drop k)) 8) = true) (hE : yi_E Ms d mi (st.take k).reverse (I, L, R, Y) Qc)
    (hg : ∀ r, Qc r → yi_G Ms d M (pc + n, al, (match r.1 with | some v => v :: st.drop k | none => st.drop k), r.2.1, nc + r.2.2.1, ns + r.2.2.2) Q) : yi_G Ms d M (pc, al, st, (I, L, R, Y), nc, ns) Q := by
  refine yi_G_call h1 (fun call => ?_) h3 hE hg
  show (match st[k - 1]? with | some (.inr (.inr (some _))) => bif Nat.ble 1 k then yi_inv pc n al st (I, L, R, Y) nc ns call mi k else none | _ => none) = _
  rw [hr, hk]
  rfl
end CG
theorem cl_ne {E E' : List Nat} {Y : cl_Y} {p q t u : Nat} (h : cl_T E Y p t) (h2 : cl_T E' Y q u) (n : t ≠ u) : p ≠ q := fun z => n (by
  have a := h.2.2.2.2
  have b := h2.2.2.2.2
  rw [z] at a
  exact a.symm.trans b)
theorem cl_hv0 {t k : Nat} {v : Int} (h : cl_b t k = none) : ∀ b, cl_b t k = some b → b.1 ≤ v ∧ v ≤ b.2 := fun b hb => by
  rw [h] at hb
  cases hb
theorem cl_hv {t k : Nat} {v lo hi : Int} (h : cl_b t k = some (lo, hi)) (h0 : lo ≤ v) (h1 : v ≤ hi) : ∀ b, cl_b t k = some b → b.1 ≤ v ∧ v ≤ b.2 := fun b hb => by
  rw [h] at hb
  cases hb
  exact ⟨h0, h1⟩
theorem cl_hrf {E : List Nat} {Y : cl_Y} {t k d q : Nat} (h : cl_r t k = some (d, 0, false)) (hq : cl_T E Y q d) : ∀ b, cl_r t k = some b → cl_ref E Y b (some q) := fun b hb => by
  rw [h] at hb
  cases hb
  exact Or.inr ⟨q, rfl, hq, Or.inl rfl⟩
theorem cl_hro {E : List Nat} {Y : cl_Y} {t k d q : Nat} (h : cl_r t k = some (d, 0, true)) (hq : cl_T E Y q d) : ∀ b, cl_r t k = some b → cl_ref E Y b (some q) := fun b hb => by
  rw [h] at hb
  cases hb
  exact Or.inr ⟨q, rfl, hq, Or.inl rfl⟩
theorem cl_hrn {E : List Nat} {Y : cl_Y} {t k d : Nat} (h : cl_r t k = some (d, 0, true)) : ∀ b, cl_r t k = some b → cl_ref E Y b none := fun b hb => by
  rw [h] at hb
  cases hb
  exact Or.inl ⟨rfl, rfl⟩
theorem cl_hrl {E : List Nat} {Y : cl_Y} {t k d q m : Nat} (h : cl_r t k = some (d, m, false)) (hq : cl_T E Y q d) (hm : Y.2.1 q = m) : ∀ b, cl_r t k = some b → cl_ref E Y b (some q) := fun b hb => by
  rw [h] at hb
  cases hb
  exact Or.inr ⟨q, rfl, hq, Or.inr hm⟩
theorem cl_m1 {a b : Int} (ha : 1 ≤ a) (hb : 1 ≤ b) : 1 ≤ a * b := by
  have := Int.mul_le_mul ha hb (by omega) (by omega)
  omega
theorem cl_or {a b : Int} (ha : 0 ≤ a) (ha2 : a ≤ 2147483647) (hb : 0 ≤ b) (hb2 : b ≤ 2147483647) : 0 ≤ yi_ior a b ∧ yi_ior a b ≤ 2147483647 := by
  unfold yi_ior
  have sg : ∀ x : Int, 0 ≤ x → x ≤ 2147483647 → (Int32.ofInt x).toBitVec.msb = false := fun x h0 h1 => by
    have e : (Int32.ofInt x).toBitVec.toInt = x := by
      show (Int32.ofInt x).toInt = x
      rw [yi_ofInt]
      exact yi_wn (by omega) (by omega)
    rw [BitVec.msb_eq_toInt, e]
    exact decide_eq_false (by omega)
  have hm : (Int32.ofInt a ||| Int32.ofInt b).toBitVec.msb = false := by
    rw [Int32.toBitVec_or, BitVec.msb_or, sg a ha ha2, sg b hb hb2]
    rfl
  rw [BitVec.msb_eq_toInt] at hm
  have h0 := of_decide_eq_false hm
  have h1 := (Int32.ofInt a ||| Int32.ofInt b).toBitVec.toInt_lt
  exact ⟨by show 0 ≤ (Int32.ofInt a ||| Int32.ofInt b).toBitVec.toInt; omega, by show (Int32.ofInt a ||| Int32.ofInt b).toBitVec.toInt ≤ 2147483647; omega⟩
section CG
variable {Ms : List zi_M} {d : Nat} {M : zi_M} {Q : yi_R → Prop} {pc n : Nat} {al : List (Nat × yi_V)} {st : List yi_V} {H : yi_H} {nc ns : Nat}
theorem cl_G_lsw {dd : Int} {ps : Array (Int × Int)} {o : List Nat} {z off : Int} (tgt : Nat) (h1 : zi_lk2 pc M.2.2.2.2.1 = some (.lookupswitch dd ps, n, o)) (ho : Op.lookupswitch.offset ps.toList dd z = off) (ht : (pc : Int) + off = tgt) (hg : yi_G Ms d M (tgt, al, st, H, nc, ns) Q) : yi_G Ms d M (pc, al, .inl z :: st, H, nc, ns) Q := yi_G_s _ h1 (fun _ => by
  show ((bif decide (0 ≤ (pc : Int) + Op.lookupswitch.offset ps.toList dd z) then some (.inl (((pc : Int) + Op.lookupswitch.offset ps.toList dd z).toNat, al, st, H, nc, ns)) else none) : yi_O) = _
  rw [ho, ht, decide_eq_true (by omega)]
  rfl) hg
end CG
