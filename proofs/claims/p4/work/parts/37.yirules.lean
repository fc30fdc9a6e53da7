/-! More rules: calls, compares, ends. -/
theorem yi_lt_t {a b : Int} (h : a < b) : yi_cmp .lt a b = true := decide_eq_true h
theorem yi_lt_f {a b : Int} (h : ¬ a < b) : yi_cmp .lt a b = false := decide_eq_false h
theorem yi_ge_t {a b : Int} (h : b ≤ a) : yi_cmp .ge a b = true := decide_eq_true h
theorem yi_ge_f {a b : Int} (h : ¬ b ≤ a) : yi_cmp .ge a b = false := decide_eq_false h
theorem yi_gt_t {a b : Int} (h : b < a) : yi_cmp .gt a b = true := decide_eq_true h
theorem yi_gt_f {a b : Int} (h : ¬ b < a) : yi_cmp .gt a b = false := decide_eq_false h
theorem yi_le_t {a b : Int} (h : a ≤ b) : yi_cmp .le a b = true := decide_eq_true h
theorem yi_le_f {a b : Int} (h : ¬ a ≤ b) : yi_cmp .le a b = false := decide_eq_false h
theorem yi_eq_t {a b : Int} (h : a = b) : yi_cmp .eq a b = true := decide_eq_true h
theorem yi_eq_f {a b : Int} (h : ¬ a = b) : yi_cmp .eq a b = false := decide_eq_false h
theorem yi_ne_t {a b : Int} (h : ¬ a = b) : yi_cmp .ne a b = true := by
  show (!decide (a = b)) = true
  rw [decide_eq_false h]
  rfl
theorem yi_ne_f {a b : Int} (h : a = b) : yi_cmp .ne a b = false := by
  show (!decide (a = b)) = false
  rw [decide_eq_true h]
  rfl
section YG
variable {Ms : List zi_M} {d : Nat} {M : zi_M} {Q : yi_R → Prop} {pc n : Nat} {al : List (Nat × yi_V)} {st : List yi_V} {H : yi_H} {nc ns : Nat}
theorem yi_G_callv {j mi k ci : Nat} {o : List Nat} {Qc : yi_R → Prop} (h1 : zi_lk2 pc M.2.2.2.2.1 = some (.invokevirtual j, n, mi :: k :: ci :: o)) (hk : Nat.ble 1 k = true) (hr : yi_rcv H ci st[k - 1]? = true) (h3 : (Nat.ble k st.length && Nat.ble (yi_cats (st.drop k)) 8) = true) (hE : yi_E Ms d mi (st.take k).reverse H Qc)
    (hg : ∀ r, Qc r → yi_G Ms d M (pc + n, al, (match r.1 with | some v => v :: st.drop k | none => st.drop k), r.2.1, nc + r.2.2.1, ns + r.2.2.2) Q) : yi_G Ms d M (pc, al, st, H, nc, ns) Q := by
  refine yi_G_call h1 (fun call => ?_) h3 hE hg
  show (bif Nat.ble 1 k && yi_rcv H ci st[k - 1]? then yi_inv pc n al st H nc ns call mi k else none) = _
  rw [hk, hr]
  rfl
theorem yi_G_calls {j mi k b : Nat} {o : List Nat} {Qc : yi_R → Prop} (h1 : zi_lk2 pc M.2.2.2.2.1 = some (.invokestatic j, n, mi :: k :: b :: o)) (h3 : (Nat.ble k st.length && Nat.ble (yi_cats (st.drop k)) 8) = true) (hE : yi_E Ms d mi (st.take k).reverse H Qc)
    (hg : ∀ r, Qc r → yi_G Ms d M (pc + n, al, (match r.1 with | some v => v :: st.drop k | none => st.drop k), r.2.1, nc + r.2.2.1, ns + r.2.2.2) Q) : yi_G Ms d M (pc, al, st, H, nc, ns) Q :=
  yi_G_call h1 (fun _ => rfl) h3 hE hg
theorem yi_G_reti {o : List Nat} {z : Int} (h1 : zi_lk2 pc M.2.2.2.2.1 = some (.ireturn, n, o)) (hr : M.2.2.2.1 = some .int) (hq : Q (some (.inl z), H, nc, ns)) : yi_G Ms d M (pc, al, [.inl z], H, nc, ns) Q := yi_G_ret h1 rfl (fun _ => by
  show yi_ret 0 M.2.2.2.1 [.inl z] = _
  rw [hr]
  rfl) hq
theorem yi_G_retb {o : List Nat} {z : Int} (h1 : zi_lk2 pc M.2.2.2.2.1 = some (.ireturn, n, o)) (hr : M.2.2.2.1 = some .boolean) (hz : z = 0 ∨ z = 1) (hq : Q (some (.inl z), H, nc, ns)) : yi_G Ms d M (pc, al, [.inl z], H, nc, ns) Q := yi_G_ret h1 rfl (fun _ => by
  show yi_ret 0 M.2.2.2.1 [.inl z] = _
  rw [hr]
  rcases hz with rfl | rfl <;> rfl) hq
theorem yi_G_retl {o : List Nat} {z : Int} (h1 : zi_lk2 pc M.2.2.2.2.1 = some (.lreturn, n, o)) (hr : M.2.2.2.1 = some .long) (hq : Q (some (.inr (.inl z)), H, nc, ns)) : yi_G Ms d M (pc, al, [.inr (.inl z)], H, nc, ns) Q := yi_G_ret h1 rfl (fun _ => by
  show yi_ret 1 M.2.2.2.1 [.inr (.inl z)] = _
  rw [hr]
  rfl) hq
theorem yi_G_retv {o : List Nat} (h1 : zi_lk2 pc M.2.2.2.2.1 = some (.return_, n, o)) (hr : M.2.2.2.1 = none) (hq : Q (none, H, nc, ns)) : yi_G Ms d M (pc, al, [], H, nc, ns) Q := yi_G_ret h1 rfl (fun _ => by
  show yi_rtv M.2.2.2.1 [] = _
  rw [hr]
  rfl) hq
end YG
theorem ym_rcv {X : ym_X} (hS : ym_S X) {I L : Nat → Nat → Int} : yi_rcv (I, L, X) 11 (some (.inr (.inr (some 82)))) = true := by
  show (Nat.beq (X.2.1 82) 11 && true) = true
  rw [hS.1]
  rfl
theorem yi_dv {a b v : Int} (ha : 0 ≤ a) (hb : a / b = v) (h0 : -2147483648 ≤ v) (h1 : v < 2147483648) : yi_w (a.tdiv b) = v := by
  rw [Int.tdiv_eq_ediv_of_nonneg ha, hb]
  exact yi_wn h0 h1
theorem yi_md {a b v : Int} (ha : 0 ≤ a) (hb : a % b = v) : a.tmod b = v := by
  rw [Int.tmod_eq_emod_of_nonneg ha, hb]
