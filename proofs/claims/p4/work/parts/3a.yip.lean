/-! Partial runs: what a run gives, if it gives anything. -/
def yi_P (Ms : List zi_M) (d mi : Nat) (vs : List yi_V) (H : yi_H) (Q : yi_R → Prop) : Prop := ∀ n r, yi_ev Ms n d mi vs H = some r → Q r
def yi_D (Ms : List zi_M) (d : Nat) (M : zi_M) (k : Nat) (f : yi_F) (Q : yi_R → Prop) : Prop := ∀ n j r, j ≤ k → yi_loop (yi_ev Ms n d) M j f = some r → Q r
theorem yi_E_P {Ms : List zi_M} {d mi : Nat} {vs : List yi_V} {H : yi_H} {Q1 Q2 : yi_R → Prop} (h : yi_E Ms d mi vs H Q1) (h2 : yi_P Ms d mi vs H Q2) : yi_E Ms d mi vs H (fun r => Q1 r ∧ Q2 r) := by
  obtain ⟨r, q, n0, e⟩ := h
  exact ⟨r, ⟨q, h2 n0 r (e n0 (Nat.le_refl _))⟩, n0, e⟩
theorem yi_P.imp {Ms : List zi_M} {d mi : Nat} {vs : List yi_V} {H : yi_H} {Q Q' : yi_R → Prop} (h : yi_P Ms d mi vs H Q) (hq : ∀ r, Q r → Q' r) : yi_P Ms d mi vs H Q' := fun n r e => hq r (h n r e)
theorem yi_P_0 {Ms : List zi_M} {mi : Nat} {vs : List yi_V} {H : yi_H} {Q : yi_R → Prop} : yi_P Ms 0 mi vs H Q := by
  intro n r e
  have e : (none : Option yi_R) = some r := e
  cases e
theorem yi_P_s {Ms : List zi_M} {d mi : Nat} {vs : List yi_V} {H : yi_H} {Q : yi_R → Prop} {M : zi_M} (hM : Ms[mi]? = some M) (h : ∀ k, yi_D Ms d M k (0, yi_ent 0 vs, [], H, 0, 0) Q) : yi_P Ms (d + 1) mi vs H Q := by
  intro n r e
  have e : (match Ms[mi]? with | some M => bif Nat.ble (yi_cats vs) M.2.2.1 then yi_loop (yi_ev Ms n d) M n (0, yi_ent 0 vs, [], H, 0, 0) else none | none => none) = some r := e
  rw [hM] at e
  dsimp only at e
  cases hc : Nat.ble (yi_cats vs) M.2.2.1 with
  | false => rw [hc] at e; cases e
  | true => rw [hc] at e; exact h n n n r (Nat.le_refl _) e
theorem yi_P_of {Ms : List zi_M} {d mi : Nat} {vs : List yi_V} {H : yi_H} {Q : yi_R → Prop} {M : zi_M} (hM : Ms[mi]? = some M) (h : ∀ d k, yi_D Ms d M k (0, yi_ent 0 vs, [], H, 0, 0) Q) : yi_P Ms d mi vs H Q := by
  cases d with
  | zero => exact yi_P_0
  | succ d => exact yi_P_s hM (h d)
theorem yi_loop_s {call : yi_K} {M : zi_M} {j : Nat} {f g : yi_F} {r : yi_R} (hs : yi_stp call [] M f = some (.inl g)) (h : yi_loop call M j f = some r) : ∃ j', j = j' + 1 ∧ yi_loop call M j' g = some r := by
  cases j with
  | zero =>
    have h : (none : Option yi_R) = some r := h
    cases h
  | succ j =>
    have h : (match yi_stp call [] M f with | some (.inl g) => bif yi_up f g then yi_loop call M j g else none | some (.inr v) => some (v, f.2.2.2.1, f.2.2.2.2.1, f.2.2.2.2.2) | none => none) = some r := h
    rw [hs] at h
    dsimp only at h
    rw [yi_stp_up hs] at h
    exact ⟨j, rfl, h⟩
theorem yi_loop_n {call : yi_K} {M : zi_M} {j : Nat} {f : yi_F} {r : yi_R} (hs : yi_stp call [] M f = none) (h : yi_loop call M j f = some r) : False := by
  cases j with
  | zero =>
    have h : (none : Option yi_R) = some r := h
    cases h
  | succ j =>
    have h : (match yi_stp call [] M f with | some (.inl g) => bif yi_up f g then yi_loop call M j g else none | some (.inr v) => some (v, f.2.2.2.1, f.2.2.2.2.1, f.2.2.2.2.2) | none => none) = some r := h
    rw [hs] at h
    cases h
theorem yi_loop_r {call : yi_K} {M : zi_M} {j : Nat} {f : yi_F} {r : yi_R} {v : Option yi_V} (hs : yi_stp call [] M f = some (.inr v)) (h : yi_loop call M j f = some r) : r = (v, f.2.2.2.1, f.2.2.2.2.1, f.2.2.2.2.2) := by
  cases j with
  | zero =>
    have h : (none : Option yi_R) = some r := h
    cases h
  | succ j =>
    have h : (match yi_stp call [] M f with | some (.inl g) => bif yi_up f g then yi_loop call M j g else none | some (.inr v) => some (v, f.2.2.2.1, f.2.2.2.2.1, f.2.2.2.2.2) | none => none) = some r := h
    rw [hs] at h
    cases h
    rfl
theorem yi_run_back {call : yi_K} {M : zi_M} {r : yi_R} : ∀ (j k : Nat) {f g : yi_F}, yi_run call M j f = some g → yi_loop call M k f = some r → ∃ k', k' + j = k ∧ yi_loop call M k' g = some r
  | 0, k, f, g, h, hl => by
    have h : some f = some g := h
    cases h
    exact ⟨k, rfl, hl⟩
  | j + 1, k, f, g, h, hl => by
    have h : (match yi_stp call [] M f with | some (.inl g) => yi_run call M j g | _ => none) = some g := h
    cases hs : yi_stp call [] M f with
    | none => rw [hs] at h; cases h
    | some q =>
      rw [hs] at h
      cases q with
      | inr v => cases h
      | inl x =>
        dsimp only at h
        obtain ⟨k1, e1, l1⟩ := yi_loop_s hs hl
        obtain ⟨k2, e2, l2⟩ := yi_run_back j k1 h l1
        exact ⟨k2, by omega, l2⟩
section YD
variable {Ms : List zi_M} {d : Nat} {M : zi_M} {k : Nat} {Q : yi_R → Prop} {pc n : Nat} {al : List (Nat × yi_V)} {st : List yi_V} {H : yi_H} {nc ns : Nat}
theorem yi_D_mono {f : yi_F} {k' : Nat} (h : yi_D Ms d M k f Q) (hk : k' ≤ k) : yi_D Ms d M k' f Q := fun n j r hj e => h n j r (Nat.le_trans hj hk) e
theorem yi_D_0 {f : yi_F} : yi_D Ms d M 0 f Q := by
  intro n j r hj e
  cases j with
  | zero =>
    have e : (none : Option yi_R) = some r := e
    cases e
  | succ j => exact absurd hj (by omega)
theorem yi_D_run (j : Nat) {f : yi_F} (g : yi_F) (h : ∀ call, yi_run call M j f = some g) (hg : yi_D Ms d M k g Q) : yi_D Ms d M k f Q := by
  intro n i r hi e
  obtain ⟨i', e1, l⟩ := yi_run_back j i (h _) e
  exact hg n i' r (by omega) l
theorem yi_D_run1 (j : Nat) {f : yi_F} (g : yi_F) (h : ∀ call, yi_run call M (j + 1) f = some g) (hg : yi_D Ms d M k g Q) : yi_D Ms d M (k + 1) f Q := by
  intro n i r hi e
  obtain ⟨i', e1, l⟩ := yi_run_back (j + 1) i (h _) e
  exact hg n i' r (by omega) l
theorem yi_D_s {i : Instr} {o : List Nat} (g : yi_F) (h1 : zi_lk2 pc M.2.2.2.2.1 = some (i, n, o)) (h2 : ∀ call, yi_do call [] M.2.2.1 M.2.2.2.1 pc al st H nc ns i n o = some (.inl g)) (hg : yi_D Ms d M k g Q) : yi_D Ms d M k (pc, al, st, H, nc, ns) Q := by
  refine yi_D_run 1 g (fun call => ?_) hg
  show (match yi_stp call [] M (pc, al, st, H, nc, ns) with | some (.inl g) => some g | _ => none) = some g
  rw [yi_stp_of h1 (h2 call)]
/-- a step of which it is not known whether it comes about -/
theorem yi_D_l {i : Instr} {o : List Nat} (h1 : zi_lk2 pc M.2.2.2.2.1 = some (i, n, o)) (hr : zi_isr i = false) (h : ∀ m g, yi_do (yi_ev Ms m d) [] M.2.2.1 M.2.2.2.1 pc al st H nc ns i n o = some (.inl g) → ∀ j r, j < k → yi_loop (yi_ev Ms m d) M j g = some r → Q r) : yi_D Ms d M k (pc, al, st, H, nc, ns) Q := by
  intro m j r hj e
  have hu : yi_stp (yi_ev Ms m d) [] M (pc, al, st, H, nc, ns) = (match yi_do (yi_ev Ms m d) [] M.2.2.1 M.2.2.2.1 pc al st H nc ns i n o with | some (.inl g) => some (.inl g) | some (.inr v) => bif zi_isr i then some (.inr v) else none | none => none) := by
    unfold yi_stp
    simp only [h1]
    rfl
  cases hd : yi_do (yi_ev Ms m d) [] M.2.2.1 M.2.2.2.1 pc al st H nc ns i n o with
  | none =>
    rw [hd] at hu
    exact (yi_loop_n hu e).elim
  | some q =>
    rw [hd] at hu
    cases q with
    | inr v =>
      dsimp only at hu
      rw [hr] at hu
      exact (yi_loop_n hu e).elim
    | inl g =>
      obtain ⟨j', e1, l⟩ := yi_loop_s hu e
      exact h m g hd j' r (by omega) l
theorem yi_D_l1 {i : Instr} {o : List Nat} {g : yi_F} {c : Bool} (h1 : zi_lk2 pc M.2.2.2.2.1 = some (i, n, o)) (hr : zi_isr i = false) (h2 : ∀ call, yi_do call [] M.2.2.1 M.2.2.2.1 pc al st H nc ns i n o = bif c then some (.inl g) else none) (hg : c = true → yi_D Ms d M k g Q) : yi_D Ms d M k (pc, al, st, H, nc, ns) Q := by
  refine yi_D_l h1 hr (fun m g' e j r hj l => ?_)
  rw [h2] at e
  cases c with
  | false => cases e
  | true =>
    cases e
    exact hg rfl m j r (by omega) l
theorem yi_D_al {al al' : List (Nat × yi_V)} (hu : yi_uq al) (hu' : yi_uq al') (hl : ∀ q ∈ al', q ∈ al) (h : yi_D Ms d M k (pc, al, st, H, nc, ns) Q) : yi_D Ms d M k (pc, al', st, H, nc, ns) Q := fun n j r hj e => h n j r hj (yi_ar_loop j ⟨hu', hu, hl⟩ e)
theorem yi_D_ret {i : Instr} {o : List Nat} {v : Option yi_V} (h1 : zi_lk2 pc M.2.2.2.2.1 = some (i, n, o)) (h2 : ∀ call, yi_do call [] M.2.2.1 M.2.2.2.1 pc al st H nc ns i n o = some (.inr v) ∨ yi_do call [] M.2.2.1 M.2.2.2.1 pc al st H nc ns i n o = none) (hq : Q (v, H, nc, ns)) : yi_D Ms d M k (pc, al, st, H, nc, ns) Q := by
  intro m j r hj e
  have hu : yi_stp (yi_ev Ms m d) [] M (pc, al, st, H, nc, ns) = (match yi_do (yi_ev Ms m d) [] M.2.2.1 M.2.2.2.1 pc al st H nc ns i n o with | some (.inl g) => some (.inl g) | some (.inr v) => bif zi_isr i then some (.inr v) else none | none => none) := by
    unfold yi_stp
    simp only [h1]
    rfl
  rcases h2 (yi_ev Ms m d) with h | h
  · rw [h] at hu
    dsimp only at hu
    cases hi : zi_isr i with
    | false =>
      rw [hi] at hu
      exact (yi_loop_n hu e).elim
    | true =>
      rw [hi] at hu
      rw [yi_loop_r hu e]
      exact hq
  · rw [h] at hu
    exact (yi_loop_n hu e).elim
theorem yi_D_reti {o : List Nat} {z : Int} (h1 : zi_lk2 pc M.2.2.2.2.1 = some (.ireturn, n, o)) (hq : Q (some (.inl z), H, nc, ns)) : yi_D Ms d M k (pc, al, [.inl z], H, nc, ns) Q := yi_D_ret h1 (fun _ => by
  show yi_ret 0 M.2.2.2.1 [.inl z] = _ ∨ yi_ret 0 M.2.2.2.1 [.inl z] = _
  unfold yi_ret
  split
  · rename_i ty v _ e
    cases e
    cases (yi_fit ty (.inl z) && Nat.beq (yi_kd (.inl z)) 0) with
    | true => exact Or.inl rfl
    | false => exact Or.inr rfl
  · exact Or.inr rfl) hq
theorem yi_D_retl {o : List Nat} {z : Int} (h1 : zi_lk2 pc M.2.2.2.2.1 = some (.lreturn, n, o)) (hq : Q (some (.inr (.inl z)), H, nc, ns)) : yi_D Ms d M k (pc, al, [.inr (.inl z)], H, nc, ns) Q := yi_D_ret h1 (fun _ => by
  show yi_ret 1 M.2.2.2.1 [.inr (.inl z)] = _ ∨ yi_ret 1 M.2.2.2.1 [.inr (.inl z)] = _
  unfold yi_ret
  split
  · rename_i ty v _ e
    cases e
    cases (yi_fit ty (.inr (.inl z)) && Nat.beq (yi_kd (.inr (.inl z))) 1) with
    | true => exact Or.inl rfl
    | false => exact Or.inr rfl
  · exact Or.inr rfl) hq
theorem yi_D_reta {o : List Nat} {z : Option Nat} (h1 : zi_lk2 pc M.2.2.2.2.1 = some (.areturn, n, o)) (hq : Q (some (.inr (.inr z)), H, nc, ns)) : yi_D Ms d M k (pc, al, [.inr (.inr z)], H, nc, ns) Q := yi_D_ret h1 (fun _ => by
  show yi_ret 2 M.2.2.2.1 [.inr (.inr z)] = _ ∨ yi_ret 2 M.2.2.2.1 [.inr (.inr z)] = _
  unfold yi_ret
  split
  · rename_i ty v _ e
    cases e
    cases (yi_fit ty (.inr (.inr z)) && Nat.ble 2 (yi_kd (.inr (.inr z)))) with
    | true => exact Or.inl rfl
    | false => exact Or.inr rfl
  · exact Or.inr rfl) hq
theorem yi_D_retv {o : List Nat} (h1 : zi_lk2 pc M.2.2.2.2.1 = some (.return_, n, o)) (hq : Q (none, H, nc, ns)) : yi_D Ms d M k (pc, al, [], H, nc, ns) Q := yi_D_ret h1 (fun _ => by
  show yi_rtv M.2.2.2.1 [] = _ ∨ yi_rtv M.2.2.2.1 [] = _
  unfold yi_rtv
  split
  · exact Or.inl rfl
  · exact Or.inr rfl) hq
/-- a call -/
theorem yi_D_call {i : Instr} {o : List Nat} {mi a : Nat} {c : Bool} {Qc : yi_R → Prop} (h1 : zi_lk2 pc M.2.2.2.2.1 = some (i, n, o)) (hr : zi_isr i = false) (h2 : ∀ call, yi_do call [] M.2.2.1 M.2.2.2.1 pc al st H nc ns i n o = bif c then yi_inv pc n al st H nc ns call mi a else none) (hP : yi_P Ms d mi (st.take a).reverse H Qc)
    (hg : ∀ r, Qc r → yi_D Ms d M k (pc + n, al, (match r.1 with | some v => v :: st.drop a | none => st.drop a), r.2.1, nc + r.2.2.1, ns + r.2.2.2) Q) : yi_D Ms d M k (pc, al, st, H, nc, ns) Q := by
  refine yi_D_l h1 hr (fun m g e j r hj l => ?_)
  rw [h2] at e
  cases c with
  | false => cases e
  | true =>
    have e : (bif Nat.ble a st.length && Nat.ble (yi_cats (st.drop a)) 8 then (match yi_ev Ms m d mi (st.take a).reverse H with
      | some q => (match q.1 with
        | some v => some (.inl (pc + n, al, v :: st.drop a, q.2.1, nc + q.2.2.1, ns + q.2.2.2))
        | none => some (.inl (pc + n, al, st.drop a, q.2.1, nc + q.2.2.1, ns + q.2.2.2)))
      | none => none) else none : yi_O) = some (.inl g) := e
    cases hb : (Nat.ble a st.length && Nat.ble (yi_cats (st.drop a)) 8) with
    | false => rw [hb] at e; cases e
    | true =>
      rw [hb] at e
      cases hv : yi_ev Ms m d mi (st.take a).reverse H with
      | none => rw [hv] at e; cases e
      | some q =>
        rw [hv] at e
        have hq := hg q (hP m q hv)
        obtain ⟨q1, q2⟩ := q
        cases q1 with
        | none => cases e; exact hq m j r (by omega) l
        | some v => cases e; exact hq m j r (by omega) l
theorem yi_D_callv {j mi a ci : Nat} {o : List Nat} {Qc : yi_R → Prop} (h1 : zi_lk2 pc M.2.2.2.2.1 = some (.invokevirtual j, n, mi :: a :: ci :: o)) (hP : yi_P Ms d mi (st.take a).reverse H Qc) (hg : ∀ r, Qc r → yi_D Ms d M k (pc + n, al, (match r.1 with | some v => v :: st.drop a | none => st.drop a), r.2.1, nc + r.2.2.1, ns + r.2.2.2) Q) : yi_D Ms d M k (pc, al, st, H, nc, ns) Q :=
  yi_D_call (c := Nat.ble 1 a && yi_rcv H ci st[a - 1]?) h1 rfl (fun _ => rfl) hP hg
theorem yi_D_calls {j mi a b : Nat} {o : List Nat} {Qc : yi_R → Prop} (h1 : zi_lk2 pc M.2.2.2.2.1 = some (.invokestatic j, n, mi :: a :: b :: o)) (hP : yi_P Ms d mi (st.take a).reverse H Qc) (hg : ∀ r, Qc r → yi_D Ms d M k (pc + n, al, (match r.1 with | some v => v :: st.drop a | none => st.drop a), r.2.1, nc + r.2.2.1, ns + r.2.2.2) Q) : yi_D Ms d M k (pc, al, st, H, nc, ns) Q :=
  yi_D_call (c := true) h1 rfl (fun _ => rfl) hP hg
theorem yi_D_callp {j mi a p : Nat} {o : List Nat} {Qc : yi_R → Prop} (h1 : zi_lk2 pc M.2.2.2.2.1 = some (.invokespecial j, n, mi :: a :: o)) (hp : st[a - 1]? = some (.inr (.inr (some p)))) (hP : yi_P Ms d mi (st.take a).reverse H Qc) (hg : ∀ r, Qc r → yi_D Ms d M k (pc + n, al, (match r.1 with | some v => v :: st.drop a | none => st.drop a), r.2.1, nc + r.2.2.1, ns + r.2.2.2) Q) : yi_D Ms d M k (pc, al, st, H, nc, ns) Q :=
  yi_D_call (c := Nat.ble 1 a) h1 rfl (fun call => by
    show (match st[a - 1]? with | some (.inr (.inr (some _))) => bif Nat.ble 1 a then yi_inv pc n al st H nc ns call mi a else none | _ => none) = _
    rw [hp]) hP hg
theorem yi_D_if1 {c : ClassFile.Cond} {off : Int} {t : Nat} {o : List Nat} {z : Int} {r : List yi_V} (q : Bool) (h1 : zi_lk2 pc M.2.2.2.2.1 = some (.ifCond c off, n, t :: o)) (h2 : yi_cmp c z 0 = q) (hg : yi_D Ms d M k (bif q then t else pc + n, al, r, H, nc, ns) Q) : yi_D Ms d M k (pc, al, .inl z :: r, H, nc, ns) Q := yi_D_s _ h1 (fun _ => by
  show ((some (.inl (bif yi_cmp c z 0 then t else pc + n, al, r, H, nc, ns))) : yi_O) = _
  rw [h2]) hg
theorem yi_D_if2 {c : ClassFile.Cond} {off : Int} {t : Nat} {o : List Nat} {z w : Int} {r : List yi_V} (q : Bool) (h1 : zi_lk2 pc M.2.2.2.2.1 = some (.if_icmp c off, n, t :: o)) (h2 : yi_cmp c z w = q) (hg : yi_D Ms d M k (bif q then t else pc + n, al, r, H, nc, ns) Q) : yi_D Ms d M k (pc, al, .inl w :: .inl z :: r, H, nc, ns) Q := yi_D_s _ h1 (fun _ => by
  show ((some (.inl (bif yi_cmp c z w then t else pc + n, al, r, H, nc, ns))) : yi_O) = _
  rw [h2]) hg
theorem yi_D_iadd {o : List Nat} {x y : Int} {r : List yi_V} (h1 : zi_lk2 pc M.2.2.2.2.1 = some (.iadd, n, o)) (v : Int) (hv : yi_w (x + y) = v) (hg : yi_D Ms d M k (pc + n, al, .inl v :: r, H, nc, ns) Q) : yi_D Ms d M k (pc, al, .inl y :: .inl x :: r, H, nc, ns) Q := yi_D_s _ h1 (fun _ => by rw [← hv]; rfl) hg
theorem yi_D_isub {o : List Nat} {x y : Int} {r : List yi_V} (h1 : zi_lk2 pc M.2.2.2.2.1 = some (.isub, n, o)) (v : Int) (hv : yi_w (x - y) = v) (hg : yi_D Ms d M k (pc + n, al, .inl v :: r, H, nc, ns) Q) : yi_D Ms d M k (pc, al, .inl y :: .inl x :: r, H, nc, ns) Q := yi_D_s _ h1 (fun _ => by rw [← hv]; rfl) hg
theorem yi_D_imul {o : List Nat} {x y : Int} {r : List yi_V} (h1 : zi_lk2 pc M.2.2.2.2.1 = some (.imul, n, o)) (v : Int) (hv : yi_w (x * y) = v) (hg : yi_D Ms d M k (pc + n, al, .inl v :: r, H, nc, ns) Q) : yi_D Ms d M k (pc, al, .inl y :: .inl x :: r, H, nc, ns) Q := yi_D_s _ h1 (fun _ => by rw [← hv]; rfl) hg
theorem yi_D_ladd {o : List Nat} {x y : Int} {r : List yi_V} (h1 : zi_lk2 pc M.2.2.2.2.1 = some (.ladd, n, o)) (v : Int) (hv : yi_W (x + y) = v) (hg : yi_D Ms d M k (pc + n, al, .inr (.inl v) :: r, H, nc, ns) Q) : yi_D Ms d M k (pc, al, .inr (.inl y) :: .inr (.inl x) :: r, H, nc, ns) Q := yi_D_s _ h1 (fun _ => by rw [← hv]; rfl) hg
theorem yi_D_lsub {o : List Nat} {x y : Int} {r : List yi_V} (h1 : zi_lk2 pc M.2.2.2.2.1 = some (.lsub, n, o)) (v : Int) (hv : yi_W (x - y) = v) (hg : yi_D Ms d M k (pc + n, al, .inr (.inl v) :: r, H, nc, ns) Q) : yi_D Ms d M k (pc, al, .inr (.inl y) :: .inr (.inl x) :: r, H, nc, ns) Q := yi_D_s _ h1 (fun _ => by rw [← hv]; rfl) hg
theorem yi_D_lmul {o : List Nat} {x y : Int} {r : List yi_V} (h1 : zi_lk2 pc M.2.2.2.2.1 = some (.lmul, n, o)) (v : Int) (hv : yi_W (x * y) = v) (hg : yi_D Ms d M k (pc + n, al, .inr (.inl v) :: r, H, nc, ns) Q) : yi_D Ms d M k (pc, al, .inr (.inl y) :: .inr (.inl x) :: r, H, nc, ns) Q := yi_D_s _ h1 (fun _ => by rw [← hv]; rfl) hg
theorem yi_D_l2i {o : List Nat} {x : Int} {r : List yi_V} (h1 : zi_lk2 pc M.2.2.2.2.1 = some (.l2i, n, o)) (v : Int) (hv : yi_w x = v) (hg : yi_D Ms d M k (pc + n, al, .inl v :: r, H, nc, ns) Q) : yi_D Ms d M k (pc, al, .inr (.inl x) :: r, H, nc, ns) Q := yi_D_s _ h1 (fun _ => by rw [← hv]; rfl) hg
theorem yi_D_idiv {o : List Nat} {x y : Int} {r : List yi_V} (h1 : zi_lk2 pc M.2.2.2.2.1 = some (.idiv, n, o)) (hy : ¬ y = 0) (v : Int) (hv : yi_w (x.tdiv y) = v) (hg : yi_D Ms d M k (pc + n, al, .inl v :: r, H, nc, ns) Q) : yi_D Ms d M k (pc, al, .inl y :: .inl x :: r, H, nc, ns) Q := yi_D_s _ h1 (fun _ => by
  show (((bif decide (y = 0) then none else some (.inl (pc + n, al, .inl (yi_w (x.tdiv y)) :: r, H, nc, ns)))) : yi_O) = _
  rw [decide_eq_false hy, hv]
  rfl) hg
theorem yi_D_irem {o : List Nat} {x y : Int} {r : List yi_V} (h1 : zi_lk2 pc M.2.2.2.2.1 = some (.irem, n, o)) (hy : ¬ y = 0) (v : Int) (hv : x.tmod y = v) (hg : yi_D Ms d M k (pc + n, al, .inl v :: r, H, nc, ns) Q) : yi_D Ms d M k (pc, al, .inl y :: .inl x :: r, H, nc, ns) Q := yi_D_s _ h1 (fun _ => by
  show (((bif decide (y = 0) then none else some (.inl (pc + n, al, .inl (x.tmod y) :: r, H, nc, ns)))) : yi_O) = _
  rw [decide_eq_false hy, hv]
  rfl) hg
theorem yi_D_iinc {o : List Nat} {i : Nat} {c z : Int} (al' : List (Nat × yi_V)) (h1 : zi_lk2 pc M.2.2.2.2.1 = some (.iinc i c, n, o)) (hz : yi_loc al i = some (.inl z)) (hn : Nat.ble (i + 1) M.2.2.1 = true) (hv : (i, .inl (yi_w (z + c))) :: yi_del1 i al = al') (hg : yi_D Ms d M k (pc + n, al', st, H, nc, ns) Q) : yi_D Ms d M k (pc, al, st, H, nc, ns) Q := yi_D_s _ h1 (fun _ => by
  show (((match yi_loc al i with | some (.inl x) => bif Nat.ble (i + 1) M.2.2.1 then some (.inl (pc + n, (i, .inl (yi_w (x + c))) :: yi_del1 i al, st, H, nc, ns)) else none | _ => none)) : yi_O) = _
  rw [hz]
  dsimp only
  rw [hn, hv]
  rfl) hg
theorem yi_D_ldc2 {j v : Nat} {o : List Nat} (z : Int) (h1 : zi_lk2 pc M.2.2.2.2.1 = some (.ldc2_w j, n, v :: o)) (hz : yi_W v = z) (hg : yi_D Ms d M k (pc + n, al, .inr (.inl z) :: st, H, nc, ns) Q) : yi_D Ms d M k (pc, al, st, H, nc, ns) Q := yi_D_s _ h1 (fun _ => by rw [← hz]; rfl) hg
theorem yi_D_ldc {j v : Nat} {o : List Nat} (z : Int) (h1 : zi_lk2 pc M.2.2.2.2.1 = some (.ldc j, n, 0 :: v :: o)) (hz : yi_w v = z) (hg : yi_D Ms d M k (pc + n, al, .inl z :: st, H, nc, ns) Q) : yi_D Ms d M k (pc, al, st, H, nc, ns) Q := yi_D_s _ h1 (fun _ => by rw [← hz]; rfl) hg
theorem yi_D_ldcw {j v : Nat} {o : List Nat} (z : Int) (h1 : zi_lk2 pc M.2.2.2.2.1 = some (.ldc_w j, n, 0 :: v :: o)) (hz : yi_w v = z) (hg : yi_D Ms d M k (pc + n, al, .inl z :: st, H, nc, ns) Q) : yi_D Ms d M k (pc, al, st, H, nc, ns) Q := yi_D_s _ h1 (fun _ => by rw [← hz]; rfl) hg
theorem yi_D_tsi {dd lo hi z : Int} {offs : Array Int} {dt t : Nat} {ts : List Nat} {r : List yi_V} (j : Nat) (h1 : zi_lk2 pc M.2.2.2.2.1 = some (.tableswitch dd lo hi offs, n, dt :: ts)) (hz : z = lo + j) (hj : lo + j ≤ hi) (ht : ts[j]? = some t) (hg : yi_D Ms d M k (t, al, r, H, nc, ns) Q) : yi_D Ms d M k (pc, al, .inl z :: r, H, nc, ns) Q := yi_D_s _ h1 (fun _ => by
  show ((bif decide (z < lo) || decide (hi < z) then some (.inl (dt, al, r, H, nc, ns)) else (match ts[(z - lo).toNat]? with | some t => some (.inl (t, al, r, H, nc, ns)) | none => none)) : yi_O) = _
  rw [decide_eq_false (show ¬ z < lo by omega), decide_eq_false (show ¬ hi < z by omega), show (z - lo).toNat = j by omega, ht]
  rfl) hg
theorem yi_D_tso {dd lo hi z : Int} {offs : Array Int} {dt : Nat} {ts : List Nat} {r : List yi_V} (h1 : zi_lk2 pc M.2.2.2.2.1 = some (.tableswitch dd lo hi offs, n, dt :: ts)) (hz : z < lo ∨ hi < z) (hg : yi_D Ms d M k (dt, al, r, H, nc, ns) Q) : yi_D Ms d M k (pc, al, .inl z :: r, H, nc, ns) Q := yi_D_s _ h1 (fun _ => by
  show ((bif decide (z < lo) || decide (hi < z) then some (.inl (dt, al, r, H, nc, ns)) else (match ts[(z - lo).toNat]? with | some t => some (.inl (t, al, r, H, nc, ns)) | none => none)) : yi_O) = _
  rcases hz with hz | hz
  · rw [decide_eq_true hz]
    rfl
  · rw [decide_eq_true hz, Bool.or_true]
    rfl) hg
end YD
section YD
variable {Ms : List zi_M} {d : Nat} {M : zi_M} {k : Nat} {Q : yi_R → Prop} {pc n : Nat} {al : List (Nat × yi_V)} {st : List yi_V} {I L : Nat → Nat → Int} {R : Nat → Nat → Option Nat} {Y : (Nat → Nat) × (Nat → Nat) × Nat} {nc ns : Nat}
/-- fields: an int, a long, a reference -/
theorem yi_D_gi {j ci f p : Nat} {o : List Nat} {v : Int} (h1 : zi_lk2 pc M.2.2.2.2.1 = some (.getfield j, n, ci :: f :: o)) (hk : yi_tk (zi_ty ci f) = 0) (hp : Nat.ble 10 p = true) (hv : I p f = v) (hg : Y.1 p = ci → yi_D Ms d M k (pc + n, al, .inl v :: st, (I, L, R, Y), nc, ns) Q) : yi_D Ms d M k (pc, al, .inr (.inr (some p)) :: st, (I, L, R, Y), nc, ns) Q := by
  refine yi_D_l1 (g := (pc + n, al, .inl v :: st, (I, L, R, Y), nc, ns)) (c := Nat.beq (Y.1 p) ci && Nat.ble (f + 1) (zi_Fs.getD ci ("", [])).2.length && Nat.ble (ci + 1) 20) h1 rfl (fun call => ?_) (fun h => hg ?_)
  · show ((bif Nat.ble 10 p then (bif Nat.beq (Y.1 p) ci && Nat.ble (f + 1) (zi_Fs.getD ci ("", [])).2.length && Nat.ble (ci + 1) 20 then some (.inl (pc + n, al, yi_rd (I, L, R, Y) (yi_tk (zi_ty ci f)) p f :: st, (I, L, R, Y), nc, ns)) else none) else _) : yi_O) = _
    rw [hp, hk, ← hv]
    rfl
  · rw [Bool.and_eq_true, Bool.and_eq_true] at h
    exact Nat.eq_of_beq_eq_true h.1.1
theorem yi_D_gl {j ci f p : Nat} {o : List Nat} {v : Int} (h1 : zi_lk2 pc M.2.2.2.2.1 = some (.getfield j, n, ci :: f :: o)) (hk : yi_tk (zi_ty ci f) = 1) (hp : Nat.ble 10 p = true) (hv : L p f = v) (hg : Y.1 p = ci → yi_D Ms d M k (pc + n, al, .inr (.inl v) :: st, (I, L, R, Y), nc, ns) Q) : yi_D Ms d M k (pc, al, .inr (.inr (some p)) :: st, (I, L, R, Y), nc, ns) Q := by
  refine yi_D_l1 (g := (pc + n, al, .inr (.inl v) :: st, (I, L, R, Y), nc, ns)) (c := Nat.beq (Y.1 p) ci && Nat.ble (f + 1) (zi_Fs.getD ci ("", [])).2.length && Nat.ble (ci + 1) 20) h1 rfl (fun call => ?_) (fun h => hg ?_)
  · show ((bif Nat.ble 10 p then (bif Nat.beq (Y.1 p) ci && Nat.ble (f + 1) (zi_Fs.getD ci ("", [])).2.length && Nat.ble (ci + 1) 20 then some (.inl (pc + n, al, yi_rd (I, L, R, Y) (yi_tk (zi_ty ci f)) p f :: st, (I, L, R, Y), nc, ns)) else none) else _) : yi_O) = _
    rw [hp, hk, ← hv]
    rfl
  · rw [Bool.and_eq_true, Bool.and_eq_true] at h
    exact Nat.eq_of_beq_eq_true h.1.1
theorem yi_D_gr {j ci f p : Nat} {o : List Nat} {v : Option Nat} (h1 : zi_lk2 pc M.2.2.2.2.1 = some (.getfield j, n, ci :: f :: o)) (hk : yi_tk (zi_ty ci f) = 2) (hp : Nat.ble 10 p = true) (hv : R p f = v) (hg : Y.1 p = ci → yi_D Ms d M k (pc + n, al, .inr (.inr v) :: st, (I, L, R, Y), nc, ns) Q) : yi_D Ms d M k (pc, al, .inr (.inr (some p)) :: st, (I, L, R, Y), nc, ns) Q := by
  refine yi_D_l1 (g := (pc + n, al, .inr (.inr v) :: st, (I, L, R, Y), nc, ns)) (c := Nat.beq (Y.1 p) ci && Nat.ble (f + 1) (zi_Fs.getD ci ("", [])).2.length && Nat.ble (ci + 1) 20) h1 rfl (fun call => ?_) (fun h => hg ?_)
  · show ((bif Nat.ble 10 p then (bif Nat.beq (Y.1 p) ci && Nat.ble (f + 1) (zi_Fs.getD ci ("", [])).2.length && Nat.ble (ci + 1) 20 then some (.inl (pc + n, al, yi_rd (I, L, R, Y) (yi_tk (zi_ty ci f)) p f :: st, (I, L, R, Y), nc, ns)) else none) else _) : yi_O) = _
    rw [hp, hk, ← hv]
    rfl
  · rw [Bool.and_eq_true, Bool.and_eq_true] at h
    exact Nat.eq_of_beq_eq_true h.1.1
theorem yi_D_pi {j ci f p : Nat} {o : List Nat} {z : Int} (h1 : zi_lk2 pc M.2.2.2.2.1 = some (.putfield j, n, ci :: f :: o)) (hg : Y.1 p = ci → yi_D Ms d M k (pc + n, al, st, (yi_u I p f z, L, R, Y), nc, ns) Q) : yi_D Ms d M k (pc, al, .inl z :: .inr (.inr (some p)) :: st, (I, L, R, Y), nc, ns) Q := by
  refine yi_D_l1 (g := (pc + n, al, st, (yi_u I p f z, L, R, Y), nc, ns)) (c := Nat.ble 10 p && (Nat.beq (Y.1 p) ci && Nat.ble (f + 1) (zi_Fs.getD ci ("", [])).2.length && Nat.ble (ci + 1) 20 && yi_fit (zi_ty ci f) (.inl z))) h1 rfl (fun call => rfl) (fun h => hg ?_)
  rw [Bool.and_eq_true, Bool.and_eq_true, Bool.and_eq_true, Bool.and_eq_true] at h
  exact Nat.eq_of_beq_eq_true h.2.1.1.1
theorem yi_D_pl {j ci f p : Nat} {o : List Nat} {z : Int} (h1 : zi_lk2 pc M.2.2.2.2.1 = some (.putfield j, n, ci :: f :: o)) (hg : Y.1 p = ci → yi_D Ms d M k (pc + n, al, st, (I, yi_u L p f z, R, Y), nc, ns) Q) : yi_D Ms d M k (pc, al, .inr (.inl z) :: .inr (.inr (some p)) :: st, (I, L, R, Y), nc, ns) Q := by
  refine yi_D_l1 (g := (pc + n, al, st, (I, yi_u L p f z, R, Y), nc, ns)) (c := Nat.ble 10 p && (Nat.beq (Y.1 p) ci && Nat.ble (f + 1) (zi_Fs.getD ci ("", [])).2.length && Nat.ble (ci + 1) 20 && yi_fit (zi_ty ci f) (.inr (.inl z)))) h1 rfl (fun call => rfl) (fun h => hg ?_)
  rw [Bool.and_eq_true, Bool.and_eq_true, Bool.and_eq_true, Bool.and_eq_true] at h
  exact Nat.eq_of_beq_eq_true h.2.1.1.1
/-- elements -/
theorem yi_D_il {o : List Nat} {p : Nat} {x v : Int} (h1 : zi_lk2 pc M.2.2.2.2.1 = some (.iaload, n, o)) (hp : Nat.ble 10 p = true) (hv : I p x.toNat = v) (hg : 0 ≤ x → x < Y.2.1 p → yi_D Ms d M k (pc + n, al, .inl v :: st, (I, L, R, Y), nc, ns) Q) : yi_D Ms d M k (pc, al, .inl x :: .inr (.inr (some p)) :: st, (I, L, R, Y), nc, ns) Q := by
  refine yi_D_l1 (g := (pc + n, al, .inl v :: st, (I, L, R, Y), nc, ns)) (c := ((Nat.beq (Y.1 p) (20 + 0) && Nat.ble 0 6) || (Nat.beq 0 7 && Nat.ble 24 (Y.1 p) && Nat.ble (Y.1 p) 26)) && decide (0 ≤ x) && decide (x < Y.2.1 p)) h1 rfl (fun call => ?_) (fun h => ?_)
  · show ((bif Nat.ble 10 p then (bif ((Nat.beq (Y.1 p) (20 + 0) && Nat.ble 0 6) || (Nat.beq 0 7 && Nat.ble 24 (Y.1 p) && Nat.ble (Y.1 p) 26)) && decide (0 ≤ x) && decide (x < Y.2.1 p) then some (.inl (pc + n, al, .inl (I p x.toNat) :: st, (I, L, R, Y), nc, ns)) else none) else _) : yi_O) = _
    rw [hp, hv]
    rfl
  · rw [Bool.and_eq_true, Bool.and_eq_true] at h
    exact hg (of_decide_eq_true h.1.2) (of_decide_eq_true h.2)
theorem yi_D_cl {o : List Nat} {p : Nat} {x v : Int} (h1 : zi_lk2 pc M.2.2.2.2.1 = some (.caload, n, o)) (hp : Nat.ble 10 p = true) (hv : I p x.toNat = v) (hg : 0 ≤ x → x < Y.2.1 p → yi_D Ms d M k (pc + n, al, .inl v :: st, (I, L, R, Y), nc, ns) Q) : yi_D Ms d M k (pc, al, .inl x :: .inr (.inr (some p)) :: st, (I, L, R, Y), nc, ns) Q := by
  refine yi_D_l1 (g := (pc + n, al, .inl v :: st, (I, L, R, Y), nc, ns)) (c := ((Nat.beq (Y.1 p) (20 + 3) && Nat.ble 3 6) || (Nat.beq 3 7 && Nat.ble 24 (Y.1 p) && Nat.ble (Y.1 p) 26)) && decide (0 ≤ x) && decide (x < Y.2.1 p)) h1 rfl (fun call => ?_) (fun h => ?_)
  · show ((bif Nat.ble 10 p then (bif ((Nat.beq (Y.1 p) (20 + 3) && Nat.ble 3 6) || (Nat.beq 3 7 && Nat.ble 24 (Y.1 p) && Nat.ble (Y.1 p) 26)) && decide (0 ≤ x) && decide (x < Y.2.1 p) then some (.inl (pc + n, al, .inl (I p x.toNat) :: st, (I, L, R, Y), nc, ns)) else none) else _) : yi_O) = _
    rw [hp, hv]
    rfl
  · rw [Bool.and_eq_true, Bool.and_eq_true] at h
    exact hg (of_decide_eq_true h.1.2) (of_decide_eq_true h.2)
theorem yi_D_ll {o : List Nat} {p : Nat} {x v : Int} (h1 : zi_lk2 pc M.2.2.2.2.1 = some (.laload, n, o)) (hp : Nat.ble 10 p = true) (hv : L p x.toNat = v) (hg : 0 ≤ x → x < Y.2.1 p → yi_D Ms d M k (pc + n, al, .inr (.inl v) :: st, (I, L, R, Y), nc, ns) Q) : yi_D Ms d M k (pc, al, .inl x :: .inr (.inr (some p)) :: st, (I, L, R, Y), nc, ns) Q := by
  refine yi_D_l1 (g := (pc + n, al, .inr (.inl v) :: st, (I, L, R, Y), nc, ns)) (c := ((Nat.beq (Y.1 p) (20 + 1) && Nat.ble 1 6) || (Nat.beq 1 7 && Nat.ble 24 (Y.1 p) && Nat.ble (Y.1 p) 26)) && decide (0 ≤ x) && decide (x < Y.2.1 p)) h1 rfl (fun call => ?_) (fun h => ?_)
  · show ((bif Nat.ble 10 p then (bif ((Nat.beq (Y.1 p) (20 + 1) && Nat.ble 1 6) || (Nat.beq 1 7 && Nat.ble 24 (Y.1 p) && Nat.ble (Y.1 p) 26)) && decide (0 ≤ x) && decide (x < Y.2.1 p) then some (.inl (pc + n, al, .inr (.inl (L p x.toNat)) :: st, (I, L, R, Y), nc, ns)) else none) else _) : yi_O) = _
    rw [hp, hv]
    rfl
  · rw [Bool.and_eq_true, Bool.and_eq_true] at h
    exact hg (of_decide_eq_true h.1.2) (of_decide_eq_true h.2)
theorem yi_D_is {o : List Nat} {p : Nat} {x z : Int} (h1 : zi_lk2 pc M.2.2.2.2.1 = some (.iastore, n, o)) (hg : 0 ≤ x → x < Y.2.1 p → yi_D Ms d M k (pc + n, al, st, (yi_u I p x.toNat z, L, R, Y), nc, ns) Q) : yi_D Ms d M k (pc, al, .inl z :: .inl x :: .inr (.inr (some p)) :: st, (I, L, R, Y), nc, ns) Q := by
  refine yi_D_l1 (g := (pc + n, al, st, (yi_u I p x.toNat z, L, R, Y), nc, ns)) (c := Nat.ble 10 p && Nat.beq (Y.1 p) (20 + 0) && Nat.ble 0 3 && decide (0 ≤ x) && decide (x < Y.2.1 p) && yi_fit (zi_ft 0) (.inl z)) h1 rfl (fun call => rfl) (fun h => ?_)
  rw [Bool.and_eq_true, Bool.and_eq_true, Bool.and_eq_true] at h
  exact hg (of_decide_eq_true h.1.1.2) (of_decide_eq_true h.1.2)
theorem yi_D_cs {o : List Nat} {p : Nat} {x z : Int} (h1 : zi_lk2 pc M.2.2.2.2.1 = some (.castore, n, o)) (hg : 0 ≤ x → x < Y.2.1 p → yi_D Ms d M k (pc + n, al, st, (yi_u I p x.toNat z, L, R, Y), nc, ns) Q) : yi_D Ms d M k (pc, al, .inl z :: .inl x :: .inr (.inr (some p)) :: st, (I, L, R, Y), nc, ns) Q := by
  refine yi_D_l1 (g := (pc + n, al, st, (yi_u I p x.toNat z, L, R, Y), nc, ns)) (c := Nat.ble 10 p && Nat.beq (Y.1 p) (20 + 3) && Nat.ble 3 3 && decide (0 ≤ x) && decide (x < Y.2.1 p) && yi_fit (zi_ft 3) (.inl z)) h1 rfl (fun call => rfl) (fun h => ?_)
  rw [Bool.and_eq_true, Bool.and_eq_true, Bool.and_eq_true] at h
  exact hg (of_decide_eq_true h.1.1.2) (of_decide_eq_true h.1.2)
theorem yi_D_bs {o : List Nat} {p : Nat} {x z : Int} (h1 : zi_lk2 pc M.2.2.2.2.1 = some (.bastore, n, o)) (hg : 0 ≤ x → x < Y.2.1 p → yi_D Ms d M k (pc + n, al, st, (yi_u I p x.toNat z, L, R, Y), nc, ns) Q) : yi_D Ms d M k (pc, al, .inl z :: .inl x :: .inr (.inr (some p)) :: st, (I, L, R, Y), nc, ns) Q := by
  refine yi_D_l1 (g := (pc + n, al, st, (yi_u I p x.toNat z, L, R, Y), nc, ns)) (c := Nat.ble 10 p && Nat.beq (Y.1 p) (20 + 2) && Nat.ble 2 3 && decide (0 ≤ x) && decide (x < Y.2.1 p) && yi_fit (zi_ft 2) (.inl z)) h1 rfl (fun call => rfl) (fun h => ?_)
  rw [Bool.and_eq_true, Bool.and_eq_true, Bool.and_eq_true] at h
  exact hg (of_decide_eq_true h.1.1.2) (of_decide_eq_true h.1.2)
theorem yi_D_ls {o : List Nat} {p : Nat} {x z : Int} (h1 : zi_lk2 pc M.2.2.2.2.1 = some (.lastore, n, o)) (hg : 0 ≤ x → x < Y.2.1 p → yi_D Ms d M k (pc + n, al, st, (I, yi_u L p x.toNat z, R, Y), nc, ns) Q) : yi_D Ms d M k (pc, al, .inr (.inl z) :: .inl x :: .inr (.inr (some p)) :: st, (I, L, R, Y), nc, ns) Q := by
  refine yi_D_l1 (g := (pc + n, al, st, (I, yi_u L p x.toNat z, R, Y), nc, ns)) (c := Nat.ble 10 p && Nat.beq (Y.1 p) (20 + 1) && Nat.ble 1 3 && decide (0 ≤ x) && decide (x < Y.2.1 p) && yi_fit (zi_ft 1) (.inr (.inl z))) h1 rfl (fun call => rfl) (fun h => ?_)
  rw [Bool.and_eq_true, Bool.and_eq_true, Bool.and_eq_true] at h
  exact hg (of_decide_eq_true h.1.1.2) (of_decide_eq_true h.1.2)
/-- a row's length -/
theorem yi_D_len {o : List Nat} {p : Nat} {v : Int} (h1 : zi_lk2 pc M.2.2.2.2.1 = some (.arraylength, n, o)) (hp : Nat.ble 10 p = true) (hv : (Y.2.1 p : Int) = v) (hg : yi_D Ms d M k (pc + n, al, .inl v :: st, (I, L, R, Y), nc, ns) Q) : yi_D Ms d M k (pc, al, .inr (.inr (some p)) :: st, (I, L, R, Y), nc, ns) Q := by
  refine yi_D_l1 (g := (pc + n, al, .inl v :: st, (I, L, R, Y), nc, ns)) (c := Nat.ble 20 (Y.1 p) && Nat.ble (Y.1 p) 26) h1 rfl (fun call => ?_) (fun h => hg)
  show ((bif Nat.ble 10 p then (bif Nat.ble 20 (Y.1 p) && Nat.ble (Y.1 p) 26 then some (.inl (pc + n, al, .inl (Y.2.1 p) :: st, (I, L, R, Y), nc, ns)) else none) else _) : yi_O) = _
  rw [hp, ← hv]
  rfl
end YD
