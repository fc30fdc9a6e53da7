/-! Runs of the law's own frame. -/
noncomputable def yi_runs (call : yi_K) (sl : List Int) (M : zi_M) (k : Nat) (f : yi_F) : Option yi_F := Nat.rec (motive := fun _ => yi_F → Option yi_F) (fun f => some f) (fun _ ih f => match yi_stp call sl M f with
  | some (.inl g) => ih g
  | _ => none) k f
theorem yi_runs_add {call : yi_K} {sl : List Int} {M : zi_M} : ∀ (j k : Nat) {f g h : yi_F}, yi_runs call sl M j f = some g → yi_runs call sl M k g = some h → yi_runs call sl M (k + j) f = some h
  | 0, k, f, g, h, h1, h2 => by
    have h1 : some f = some g := h1
    cases h1
    exact h2
  | j + 1, k, f, g, h, h1, h2 => by
    have h1 : (match yi_stp call sl M f with | some (.inl g) => yi_runs call sl M j g | _ => none) = some g := h1
    show (match yi_stp call sl M f with | some (.inl g) => yi_runs call sl M (k + j) g | _ => none) = some h
    cases hs : yi_stp call sl M f with
    | none => rw [hs] at h1; cases h1
    | some q =>
      rw [hs] at h1
      cases q with
      | inr v => cases h1
      | inl x => exact yi_runs_add j k h1 h2
theorem yi_runs_ok {yc : yi_K} {zc : zi_K} (hc : yi_cs yc zc) {sl : List Int} {zsl : List zi_V} (hl : zi_F2 (fun z v => yi_vr (.inl z) v) sl zsl) (hsm : sl.length ≤ 1000000) (M : zi_M) : ∀ (n : Nat) {Y Z : yi_F} {f : zi_F}, yi_fr Y f → yi_runs yc sl M n Y = some Z → ∃ g, zi_run zc zsl M n f = some g ∧ yi_fr Z g
  | 0, Y, Z, f, hf, h => by
    have h : some Y = some Z := h
    cases h
    exact ⟨f, rfl, hf⟩
  | n + 1, Y, Z, f, hf, h => by
    have h : (match yi_stp yc sl M Y with | some (.inl g) => yi_runs yc sl M n g | _ => none) = some Z := h
    have hs := yi_stp_ok hf hc hl hsm M
    show ∃ g, (match zi_stp zc zsl M f with | some (.inl g) => bif zi_up f g then zi_run zc zsl M n g else none | _ => none) = some g ∧ yi_fr Z g
    cases hy : yi_stp yc sl M Y with
    | none => rw [hy] at h; cases h
    | some q =>
      rw [hy] at h hs
      cases q with
      | inr v => cases h
      | inl g =>
        obtain ⟨zg, e1, e2⟩ := hs
        rw [e1]
        dsimp only at h ⊢
        have hu : zi_up f zg = yi_up Y g := by
          unfold zi_up yi_up
          obtain ⟨-, -, -, -, a1, a2⟩ := hf
          obtain ⟨-, -, -, -, b1, b2⟩ := e2
          rw [a1, a2, b1, b2]
        rw [hu, yi_stp_up hy]
        exact yi_runs_ok hc hl hsm M n e2 h
/-- the frame comes to a state -/
def yi_L (Ms : List zi_M) (d : Nat) (sl : List Int) (M : zi_M) (f : yi_F) (Q : yi_F → Prop) : Prop := ∃ g, Q g ∧ ∃ k n0, ∀ n, n0 ≤ n → yi_runs (yi_ev Ms n d) sl M k f = some g
section YL
variable {Ms : List zi_M} {d : Nat} {sl : List Int} {M : zi_M} {Q : yi_F → Prop} {pc n : Nat} {al : List (Nat × yi_V)} {st : List yi_V} {H : yi_H} {nc ns : Nat}
theorem yi_L_end {f : yi_F} (h : Q f) : yi_L Ms d sl M f Q := ⟨f, h, 0, 0, fun _ _ => rfl⟩
theorem yi_L_run (j : Nat) {f : yi_F} (g : yi_F) (h : ∀ call, yi_runs call sl M j f = some g) (hg : yi_L Ms d sl M g Q) : yi_L Ms d sl M f Q := by
  obtain ⟨r, h1, k, n0, h2⟩ := hg
  exact ⟨r, h1, k + j, n0, fun n hn => yi_runs_add j k (h _) (h2 n hn)⟩
theorem yi_L_stp {f : yi_F} (g : yi_F) (n1 : Nat) (h : ∀ n, n1 ≤ n → yi_stp (yi_ev Ms n d) sl M f = some (.inl g)) (hg : yi_L Ms d sl M g Q) : yi_L Ms d sl M f Q := by
  obtain ⟨r, h1, k, n0, h2⟩ := hg
  refine ⟨r, h1, k + 1, n0 + n1, fun n hn => yi_runs_add (g := g) 1 k ?_ (h2 n (by omega))⟩
  show (match yi_stp (yi_ev Ms n d) sl M f with | some (.inl g) => some g | _ => none) = some g
  rw [h n (by omega)]
theorem yi_L_s {i : Instr} {o : List Nat} (g : yi_F) (h1 : zi_lk2 pc M.2.2.2.2.1 = some (i, n, o)) (h2 : ∀ call, yi_do call sl M.2.2.1 M.2.2.2.1 pc al st H nc ns i n o = some (.inl g)) (hg : yi_L Ms d sl M g Q) : yi_L Ms d sl M (pc, al, st, H, nc, ns) Q := by
  refine yi_L_stp g 0 (fun n _ => ?_) hg
  unfold yi_stp
  simp only [h1, h2]
theorem yi_L_call {i : Instr} {o : List Nat} {mi k : Nat} {Qc : yi_R → Prop} (h1 : zi_lk2 pc M.2.2.2.2.1 = some (i, n, o)) (h2 : ∀ call, yi_do call sl M.2.2.1 M.2.2.2.1 pc al st H nc ns i n o = yi_inv pc n al st H nc ns call mi k) (h3 : (Nat.ble k st.length && Nat.ble (yi_cats (st.drop k)) 8) = true) (hE : yi_E Ms d mi (st.take k).reverse H Qc)
    (hg : ∀ r, Qc r → yi_L Ms d sl M (pc + n, al, (match r.1 with | some v => v :: st.drop k | none => st.drop k), r.2.1, nc + r.2.2.1, ns + r.2.2.2) Q) : yi_L Ms d sl M (pc, al, st, H, nc, ns) Q := by
  obtain ⟨r, hr, n1, e1⟩ := hE
  refine yi_L_stp _ n1 (fun m hm => ?_) (hg r hr)
  unfold yi_stp
  simp only [h1, h2]
  unfold yi_inv
  rw [h3, e1 m hm]
  simp only [cond_true]
  cases r.1 with
  | none => rfl
  | some v => rfl
theorem yi_L_callv {j mi k ci : Nat} {o : List Nat} {Qc : yi_R → Prop} (h1 : zi_lk2 pc M.2.2.2.2.1 = some (.invokevirtual j, n, mi :: k :: ci :: o)) (hk : Nat.ble 1 k = true) (hr : yi_rcv H ci st[k - 1]? = true) (h3 : (Nat.ble k st.length && Nat.ble (yi_cats (st.drop k)) 8) = true) (hE : yi_E Ms d mi (st.take k).reverse H Qc)
    (hg : ∀ r, Qc r → yi_L Ms d sl M (pc + n, al, (match r.1 with | some v => v :: st.drop k | none => st.drop k), r.2.1, nc + r.2.2.1, ns + r.2.2.2) Q) : yi_L Ms d sl M (pc, al, st, H, nc, ns) Q := by
  refine yi_L_call h1 (fun call => ?_) h3 hE hg
  show (bif Nat.ble 1 k && yi_rcv H ci st[k - 1]? then yi_inv pc n al st H nc ns call mi k else none) = _
  rw [hk, hr]
  rfl
theorem yi_L_if1 {c : ClassFile.Cond} {off : Int} {t : Nat} {o : List Nat} {z : Int} {r : List yi_V} (q : Bool) (h1 : zi_lk2 pc M.2.2.2.2.1 = some (.ifCond c off, n, t :: o)) (h2 : yi_cmp c z 0 = q) (hg : yi_L Ms d sl M (bif q then t else pc + n, al, r, H, nc, ns) Q) : yi_L Ms d sl M (pc, al, .inl z :: r, H, nc, ns) Q := yi_L_s _ h1 (fun _ => by
  show ((some (.inl (bif yi_cmp c z 0 then t else pc + n, al, r, H, nc, ns))) : yi_O) = _
  rw [h2]) hg
theorem yi_L_if2 {c : ClassFile.Cond} {off : Int} {t : Nat} {o : List Nat} {z w : Int} {r : List yi_V} (q : Bool) (h1 : zi_lk2 pc M.2.2.2.2.1 = some (.if_icmp c off, n, t :: o)) (h2 : yi_cmp c z w = q) (hg : yi_L Ms d sl M (bif q then t else pc + n, al, r, H, nc, ns) Q) : yi_L Ms d sl M (pc, al, .inl w :: .inl z :: r, H, nc, ns) Q := yi_L_s _ h1 (fun _ => by
  show ((some (.inl (bif yi_cmp c z w then t else pc + n, al, r, H, nc, ns))) : yi_O) = _
  rw [h2]) hg
theorem yi_L_iadd {o : List Nat} {x y : Int} {r : List yi_V} (h1 : zi_lk2 pc M.2.2.2.2.1 = some (.iadd, n, o)) (v : Int) (hv : yi_w (x + y) = v) (hg : yi_L Ms d sl M (pc + n, al, .inl v :: r, H, nc, ns) Q) : yi_L Ms d sl M (pc, al, .inl y :: .inl x :: r, H, nc, ns) Q := yi_L_s _ h1 (fun _ => by rw [← hv]; rfl) hg
theorem yi_L_isub {o : List Nat} {x y : Int} {r : List yi_V} (h1 : zi_lk2 pc M.2.2.2.2.1 = some (.isub, n, o)) (v : Int) (hv : yi_w (x - y) = v) (hg : yi_L Ms d sl M (pc + n, al, .inl v :: r, H, nc, ns) Q) : yi_L Ms d sl M (pc, al, .inl y :: .inl x :: r, H, nc, ns) Q := yi_L_s _ h1 (fun _ => by rw [← hv]; rfl) hg
theorem yi_L_iinc {o : List Nat} {i : Nat} {k z : Int} (al' : List (Nat × yi_V)) (h1 : zi_lk2 pc M.2.2.2.2.1 = some (.iinc i k, n, o)) (hz : yi_loc al i = some (.inl z)) (hn : Nat.ble (i + 1) M.2.2.1 = true) (hv : (i, .inl (yi_w (z + k))) :: yi_del1 i al = al') (hg : yi_L Ms d sl M (pc + n, al', st, H, nc, ns) Q) : yi_L Ms d sl M (pc, al, st, H, nc, ns) Q := yi_L_s _ h1 (fun _ => by
  show (((match yi_loc al i with | some (.inl x) => bif Nat.ble (i + 1) M.2.2.1 then some (.inl (pc + n, (i, .inl (yi_w (x + k))) :: yi_del1 i al, st, H, nc, ns)) else none | _ => none)) : yi_O) = _
  rw [hz]
  dsimp only
  rw [hn, hv]
  rfl) hg
/-- the script's length, and an element of it -/
theorem yi_L_len {o : List Nat} {r : List yi_V} (h1 : zi_lk2 pc M.2.2.2.2.1 = some (.arraylength, n, o)) (hs : 1 ≤ sl.length) (hg : yi_L Ms d sl M (pc + n, al, .inl (sl.length : Int) :: r, H, nc, ns) Q) : yi_L Ms d sl M (pc, al, .inr (.inr (some 8)) :: r, H, nc, ns) Q := yi_L_s _ h1 (fun _ => by
  cases sl with
  | nil => exact absurd hs (by simp)
  | cons a b => rfl) hg
theorem yi_L_ald {o : List Nat} {x : Int} {r : List yi_V} (h1 : zi_lk2 pc M.2.2.2.2.1 = some (.iaload, n, o)) (h0 : 0 ≤ x) (h2 : x < sl.length) (hg : yi_L Ms d sl M (pc + n, al, .inl (sl.getD x.toNat 0) :: r, H, nc, ns) Q) : yi_L Ms d sl M (pc, al, .inl x :: .inr (.inr (some 8)) :: r, H, nc, ns) Q := yi_L_s _ h1 (fun _ => by
  show ((bif decide (0 ≤ x) && decide (x < sl.length) then some (.inl (pc + n, al, .inl (sl.getD x.toNat 0) :: r, H, nc, ns)) else none) : yi_O) = _
  rw [decide_eq_true h0, decide_eq_true h2]
  rfl) hg
theorem yi_L_tsi {dd lo hi z : Int} {offs : Array Int} {dt t : Nat} {ts : List Nat} {r : List yi_V} (j : Nat) (h1 : zi_lk2 pc M.2.2.2.2.1 = some (.tableswitch dd lo hi offs, n, dt :: ts)) (hz : z = lo + j) (hj : lo + j ≤ hi) (ht : ts[j]? = some t) (hg : yi_L Ms d sl M (t, al, r, H, nc, ns) Q) : yi_L Ms d sl M (pc, al, .inl z :: r, H, nc, ns) Q := yi_L_s _ h1 (fun _ => by
  show ((bif decide (z < lo) || decide (hi < z) then some (.inl (dt, al, r, H, nc, ns)) else (match ts[(z - lo).toNat]? with | some t => some (.inl (t, al, r, H, nc, ns)) | none => none)) : yi_O) = _
  rw [decide_eq_false (show ¬ z < lo by omega), decide_eq_false (show ¬ hi < z by omega), show (z - lo).toNat = j by omega, ht]
  rfl) hg
theorem yi_L_tso {dd lo hi z : Int} {offs : Array Int} {dt : Nat} {ts : List Nat} {r : List yi_V} (h1 : zi_lk2 pc M.2.2.2.2.1 = some (.tableswitch dd lo hi offs, n, dt :: ts)) (hz : z < lo ∨ hi < z) (hg : yi_L Ms d sl M (dt, al, r, H, nc, ns) Q) : yi_L Ms d sl M (pc, al, .inl z :: r, H, nc, ns) Q := yi_L_s _ h1 (fun _ => by
  show ((bif decide (z < lo) || decide (hi < z) then some (.inl (dt, al, r, H, nc, ns)) else (match ts[(z - lo).toNat]? with | some t => some (.inl (t, al, r, H, nc, ns)) | none => none)) : yi_O) = _
  rcases hz with hz | hz
  · rw [decide_eq_true hz]
    rfl
  · rw [decide_eq_true hz, Bool.or_true]
    rfl) hg
/-- locals in another order -/
theorem yi_L_to {f g : yi_F} (e : f = g) (h : yi_L Ms d sl M g Q) : yi_L Ms d sl M f Q := by rw [e]; exact h
end YL
