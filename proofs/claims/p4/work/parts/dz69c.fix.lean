/-! Calls that only answer leave the fixed slots. -/
def fx_fg (c k : Nat) : Bool := false
def fx_fp (c k : Nat) : Bool := ((Nat.beq c 0 && Nat.ble k 15) || ((Nat.beq c 1 && Nat.ble k 2) || ((Nat.beq c 2 && Nat.ble k 4) || ((Nat.beq c 4 && Nat.ble k 9) || ((Nat.beq c 6 && Nat.beq k 0) || ((Nat.beq c 7 && Nat.beq k 0) || (Nat.beq c 9 && Nat.ble k 4)))))))
def fx_F0 : List Nat := [140, 141, 142, 143, 144, 146, 147, 148, 149, 150, 151, 153, 154, 155, 156, 157, 158, 159, 160, 161, 163, 164, 167, 168, 171, 172, 173, 174, 175, 176, 178, 179, 182, 183, 184, 185, 186, 187, 188, 189, 190, 191, 193, 194, 197, 198]
def fx_F1 : List Nat := [200, 202, 203, 204, 205, 206, 207, 208, 209, 210, 211, 213, 214, 215, 216, 217, 218, 227, 228, 230, 231, 232, 233, 234, 235, 238, 239, 240, 241, 278, 279, 282, 283, 284, 285, 287, 288, 299, 305, 306, 308, 309, 310, 311, 312, 313]
def fx_F2 : List Nat := [314, 315, 316, 317, 318, 331]
def fx_ff (mi : Nat) : Bool := fx_F0.any (Nat.beq mi) || fx_F1.any (Nat.beq mi) || fx_F2.any (Nat.beq mi)
def fx_dr (mi : Nat) : Bool := ([] : List Nat).any (Nat.beq mi)
def fx_vr (mi : Nat) : Bool := match zi_Ms[mi]? with | some M => M.2.2.2.1.isSome | none => false
def fx_da (mi : Nat) : List Bool := match mi with
  | _ => []
def fx_dk (mi : Nat) : List Nat := match mi with
  | _ => []
def fx_dl (mi j : Nat) : Bool := (fx_dk mi).any (Nat.beq j)
def fx_sa (mi pc : Nat) : List Bool := bif Nat.beq pc 0 then [] else match mi with
  | _ => []
theorem fx_t0 : fx_F0.all (fun mi => (match zi_Ms[mi]? with | some M => cq_dk (fx_dl mi) 0 (fx_da mi) && cq_tb fx_fg fx_fp false true (fx_dr mi) fx_ff fx_dr fx_vr fx_da (fx_dl mi) (fx_sa mi) M.2.2.2.2.1 | none => true)) = true := by decide +kernel
theorem fx_t1 : fx_F1.all (fun mi => (match zi_Ms[mi]? with | some M => cq_dk (fx_dl mi) 0 (fx_da mi) && cq_tb fx_fg fx_fp false true (fx_dr mi) fx_ff fx_dr fx_vr fx_da (fx_dl mi) (fx_sa mi) M.2.2.2.2.1 | none => true)) = true := by decide +kernel
theorem fx_t2 : fx_F2.all (fun mi => (match zi_Ms[mi]? with | some M => cq_dk (fx_dl mi) 0 (fx_da mi) && cq_tb fx_fg fx_fp false true (fx_dr mi) fx_ff fx_dr fx_vr fx_da (fx_dl mi) (fx_sa mi) M.2.2.2.2.1 | none => true)) = true := by decide +kernel
theorem fx_im {mi : Nat} {M : zi_M} {l : List Nat} (h : l.any (Nat.beq mi) = true) (ha : l.all (fun mi => (match zi_Ms[mi]? with | some M => cq_dk (fx_dl mi) 0 (fx_da mi) && cq_tb fx_fg fx_fp false true (fx_dr mi) fx_ff fx_dr fx_vr fx_da (fx_dl mi) (fx_sa mi) M.2.2.2.2.1 | none => true)) = true) (hm : zi_Ms[mi]? = some M) : M.2.2.2.1.isSome = fx_vr mi ∧ cq_dk (fx_dl mi) 0 (fx_da mi) = true ∧ cq_tb fx_fg fx_fp false true (fx_dr mi) fx_ff fx_dr fx_vr fx_da (fx_dl mi) (fx_sa mi) M.2.2.2.2.1 = true := by
  obtain ⟨x, hx, e⟩ := List.any_eq_true.mp h
  have e := Nat.eq_of_beq_eq_true e
  subst e
  have z := List.all_eq_true.mp ha mi hx
  rw [hm] at z
  have z := (Bool.and_eq_true _ _).mp z
  refine ⟨?_, z.1, z.2⟩
  unfold fx_vr
  rw [hm]
theorem fx_M (mi : Nat) (M : zi_M) (h : fx_ff mi = true) (hm : zi_Ms[mi]? = some M) : M.2.2.2.1.isSome = fx_vr mi ∧ cq_dk (fx_dl mi) 0 (fx_da mi) = true ∧ cq_tb fx_fg fx_fp false true (fx_dr mi) fx_ff fx_dr fx_vr fx_da (fx_dl mi) (fx_sa mi) M.2.2.2.2.1 = true := by
  unfold fx_ff at h
  repeat rw [Bool.or_eq_true] at h
  rcases h with (h | h) | h
  · exact fx_im h fx_t0 hm
  · exact fx_im h fx_t1 hm
  · exact fx_im h fx_t2 hm
theorem fx_s0 (mi : Nat) : fx_sa mi 0 = [] := rfl
theorem fx_c2 (c k : Nat) (h : fx_fp c k = true) : c < 20 := by
  unfold fx_fp at h
  rw [Bool.or_eq_true, Bool.or_eq_true, Bool.or_eq_true, Bool.or_eq_true, Bool.or_eq_true, Bool.or_eq_true, Bool.and_eq_true, Bool.and_eq_true, Bool.and_eq_true, Bool.and_eq_true, Bool.and_eq_true, Bool.and_eq_true, Bool.and_eq_true] at h
  rcases h with h | h | h | h | h | h | h <;> (have := Nat.eq_of_beq_eq_true h.1; omega)
def fx_ps (p k : Nat) : Bool := ((Nat.beq p 10 && Nat.ble k 15) || ((Nat.beq p 11 && Nat.ble k 2) || ((Nat.beq p 12 && Nat.ble k 4) || ((Nat.beq p 34 && Nat.ble k 9) || ((Nat.beq p 44 && Nat.beq k 0) || ((Nat.beq p 46 && Nat.beq k 0) || (Nat.beq p 50 && Nat.ble k 4)))))))
def fx_K (R : Nat → Nat → Option Nat) (Y : (Nat → Nat) × (Nat → Nat) × Nat) : Prop := ∀ I L, cq_I (fun _ => false) fx_ps fx_fg fx_fp false (I, L, R, Y)
theorem fx_cla (n d : Nat) : cq_cl (fun _ => false) fx_ps fx_fg fx_fp false true fx_ff fx_dr fx_vr fx_da (yi_ev zi_Ms n d) := cq_all (fun q h => absurd h Bool.false_ne_true) (fun c k h => absurd h Bool.false_ne_true) fx_c2 fx_s0 fx_M n d
theorem fx_v {N : Nat} {da : List Bool} {vs : List yi_V} (h : ∀ v ∈ vs, ∀ q, v = .inr (.inr (some q)) → q < N) : cq_vs (fun _ => false) N da vs := fun j v hj q e => ⟨h v (List.mem_of_getElem? hj) q e, fun _ => rfl⟩
theorem fx_P {d mi : Nat} {vs : List yi_V} {I L : Nat → Nat → Int} {R : Nat → Nat → Option Nat} {Y : (Nat → Nat) × (Nat → Nat) × Nat} (hi : fx_K R Y) (hf : fx_ff mi = true) (hv : ∀ v ∈ vs, ∀ q, v = .inr (.inr (some q)) → q < Y.2.2) : yi_P zi_Ms d mi vs (I, L, R, Y) (fun r => ∀ p k, fx_ps p k = true → r.2.1.1 p k = I p k ∧ r.2.1.2.2.1 p k = R p k) := by
  intro n r e p k hp
  have z := (fx_cla n d mi vs (I, L, R, Y) r hf (fx_v hv) (hi I L) e).2.2.2.1 p k (Or.inr hp)
  exact ⟨z.1, z.2.2⟩
theorem fx_tg : cq_tb fx_fg fx_fp false true false fx_ff fx_dr fx_vr fx_da (fun _ => false) (fun _ => []) zi_mg.2.2.2.2.1 = true := by decide +kernel
