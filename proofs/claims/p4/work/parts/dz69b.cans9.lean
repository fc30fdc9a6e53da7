/-! Engine five for the class's calls. -/
def kn_fg (c k : Nat) : Bool := false
def kn_fp (c k : Nat) : Bool := false
def kn_F0 : List Nat := [139, 140, 141, 142, 143, 144, 145, 146, 147, 148, 149, 150, 151, 152, 153, 154, 155, 156, 157, 158, 159, 160, 161, 162, 163, 164, 165, 166, 167, 168, 169, 170, 171, 172, 173, 174, 175, 176, 177, 178, 179, 180, 181, 182, 183, 184]
def kn_F1 : List Nat := [185, 186, 187, 188, 189, 190, 191, 193, 194, 195, 196, 197, 198, 199, 200, 201, 202, 203, 204, 205, 206, 207, 208, 209, 210, 211, 213, 214, 215, 216, 217, 218, 219, 220, 221, 222, 223, 224, 225, 226, 227, 228, 229, 230, 231, 232]
def kn_F2 : List Nat := [233, 234, 235, 236, 237, 238, 239, 240, 241, 243, 244, 245, 247, 248, 249, 250, 251, 252, 253, 254, 255, 256, 257, 258, 259, 260, 261, 262, 263, 264, 265, 266, 267, 268, 269, 270, 271, 272, 273, 274, 275, 276, 277, 278, 279, 280]
def kn_F3 : List Nat := [281, 282, 283, 284, 285, 286, 287, 288, 289, 291, 292, 293, 294, 295, 296, 297, 299, 300, 301, 303, 304, 305, 306, 307, 308, 309, 310, 311, 312, 313, 314, 315, 316, 317, 318, 319, 322, 323, 324, 325, 326, 327, 329, 330, 331, 332]
def kn_ff (mi : Nat) : Bool := kn_F0.any (Nat.beq mi) || kn_F1.any (Nat.beq mi) || kn_F2.any (Nat.beq mi) || kn_F3.any (Nat.beq mi)
def kn_dr (mi : Nat) : Bool := ([] : List Nat).any (Nat.beq mi)
def kn_vr (mi : Nat) : Bool := match zi_Ms[mi]? with | some M => M.2.2.2.1.isSome | none => false
def kn_da (mi : Nat) : List Bool := match mi with
  | _ => []
def kn_km (mi : Nat) : List Nat := match mi with
  | _ => []
def kn_dl (mi j : Nat) : Bool := (kn_km mi).any (Nat.beq j)
def kn_sa (mi pc : Nat) : List Bool := bif Nat.beq pc 0 then [] else match mi with
  | _ => []
theorem kn_t0 : kn_F0.all (fun mi => (match zi_Ms[mi]? with | some M => kn_dk (kn_dl mi) 0 (kn_da mi) && kn_tb kn_fg kn_fp kn_nk false true (kn_dr mi) kn_ff kn_dr kn_vr kn_da (kn_dl mi) (kn_sa mi) M.2.2.2.2.1 | none => true)) = true := by decide +kernel
theorem kn_t1 : kn_F1.all (fun mi => (match zi_Ms[mi]? with | some M => kn_dk (kn_dl mi) 0 (kn_da mi) && kn_tb kn_fg kn_fp kn_nk false true (kn_dr mi) kn_ff kn_dr kn_vr kn_da (kn_dl mi) (kn_sa mi) M.2.2.2.2.1 | none => true)) = true := by decide +kernel
theorem kn_t2 : kn_F2.all (fun mi => (match zi_Ms[mi]? with | some M => kn_dk (kn_dl mi) 0 (kn_da mi) && kn_tb kn_fg kn_fp kn_nk false true (kn_dr mi) kn_ff kn_dr kn_vr kn_da (kn_dl mi) (kn_sa mi) M.2.2.2.2.1 | none => true)) = true := by decide +kernel
theorem kn_t3 : kn_F3.all (fun mi => (match zi_Ms[mi]? with | some M => kn_dk (kn_dl mi) 0 (kn_da mi) && kn_tb kn_fg kn_fp kn_nk false true (kn_dr mi) kn_ff kn_dr kn_vr kn_da (kn_dl mi) (kn_sa mi) M.2.2.2.2.1 | none => true)) = true := by decide +kernel
theorem kn_im {mi : Nat} {M : zi_M} {l : List Nat} (h : l.any (Nat.beq mi) = true) (ha : l.all (fun mi => (match zi_Ms[mi]? with | some M => kn_dk (kn_dl mi) 0 (kn_da mi) && kn_tb kn_fg kn_fp kn_nk false true (kn_dr mi) kn_ff kn_dr kn_vr kn_da (kn_dl mi) (kn_sa mi) M.2.2.2.2.1 | none => true)) = true) (hm : zi_Ms[mi]? = some M) : M.2.2.2.1.isSome = kn_vr mi ∧ kn_dk (kn_dl mi) 0 (kn_da mi) = true ∧ kn_tb kn_fg kn_fp kn_nk false true (kn_dr mi) kn_ff kn_dr kn_vr kn_da (kn_dl mi) (kn_sa mi) M.2.2.2.2.1 = true := by
  obtain ⟨x, hx, e⟩ := List.any_eq_true.mp h
  have e := Nat.eq_of_beq_eq_true e
  subst e
  have z := List.all_eq_true.mp ha mi hx
  rw [hm] at z
  have z := (Bool.and_eq_true _ _).mp z
  refine ⟨?_, z.1, z.2⟩
  unfold kn_vr
  rw [hm]
theorem kn_M (mi : Nat) (M : zi_M) (h : kn_ff mi = true) (hm : zi_Ms[mi]? = some M) : M.2.2.2.1.isSome = kn_vr mi ∧ kn_dk (kn_dl mi) 0 (kn_da mi) = true ∧ kn_tb kn_fg kn_fp kn_nk false true (kn_dr mi) kn_ff kn_dr kn_vr kn_da (kn_dl mi) (kn_sa mi) M.2.2.2.2.1 = true := by
  unfold kn_ff at h
  repeat rw [Bool.or_eq_true] at h
  rcases h with ((h | h) | h) | h
  · exact kn_im h kn_t0 hm
  · exact kn_im h kn_t1 hm
  · exact kn_im h kn_t2 hm
  · exact kn_im h kn_t3 hm
theorem kn_s0 (mi : Nat) : kn_sa mi 0 = [] := rfl

def kn_K (R : Nat → Nat → Option Nat) (Y : (Nat → Nat) × (Nat → Nat) × Nat) : Prop := ∀ I L, kn_I (fun _ => false) (fun _ _ => false) kn_fg kn_fp kn_u false (I, L, R, Y)
theorem kn_cla (n d : Nat) : kn_cl (fun _ => false) (fun _ _ => false) kn_fg kn_fp kn_u false true kn_ff kn_dr kn_vr kn_da (yi_ev zi_Ms n d) := kn_all ⟨fun c h p _ => kn_nk_u h p, fun t p => kn_nk_u (kn_nk_t t) p⟩ (fun q h => absurd h Bool.false_ne_true) (fun c k h => absurd h Bool.false_ne_true) (fun c k h => absurd h Bool.false_ne_true) kn_s0 kn_M n d
theorem kn_v {N : Nat} {da : List Bool} {vs : List yi_V} (h : ∀ v ∈ vs, ∀ q, v = .inr (.inr (some q)) → q < N) : kn_vs (fun _ => false) N da vs := fun j v hj q e => ⟨h v (List.mem_of_getElem? hj) q e, fun _ => rfl⟩
theorem kn_P {d mi : Nat} {vs : List yi_V} {I L : Nat → Nat → Int} {R : Nat → Nat → Option Nat} {Y : (Nat → Nat) × (Nat → Nat) × Nat} (hi : kn_K R Y) (hf : kn_ff mi = true) (hv : ∀ v ∈ vs, ∀ q, v = .inr (.inr (some q)) → q < Y.2.2) : yi_P zi_Ms d mi vs (I, L, R, Y) (fun r => kn_K r.2.1.2.2.1 r.2.1.2.2.2) := by
  intro n r e
  exact fun _ _ => (kn_cla n d mi vs (I, L, R, Y) r hf (kn_v hv) (hi I L) e).2.2.1
theorem kn_gt : kn_tb kn_fg kn_fp kn_nk false true false kn_ff kn_dr kn_vr kn_da (fun _ => false) (fun _ => []) zi_mg.2.2.2.2.1 = true := by decide +kernel
theorem kn_one {p c : Nat} {R : Nat → Nat → Option Nat} {Y : (Nat → Nat) × (Nat → Nat) × Nat} (h : kn_K R Y) (h10 : 10 ≤ p) (hp : p < Y.2.2) (hc : Y.1 p = c) : kn_u c p = true := by
  have z : kn_u (Y.1 p) p = true := (h (fun _ _ => 0) (fun _ _ => 0)).2.2.2.2.1 p h10 hp
  rw [hc] at z
  exact z
theorem kn_slot {p k q : Nat} {R : Nat → Nat → Option Nat} {Y : (Nat → Nat) × (Nat → Nat) × Nat} (h : kn_K R Y) (hp : p < Y.2.2) (e : R p k = some q) : q < Y.2.2 ∧ 10 ≤ p ∧ kn_s (Y.1 p) k = true := by
  have z := h (fun _ _ => 0) (fun _ _ => 0)
  exact ⟨(z.1 p k q hp e).1, z.2.2.2.2.2 p k q hp e⟩
/-! What a land makes. -/
def kl_nk (c : Nat) : Bool := Nat.beq c 3 || Nat.beq c 5
def kl_u (N c p : Nat) : Bool := Nat.ble (p + 1) N || (Nat.beq c 3 || (Nat.beq c 5 || Nat.ble 20 c))
def kl_fg (c k : Nat) : Bool := false
def kl_fp (c k : Nat) : Bool := false
def kl_F0 : List Nat := [143, 152, 158, 169, 173, 189, 195, 196, 198, 199, 200, 204, 207, 219, 220, 221, 222, 223, 224, 225, 226, 228, 229, 231, 234, 236, 237, 247, 248, 249, 250, 251, 253, 254, 255, 256, 257, 258, 259, 260, 261, 262, 263, 264, 266, 267]
def kl_F1 : List Nat := [268, 269, 270, 271, 272, 277, 278, 279, 287, 303, 304, 305, 306, 307, 308, 309, 310, 311, 313, 314, 331, 332]
def kl_ff (mi : Nat) : Bool := kl_F0.any (Nat.beq mi) || kl_F1.any (Nat.beq mi)
def kl_dr (mi : Nat) : Bool := ([] : List Nat).any (Nat.beq mi)
def kl_vr (mi : Nat) : Bool := match zi_Ms[mi]? with | some M => M.2.2.2.1.isSome | none => false
def kl_da (mi : Nat) : List Bool := match mi with
  | _ => []
def kl_dk (mi : Nat) : List Nat := match mi with
  | _ => []
def kl_dl (mi j : Nat) : Bool := (kl_dk mi).any (Nat.beq j)
def kl_sa (mi pc : Nat) : List Bool := bif Nat.beq pc 0 then [] else match mi with
  | _ => []
theorem kl_t0 : kl_F0.all (fun mi => (match zi_Ms[mi]? with | some M => kn_dk (kl_dl mi) 0 (kl_da mi) && kn_tb kl_fg kl_fp kl_nk false true (kl_dr mi) kl_ff kl_dr kl_vr kl_da (kl_dl mi) (kl_sa mi) M.2.2.2.2.1 | none => true)) = true := by decide +kernel
theorem kl_t1 : kl_F1.all (fun mi => (match zi_Ms[mi]? with | some M => kn_dk (kl_dl mi) 0 (kl_da mi) && kn_tb kl_fg kl_fp kl_nk false true (kl_dr mi) kl_ff kl_dr kl_vr kl_da (kl_dl mi) (kl_sa mi) M.2.2.2.2.1 | none => true)) = true := by decide +kernel
theorem kl_im {mi : Nat} {M : zi_M} {l : List Nat} (h : l.any (Nat.beq mi) = true) (ha : l.all (fun mi => (match zi_Ms[mi]? with | some M => kn_dk (kl_dl mi) 0 (kl_da mi) && kn_tb kl_fg kl_fp kl_nk false true (kl_dr mi) kl_ff kl_dr kl_vr kl_da (kl_dl mi) (kl_sa mi) M.2.2.2.2.1 | none => true)) = true) (hm : zi_Ms[mi]? = some M) : M.2.2.2.1.isSome = kl_vr mi ∧ kn_dk (kl_dl mi) 0 (kl_da mi) = true ∧ kn_tb kl_fg kl_fp kl_nk false true (kl_dr mi) kl_ff kl_dr kl_vr kl_da (kl_dl mi) (kl_sa mi) M.2.2.2.2.1 = true := by
  obtain ⟨x, hx, e⟩ := List.any_eq_true.mp h
  have e := Nat.eq_of_beq_eq_true e
  subst e
  have z := List.all_eq_true.mp ha mi hx
  rw [hm] at z
  have z := (Bool.and_eq_true _ _).mp z
  refine ⟨?_, z.1, z.2⟩
  unfold kl_vr
  rw [hm]
theorem kl_M (mi : Nat) (M : zi_M) (h : kl_ff mi = true) (hm : zi_Ms[mi]? = some M) : M.2.2.2.1.isSome = kl_vr mi ∧ kn_dk (kl_dl mi) 0 (kl_da mi) = true ∧ kn_tb kl_fg kl_fp kl_nk false true (kl_dr mi) kl_ff kl_dr kl_vr kl_da (kl_dl mi) (kl_sa mi) M.2.2.2.2.1 = true := by
  unfold kl_ff at h
  repeat rw [Bool.or_eq_true] at h
  rcases h with h | h
  · exact kl_im h kl_t0 hm
  · exact kl_im h kl_t1 hm
theorem kl_s0 (mi : Nat) : kl_sa mi 0 = [] := rfl

def kl_K (N : Nat) (R : Nat → Nat → Option Nat) (Y : (Nat → Nat) × (Nat → Nat) × Nat) : Prop := ∀ I L, kn_I (fun _ => false) (fun _ _ => false) kl_fg kl_fp (kl_u N) false (I, L, R, Y)
theorem kl_cla (N n d : Nat) : kn_cl (fun _ => false) (fun _ _ => false) kl_fg kl_fp (kl_u N) false true kl_ff kl_dr kl_vr kl_da (yi_ev zi_Ms n d) := kn_all (nk := kl_nk) ⟨fun c h p _ => by
  unfold kl_nk at h
  unfold kl_u
  rw [Bool.or_eq_true] at h
  rcases h with h | h <;> rw [h] <;> simp, fun t p => by
  unfold kl_u
  rw [Nat.ble_eq_true_of_le (show 20 ≤ 20 + t by omega)]
  simp⟩ (fun q h => absurd h Bool.false_ne_true) (fun c k h => absurd h Bool.false_ne_true) (fun c k h => absurd h Bool.false_ne_true) kl_s0 kl_M n d
theorem kl_P {N d mi : Nat} {vs : List yi_V} {I L : Nat → Nat → Int} {R : Nat → Nat → Option Nat} {Y : (Nat → Nat) × (Nat → Nat) × Nat} (hi : kl_K N R Y) (hf : kl_ff mi = true) (hv : ∀ v ∈ vs, ∀ q, v = .inr (.inr (some q)) → q < Y.2.2) : yi_P zi_Ms d mi vs (I, L, R, Y) (fun r => kl_K N r.2.1.2.2.1 r.2.1.2.2.2) := by
  intro n r e
  exact fun _ _ => (kl_cla N n d mi vs (I, L, R, Y) r hf (kn_v hv) (hi I L) e).2.2.1
/-- where it begins -/
theorem kl_0 {R : Nat → Nat → Option Nat} {Y : (Nat → Nat) × (Nat → Nat) × Nat} (h : kn_K R Y) : kl_K Y.2.2 R Y := fun I L => by
  obtain ⟨z1, z2, z3, z4, z5, z6⟩ := h I L
  exact ⟨z1, z2, z3, z4, fun p h10 hp => by
    have hp : p < Y.2.2 := hp
    unfold kl_u
    rw [Nat.ble_eq_true_of_le (show p + 1 ≤ Y.2.2 by omega)]
    rfl, z6⟩
theorem kl_one {N p : Nat} {R : Nat → Nat → Option Nat} {Y : (Nat → Nat) × (Nat → Nat) × Nat} (h : kl_K N R Y) (h10 : 10 ≤ p) (h1 : N ≤ p) (hp : p < Y.2.2) : Y.1 p = 3 ∨ Y.1 p = 5 ∨ 20 ≤ Y.1 p := by
  have z : kl_u N (Y.1 p) p = true := (h (fun _ _ => 0) (fun _ _ => 0)).2.2.2.2.1 p h10 hp
  unfold kl_u at z
  rw [Bool.or_eq_true, Bool.or_eq_true, Bool.or_eq_true] at z
  rcases z with z | z | z | z
  · have := Nat.le_of_ble_eq_true z; omega
  · exact Or.inl (Nat.eq_of_beq_eq_true z)
  · exact Or.inr (Or.inl (Nat.eq_of_beq_eq_true z))
  · exact Or.inr (Or.inr (Nat.le_of_ble_eq_true z))
