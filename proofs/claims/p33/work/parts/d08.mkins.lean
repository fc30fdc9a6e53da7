/-! The marks: their row in the class, isMarked in the check: out of reach of all calls but land and mark. -/
def cn_pr (p : Nat) : Bool := Nat.beq p 57
def cn_ps (p k : Nat) : Bool := Nat.beq p 10 && Nat.ble k 16
def cn_fg (c k : Nat) : Bool := (Nat.beq c 0 || Nat.beq c 99) && Nat.beq k 8
def cn_fp (c k : Nat) : Bool := Nat.beq c 0 && Nat.ble k 16
def cn_F0 : List Nat := [139, 140, 141, 142, 143, 144, 145, 146, 147, 148, 149, 150, 151, 152, 153, 154, 155, 156, 157, 158, 159, 160, 161, 163, 164, 166, 167, 168, 169, 170, 171, 172, 173, 174, 175, 176, 177, 178, 179, 180, 181, 182, 183, 184, 185, 186]
def cn_F1 : List Nat := [187, 188, 189, 190, 191, 193, 194, 195, 196, 197, 198, 199, 200, 201, 202, 203, 204, 205, 206, 207, 208, 209, 210, 211, 213, 214, 215, 216, 217, 218, 219, 220, 221, 222, 223, 224, 225, 226, 227, 228, 229, 230, 231, 232, 233, 234]
def cn_F2 : List Nat := [235, 236, 237, 238, 239, 240, 241, 243, 244, 245, 247, 248, 249, 250, 251, 252, 253, 254, 255, 256, 257, 258, 259, 260, 261, 262, 263, 264, 265, 266, 267, 268, 269, 270, 271, 272, 273, 274, 275, 276, 277, 278, 279, 280, 281, 282]
def cn_F3 : List Nat := [283, 284, 285, 286, 287, 288, 289, 291, 292, 293, 294, 295, 296, 297, 299, 300, 301, 303, 304, 305, 306, 307, 308, 309, 310, 311, 312, 313, 314, 315, 316, 317, 318, 319, 322, 323, 324, 325, 326, 327, 329, 330, 331, 332]
def cn_ff (mi : Nat) : Bool := cn_F0.any (Nat.beq mi) || cn_F1.any (Nat.beq mi) || cn_F2.any (Nat.beq mi) || cn_F3.any (Nat.beq mi)
def cn_dr (mi : Nat) : Bool := ([] : List Nat).any (Nat.beq mi)
def cn_vr (mi : Nat) : Bool := match zi_Ms[mi]? with | some M => M.2.2.2.1.isSome | none => false
def cn_da (mi : Nat) : List Bool := match mi with
  | _ => []
def cn_dk (mi : Nat) : List Nat := match mi with
  | _ => []
def cn_dl (mi j : Nat) : Bool := (cn_dk mi).any (Nat.beq j)
def cn_sa (mi pc : Nat) : List Bool := bif Nat.beq pc 0 then [] else match mi with
  | _ => []
theorem cn_t0 : cn_F0.all (fun mi => (match zi_Ms[mi]? with | some M => cq_dk (cn_dl mi) 0 (cn_da mi) && cq_tb cn_fg cn_fp false true (cn_dr mi) cn_ff cn_dr cn_vr cn_da (cn_dl mi) (cn_sa mi) M.2.2.2.2.1 | none => true)) = true := by decide +kernel
theorem cn_t1 : cn_F1.all (fun mi => (match zi_Ms[mi]? with | some M => cq_dk (cn_dl mi) 0 (cn_da mi) && cq_tb cn_fg cn_fp false true (cn_dr mi) cn_ff cn_dr cn_vr cn_da (cn_dl mi) (cn_sa mi) M.2.2.2.2.1 | none => true)) = true := by decide +kernel
theorem cn_t2 : cn_F2.all (fun mi => (match zi_Ms[mi]? with | some M => cq_dk (cn_dl mi) 0 (cn_da mi) && cq_tb cn_fg cn_fp false true (cn_dr mi) cn_ff cn_dr cn_vr cn_da (cn_dl mi) (cn_sa mi) M.2.2.2.2.1 | none => true)) = true := by decide +kernel
theorem cn_t3 : cn_F3.all (fun mi => (match zi_Ms[mi]? with | some M => cq_dk (cn_dl mi) 0 (cn_da mi) && cq_tb cn_fg cn_fp false true (cn_dr mi) cn_ff cn_dr cn_vr cn_da (cn_dl mi) (cn_sa mi) M.2.2.2.2.1 | none => true)) = true := by decide +kernel
theorem cn_in {mi : Nat} {M : zi_M} {l : List Nat} (h : l.any (Nat.beq mi) = true) (ha : l.all (fun mi => (match zi_Ms[mi]? with | some M => cq_dk (cn_dl mi) 0 (cn_da mi) && cq_tb cn_fg cn_fp false true (cn_dr mi) cn_ff cn_dr cn_vr cn_da (cn_dl mi) (cn_sa mi) M.2.2.2.2.1 | none => true)) = true) (hm : zi_Ms[mi]? = some M) : M.2.2.2.1.isSome = cn_vr mi ∧ cq_dk (cn_dl mi) 0 (cn_da mi) = true ∧ cq_tb cn_fg cn_fp false true (cn_dr mi) cn_ff cn_dr cn_vr cn_da (cn_dl mi) (cn_sa mi) M.2.2.2.2.1 = true := by
  obtain ⟨x, hx, e⟩ := List.any_eq_true.mp h
  have e := Nat.eq_of_beq_eq_true e
  subst e
  have z := List.all_eq_true.mp ha mi hx
  rw [hm] at z
  have z := (Bool.and_eq_true _ _).mp z
  refine ⟨?_, z.1, z.2⟩
  unfold cn_vr
  rw [hm]
theorem cn_M (mi : Nat) (M : zi_M) (h : cn_ff mi = true) (hm : zi_Ms[mi]? = some M) : M.2.2.2.1.isSome = cn_vr mi ∧ cq_dk (cn_dl mi) 0 (cn_da mi) = true ∧ cq_tb cn_fg cn_fp false true (cn_dr mi) cn_ff cn_dr cn_vr cn_da (cn_dl mi) (cn_sa mi) M.2.2.2.2.1 = true := by
  unfold cn_ff at h
  repeat rw [Bool.or_eq_true] at h
  rcases h with ((h | h) | h) | h
  · exact cn_in h cn_t0 hm
  · exact cn_in h cn_t1 hm
  · exact cn_in h cn_t2 hm
  · exact cn_in h cn_t3 hm
theorem cn_s0 (mi : Nat) : cn_sa mi 0 = [] := rfl
theorem cn_10 (p : Nat) (h : cn_pr p = true) : 10 ≤ p := by
  have := Nat.eq_of_beq_eq_true h
  omega
theorem cn_c1 (c k : Nat) (h : cn_fg c k = true) : c < 20 ∨ 26 < c := by
  unfold cn_fg at h
  rw [Bool.and_eq_true] at h
  rw [Bool.or_eq_true] at h
  rcases h.1 with h | h <;> (have := Nat.eq_of_beq_eq_true h; omega)
theorem cn_c2 (c k : Nat) (h : cn_fp c k = true) : c < 20 := by
  unfold cn_fp at h
  rw [Bool.and_eq_true] at h
  have := Nat.eq_of_beq_eq_true h.1
  omega
theorem cn_pr_n {p : Nat} (h : ¬ p = 57) : cn_pr p = false := by
  cases e : cn_pr p with
  | true => exact absurd (Nat.eq_of_beq_eq_true e) h
  | false => rfl
def cn_I (R : Nat → Nat → Option Nat) (Y : (Nat → Nat) × (Nat → Nat) × Nat) : Prop := ∀ I L, cq_I cn_pr cn_ps cn_fg cn_fp false (I, L, R, Y)
def cn_H (R : Nat → Nat → Option Nat) (Y : (Nat → Nat) × (Nat → Nat) × Nat) (R' : Nat → Nat → Option Nat) (Y' : (Nat → Nat) × (Nat → Nat) × Nat) : Prop := cn_I R' Y' ∧ (∀ k, R' 57 k = R 57 k) ∧ (∀ k, k ≤ 16 → R' 10 k = R 10 k) ∧ (∀ p, p < Y.2.2 → Y'.1 p = Y.1 p ∧ Y'.2.1 p = Y.2.1 p) ∧ Y.2.2 ≤ Y'.2.2
theorem cn_of {I L : Nat → Nat → Int} {R : Nat → Nat → Option Nat} {Y : (Nat → Nat) × (Nat → Nat) × Nat} {H' : yi_H} (h : cq_H cn_pr cn_ps cn_fg cn_fp false true (I, L, R, Y) H') : cn_H R Y H'.2.2.1 H'.2.2.2 := ⟨fun _ _ => h.1, fun k => (h.2.1 57 k (Or.inl ⟨rfl, rfl⟩)).2.2, fun k hk => (h.2.1 10 k (Or.inr (by unfold cn_ps; rw [Nat.ble_eq_true_of_le hk]; rfl))).2.2, h.2.2.1, h.2.2.2⟩
theorem cn_cl (n d : Nat) : cq_cl cn_pr cn_ps cn_fg cn_fp false true cn_ff cn_dr cn_vr cn_da (yi_ev zi_Ms n d) := cq_all cn_10 cn_c1 cn_c2 cn_s0 cn_M n d
def cn_vs (N : Nat) (da : List Bool) (vs : List yi_V) : Prop := cq_vs cn_pr N da vs
theorem cn_P {d mi : Nat} {vs : List yi_V} {I L : Nat → Nat → Int} {R : Nat → Nat → Option Nat} {Y : (Nat → Nat) × (Nat → Nat) × Nat} (hi : cn_I R Y) (hf : cn_ff mi = true) (hv : cn_vs Y.2.2 (cn_da mi) vs) : yi_P zi_Ms d mi vs (I, L, R, Y) (fun r => cn_H R Y r.2.1.2.2.1 r.2.1.2.2.2) := by
  intro n r e
  exact cn_of (cn_cl n d mi vs (I, L, R, Y) r hf hv (hi I L) e).2.2
theorem cn_v0 {N : Nat} {da : List Bool} : cn_vs N da [] := fun j v h => by cases h
theorem cn_vn {N : Nat} {v : yi_V} {vs : List yi_V} (h : cq_V cn_pr N false v) (h2 : cn_vs N [] vs) : cn_vs N [] (v :: vs) := fun j w hw => by
  cases j with
  | zero => cases hw; exact h
  | succ j => exact h2 j w hw
theorem cn_vi {N : Nat} {f : Bool} (x : Int) : cq_V cn_pr N f (.inl x) := cq_Vi x
theorem cn_vl {N : Nat} {f : Bool} (x : Int) : cq_V cn_pr N f (.inr (.inl x)) := cq_Vl x
theorem cn_vp {N p : Nat} {f : Bool} (hq : ¬ p = 57) (hN : p < N) : cq_V cn_pr N f (.inr (.inr (some p))) := fun x e => by
  have e : some p = some x := Sum.inr.inj (Sum.inr.inj e)
  cases e
  exact ⟨hN, fun _ => cn_pr_n hq⟩
theorem cn_tg : cq_tb cn_fg cn_fp false true false cn_ff cn_dr cn_vr cn_da (fun _ => false) (fun _ => []) zi_mg.2.2.2.2.1 = true := by decide +kernel
theorem cn_first {d k : Nat} {I L : Nat → Nat → Int} {R : Nat → Nat → Option Nat} {Y : (Nat → Nat) × (Nat → Nat) × Nat} (hi : cn_I R Y) {x y w : Int} (hY : 11 ≤ Y.2.2) : yi_D zi_Ms d zi_mg k (0, [(0, .inr (.inr (some 10))), (1, .inl x), (2, .inl y), (3, .inl w)], [], (I, L, R, Y), 0, 0) (fun r => cn_H R Y r.2.1.2.2.1 r.2.1.2.2.2) := by
  intro n j r _ e
  have h := (cq_loop (dl := fun _ => false) (sa := fun _ => []) (rd := false) (rv := zi_mg.2.2.2.1.isSome) cn_10 cn_c1 cn_c2 (cn_cl n d) cn_tg rfl j (0, [(0, .inr (.inr (some 10))), (1, .inl x), (2, .inl y), (3, .inl w)], [], (I, L, R, Y), 0, 0) (fun q hq => by
    rcases List.mem_cons.mp hq with e | hq
    · subst e; exact cn_vp (by omega) (by show 10 < Y.2.2; omega)
    rcases List.mem_cons.mp hq with e | hq
    · subst e; exact cn_vi _
    rcases List.mem_cons.mp hq with e | hq
    · subst e; exact cn_vi _
    rcases List.mem_cons.mp hq with e | hq
    · subst e; exact cn_vi _
    cases hq) cq_sf_n (hi I L) e).2.2
  exact cn_of h
section cnS
variable {I L : Nat → Nat → Int} {R R' : Nat → Nat → Option Nat} {Y Y' : (Nat → Nat) × (Nat → Nat) × Nat}
theorem cn_I_b (h : cn_I R Y) {p k q' : Nat} (hp : p < Y.2.2) (e : R p k = some q') : q' < Y.2.2 := ((h (fun _ _ => 0) (fun _ _ => 0)).1 p k q' hp e).1
theorem cn_I_V (h : cn_I R Y) {p k : Nat} (hp : p < Y.2.2) (hq : ¬ p = 57) (hk : cn_fg (Y.1 p) k = false) : cq_V cn_pr Y.2.2 false (.inr (.inr (R p k))) := fun x e => by
  have e : R p k = some x := Sum.inr.inj (Sum.inr.inj e)
  have z := (h (fun _ _ => 0) (fun _ _ => 0)).1 p k x hp e
  refine ⟨z.1, fun _ => ?_⟩
  cases hx : cn_pr x with
  | false => rfl
  | true =>
    rcases z.2 hx with w | w | w
    · rw [cn_pr_n hq] at w; cases w
    · have w : cn_fg (Y.1 p) k = true := w
      rw [hk] at w
      cases w
    · cases w.1
theorem cn_I_w {a b : Nat} (h : cn_I R Y) (hR : ∀ p k, ¬ (p = a ∧ k = b) → R' p k = R p k) (hz : ∀ q', R' a b = some q' → q' < Y.2.2 ∧ ¬ q' = 57) : cn_I R' Y := fun I L => ⟨fun p k q' hp e => by
  have e : R' p k = some q' := e
  by_cases c : p = a ∧ k = b
  · obtain ⟨rfl, rfl⟩ := c
    exact ⟨(hz q' e).1, fun hq => absurd (Nat.eq_of_beq_eq_true hq) (hz q' e).2⟩
  · rw [hR p k c] at e
    exact (h I L).1 p k q' hp e, (h I L).2⟩
theorem cn_I_nw {z x : Nat} {I2 L2 : Nat → Nat → Int} (h : cn_I R Y) (m : yi_mkd z I L R Y I2 L2 R' Y' x) (hn : ∀ k, R' z k = none) : cn_I R' Y' := fun A B => by
  obtain ⟨m1, m2, m3, m4, m5, m6⟩ := m
  have h := h (fun _ _ => 0) (fun _ _ => 0)
  have ey : Y'.2.2 = Y.2.2 + 1 := by rw [m6, m1]
  refine ⟨fun p k q' hp e => ?_, fun p k hp => ?_, fun p hp => ?_, ?_⟩
  · have e : R' p k = some q' := e
    have hp : p < Y'.2.2 := hp
    by_cases c : p = z
    · subst c; rw [hn] at e; cases e
    · rw [(m2 p k c).2.2] at e
      have w := h.1 p k q' (show p < Y.2.2 by omega) e
      have w1 : q' < Y.2.2 := w.1
      refine ⟨show q' < Y'.2.2 by omega, fun hq => ?_⟩
      rw [show (A, B, R', Y').2.2.2.1 p = Y.1 p from (m4 p c).1]
      exact w.2 hq
  · have w := h.2.1 p k hp
    have w2 : p < Y.2.2 := w.2
    refine ⟨?_, show p < Y'.2.2 by omega⟩
    rw [show (A, B, R', Y').2.2.2.1 p = Y.1 p from (m4 p (by omega)).1]
    exact w.1
  · have w : p < Y.2.2 := h.2.2.1 p hp
    show p < Y'.2.2
    omega
  · have w : 10 ≤ Y.2.2 := h.2.2.2
    show 10 ≤ Y'.2.2
    omega
end cnS
def mn_pr (p : Nat) : Bool := Nat.beq p 101
def mn_ps (p k : Nat) : Bool := Nat.beq p 82 && Nat.beq k 31
def mn_fg (c k : Nat) : Bool := Nat.beq c 11 && Nat.beq k 31
def mn_fp (c k : Nat) : Bool := Nat.beq c 11 && Nat.beq k 31
def mn_F0 : List Nat := [1, 2, 3, 5, 6, 7, 8, 9, 10, 11, 12, 13, 14, 15, 16, 17, 18, 19, 20, 21, 22, 23, 24, 25, 26, 27, 28, 29, 30, 31, 33, 34, 35, 36, 38, 39, 40, 41, 42, 43, 44, 45, 46, 47, 48, 49]
def mn_F1 : List Nat := [50, 51, 52, 53, 54, 55, 56, 57, 58, 59, 60, 61, 62, 63, 64, 65, 66, 67, 68, 69, 70, 71, 73, 74, 75, 76, 77, 78, 79, 80, 81, 83, 84, 85, 86, 88, 90, 91, 92, 93, 94, 96, 97, 104, 106, 107]
def mn_F2 : List Nat := [108, 109, 110, 112, 113, 116, 118, 119, 121, 122, 124, 125, 126, 127, 128, 129, 130, 131, 132, 133, 134, 135, 136, 137, 139, 140, 141, 142, 143, 144, 145, 146, 147, 148, 149, 150, 151, 152, 153, 154, 155, 156, 157, 158, 159, 160]
def mn_F3 : List Nat := [161, 162, 163, 164, 165, 166, 167, 168, 169, 170, 171, 172, 173, 174, 175, 176, 177, 178, 179, 180, 181, 182, 183, 184, 185, 186, 187, 188, 189, 190, 191, 193, 194, 195, 196, 197, 198, 199, 200, 201, 202, 203, 204, 205, 206, 207]
def mn_F4 : List Nat := [208, 209, 210, 211, 213, 214, 215, 216, 217, 218, 219, 220, 221, 222, 223, 224, 225, 226, 227, 228, 229, 230, 231, 232, 233, 234, 235, 236, 237, 238, 239, 240, 241, 243, 244, 245, 247, 248, 249, 250, 251, 252, 253, 254, 255, 256]
def mn_F5 : List Nat := [257, 258, 259, 260, 261, 262, 263, 264, 265, 266, 267, 268, 269, 270, 271, 272, 273, 274, 275, 276, 277, 278, 279, 280, 281, 282, 283, 284, 285, 286, 287, 288, 289, 291, 292, 293, 294, 295, 296, 297, 299, 300, 301, 303, 304, 305]
def mn_F6 : List Nat := [306, 307, 308, 309, 310, 311, 312, 313, 314, 315, 316, 317, 318, 319, 322, 323, 324, 325, 326, 327, 329, 330, 331, 332]
def mn_ff (mi : Nat) : Bool := mn_F0.any (Nat.beq mi) || mn_F1.any (Nat.beq mi) || mn_F2.any (Nat.beq mi) || mn_F3.any (Nat.beq mi) || mn_F4.any (Nat.beq mi) || mn_F5.any (Nat.beq mi) || mn_F6.any (Nat.beq mi)
def mn_dr (mi : Nat) : Bool := ([] : List Nat).any (Nat.beq mi)
def mn_vr (mi : Nat) : Bool := match zi_Ms[mi]? with | some M => M.2.2.2.1.isSome | none => false
def mn_da (mi : Nat) : List Bool := match mi with
  | _ => []
def mn_dk (mi : Nat) : List Nat := match mi with
  | _ => []
def mn_dl (mi j : Nat) : Bool := (mn_dk mi).any (Nat.beq j)
def mn_sa (mi pc : Nat) : List Bool := bif Nat.beq pc 0 then [] else match mi with
  | _ => []
theorem mn_t0 : mn_F0.all (fun mi => (match zi_Ms[mi]? with | some M => cq_dk (mn_dl mi) 0 (mn_da mi) && cq_tb mn_fg mn_fp false true (mn_dr mi) mn_ff mn_dr mn_vr mn_da (mn_dl mi) (mn_sa mi) M.2.2.2.2.1 | none => true)) = true := by decide +kernel
theorem mn_t1 : mn_F1.all (fun mi => (match zi_Ms[mi]? with | some M => cq_dk (mn_dl mi) 0 (mn_da mi) && cq_tb mn_fg mn_fp false true (mn_dr mi) mn_ff mn_dr mn_vr mn_da (mn_dl mi) (mn_sa mi) M.2.2.2.2.1 | none => true)) = true := by decide +kernel
theorem mn_t2 : mn_F2.all (fun mi => (match zi_Ms[mi]? with | some M => cq_dk (mn_dl mi) 0 (mn_da mi) && cq_tb mn_fg mn_fp false true (mn_dr mi) mn_ff mn_dr mn_vr mn_da (mn_dl mi) (mn_sa mi) M.2.2.2.2.1 | none => true)) = true := by decide +kernel
theorem mn_t3 : mn_F3.all (fun mi => (match zi_Ms[mi]? with | some M => cq_dk (mn_dl mi) 0 (mn_da mi) && cq_tb mn_fg mn_fp false true (mn_dr mi) mn_ff mn_dr mn_vr mn_da (mn_dl mi) (mn_sa mi) M.2.2.2.2.1 | none => true)) = true := by decide +kernel
theorem mn_t4 : mn_F4.all (fun mi => (match zi_Ms[mi]? with | some M => cq_dk (mn_dl mi) 0 (mn_da mi) && cq_tb mn_fg mn_fp false true (mn_dr mi) mn_ff mn_dr mn_vr mn_da (mn_dl mi) (mn_sa mi) M.2.2.2.2.1 | none => true)) = true := by decide +kernel
theorem mn_t5 : mn_F5.all (fun mi => (match zi_Ms[mi]? with | some M => cq_dk (mn_dl mi) 0 (mn_da mi) && cq_tb mn_fg mn_fp false true (mn_dr mi) mn_ff mn_dr mn_vr mn_da (mn_dl mi) (mn_sa mi) M.2.2.2.2.1 | none => true)) = true := by decide +kernel
theorem mn_t6 : mn_F6.all (fun mi => (match zi_Ms[mi]? with | some M => cq_dk (mn_dl mi) 0 (mn_da mi) && cq_tb mn_fg mn_fp false true (mn_dr mi) mn_ff mn_dr mn_vr mn_da (mn_dl mi) (mn_sa mi) M.2.2.2.2.1 | none => true)) = true := by decide +kernel
theorem mn_in {mi : Nat} {M : zi_M} {l : List Nat} (h : l.any (Nat.beq mi) = true) (ha : l.all (fun mi => (match zi_Ms[mi]? with | some M => cq_dk (mn_dl mi) 0 (mn_da mi) && cq_tb mn_fg mn_fp false true (mn_dr mi) mn_ff mn_dr mn_vr mn_da (mn_dl mi) (mn_sa mi) M.2.2.2.2.1 | none => true)) = true) (hm : zi_Ms[mi]? = some M) : M.2.2.2.1.isSome = mn_vr mi ∧ cq_dk (mn_dl mi) 0 (mn_da mi) = true ∧ cq_tb mn_fg mn_fp false true (mn_dr mi) mn_ff mn_dr mn_vr mn_da (mn_dl mi) (mn_sa mi) M.2.2.2.2.1 = true := by
  obtain ⟨x, hx, e⟩ := List.any_eq_true.mp h
  have e := Nat.eq_of_beq_eq_true e
  subst e
  have z := List.all_eq_true.mp ha mi hx
  rw [hm] at z
  have z := (Bool.and_eq_true _ _).mp z
  refine ⟨?_, z.1, z.2⟩
  unfold mn_vr
  rw [hm]
theorem mn_M (mi : Nat) (M : zi_M) (h : mn_ff mi = true) (hm : zi_Ms[mi]? = some M) : M.2.2.2.1.isSome = mn_vr mi ∧ cq_dk (mn_dl mi) 0 (mn_da mi) = true ∧ cq_tb mn_fg mn_fp false true (mn_dr mi) mn_ff mn_dr mn_vr mn_da (mn_dl mi) (mn_sa mi) M.2.2.2.2.1 = true := by
  unfold mn_ff at h
  repeat rw [Bool.or_eq_true] at h
  rcases h with (((((h | h) | h) | h) | h) | h) | h
  · exact mn_in h mn_t0 hm
  · exact mn_in h mn_t1 hm
  · exact mn_in h mn_t2 hm
  · exact mn_in h mn_t3 hm
  · exact mn_in h mn_t4 hm
  · exact mn_in h mn_t5 hm
  · exact mn_in h mn_t6 hm
theorem mn_s0 (mi : Nat) : mn_sa mi 0 = [] := rfl
theorem mn_10 (p : Nat) (h : mn_pr p = true) : 10 ≤ p := by
  have := Nat.eq_of_beq_eq_true h
  omega
theorem mn_c1 (c k : Nat) (h : mn_fg c k = true) : c < 20 ∨ 26 < c := by
  unfold mn_fg at h
  rw [Bool.and_eq_true] at h
  have := Nat.eq_of_beq_eq_true h.1
  omega
theorem mn_c2 (c k : Nat) (h : mn_fp c k = true) : c < 20 := by
  unfold mn_fp at h
  rw [Bool.and_eq_true] at h
  have := Nat.eq_of_beq_eq_true h.1
  omega
theorem mn_pr_n {p : Nat} (h : ¬ p = 101) : mn_pr p = false := by
  cases e : mn_pr p with
  | true => exact absurd (Nat.eq_of_beq_eq_true e) h
  | false => rfl
def mn_I (R : Nat → Nat → Option Nat) (Y : (Nat → Nat) × (Nat → Nat) × Nat) : Prop := ∀ I L, cq_I mn_pr mn_ps mn_fg mn_fp false (I, L, R, Y)
def mn_H (I : Nat → Nat → Int) (I' : Nat → Nat → Int) (R' : Nat → Nat → Option Nat) (Y' : (Nat → Nat) × (Nat → Nat) × Nat) : Prop := mn_I R' Y' ∧ ∀ k, I' 101 k = I 101 k
theorem mn_of {I L : Nat → Nat → Int} {R : Nat → Nat → Option Nat} {Y : (Nat → Nat) × (Nat → Nat) × Nat} {H' : yi_H} (h : cq_H mn_pr mn_ps mn_fg mn_fp false true (I, L, R, Y) H') : mn_H I H'.1 H'.2.2.1 H'.2.2.2 := ⟨fun _ _ => h.1, fun k => (h.2.1 101 k (Or.inl ⟨rfl, rfl⟩)).1⟩
theorem mn_cl (n d : Nat) : cq_cl mn_pr mn_ps mn_fg mn_fp false true mn_ff mn_dr mn_vr mn_da (yi_ev zi_Ms n d) := cq_all mn_10 mn_c1 mn_c2 mn_s0 mn_M n d
def mn_vs (N : Nat) (da : List Bool) (vs : List yi_V) : Prop := cq_vs mn_pr N da vs
theorem mn_P {d mi : Nat} {vs : List yi_V} {I L : Nat → Nat → Int} {R : Nat → Nat → Option Nat} {Y : (Nat → Nat) × (Nat → Nat) × Nat} (hi : mn_I R Y) (hf : mn_ff mi = true) (hv : mn_vs Y.2.2 (mn_da mi) vs) : yi_P zi_Ms d mi vs (I, L, R, Y) (fun r => mn_H I r.2.1.1 r.2.1.2.2.1 r.2.1.2.2.2) := by
  intro n r e
  exact mn_of (mn_cl n d mi vs (I, L, R, Y) r hf hv (hi I L) e).2.2
theorem mn_v0 {N : Nat} {da : List Bool} : mn_vs N da [] := fun j v h => by cases h
theorem mn_vn {N : Nat} {v : yi_V} {vs : List yi_V} (h : cq_V mn_pr N false v) (h2 : mn_vs N [] vs) : mn_vs N [] (v :: vs) := fun j w hw => by
  cases j with
  | zero => cases hw; exact h
  | succ j => exact h2 j w hw
theorem mn_vi {N : Nat} {f : Bool} (x : Int) : cq_V mn_pr N f (.inl x) := cq_Vi x
theorem mn_vl {N : Nat} {f : Bool} (x : Int) : cq_V mn_pr N f (.inr (.inl x)) := cq_Vl x
theorem mn_vp {N p : Nat} {f : Bool} (hq : ¬ p = 101) (hN : p < N) : cq_V mn_pr N f (.inr (.inr (some p))) := fun x e => by
  have e : some p = some x := Sum.inr.inj (Sum.inr.inj e)
  cases e
  exact ⟨hN, fun _ => mn_pr_n hq⟩
theorem mn_tg : cq_tb mn_fg mn_fp false true false mn_ff mn_dr mn_vr mn_da (fun _ => false) (fun _ => []) zi_mg.2.2.2.2.1 = true := by decide +kernel
theorem mn_first {d k : Nat} {I L : Nat → Nat → Int} {R : Nat → Nat → Option Nat} {Y : (Nat → Nat) × (Nat → Nat) × Nat} (hi : mn_I R Y) {x y w : Int} (hY : 11 ≤ Y.2.2) : yi_D zi_Ms d zi_mg k (0, [(0, .inr (.inr (some 10))), (1, .inl x), (2, .inl y), (3, .inl w)], [], (I, L, R, Y), 0, 0) (fun r => mn_H I r.2.1.1 r.2.1.2.2.1 r.2.1.2.2.2) := by
  intro n j r _ e
  have h := (cq_loop (dl := fun _ => false) (sa := fun _ => []) (rd := false) (rv := zi_mg.2.2.2.1.isSome) mn_10 mn_c1 mn_c2 (mn_cl n d) mn_tg rfl j (0, [(0, .inr (.inr (some 10))), (1, .inl x), (2, .inl y), (3, .inl w)], [], (I, L, R, Y), 0, 0) (fun q hq => by
    rcases List.mem_cons.mp hq with e | hq
    · subst e; exact mn_vp (by omega) (by show 10 < Y.2.2; omega)
    rcases List.mem_cons.mp hq with e | hq
    · subst e; exact mn_vi _
    rcases List.mem_cons.mp hq with e | hq
    · subst e; exact mn_vi _
    rcases List.mem_cons.mp hq with e | hq
    · subst e; exact mn_vi _
    cases hq) cq_sf_n (hi I L) e).2.2
  exact mn_of h
section mnS
variable {I L : Nat → Nat → Int} {R R' : Nat → Nat → Option Nat} {Y Y' : (Nat → Nat) × (Nat → Nat) × Nat}
theorem mn_I_b (h : mn_I R Y) {p k q' : Nat} (hp : p < Y.2.2) (e : R p k = some q') : q' < Y.2.2 := ((h (fun _ _ => 0) (fun _ _ => 0)).1 p k q' hp e).1
theorem mn_I_V (h : mn_I R Y) {p k : Nat} (hp : p < Y.2.2) (hq : ¬ p = 101) (hk : mn_fg (Y.1 p) k = false) : cq_V mn_pr Y.2.2 false (.inr (.inr (R p k))) := fun x e => by
  have e : R p k = some x := Sum.inr.inj (Sum.inr.inj e)
  have z := (h (fun _ _ => 0) (fun _ _ => 0)).1 p k x hp e
  refine ⟨z.1, fun _ => ?_⟩
  cases hx : mn_pr x with
  | false => rfl
  | true =>
    rcases z.2 hx with w | w | w
    · rw [mn_pr_n hq] at w; cases w
    · have w : mn_fg (Y.1 p) k = true := w
      rw [hk] at w
      cases w
    · cases w.1
theorem mn_I_w {a b : Nat} (h : mn_I R Y) (hR : ∀ p k, ¬ (p = a ∧ k = b) → R' p k = R p k) (hz : ∀ q', R' a b = some q' → q' < Y.2.2 ∧ ¬ q' = 101) : mn_I R' Y := fun I L => ⟨fun p k q' hp e => by
  have e : R' p k = some q' := e
  by_cases c : p = a ∧ k = b
  · obtain ⟨rfl, rfl⟩ := c
    exact ⟨(hz q' e).1, fun hq => absurd (Nat.eq_of_beq_eq_true hq) (hz q' e).2⟩
  · rw [hR p k c] at e
    exact (h I L).1 p k q' hp e, (h I L).2⟩
theorem mn_I_nw {z x : Nat} {I2 L2 : Nat → Nat → Int} (h : mn_I R Y) (m : yi_mkd z I L R Y I2 L2 R' Y' x) (hn : ∀ k, R' z k = none) : mn_I R' Y' := fun A B => by
  obtain ⟨m1, m2, m3, m4, m5, m6⟩ := m
  have h := h (fun _ _ => 0) (fun _ _ => 0)
  have ey : Y'.2.2 = Y.2.2 + 1 := by rw [m6, m1]
  refine ⟨fun p k q' hp e => ?_, fun p k hp => ?_, fun p hp => ?_, ?_⟩
  · have e : R' p k = some q' := e
    have hp : p < Y'.2.2 := hp
    by_cases c : p = z
    · subst c; rw [hn] at e; cases e
    · rw [(m2 p k c).2.2] at e
      have w := h.1 p k q' (show p < Y.2.2 by omega) e
      have w1 : q' < Y.2.2 := w.1
      refine ⟨show q' < Y'.2.2 by omega, fun hq => ?_⟩
      rw [show (A, B, R', Y').2.2.2.1 p = Y.1 p from (m4 p c).1]
      exact w.2 hq
  · have w := h.2.1 p k hp
    have w2 : p < Y.2.2 := w.2
    refine ⟨?_, show p < Y'.2.2 by omega⟩
    rw [show (A, B, R', Y').2.2.2.1 p = Y.1 p from (m4 p (by omega)).1]
    exact w.1
  · have w : p < Y.2.2 := h.2.2.1 p hp
    show p < Y'.2.2
    omega
  · have w : 10 ≤ Y.2.2 := h.2.2.2
    show 10 ≤ Y'.2.2
    omega
end mnS
