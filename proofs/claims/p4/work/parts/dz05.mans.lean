/-! Answers alone: what calls that only answer leave of the check. -/
def cn_pr (p : Nat) : Bool := (Nat.beq p 88 || (Nat.beq p 89 || (Nat.beq p 90 || (Nat.beq p 98 || (Nat.beq p 100 || (Nat.beq p 101 || Nat.beq p 102))))))
def cn_ps (p k : Nat) : Bool := Nat.beq p 82 && (Nat.beq k 10 || (Nat.beq k 11 || (Nat.beq k 12 || (Nat.beq k 26 || (Nat.beq k 29 || (Nat.beq k 31 || (Nat.beq k 32 || (Nat.beq k 18 || (Nat.beq k 24 || (Nat.beq k 25 || Nat.beq k 30))))))))))
def cn_fg (c k : Nat) : Bool := Nat.beq c 11 && (Nat.beq k 10 || (Nat.beq k 11 || (Nat.beq k 12 || (Nat.beq k 26 || (Nat.beq k 29 || (Nat.beq k 31 || Nat.beq k 32))))))
def cn_fp (c k : Nat) : Bool := Nat.beq c 11 && (Nat.beq k 10 || (Nat.beq k 11 || (Nat.beq k 12 || (Nat.beq k 26 || (Nat.beq k 29 || (Nat.beq k 31 || (Nat.beq k 32 || (Nat.beq k 18 || (Nat.beq k 24 || (Nat.beq k 25 || Nat.beq k 30))))))))))
def cn_F0 : List Nat := [2, 3, 5, 7, 8, 9, 14, 15, 17, 18, 19, 20, 22, 23, 24, 25, 27, 28, 29, 30, 31, 33, 34, 35, 36, 38, 41, 43, 44, 45, 46, 47, 48, 49, 51, 52, 53, 57, 58, 59, 60, 61, 65, 66, 68, 69]
def cn_F1 : List Nat := [70, 71, 73, 74, 76, 77, 78, 79, 80, 81, 83, 84, 85, 86, 88, 91, 106, 107, 109, 110, 113, 121, 125, 126, 127, 128, 129, 130, 131, 132, 133, 137, 139, 140, 141, 142, 143, 144, 145, 146, 147, 148, 149, 150, 151, 152]
def cn_F2 : List Nat := [153, 154, 155, 156, 157, 158, 159, 160, 161, 162, 163, 164, 165, 166, 167, 168, 169, 170, 171, 172, 173, 174, 175, 176, 177, 178, 179, 180, 181, 182, 183, 184, 185, 186, 187, 188, 189, 190, 191, 193, 194, 195, 196, 197, 198, 199]
def cn_F3 : List Nat := [200, 201, 202, 203, 204, 205, 206, 207, 208, 209, 210, 211, 213, 214, 215, 216, 217, 218, 219, 220, 221, 222, 223, 224, 225, 226, 227, 228, 229, 230, 231, 232, 233, 234, 235, 236, 237, 238, 239, 240, 241, 243, 244, 245, 247, 248]
def cn_F4 : List Nat := [249, 250, 251, 252, 253, 254, 255, 256, 257, 258, 259, 260, 261, 262, 263, 264, 265, 266, 267, 268, 269, 270, 271, 272, 273, 274, 275, 276, 277, 278, 279, 280, 281, 282, 283, 284, 285, 286, 287, 288, 289, 291, 292, 293, 294, 295]
def cn_F5 : List Nat := [296, 297, 299, 300, 301, 303, 304, 305, 306, 307, 308, 309, 310, 311, 312, 313, 314, 315, 316, 317, 318, 319, 322, 323, 324, 325, 326, 327, 329, 330, 331, 332]
def cn_ff (mi : Nat) : Bool := cn_F0.any (Nat.beq mi) || cn_F1.any (Nat.beq mi) || cn_F2.any (Nat.beq mi) || cn_F3.any (Nat.beq mi) || cn_F4.any (Nat.beq mi) || cn_F5.any (Nat.beq mi)
def cn_dr (mi : Nat) : Bool := ([] : List Nat).any (Nat.beq mi)
def cn_vr (mi : Nat) : Bool := match zi_Ms[mi]? with | some M => M.2.2.2.1.isSome | none => false
def cn_da (mi : Nat) : List Bool := match mi with
  | _ => []
def cn_dk (mi : Nat) : List Nat := match mi with
  | _ => []
def cn_dl (mi j : Nat) : Bool := (cn_dk mi).any (Nat.beq j)
def cn_s2 (pc : Nat) : List Bool := match pc with
  | 9 => [true]
  | 10 => [false, true]
  | _ => []
def cn_s3 (pc : Nat) : List Bool := match pc with
  | 35 => [true]
  | 36 => [false, true]
  | 53 => [true]
  | 54 => [false, true]
  | 74 => [true]
  | 76 => [false, true]
  | 77 => [false, false, true]
  | 79 => [false, false, false, true]
  | 80 => [false, false, true]
  | 81 => [false, true]
  | 82 => [false, false, true]
  | 83 => [false, true]
  | _ => []
def cn_s7 (pc : Nat) : List Bool := match pc with
  | 25 => [true]
  | 27 => [false, true]
  | 28 => [false, false, true]
  | 31 => [false, false, true]
  | 32 => [false, false, false, true]
  | 33 => [false, false, false, false, true]
  | 34 => [false, false, false, true]
  | 35 => [false, false, true]
  | 36 => [false, true]
  | 37 => [false, false, true]
  | 38 => [false, true]
  | _ => []
def cn_s8 (pc : Nat) : List Bool := match pc with
  | 15 => [true]
  | 16 => [false, true]
  | _ => []
def cn_s9 (pc : Nat) : List Bool := match pc with
  | 24 => [true]
  | 25 => [false, true]
  | _ => []
def cn_s15 (pc : Nat) : List Bool := match pc with
  | 87 => [true]
  | 88 => [false, true]
  | 94 => [true]
  | 95 => [false, true]
  | 101 => [true]
  | 102 => [false, true]
  | 108 => [true]
  | 109 => [false, true]
  | 115 => [true]
  | 116 => [false, true]
  | 122 => [true]
  | 123 => [false, true]
  | 129 => [true]
  | 130 => [false, true]
  | _ => []
def cn_s17 (pc : Nat) : List Bool := match pc with
  | 4 => [true]
  | 5 => [false, true]
  | _ => []
def cn_s18 (pc : Nat) : List Bool := match pc with
  | 8 => [true]
  | 9 => [false, true]
  | _ => []
def cn_s22 (pc : Nat) : List Bool := match pc with
  | 4 => [true]
  | 5 => [false, true]
  | _ => []
def cn_s23 (pc : Nat) : List Bool := match pc with
  | 5 => [true]
  | 6 => [false, true]
  | _ => []
def cn_s33 (pc : Nat) : List Bool := match pc with
  | 62 => [true]
  | 63 => [false, true]
  | _ => []
def cn_s52 (pc : Nat) : List Bool := match pc with
  | 5 => [true]
  | 7 => [false, true]
  | 8 => [false, false, true]
  | 9 => [false, false, false, true]
  | 10 => [false, false, true]
  | 11 => [false, true]
  | _ => []
def cn_s59 (pc : Nat) : List Bool := match pc with
  | 9 => [true]
  | 10 => [false, true]
  | _ => []
def cn_s60 (pc : Nat) : List Bool := match pc with
  | 9 => [true]
  | 10 => [false, true]
  | _ => []
def cn_s68 (pc : Nat) : List Bool := match pc with
  | 35 => [true]
  | 36 => [false, true]
  | _ => []
def cn_s69 (pc : Nat) : List Bool := match pc with
  | 9 => [true]
  | 10 => [false, true]
  | _ => []
def cn_s70 (pc : Nat) : List Bool := match pc with
  | 4 => [true]
  | 6 => [false, true]
  | 7 => [false, false, true]
  | 8 => [false, false, false, true]
  | 9 => [false, false, true]
  | 10 => [false, true]
  | _ => []
def cn_s71 (pc : Nat) : List Bool := match pc with
  | 35 => [true]
  | 36 => [false, true]
  | 45 => [true]
  | 47 => [false, true]
  | 48 => [false, false, true]
  | 50 => [false, false, false, true]
  | 51 => [false, false, true]
  | 52 => [false, true]
  | 93 => [true]
  | 94 => [false, true]
  | _ => []
def cn_s74 (pc : Nat) : List Bool := match pc with
  | 32 => [true]
  | 34 => [false, true]
  | 36 => [false, false, true]
  | 37 => [false, true]
  | 54 => [true]
  | 56 => [false, true]
  | 58 => [false, false, true]
  | 59 => [false, true]
  | 79 => [true]
  | 80 => [false, true]
  | _ => []
def cn_s76 (pc : Nat) : List Bool := match pc with
  | 38 => [true]
  | 39 => [false, true]
  | _ => []
def cn_s83 (pc : Nat) : List Bool := match pc with
  | 4 => [true]
  | 6 => [false, true]
  | 7 => [false, false, true]
  | 8 => [false, false, false, true]
  | 9 => [false, false, true]
  | 10 => [false, true]
  | 19 => [true]
  | 21 => [false, true]
  | 22 => [false, false, true]
  | 23 => [false, true]
  | 28 => [true]
  | 30 => [false, true]
  | 31 => [false, false, true]
  | 32 => [false, false, false, true]
  | 33 => [false, false, true]
  | 34 => [false, true]
  | 35 => [false, false, true]
  | 36 => [false, true]
  | _ => []
def cn_s88 (pc : Nat) : List Bool := match pc with
  | 4 => [true]
  | 5 => [false, true]
  | _ => []
def cn_s91 (pc : Nat) : List Bool := match pc with
  | 35 => [true]
  | 36 => [false, true]
  | 50 => [true]
  | 52 => [false, true]
  | 53 => [false, false, true]
  | 55 => [false, false, false, true]
  | 56 => [false, false, true]
  | 57 => [false, true]
  | 87 => [true]
  | 88 => [false, true]
  | 102 => [true]
  | 104 => [false, true]
  | 105 => [false, false, true]
  | 107 => [false, false, false, true]
  | 108 => [false, false, true]
  | 109 => [false, true]
  | 151 => [true]
  | 152 => [false, true]
  | 153 => [false, false, true]
  | 154 => [false, true]
  | _ => []
def cn_s107 (pc : Nat) : List Bool := match pc with
  | 46 => [true]
  | 48 => [false, true]
  | 49 => [false, false, true]
  | 50 => [false, false, false, true]
  | 51 => [false, false, true]
  | 52 => [false, true]
  | 53 => [false, false, true]
  | 54 => [false, false, false, true]
  | 57 => [false, true]
  | 58 => [false, false, true]
  | 61 => [false, true]
  | 62 => [false, false, true]
  | 63 => [false, true]
  | _ => []
def cn_s109 (pc : Nat) : List Bool := match pc with
  | 14 => [true]
  | 15 => [false, true]
  | 23 => [true]
  | 25 => [false, true]
  | 26 => [false, false, true]
  | 27 => [false, false, false, true]
  | 28 => [false, false, true]
  | 29 => [false, true]
  | 30 => [false, false, true]
  | 31 => [false, true]
  | 48 => [true]
  | 49 => [false, true]
  | 59 => [true]
  | 61 => [false, true]
  | 62 => [false, false, true]
  | 64 => [false, false, false, true]
  | 65 => [false, false, true]
  | 66 => [false, true]
  | 67 => [false, false, true]
  | 68 => [false, true]
  | 105 => [true]
  | 107 => [false, true]
  | 109 => [false, false, true]
  | 110 => [false, true]
  | _ => []
def cn_s113 (pc : Nat) : List Bool := match pc with
  | 9 => [true]
  | 10 => [false, true]
  | _ => []
def cn_s121 (pc : Nat) : List Bool := match pc with
  | 17 => [true]
  | 19 => [false, true]
  | 20 => [false, false, true]
  | 21 => [false, true]
  | _ => []
def cn_s127 (pc : Nat) : List Bool := match pc with
  | 14 => [true]
  | 15 => [false, true]
  | _ => []
def cn_s129 (pc : Nat) : List Bool := match pc with
  | 9 => [true]
  | 10 => [false, true]
  | 18 => [true]
  | 20 => [false, true]
  | 21 => [false, false, true]
  | 23 => [false, false, false, true]
  | 24 => [false, false, true]
  | 25 => [false, true]
  | _ => []
def cn_s130 (pc : Nat) : List Bool := match pc with
  | 11 => [true]
  | 12 => [false, true]
  | 46 => [true]
  | 48 => [false, true]
  | 49 => [false, false, true]
  | 50 => [false, false, false, true]
  | 51 => [false, false, true]
  | 52 => [false, true]
  | 53 => [false, false, true]
  | 54 => [false, true]
  | _ => []
def cn_s137 (pc : Nat) : List Bool := match pc with
  | 39 => [true]
  | 40 => [false, true]
  | 111 => [true]
  | 112 => [false, true]
  | _ => []
def cn_sa (mi pc : Nat) : List Bool := bif Nat.beq pc 0 then [] else match mi with
  | 2 => cn_s2 pc
  | 3 => cn_s3 pc
  | 7 => cn_s7 pc
  | 8 => cn_s8 pc
  | 9 => cn_s9 pc
  | 15 => cn_s15 pc
  | 17 => cn_s17 pc
  | 18 => cn_s18 pc
  | 22 => cn_s22 pc
  | 23 => cn_s23 pc
  | 33 => cn_s33 pc
  | 52 => cn_s52 pc
  | 59 => cn_s59 pc
  | 60 => cn_s60 pc
  | 68 => cn_s68 pc
  | 69 => cn_s69 pc
  | 70 => cn_s70 pc
  | 71 => cn_s71 pc
  | 74 => cn_s74 pc
  | 76 => cn_s76 pc
  | 83 => cn_s83 pc
  | 88 => cn_s88 pc
  | 91 => cn_s91 pc
  | 107 => cn_s107 pc
  | 109 => cn_s109 pc
  | 113 => cn_s113 pc
  | 121 => cn_s121 pc
  | 127 => cn_s127 pc
  | 129 => cn_s129 pc
  | 130 => cn_s130 pc
  | 137 => cn_s137 pc
  | _ => []
theorem cn_t0 : cn_F0.all (fun mi => (match zi_Ms[mi]? with | some M => cq_dk (cn_dl mi) 0 (cn_da mi) && cq_tb cn_fg cn_fp false true (cn_dr mi) cn_ff cn_dr cn_vr cn_da (cn_dl mi) (cn_sa mi) M.2.2.2.2.1 | none => true)) = true := by decide +kernel
theorem cn_t1 : cn_F1.all (fun mi => (match zi_Ms[mi]? with | some M => cq_dk (cn_dl mi) 0 (cn_da mi) && cq_tb cn_fg cn_fp false true (cn_dr mi) cn_ff cn_dr cn_vr cn_da (cn_dl mi) (cn_sa mi) M.2.2.2.2.1 | none => true)) = true := by decide +kernel
theorem cn_t2 : cn_F2.all (fun mi => (match zi_Ms[mi]? with | some M => cq_dk (cn_dl mi) 0 (cn_da mi) && cq_tb cn_fg cn_fp false true (cn_dr mi) cn_ff cn_dr cn_vr cn_da (cn_dl mi) (cn_sa mi) M.2.2.2.2.1 | none => true)) = true := by decide +kernel
theorem cn_t3 : cn_F3.all (fun mi => (match zi_Ms[mi]? with | some M => cq_dk (cn_dl mi) 0 (cn_da mi) && cq_tb cn_fg cn_fp false true (cn_dr mi) cn_ff cn_dr cn_vr cn_da (cn_dl mi) (cn_sa mi) M.2.2.2.2.1 | none => true)) = true := by decide +kernel
theorem cn_t4 : cn_F4.all (fun mi => (match zi_Ms[mi]? with | some M => cq_dk (cn_dl mi) 0 (cn_da mi) && cq_tb cn_fg cn_fp false true (cn_dr mi) cn_ff cn_dr cn_vr cn_da (cn_dl mi) (cn_sa mi) M.2.2.2.2.1 | none => true)) = true := by decide +kernel
theorem cn_t5 : cn_F5.all (fun mi => (match zi_Ms[mi]? with | some M => cq_dk (cn_dl mi) 0 (cn_da mi) && cq_tb cn_fg cn_fp false true (cn_dr mi) cn_ff cn_dr cn_vr cn_da (cn_dl mi) (cn_sa mi) M.2.2.2.2.1 | none => true)) = true := by decide +kernel
theorem cn_in {mi : Nat} {M : zi_M} {l : List Nat} (h : l.any (Nat.beq mi) = true) (ha : l.all (fun mi => (match zi_Ms[mi]? with | some M => cq_dk (cn_dl mi) 0 (cn_da mi) && cq_tb cn_fg cn_fp false true (cn_dr mi) cn_ff cn_dr cn_vr cn_da (cn_dl mi) (cn_sa mi) M.2.2.2.2.1 | none => true)) = true) (hm : zi_Ms[mi]? = some M) : M.2.2.2.1.isSome = cn_vr mi ∧ cq_dk (cn_dl mi) 0 (cn_da mi) = true ∧ cq_tb cn_fg cn_fp false true (cn_dr mi) cn_ff cn_dr cn_vr cn_da (cn_dl mi) (cn_sa mi) M.2.2.2.2.1 = true := by
  obtain ⟨x, hx, e⟩ := List.any_eq_true.mp h
  have e := Nat.eq_of_beq_eq_true e
  subst e
  have z := List.all_eq_true.mp ha mi hx
  rw [hm] at z
  have z := (Bool.and_eq_true _ _).mp z
  refine ⟨?_, z.1, z.2⟩
  unfold cn_vr
  rw [hm]
theorem cn_M (mi : Nat) (M : zi_M) (h : cn_ff mi = true) (hm : zi_Ms[mi]? = some M) : M.2.2.2.1.isSome = cn_vr mi ∧ cq_dk (cn_dl mi) 0 (cn_da mi) = true ∧ cq_tb cn_fg cn_fp false true (cn_dr mi) cn_ff cn_dr cn_vr cn_da (cn_dl mi) (cn_sa mi) M.2.2.2.2.1 = true := by
  unfold cn_ff at h
  repeat rw [Bool.or_eq_true] at h
  rcases h with ((((h | h) | h) | h) | h) | h
  · exact cn_in h cn_t0 hm
  · exact cn_in h cn_t1 hm
  · exact cn_in h cn_t2 hm
  · exact cn_in h cn_t3 hm
  · exact cn_in h cn_t4 hm
  · exact cn_in h cn_t5 hm
theorem cn_s0 (mi : Nat) : cn_sa mi 0 = [] := rfl
theorem cn_10 (p : Nat) (h : cn_pr p = true) : 10 ≤ p := by
  by_cases c : 10 ≤ p
  · exact c
  · exfalso
    have e : p = 0 ∨ p = 1 ∨ p = 2 ∨ p = 3 ∨ p = 4 ∨ p = 5 ∨ p = 6 ∨ p = 7 ∨ p = 8 ∨ p = 9 := by omega
    rcases e with e | e | e | e | e | e | e | e | e | e <;> (subst e; cases h)
theorem cn_c1 (c k : Nat) (h : cn_fg c k = true) : c < 20 ∨ 26 < c := by
  unfold cn_fg at h
  rw [Bool.and_eq_true] at h
  have := Nat.eq_of_beq_eq_true h.1
  omega
theorem cn_c2 (c k : Nat) (h : cn_fp c k = true) : c < 20 := by
  unfold cn_fp at h
  rw [Bool.and_eq_true] at h
  have := Nat.eq_of_beq_eq_true h.1
  omega
def cn_I (R : Nat → Nat → Option Nat) (Y : (Nat → Nat) × (Nat → Nat) × Nat) : Prop := ∀ I L, cq_I cn_pr cn_ps cn_fg cn_fp false (I, L, R, Y)
def cn_H (I L : Nat → Nat → Int) (I' L' : Nat → Nat → Int) (R' : Nat → Nat → Option Nat) (Y' : (Nat → Nat) × (Nat → Nat) × Nat) : Prop := cn_I R' Y' ∧ ((∀ p k, cn_pr p = true → I' p k = I p k ∧ L' p k = L p k) ∧ (∀ p k, cn_ps p k = true → I' p k = I p k))
theorem cn_of {I L : Nat → Nat → Int} {R : Nat → Nat → Option Nat} {Y : (Nat → Nat) × (Nat → Nat) × Nat} {H' : yi_H} (h : cq_H cn_pr cn_ps cn_fg cn_fp false true (I, L, R, Y) H') : cn_H I L H'.1 H'.2.1 H'.2.2.1 H'.2.2.2 := ⟨fun _ _ => h.1, fun p k hp => ⟨(h.2.1 p k (Or.inl ⟨hp, rfl⟩)).1, (h.2.1 p k (Or.inl ⟨hp, rfl⟩)).2.1⟩, fun p k hp => (h.2.1 p k (Or.inr hp)).1⟩
theorem cn_cl (n d : Nat) : cq_cl cn_pr cn_ps cn_fg cn_fp false true cn_ff cn_dr cn_vr cn_da (yi_ev zi_Ms n d) := cq_all cn_10 cn_c1 cn_c2 cn_s0 cn_M n d
theorem cn_P {d mi : Nat} {vs : List yi_V} {I L : Nat → Nat → Int} {R : Nat → Nat → Option Nat} {Y : (Nat → Nat) × (Nat → Nat) × Nat} (hi : cn_I R Y) (hf : cn_ff mi = true) (hv : cq_vs cn_pr Y.2.2 (cn_da mi) vs) : yi_P zi_Ms d mi vs (I, L, R, Y) (fun r => cn_H I L r.2.1.1 r.2.1.2.1 r.2.1.2.2.1 r.2.1.2.2.2) := by
  intro n r e
  exact cn_of (cn_cl n d mi vs (I, L, R, Y) r hf hv (hi I L) e).2.2
theorem cn_v0 {N : Nat} {da : List Bool} : cq_vs cn_pr N da [] := fun j v h => by cases h
theorem cn_vn {N : Nat} {v : yi_V} {vs : List yi_V} (h : cq_V cn_pr N false v) (h2 : cq_vs cn_pr N [] vs) : cq_vs cn_pr N [] (v :: vs) := fun j w hw => by
  cases j with
  | zero => cases hw; exact h
  | succ j => exact h2 j w hw
theorem cn_vi {N : Nat} {f : Bool} (x : Int) : cq_V cn_pr N f (.inl x) := cq_Vi x
theorem cn_vl {N : Nat} {f : Bool} (x : Int) : cq_V cn_pr N f (.inr (.inl x)) := cq_Vl x
theorem cn_v82 {N : Nat} {f : Bool} (hN : 82 < N) : cq_V cn_pr N f (.inr (.inr (some 82))) := fun x e => by
  have e : some 82 = some x := Sum.inr.inj (Sum.inr.inj e)
  cases e
  exact ⟨hN, fun _ => rfl⟩
theorem cn_tg : cq_tb cn_fg cn_fp false true false cn_ff cn_dr cn_vr cn_da (fun _ => false) (fun _ => []) zi_mg.2.2.2.2.1 = true := by decide +kernel
theorem cn_vp {N p : Nat} {f : Bool} (hq : p < 88) (hN : p < N) : cq_V cn_pr N f (.inr (.inr (some p))) := fun x e => by
  have e : some p = some x := Sum.inr.inj (Sum.inr.inj e)
  cases e
  refine ⟨hN, fun _ => ?_⟩
  cases h : cn_pr p with
  | false => rfl
  | true =>
    unfold cn_pr at h
    repeat rw [Bool.or_eq_true] at h
    rcases h with h | h | h | h | h | h | h <;> (have := Nat.eq_of_beq_eq_true h; omega)
theorem cn_first {d k : Nat} {I L : Nat → Nat → Int} {R : Nat → Nat → Option Nat} {Y : (Nat → Nat) × (Nat → Nat) × Nat} (hi : cn_I R Y) {x y w : Int} (hY : 11 ≤ Y.2.2) : yi_D zi_Ms d zi_mg k (0, [(0, .inr (.inr (some 10))), (1, .inl x), (2, .inl y), (3, .inl w)], [], (I, L, R, Y), 0, 0) (fun r => cn_H I L r.2.1.1 r.2.1.2.1 r.2.1.2.2.1 r.2.1.2.2.2) := by
  intro n j r _ e
  have h := (cq_loop (dl := fun _ => false) (sa := fun _ => []) (rd := false) (rv := zi_mg.2.2.2.1.isSome) cn_10 cn_c1 cn_c2 (cn_cl n d) cn_tg rfl j (0, [(0, .inr (.inr (some 10))), (1, .inl x), (2, .inl y), (3, .inl w)], [], (I, L, R, Y), 0, 0) (fun q hq => by
    rcases List.mem_cons.mp hq with e | hq
    · subst e; exact cn_vp (by omega) (by show 10 < Y.2.2; omega)
    rcases List.mem_cons.mp hq with e | hq
    · subst e; exact cn_vi _
    rcases List.mem_cons.mp hq with e | hq
    · subst e; exact cn_vi _
    rcases List.mem_cons.mp hq with e | hq
    · subst e; exact cn_vi _
    cases hq) cq_sf_n (hi I L) e).2.2
  exact cn_of h
