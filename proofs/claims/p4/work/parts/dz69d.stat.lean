/-! The static places of a land under the calls that change the story. -/
def cg_fg (c k : Nat) : Bool := ((Nat.beq c 0 && Nat.beq k 16) || ((Nat.beq c 1 && Nat.beq k 6) || ((Nat.beq c 4 && (Nat.beq k 0 || (Nat.beq k 3 || (Nat.beq k 4 || Nat.beq k 5)))) || (Nat.beq c 7 && Nat.beq k 0))))
def cg_fp (c k : Nat) : Bool := ((Nat.beq c 0 && Nat.ble k 16) || (Nat.beq c 4 && Nat.ble k 9))
def cg_F0 : List Nat := [139, 143, 145, 149, 152, 158, 165, 166, 169, 170, 173, 177, 180, 181, 189, 195, 198, 200, 201, 204, 205, 207, 208, 209, 225, 227, 228, 230, 231, 233, 234, 243, 244, 245, 247, 248, 249, 250, 252, 256, 257, 260, 265, 266, 268, 269]
def cg_F1 : List Nat := [271, 272, 273, 274, 275, 276, 278, 279, 280, 281, 286, 287, 289, 291, 292, 293, 294, 295, 296, 297, 299, 300, 301, 305, 306, 308, 309, 310, 311, 313, 314, 317, 319, 322, 323, 324, 325, 326, 327, 329, 330, 331]
def cg_ff (mi : Nat) : Bool := cg_F0.any (Nat.beq mi) || cg_F1.any (Nat.beq mi)
def cg_dr (mi : Nat) : Bool := ([314] : List Nat).any (Nat.beq mi)
def cg_vr (mi : Nat) : Bool := match zi_Ms[mi]? with | some M => M.2.2.2.1.isSome | none => false
def cg_da (mi : Nat) : List Bool := match mi with
  | 198 => [true]
  | 200 => [false, true]
  | 204 => [false, true]
  | 205 => [false, true]
  | 225 => [true]
  | 227 => [true]
  | 228 => [true]
  | 230 => [true]
  | 231 => [true]
  | 233 => [true]
  | 234 => [true]
  | 245 => [false, true]
  | 248 => [false, true]
  | 252 => [false, true]
  | 265 => [false, true]
  | 269 => [false, true]
  | _ => []
def cg_dk (mi : Nat) : List Nat := match mi with
  | 145 => [4]
  | 198 => [0]
  | 200 => [1, 2]
  | 204 => [1, 2]
  | 205 => [1, 2]
  | 225 => [0]
  | 227 => [0]
  | 228 => [0]
  | 230 => [0]
  | 231 => [0]
  | 233 => [0]
  | 234 => [0]
  | 245 => [1, 2]
  | 248 => [1, 2]
  | 252 => [1, 2]
  | 265 => [1, 2]
  | 269 => [1, 2]
  | 313 => [6]
  | 314 => [2]
  | _ => []
def cg_dl (mi j : Nat) : Bool := (cg_dk mi).any (Nat.beq j)
def cg_s139 (pc : Nat) : List Bool := match pc with
  | 15 => [true]
  | _ => []
def cg_s145 (pc : Nat) : List Bool := match pc with
  | 12 => [true]
  | 13 => [false, true]
  | 14 => [false, false, true]
  | 15 => [false, false, false, true]
  | 49 => [true]
  | 57 => [true]
  | 79 => [true]
  | 91 => [true]
  | _ => []
def cg_s158 (pc : Nat) : List Bool := match pc with
  | 8 => [true]
  | 18 => [true]
  | 31 => [true]
  | 52 => [true]
  | 54 => [false, true]
  | 75 => [true]
  | _ => []
def cg_s166 (pc : Nat) : List Bool := match pc with
  | 4 => [true]
  | 5 => [false, true]
  | _ => []
def cg_s177 (pc : Nat) : List Bool := match pc with
  | 17 => [true]
  | 18 => [false, true]
  | 21 => [false, true]
  | _ => []
def cg_s180 (pc : Nat) : List Bool := match pc with
  | 15 => [true]
  | 52 => [true]
  | 53 => [false, true]
  | 129 => [true]
  | 132 => [true]
  | 133 => [false, true]
  | 136 => [false, true]
  | 139 => [false, true]
  | 140 => [false, false, true]
  | 141 => [false, false, false, true]
  | 144 => [false, false, false, true]
  | 147 => [false, false, false, true]
  | _ => []
def cg_s198 (pc : Nat) : List Bool := match pc with
  | 6 => [true]
  | 14 => [true]
  | 17 => [true]
  | 22 => [true]
  | 25 => [true]
  | 26 => [false, true]
  | _ => []
def cg_s200 (pc : Nat) : List Bool := match pc with
  | 2 => [true]
  | 29 => [true]
  | 32 => [true]
  | 42 => [true]
  | 45 => [true]
  | 46 => [false, true]
  | _ => []
def cg_s204 (pc : Nat) : List Bool := match pc with
  | 27 => [true]
  | 28 => [false, true]
  | _ => []
def cg_s205 (pc : Nat) : List Bool := match pc with
  | 26 => [true]
  | 27 => [false, true]
  | _ => []
def cg_s225 (pc : Nat) : List Bool := match pc with
  | 12 => [true]
  | 17 => [true]
  | 19 => [false, true]
  | _ => []
def cg_s227 (pc : Nat) : List Bool := match pc with
  | 7 => [true]
  | _ => []
def cg_s228 (pc : Nat) : List Bool := match pc with
  | 6 => [true]
  | _ => []
def cg_s230 (pc : Nat) : List Bool := match pc with
  | 6 => [true]
  | _ => []
def cg_s231 (pc : Nat) : List Bool := match pc with
  | 6 => [true]
  | _ => []
def cg_s233 (pc : Nat) : List Bool := match pc with
  | 1 => [true]
  | 2 => [false, true]
  | 9 => [true]
  | 10 => [false, true]
  | 17 => [true]
  | 18 => [false, true]
  | _ => []
def cg_s234 (pc : Nat) : List Bool := match pc with
  | 1 => [true]
  | 2 => [false, true]
  | 9 => [true]
  | 12 => [true]
  | 13 => [false, true]
  | _ => []
def cg_s245 (pc : Nat) : List Bool := match pc with
  | 9 => [true]
  | 14 => [true]
  | 16 => [false, true]
  | 24 => [true]
  | 26 => [false, true]
  | _ => []
def cg_s248 (pc : Nat) : List Bool := match pc with
  | 2 => [true]
  | _ => []
def cg_s250 (pc : Nat) : List Bool := match pc with
  | 118 => [true]
  | _ => []
def cg_s252 (pc : Nat) : List Bool := match pc with
  | 2 => [true]
  | _ => []
def cg_s257 (pc : Nat) : List Bool := match pc with
  | 85 => [true]
  | 88 => [true]
  | 89 => [false, true]
  | 92 => [true, true]
  | 95 => [false, true]
  | 96 => [false, false, true]
  | 99 => [false, false, true]
  | _ => []
def cg_s260 (pc : Nat) : List Bool := match pc with
  | 31 => [true]
  | 34 => [true]
  | 35 => [false, true]
  | 38 => [true, true]
  | 41 => [false, true]
  | 73 => [true]
  | 76 => [true]
  | 77 => [false, true]
  | 80 => [true, true]
  | 83 => [false, true]
  | 93 => [true]
  | 96 => [true]
  | 97 => [false, true]
  | 100 => [true, true]
  | 103 => [false, true]
  | _ => []
def cg_s265 (pc : Nat) : List Bool := match pc with
  | 2 => [true]
  | 8 => [true]
  | 11 => [true]
  | 12 => [true, true]
  | 15 => [false, true]
  | 22 => [true]
  | 23 => [false, true]
  | 26 => [false, true]
  | _ => []
def cg_s266 (pc : Nat) : List Bool := match pc with
  | 28 => [true]
  | 31 => [true]
  | 32 => [false, true]
  | 35 => [true, true]
  | 38 => [false, true]
  | 59 => [true]
  | 62 => [true]
  | 63 => [false, true]
  | 66 => [true, true]
  | 69 => [false, true]
  | 136 => [true]
  | _ => []
def cg_s269 (pc : Nat) : List Bool := match pc with
  | 9 => [true]
  | 10 => [false, true]
  | 11 => [false, false, true]
  | 14 => [false, false, true]
  | _ => []
def cg_s313 (pc : Nat) : List Bool := match pc with
  | 19 => [true]
  | 27 => [true]
  | 29 => [false, true]
  | 30 => [true]
  | 34 => [true]
  | 38 => [true]
  | 50 => [true]
  | 53 => [true]
  | 59 => [true]
  | 62 => [true]
  | 64 => [false, true]
  | _ => []
def cg_s314 (pc : Nat) : List Bool := match pc with
  | 9 => [true]
  | 17 => [true]
  | 18 => [false, true]
  | 19 => [true]
  | 23 => [true]
  | 25 => [true]
  | 36 => [true]
  | _ => []
def cg_sa (mi pc : Nat) : List Bool := bif Nat.beq pc 0 then [] else match mi with
  | 139 => cg_s139 pc
  | 145 => cg_s145 pc
  | 158 => cg_s158 pc
  | 166 => cg_s166 pc
  | 177 => cg_s177 pc
  | 180 => cg_s180 pc
  | 198 => cg_s198 pc
  | 200 => cg_s200 pc
  | 204 => cg_s204 pc
  | 205 => cg_s205 pc
  | 225 => cg_s225 pc
  | 227 => cg_s227 pc
  | 228 => cg_s228 pc
  | 230 => cg_s230 pc
  | 231 => cg_s231 pc
  | 233 => cg_s233 pc
  | 234 => cg_s234 pc
  | 245 => cg_s245 pc
  | 248 => cg_s248 pc
  | 250 => cg_s250 pc
  | 252 => cg_s252 pc
  | 257 => cg_s257 pc
  | 260 => cg_s260 pc
  | 265 => cg_s265 pc
  | 266 => cg_s266 pc
  | 269 => cg_s269 pc
  | 313 => cg_s313 pc
  | 314 => cg_s314 pc
  | _ => []
theorem cg_t0 : cg_F0.all (fun mi => (match zi_Ms[mi]? with | some M => cq_dk (cg_dl mi) 0 (cg_da mi) && cq_tb cg_fg cg_fp false true (cg_dr mi) cg_ff cg_dr cg_vr cg_da (cg_dl mi) (cg_sa mi) M.2.2.2.2.1 | none => true)) = true := by decide +kernel
theorem cg_t1 : cg_F1.all (fun mi => (match zi_Ms[mi]? with | some M => cq_dk (cg_dl mi) 0 (cg_da mi) && cq_tb cg_fg cg_fp false true (cg_dr mi) cg_ff cg_dr cg_vr cg_da (cg_dl mi) (cg_sa mi) M.2.2.2.2.1 | none => true)) = true := by decide +kernel
theorem cg_im {mi : Nat} {M : zi_M} {l : List Nat} (h : l.any (Nat.beq mi) = true) (ha : l.all (fun mi => (match zi_Ms[mi]? with | some M => cq_dk (cg_dl mi) 0 (cg_da mi) && cq_tb cg_fg cg_fp false true (cg_dr mi) cg_ff cg_dr cg_vr cg_da (cg_dl mi) (cg_sa mi) M.2.2.2.2.1 | none => true)) = true) (hm : zi_Ms[mi]? = some M) : M.2.2.2.1.isSome = cg_vr mi ∧ cq_dk (cg_dl mi) 0 (cg_da mi) = true ∧ cq_tb cg_fg cg_fp false true (cg_dr mi) cg_ff cg_dr cg_vr cg_da (cg_dl mi) (cg_sa mi) M.2.2.2.2.1 = true := by
  obtain ⟨x, hx, e⟩ := List.any_eq_true.mp h
  have e := Nat.eq_of_beq_eq_true e
  subst e
  have z := List.all_eq_true.mp ha mi hx
  rw [hm] at z
  have z := (Bool.and_eq_true _ _).mp z
  refine ⟨?_, z.1, z.2⟩
  unfold cg_vr
  rw [hm]
theorem cg_M (mi : Nat) (M : zi_M) (h : cg_ff mi = true) (hm : zi_Ms[mi]? = some M) : M.2.2.2.1.isSome = cg_vr mi ∧ cq_dk (cg_dl mi) 0 (cg_da mi) = true ∧ cq_tb cg_fg cg_fp false true (cg_dr mi) cg_ff cg_dr cg_vr cg_da (cg_dl mi) (cg_sa mi) M.2.2.2.2.1 = true := by
  unfold cg_ff at h
  repeat rw [Bool.or_eq_true] at h
  rcases h with h | h
  · exact cg_im h cg_t0 hm
  · exact cg_im h cg_t1 hm
theorem cg_s0 (mi : Nat) : cg_sa mi 0 = [] := rfl
theorem cg_c2 (c k : Nat) (h : cg_fp c k = true) : c < 20 := by
  unfold cg_fp at h
  rw [Bool.or_eq_true, Bool.and_eq_true, Bool.and_eq_true] at h
  rcases h with h | h <;> (have := Nat.eq_of_beq_eq_true h.1; omega)
theorem cg_c1 (c k : Nat) (h : cg_fg c k = true) : c < 20 ∨ 26 < c := by
  unfold cg_fg at h
  rw [Bool.or_eq_true, Bool.or_eq_true, Bool.or_eq_true, Bool.and_eq_true, Bool.and_eq_true, Bool.and_eq_true, Bool.and_eq_true] at h
  rcases h with h | h | h | h <;> (have := Nat.eq_of_beq_eq_true h.1; omega)
def cg_ps (p k : Nat) : Bool := ((Nat.beq p 10 && Nat.ble k 16) || (Nat.beq p 34 && Nat.ble k 9))
/-- the static places; arrays of rows -/
def cg_pr (sg : Nat → Bool) (Y : (Nat → Nat) × (Nat → Nat) × Nat) (p : Nat) : Bool := sg p || (Nat.beq (Y.1 p) 24 && (Nat.ble 10 p && Nat.ble (p + 1) Y.2.2))
def cg_I (pr : Nat → Bool) (R : Nat → Nat → Option Nat) (Y : (Nat → Nat) × (Nat → Nat) × Nat) : Prop := (∀ q, pr q = true → 10 ≤ q) ∧ ∀ I L, cq_I pr cg_ps cg_fg cg_fp false (I, L, R, Y)
def cg_H (pr : Nat → Bool) (I L : Nat → Nat → Int) (R : Nat → Nat → Option Nat) (Y : (Nat → Nat) × (Nat → Nat) × Nat) (I' L' : Nat → Nat → Int) (R' : Nat → Nat → Option Nat) (Y' : (Nat → Nat) × (Nat → Nat) × Nat) : Prop := cg_I pr R' Y' ∧ (∀ p k, pr p = true ∨ cg_ps p k = true → I' p k = I p k ∧ L' p k = L p k ∧ R' p k = R p k) ∧ (∀ p, p < Y.2.2 → Y'.1 p = Y.1 p ∧ Y'.2.1 p = Y.2.1 p) ∧ Y.2.2 ≤ Y'.2.2
theorem cg_cl {pr : Nat → Bool} (h10 : ∀ q, pr q = true → 10 ≤ q) (n d : Nat) : cq_cl pr cg_ps cg_fg cg_fp false true cg_ff cg_dr cg_vr cg_da (yi_ev zi_Ms n d) := cq_all h10 cg_c1 cg_c2 cg_s0 cg_M n d
theorem cg_P {pr : Nat → Bool} {d mi : Nat} {vs : List yi_V} {I L : Nat → Nat → Int} {R : Nat → Nat → Option Nat} {Y : (Nat → Nat) × (Nat → Nat) × Nat} (hi : cg_I pr R Y) (hf : cg_ff mi = true) (hv : cq_vs pr Y.2.2 (cg_da mi) vs) : yi_P zi_Ms d mi vs (I, L, R, Y) (fun r => cg_H pr I L R Y r.2.1.1 r.2.1.2.1 r.2.1.2.2.1 r.2.1.2.2.2) := by
  intro n r e
  have h := (cg_cl hi.1 n d mi vs (I, L, R, Y) r hf hv (hi.2 I L) e).2.2
  exact ⟨⟨hi.1, fun _ _ => h.1⟩, fun p k hp => h.2.1 p k (hp.imp (fun a => ⟨a, rfl⟩) id), h.2.2.1, h.2.2.2⟩
theorem cg_v0 {pr : Nat → Bool} {N : Nat} {da : List Bool} : cq_vs pr N da [] := fun j v h => by cases h
theorem cg_vn {pr : Nat → Bool} {N : Nat} {v : yi_V} {vs : List yi_V} (h : cq_V pr N false v) (h2 : cq_vs pr N [] vs) : cq_vs pr N [] (v :: vs) := fun j w hw => by
  cases j with
  | zero => cases hw; exact h
  | succ j => exact h2 j w hw
theorem cg_vi {pr : Nat → Bool} {N : Nat} {f : Bool} (x : Int) : cq_V pr N f (.inl x) := cq_Vi x
theorem cg_vp {pr : Nat → Bool} {N p : Nat} {f : Bool} (hp : pr p = false) (hN : p < N) : cq_V pr N f (.inr (.inr (some p))) := fun x e => by
  have e : some p = some x := Sum.inr.inj (Sum.inr.inj e)
  cases e
  exact ⟨hN, fun _ => hp⟩
