/-! What begins leaves of the check: the land, its codes, its names. -/
def bn_pr (p : Nat) : Bool := (Nat.beq p 88 || (Nat.beq p 89 || (Nat.beq p 90 || (Nat.beq p 91 || Nat.beq p 93))))
def bn_ps (p k : Nat) : Bool := Nat.beq p 82 && (Nat.beq k 10 || (Nat.beq k 11 || (Nat.beq k 12 || (Nat.beq k 14 || (Nat.beq k 16 || (Nat.beq k 2 || Nat.beq k 18))))))
def bn_fg (c k : Nat) : Bool := Nat.beq c 11 && (Nat.beq k 10 || (Nat.beq k 11 || (Nat.beq k 12 || (Nat.beq k 14 || Nat.beq k 16))))
def bn_fp (c k : Nat) : Bool := Nat.beq c 11 && (Nat.beq k 10 || (Nat.beq k 11 || (Nat.beq k 12 || (Nat.beq k 14 || (Nat.beq k 16 || (Nat.beq k 2 || Nat.beq k 18))))))
def bn_F0 : List Nat := [4, 6, 11, 17, 22, 32, 35, 37, 38, 42, 43, 56, 70, 75, 76, 88, 108, 135]
def bn_ff (mi : Nat) : Bool := bn_F0.any (Nat.beq mi)
def bn_dr (mi : Nat) : Bool := ([] : List Nat).any (Nat.beq mi)
def bn_vr (mi : Nat) : Bool := match zi_Ms[mi]? with | some M => M.2.2.2.1.isSome | none => false
def bn_da (mi : Nat) : List Bool := match mi with
  | _ => []
def bn_dk (mi : Nat) : List Nat := match mi with
  | _ => []
def bn_dl (mi j : Nat) : Bool := (bn_dk mi).any (Nat.beq j)
def bn_s4 (pc : Nat) : List Bool := match pc with
  | 66 => [true]
  | 68 => [false, true]
  | 69 => [false, false, true]
  | 70 => [false, false, false, true]
  | 71 => [false, false, true]
  | 72 => [false, true]
  | 73 => [false, false, true]
  | 74 => [false, true]
  | _ => []
def bn_s17 (pc : Nat) : List Bool := match pc with
  | 4 => [true]
  | 5 => [false, true]
  | _ => []
def bn_s22 (pc : Nat) : List Bool := match pc with
  | 4 => [true]
  | 5 => [false, true]
  | _ => []
def bn_s32 (pc : Nat) : List Bool := match pc with
  | 176 => [true]
  | 177 => [false, true]
  | 191 => [true]
  | 193 => [false, true]
  | 195 => [false, false, true]
  | 196 => [false, true]
  | 241 => [true]
  | 242 => [false, true]
  | 250 => [true]
  | 252 => [false, true]
  | 253 => [false, false, true]
  | 254 => [false, false, false, true]
  | 255 => [false, false, true]
  | 256 => [false, true]
  | 268 => [true]
  | 270 => [false, true]
  | 271 => [false, false, true]
  | 272 => [false, false, false, true]
  | 273 => [false, false, true]
  | 274 => [false, true]
  | 275 => [false, false, true]
  | 276 => [false, true]
  | _ => []
def bn_s56 (pc : Nat) : List Bool := match pc with
  | 8 => [true]
  | 9 => [false, true]
  | 21 => [true]
  | 22 => [false, true]
  | 32 => [true]
  | 33 => [false, true]
  | 46 => [true]
  | 47 => [false, true]
  | _ => []
def bn_s70 (pc : Nat) : List Bool := match pc with
  | 4 => [true]
  | 6 => [false, true]
  | 7 => [false, false, true]
  | 8 => [false, false, false, true]
  | 9 => [false, false, true]
  | 10 => [false, true]
  | _ => []
def bn_s88 (pc : Nat) : List Bool := match pc with
  | 4 => [true]
  | 5 => [false, true]
  | _ => []
def bn_s135 (pc : Nat) : List Bool := match pc with
  | 8 => [true]
  | 9 => [false, true]
  | 17 => [true]
  | 18 => [false, true]
  | 48 => [true]
  | 49 => [false, true]
  | 61 => [true]
  | 62 => [false, true]
  | 88 => [true]
  | 89 => [false, true]
  | _ => []
def bn_sa (mi pc : Nat) : List Bool := bif Nat.beq pc 0 then [] else match mi with
  | 4 => bn_s4 pc
  | 17 => bn_s17 pc
  | 22 => bn_s22 pc
  | 32 => bn_s32 pc
  | 56 => bn_s56 pc
  | 70 => bn_s70 pc
  | 88 => bn_s88 pc
  | 135 => bn_s135 pc
  | _ => []
theorem bn_t0 : bn_F0.all (fun mi => (match zi_Ms[mi]? with | some M => cq_dk (bn_dl mi) 0 (bn_da mi) && cq_tb bn_fg bn_fp false true (bn_dr mi) bn_ff bn_dr bn_vr bn_da (bn_dl mi) (bn_sa mi) M.2.2.2.2.1 | none => true)) = true := by decide +kernel
theorem bn_in {mi : Nat} {M : zi_M} {l : List Nat} (h : l.any (Nat.beq mi) = true) (ha : l.all (fun mi => (match zi_Ms[mi]? with | some M => cq_dk (bn_dl mi) 0 (bn_da mi) && cq_tb bn_fg bn_fp false true (bn_dr mi) bn_ff bn_dr bn_vr bn_da (bn_dl mi) (bn_sa mi) M.2.2.2.2.1 | none => true)) = true) (hm : zi_Ms[mi]? = some M) : M.2.2.2.1.isSome = bn_vr mi ∧ cq_dk (bn_dl mi) 0 (bn_da mi) = true ∧ cq_tb bn_fg bn_fp false true (bn_dr mi) bn_ff bn_dr bn_vr bn_da (bn_dl mi) (bn_sa mi) M.2.2.2.2.1 = true := by
  obtain ⟨x, hx, e⟩ := List.any_eq_true.mp h
  have e := Nat.eq_of_beq_eq_true e
  subst e
  have z := List.all_eq_true.mp ha mi hx
  rw [hm] at z
  have z := (Bool.and_eq_true _ _).mp z
  refine ⟨?_, z.1, z.2⟩
  unfold bn_vr
  rw [hm]
theorem bn_M (mi : Nat) (M : zi_M) (h : bn_ff mi = true) (hm : zi_Ms[mi]? = some M) : M.2.2.2.1.isSome = bn_vr mi ∧ cq_dk (bn_dl mi) 0 (bn_da mi) = true ∧ cq_tb bn_fg bn_fp false true (bn_dr mi) bn_ff bn_dr bn_vr bn_da (bn_dl mi) (bn_sa mi) M.2.2.2.2.1 = true := by
  unfold bn_ff at h
  repeat rw [Bool.or_eq_true] at h
  exact bn_in h bn_t0 hm
theorem bn_s0 (mi : Nat) : bn_sa mi 0 = [] := rfl
theorem bn_10 (p : Nat) (h : bn_pr p = true) : 10 ≤ p := by
  by_cases c : 10 ≤ p
  · exact c
  · exfalso
    have e : p = 0 ∨ p = 1 ∨ p = 2 ∨ p = 3 ∨ p = 4 ∨ p = 5 ∨ p = 6 ∨ p = 7 ∨ p = 8 ∨ p = 9 := by omega
    rcases e with e | e | e | e | e | e | e | e | e | e <;> (subst e; cases h)
theorem bn_c1 (c k : Nat) (h : bn_fg c k = true) : c < 20 ∨ 26 < c := by
  unfold bn_fg at h
  rw [Bool.and_eq_true] at h
  have := Nat.eq_of_beq_eq_true h.1
  omega
theorem bn_c2 (c k : Nat) (h : bn_fp c k = true) : c < 20 := by
  unfold bn_fp at h
  rw [Bool.and_eq_true] at h
  have := Nat.eq_of_beq_eq_true h.1
  omega
def bn_I (R : Nat → Nat → Option Nat) (Y : (Nat → Nat) × (Nat → Nat) × Nat) : Prop := ∀ I L, cq_I bn_pr bn_ps bn_fg bn_fp false (I, L, R, Y)
def bn_H (I L : Nat → Nat → Int) (I' L' : Nat → Nat → Int) (R' : Nat → Nat → Option Nat) (Y' : (Nat → Nat) × (Nat → Nat) × Nat) : Prop := bn_I R' Y' ∧ ((∀ p k, bn_pr p = true → I' p k = I p k ∧ L' p k = L p k) ∧ (∀ p k, bn_ps p k = true → I' p k = I p k))
theorem bn_of {I L : Nat → Nat → Int} {R : Nat → Nat → Option Nat} {Y : (Nat → Nat) × (Nat → Nat) × Nat} {H' : yi_H} (h : cq_H bn_pr bn_ps bn_fg bn_fp false true (I, L, R, Y) H') : bn_H I L H'.1 H'.2.1 H'.2.2.1 H'.2.2.2 := ⟨fun _ _ => h.1, fun p k hp => ⟨(h.2.1 p k (Or.inl ⟨hp, rfl⟩)).1, (h.2.1 p k (Or.inl ⟨hp, rfl⟩)).2.1⟩, fun p k hp => (h.2.1 p k (Or.inr hp)).1⟩
theorem bn_cl (n d : Nat) : cq_cl bn_pr bn_ps bn_fg bn_fp false true bn_ff bn_dr bn_vr bn_da (yi_ev zi_Ms n d) := cq_all bn_10 bn_c1 bn_c2 bn_s0 bn_M n d
theorem bn_P {d mi : Nat} {vs : List yi_V} {I L : Nat → Nat → Int} {R : Nat → Nat → Option Nat} {Y : (Nat → Nat) × (Nat → Nat) × Nat} (hi : bn_I R Y) (hf : bn_ff mi = true) (hv : cq_vs bn_pr Y.2.2 (bn_da mi) vs) : yi_P zi_Ms d mi vs (I, L, R, Y) (fun r => bn_H I L r.2.1.1 r.2.1.2.1 r.2.1.2.2.1 r.2.1.2.2.2) := by
  intro n r e
  exact bn_of (bn_cl n d mi vs (I, L, R, Y) r hf hv (hi I L) e).2.2
theorem bn_v0 {N : Nat} {da : List Bool} : cq_vs bn_pr N da [] := fun j v h => by cases h
theorem bn_vn {N : Nat} {v : yi_V} {vs : List yi_V} (h : cq_V bn_pr N false v) (h2 : cq_vs bn_pr N [] vs) : cq_vs bn_pr N [] (v :: vs) := fun j w hw => by
  cases j with
  | zero => cases hw; exact h
  | succ j => exact h2 j w hw
theorem bn_vi {N : Nat} {f : Bool} (x : Int) : cq_V bn_pr N f (.inl x) := cq_Vi x
theorem bn_vl {N : Nat} {f : Bool} (x : Int) : cq_V bn_pr N f (.inr (.inl x)) := cq_Vl x
theorem bn_v82 {N : Nat} {f : Bool} (hN : 82 < N) : cq_V bn_pr N f (.inr (.inr (some 82))) := fun x e => by
  have e : some 82 = some x := Sum.inr.inj (Sum.inr.inj e)
  cases e
  exact ⟨hN, fun _ => rfl⟩
