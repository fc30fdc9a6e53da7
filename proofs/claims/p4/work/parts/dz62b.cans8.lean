/-! Engine four for both objects' calls; resize, a row's constructor by hand. -/
def cz_fg (c k : Nat) : Bool := false
def cz_fp (c k : Nat) : Bool := Nat.beq c 5 && Nat.beq k 0
def cz_F0 : List Nat := [1, 2, 3, 4, 5, 6, 7, 8, 9, 10, 11, 12, 13, 14, 15, 16, 17, 18, 19, 20, 21, 22, 23, 24, 25, 26, 27, 28, 29, 30, 31, 32, 33, 34, 35, 36, 37, 38, 39, 40, 41, 42, 43, 44, 45, 46]
def cz_F1 : List Nat := [47, 48, 49, 50, 51, 52, 53, 54, 55, 56, 57, 58, 59, 60, 61, 62, 63, 64, 65, 66, 67, 68, 69, 70, 71, 72, 73, 74, 75, 76, 77, 78, 79, 80, 81, 82, 83, 84, 85, 86, 87, 88, 89, 90, 91, 92]
def cz_F2 : List Nat := [93, 94, 95, 96, 97, 98, 99, 100, 101, 102, 103, 104, 105, 106, 107, 108, 109, 110, 111, 112, 113, 114, 115, 116, 117, 118, 119, 120, 121, 122, 123, 124, 125, 126, 127, 128, 129, 130, 131, 132, 133, 134, 135, 136, 137, 139]
def cz_F3 : List Nat := [140, 141, 142, 143, 144, 145, 146, 147, 148, 149, 150, 151, 152, 153, 154, 155, 156, 157, 158, 159, 160, 161, 162, 163, 164, 165, 166, 167, 168, 169, 170, 171, 172, 173, 174, 175, 176, 177, 178, 179, 180, 181, 182, 183, 184, 185]
def cz_F4 : List Nat := [186, 187, 188, 189, 190, 191, 193, 194, 196, 197, 198, 199, 200, 201, 202, 203, 204, 205, 206, 208, 209, 210, 211, 213, 214, 215, 216, 217, 218, 219, 220, 221, 222, 223, 224, 225, 226, 227, 228, 229, 230, 231, 232, 233, 234, 235]
def cz_F5 : List Nat := [236, 237, 238, 239, 240, 241, 243, 244, 245, 247, 248, 249, 250, 251, 252, 253, 254, 255, 256, 257, 258, 259, 260, 261, 262, 263, 264, 265, 266, 267, 268, 269, 270, 271, 272, 273, 274, 275, 276, 277, 278, 279, 280, 281, 282, 283]
def cz_F6 : List Nat := [284, 285, 286, 287, 288, 289, 291, 292, 293, 294, 295, 296, 297, 299, 300, 301, 303, 304, 305, 306, 307, 308, 309, 310, 311, 312, 313, 314, 315, 316, 317, 318, 319, 322, 323, 324, 325, 326, 327, 329, 330, 331, 332, 195, 207]
def cz_ff (mi : Nat) : Bool := cz_F0.any (Nat.beq mi) || cz_F1.any (Nat.beq mi) || cz_F2.any (Nat.beq mi) || cz_F3.any (Nat.beq mi) || cz_F4.any (Nat.beq mi) || cz_F5.any (Nat.beq mi) || cz_F6.any (Nat.beq mi)
def cz_dr (mi : Nat) : Bool := ([] : List Nat).any (Nat.beq mi)
def cz_vr (mi : Nat) : Bool := match zi_Ms[mi]? with | some M => M.2.2.2.1.isSome | none => false
def cz_ary (mi : Nat) : Nat := bif ([1, 4, 5, 16, 17, 18, 22, 23, 26, 28, 30, 32, 50, 54, 55, 63, 67, 68, 72, 86, 88, 92, 94, 95, 98, 99, 101, 102, 103, 105, 109, 113, 122, 124, 126, 127, 139, 152, 154, 155, 156, 157, 160, 162, 169, 170, 174, 178, 180, 181, 184, 199, 201, 203, 208, 215, 219, 247, 251, 253, 254, 259, 260, 262, 263, 264, 266, 267, 270, 274, 292, 296, 297, 315, 316, 317, 318, 322, 325, 326, 327, 195] : List Nat).any (Nat.beq mi) then 1 else bif ([2, 3, 8, 11, 15, 19, 27, 29, 33, 36, 39, 40, 42, 45, 48, 49, 51, 52, 53, 56, 57, 58, 59, 60, 62, 64, 69, 70, 73, 76, 80, 87, 89, 93, 96, 97, 100, 104, 106, 111, 112, 114, 117, 118, 120, 121, 123, 128, 135, 136, 140, 141, 144, 146, 150, 153, 158, 163, 167, 173, 176, 177, 179, 185, 193, 194, 197, 198, 200, 202, 204, 205, 206, 209, 210, 213, 214, 216, 218, 220, 227, 228, 229, 230, 231, 232, 234, 235, 236, 238, 239, 240, 241, 248, 249, 252, 256, 257, 258, 261, 265, 268, 272, 276, 277, 278, 280, 282, 283, 284, 285, 286, 287, 288, 293, 294, 295, 299, 300, 301, 304, 312, 314, 319, 323, 331, 332, 207] : List Nat).any (Nat.beq mi) then 2 else bif ([6, 7, 12, 13, 14, 21, 31, 35, 37, 46, 47, 61, 66, 71, 78, 81, 82, 83, 84, 90, 91, 107, 108, 116, 119, 130, 131, 134, 142, 145, 161, 165, 166, 168, 171, 172, 186, 187, 189, 196, 211, 217, 221, 222, 225, 226, 244, 255, 269, 271, 275, 279, 281, 303, 305, 308, 324] : List Nat).any (Nat.beq mi) then 3 else bif ([9, 10, 20, 24, 25, 34, 38, 41, 44, 65, 74, 75, 85, 110, 115, 125, 129, 132, 133, 137, 147, 148, 149, 151, 159, 175, 182, 183, 188, 190, 223, 233, 237, 243, 289, 291, 306, 311, 329, 330] : List Nat).any (Nat.beq mi) then 4 else bif ([43, 79, 143, 164, 191, 224, 245, 250, 273, 307, 309, 310, 313] : List Nat).any (Nat.beq mi) then 5 else bif ([77] : List Nat).any (Nat.beq mi) then 6 else 0
def cz_da (mi : Nat) : List Bool := List.replicate (cz_ary mi) false
def cz_km (mi : Nat) : List Nat := match mi with
  | _ => []
def cz_dl (mi j : Nat) : Bool := (cz_km mi).any (Nat.beq j)
def cz_sa (mi pc : Nat) : List Bool := bif Nat.beq pc 0 then [] else match mi with
  | _ => []
theorem cz_t0 : cz_F0.all (fun mi => (Nat.beq mi 195 || Nat.beq mi 207 || match zi_Ms[mi]? with | some M => cz_dk (cz_dl mi) 0 (cz_da mi) && cz_tb cz_fg cz_fp false true (cz_dr mi) cz_ff cz_dr cz_vr cz_da (cz_dl mi) (cz_sa mi) M.2.2.2.2.1 | none => true)) = true := by decide +kernel
theorem cz_t1 : cz_F1.all (fun mi => (Nat.beq mi 195 || Nat.beq mi 207 || match zi_Ms[mi]? with | some M => cz_dk (cz_dl mi) 0 (cz_da mi) && cz_tb cz_fg cz_fp false true (cz_dr mi) cz_ff cz_dr cz_vr cz_da (cz_dl mi) (cz_sa mi) M.2.2.2.2.1 | none => true)) = true := by decide +kernel
theorem cz_t2 : cz_F2.all (fun mi => (Nat.beq mi 195 || Nat.beq mi 207 || match zi_Ms[mi]? with | some M => cz_dk (cz_dl mi) 0 (cz_da mi) && cz_tb cz_fg cz_fp false true (cz_dr mi) cz_ff cz_dr cz_vr cz_da (cz_dl mi) (cz_sa mi) M.2.2.2.2.1 | none => true)) = true := by decide +kernel
theorem cz_t3 : cz_F3.all (fun mi => (Nat.beq mi 195 || Nat.beq mi 207 || match zi_Ms[mi]? with | some M => cz_dk (cz_dl mi) 0 (cz_da mi) && cz_tb cz_fg cz_fp false true (cz_dr mi) cz_ff cz_dr cz_vr cz_da (cz_dl mi) (cz_sa mi) M.2.2.2.2.1 | none => true)) = true := by decide +kernel
theorem cz_t4 : cz_F4.all (fun mi => (Nat.beq mi 195 || Nat.beq mi 207 || match zi_Ms[mi]? with | some M => cz_dk (cz_dl mi) 0 (cz_da mi) && cz_tb cz_fg cz_fp false true (cz_dr mi) cz_ff cz_dr cz_vr cz_da (cz_dl mi) (cz_sa mi) M.2.2.2.2.1 | none => true)) = true := by decide +kernel
theorem cz_t5 : cz_F5.all (fun mi => (Nat.beq mi 195 || Nat.beq mi 207 || match zi_Ms[mi]? with | some M => cz_dk (cz_dl mi) 0 (cz_da mi) && cz_tb cz_fg cz_fp false true (cz_dr mi) cz_ff cz_dr cz_vr cz_da (cz_dl mi) (cz_sa mi) M.2.2.2.2.1 | none => true)) = true := by decide +kernel
theorem cz_t6 : cz_F6.all (fun mi => (Nat.beq mi 195 || Nat.beq mi 207 || match zi_Ms[mi]? with | some M => cz_dk (cz_dl mi) 0 (cz_da mi) && cz_tb cz_fg cz_fp false true (cz_dr mi) cz_ff cz_dr cz_vr cz_da (cz_dl mi) (cz_sa mi) M.2.2.2.2.1 | none => true)) = true := by decide +kernel
theorem cz_im {mi : Nat} {M : zi_M} {l : List Nat} (h : l.any (Nat.beq mi) = true) (ha : l.all (fun mi => (Nat.beq mi 195 || Nat.beq mi 207 || match zi_Ms[mi]? with | some M => cz_dk (cz_dl mi) 0 (cz_da mi) && cz_tb cz_fg cz_fp false true (cz_dr mi) cz_ff cz_dr cz_vr cz_da (cz_dl mi) (cz_sa mi) M.2.2.2.2.1 | none => true)) = true) (hx : (Nat.beq mi 195 || Nat.beq mi 207) = false) (hm : zi_Ms[mi]? = some M) : M.2.2.2.1.isSome = cz_vr mi ∧ cz_dk (cz_dl mi) 0 (cz_da mi) = true ∧ cz_tb cz_fg cz_fp false true (cz_dr mi) cz_ff cz_dr cz_vr cz_da (cz_dl mi) (cz_sa mi) M.2.2.2.2.1 = true := by
  obtain ⟨x, hx1, e⟩ := List.any_eq_true.mp h
  have e := Nat.eq_of_beq_eq_true e
  subst e
  have z := List.all_eq_true.mp ha mi hx1
  rw [hm, hx, Bool.false_or] at z
  have z := (Bool.and_eq_true _ _).mp z
  refine ⟨?_, z.1, z.2⟩
  unfold cz_vr
  rw [hm]
theorem cz_M (mi : Nat) (M : zi_M) (h : cz_ff mi = true) (hx : (Nat.beq mi 195 || Nat.beq mi 207) = false) (hm : zi_Ms[mi]? = some M) : M.2.2.2.1.isSome = cz_vr mi ∧ cz_dk (cz_dl mi) 0 (cz_da mi) = true ∧ cz_tb cz_fg cz_fp false true (cz_dr mi) cz_ff cz_dr cz_vr cz_da (cz_dl mi) (cz_sa mi) M.2.2.2.2.1 = true := by
  unfold cz_ff at h
  repeat rw [Bool.or_eq_true] at h
  rcases h with (((((h | h) | h) | h) | h) | h) | h
  · exact cz_im h cz_t0 hx hm
  · exact cz_im h cz_t1 hx hm
  · exact cz_im h cz_t2 hx hm
  · exact cz_im h cz_t3 hx hm
  · exact cz_im h cz_t4 hx hm
  · exact cz_im h cz_t5 hx hm
  · exact cz_im h cz_t6 hx hm
theorem cz_s0 (mi : Nat) : cz_sa mi 0 = [] := rfl

section CZX
variable {Ms : List zi_M} {d : Nat} {M : zi_M} {k : Nat} {Q : yi_R → Prop} {pc n : Nat} {al : List (Nat × yi_V)} {st : List yi_V} {I L : Nat → Nat → Int} {R : Nat → Nat → Option Nat} {Y : (Nat → Nat) × (Nat → Nat) × Nat} {nc ns : Nat}
theorem yi_D_nwa4 {ty : ArrayType} {t : Nat} {o : List Nat} {x : Int} (h1 : zi_lk2 pc M.2.2.2.2.1 = some (.newarray ty, n, t :: o)) (hg : x ≤ 1000000 → ∀ q I2 L2 R2 Y2 m, yi_mkd q I L R Y I2 L2 R2 Y2 x.toNat → (∀ k, R2 q k = none) → Y2.1 q = 20 + t → yi_D Ms d M k (pc + n, al, .inr (.inr (some q)) :: st, (I2, L2, R2, Y2), nc + 1, m) Q) : yi_D Ms d M k (pc, al, .inl x :: st, (I, L, R, Y), nc, ns) Q := by
  refine yi_D_l1 (g := (pc + n, al, .inr (.inr (some Y.2.2)) :: st, yi_nw (I, L, R, Y) (20 + t) x.toNat, nc + 1, ns + x.toNat)) (c := decide (0 ≤ x) && decide (x ≤ 1000000) && Nat.ble t 6) h1 rfl (fun call => rfl) (fun h => ?_)
  rw [Bool.and_eq_true, Bool.and_eq_true] at h
  exact hg (of_decide_eq_true h.1.2) _ _ _ _ _ _ (yi_mkd_i (20 + t) x.toNat) (fun k => if_pos rfl) (if_pos rfl)
theorem yi_D_no (hs : ∀ call, yi_stp call [] M (pc, al, st, (I, L, R, Y), nc, ns) = none) : yi_D Ms d M k (pc, al, st, (I, L, R, Y), nc, ns) Q := fun n j r _ e => (yi_loop_n (hs _) e).elim
end CZX
def cz_K (R : Nat → Nat → Option Nat) (Y : (Nat → Nat) × (Nat → Nat) × Nat) : Prop := ∀ I L, cz_I (fun _ => false) (fun _ _ => false) cz_fg cz_fp false (I, L, R, Y)
/-- cells that are new become a row's -/
theorem cz_row {I L I2 L2 I3 L3 : Nat → Nat → Int} {R R2 : Nat → Nat → Option Nat} {Y Y2 : (Nat → Nat) × (Nat → Nat) × Nat} {p q x : Nat} (hi : cz_I (fun _ => false) (fun _ _ => false) cz_fg cz_fp false (I, L, R, Y)) (hp : p < Y.2.2) (hx : x ≤ 1000000) (m : yi_mkd q I L R Y I2 L2 R2 Y2 x) (hn : ∀ k, R2 q k = none) (hk : Y2.1 q = 21) : cz_H (fun _ => false) (fun _ _ => false) cz_fg cz_fp false true (I, L, R, Y) (I3, L3, cl_u R2 p 0 (some q), Y2) := by
  obtain ⟨m1, m2, m3, m4, m5, m6⟩ := m
  obtain ⟨h1, h2, h3, h4, h5⟩ := hi
  have h4 : 110 ≤ Y.2.2 := h4
  have ey : Y2.2.2 = Y.2.2 + 1 := by rw [m6, m1]
  have hA : cl_u R2 p 0 (some q) p 0 = some q := cl_u_eq _ _ _ _
  have hB : ∀ f k, ¬ (f = p ∧ k = 0) → cl_u R2 p 0 (some q) f k = R2 f k := fun f k h => cl_u_ne _ _ h
  generalize cl_u R2 p 0 (some q) = R3 at hA hB ⊢
  have hC : ∀ f k c, f < Y2.2.2 → ¬ (f = p ∧ k = 0) → R3 f k = some c → f < Y.2.2 ∧ R f k = some c := fun f k c hf hne e => by
    rw [hB f k hne] at e
    by_cases c1 : f = q
    · rw [c1, hn] at e; cases e
    · exact ⟨by omega, by rw [← (m2 f k c1).2.2]; exact e⟩
  have hbd : ∀ f k c, f < Y.2.2 → R f k = some c → c < Y.2.2 := fun f k c hf e => (h1 f k c hf e).1
  refine ⟨⟨fun f k c hf e => ?_, fun p k h => absurd h Bool.false_ne_true, fun q h => absurd h Bool.false_ne_true, (by show 110 ≤ Y2.2.2; omega), fun f c hf hk5 e => ?_⟩, fun p k h => ?_, fun f hf => ?_, (by show Y.2.2 ≤ Y2.2.2; omega)⟩
  · have hf : f < Y2.2.2 := hf
    have e : R3 f k = some c := e
    refine ⟨?_, fun h => absurd h Bool.false_ne_true⟩
    show c < Y2.2.2
    by_cases c1 : f = p ∧ k = 0
    · rw [c1.1, c1.2, hA] at e
      cases e
      omega
    · have z := hC f k c hf c1 e
      have := hbd f k c z.1 z.2
      omega
  · have hf : f < Y2.2.2 := hf
    have e : R3 f 0 = some c := e
    have hk5 : Y2.1 f = 5 := hk5
    by_cases c1 : f = p
    · rw [c1, hA] at e
      cases e
      refine ⟨Or.inl (by omega), ⟨(by show Y2.2.1 q ≤ 1000000; rw [m5]; exact hx), hk, (by show q < Y2.2.2; omega)⟩, fun f2 hf2 k2 e2 => ?_⟩
      have hf2 : f2 < Y2.2.2 := hf2
      have e2 : R3 f2 0 = some q := e2
      by_cases c2 : f2 = p
      · rw [c1, c2]
      · have z := hC f2 0 q hf2 (fun w => c2 w.1) e2
        have := hbd f2 0 q z.1 z.2
        omega
    · have z := hC f 0 c hf (fun w => c1 w.1) e
      have hq : f ≠ q := by omega
      obtain ⟨a, ⟨b1, b2, b3⟩, d⟩ := h5 f c z.1 (by show Y.1 f = 5; rw [← (m4 f hq).1]; exact hk5) z.2
      have b3 : c < Y.2.2 := b3
      have hcq : c ≠ q := by omega
      refine ⟨a, ⟨(by show Y2.2.1 c ≤ 1000000; rw [(m4 c hcq).2]; exact b1), (by show Y2.1 c = 21; rw [(m4 c hcq).1]; exact b2), (by show c < Y2.2.2; omega)⟩, fun f2 hf2 k2 e2 => ?_⟩
      have hf2 : f2 < Y2.2.2 := hf2
      have e2 : R3 f2 0 = some c := e2
      have k2 : Y2.1 f2 = 5 := k2
      by_cases c2 : f2 = p
      · rw [c2, hA] at e2
        cases e2
        omega
      · have z2 := hC f2 0 c hf2 (fun w => c2 w.1) e2
        have hq2 : f2 ≠ q := by omega
        exact d f2 z2.1 (by show Y.1 f2 = 5; rw [← (m4 f2 hq2).1]; exact k2) z2.2
  · rcases h with h | h
    · exact absurd h.1 Bool.false_ne_true
    · exact absurd h Bool.false_ne_true
  · have hf : f < Y.2.2 := hf
    exact m4 f (by omega)
theorem cz_x195 {d : Nat} {I L : Nat → Nat → Int} {R : Nat → Nat → Option Nat} {Y : (Nat → Nat) × (Nat → Nat) × Nat} {p : Nat} (hi : cz_I (fun _ => false) (fun _ _ => false) cz_fg cz_fp false (I, L, R, Y)) (hp : p < Y.2.2) (h10 : 10 ≤ p) : yi_P zi_Ms d 195 [.inr (.inr (some p))] (I, L, R, Y) (fun r => cz_R (fun _ => false) (fun _ _ => false) cz_fg cz_fp false true (cz_dr 195) (cz_vr 195) (I, L, R, Y) r) := by
  refine yi_P_of (M := zi_m195) rfl (fun d k => ?_)
  show yi_D zi_Ms d zi_m195 k (0, [(0, .inr (.inr (some p)))], [], (I, L, R, Y), 0, 0) _
  refine yi_D_run 4 (6, [(0, .inr (.inr (some p)))], [.inl 1, .inr (.inr (some p))], (I, L, R, Y), 0, 0) (fun _ => rfl) ?_
  refine yi_D_nwa4 rfl (fun hx9 q1 I2 L3 R4 Y5 m6 mk7 mn8 my10 => ?_)
  obtain ⟨k11, k12, k13, k14, k15, k16⟩ := mk7
  have q1q : q1 = Y.2.2 := k11
  have q1n := k16
  refine yi_D_prw rfl (fun _ => ?_)
  generalize w18 : cl_u R4 p 0 (some q1) = R17
  refine yi_D_run 2 (13, [(0, .inr (.inr (some p)))], [.inl 1, .inr (.inr (some p))], (I2, L3, R17, Y5), (0 + 1), m6) (fun _ => rfl) ?_
  refine yi_D_pi rfl (fun _ => ?_)
  generalize w20 : yi_u I2 p 1 1 = I19
  refine yi_D_retv rfl ?_
  rw [← w18]
  exact ⟨rfl, fun v e => (by cases e), cz_row hi hp (by omega) ⟨k11, k12, k13, k14, k15, k16⟩ mn8 my10⟩
theorem cz_x207 {d : Nat} {I L : Nat → Nat → Int} {R : Nat → Nat → Option Nat} {Y : (Nat → Nat) × (Nat → Nat) × Nat} {p : Nat} (hi : cz_I (fun _ => false) (fun _ _ => false) cz_fg cz_fp false (I, L, R, Y)) (hp : p < Y.2.2) (h10 : 10 ≤ p) {x : Int} : yi_P zi_Ms d 207 [.inr (.inr (some p)), .inl x] (I, L, R, Y) (fun r => cz_R (fun _ => false) (fun _ _ => false) cz_fg cz_fp false true (cz_dr 207) (cz_vr 207) (I, L, R, Y) r) := by
  refine yi_P_of (M := zi_m207) rfl (fun d k => ?_)
  show yi_D zi_Ms d zi_m207 k (0, [(0, .inr (.inr (some p))), (1, .inl x)], [], (I, L, R, Y), 0, 0) _
  refine yi_D_run 2 (2, [(0, .inr (.inr (some p))), (1, .inl x)], [.inl 1, .inl x], (I, L, R, Y), 0, 0) (fun _ => rfl) ?_
  refine yi_D_run 1 (5, [(0, .inr (.inr (some p))), (1, .inl x)], [.inl (if x < 1 then 1 else x)], (I, L, R, Y), 0, 0) (fun _ => rfl) ?_
  refine yi_D_run 2 (7, [(2, .inl (if x < 1 then 1 else x)), (0, .inr (.inr (some p))), (1, .inl x)], [.inr (.inr (some p))], (I, L, R, Y), 0, 0) (fun _ => rfl) ?_
  refine yi_D_gr (v := R p 0) rfl rfl (Nat.ble_eq_true_of_le (by omega)) rfl (fun _ => ?_)
  refine yi_D_lenu rfl (fun v1 => ?_)
  refine yi_D_run 1 (12, [(2, .inl (if x < 1 then 1 else x)), (0, .inr (.inr (some p))), (1, .inl x)], [.inl (if x < 1 then 1 else x), .inl v1], (I, L, R, Y), 0, 0) (fun _ => rfl) ?_
  by_cases h2 : (if x < 1 then 1 else x) ≤ v1
  · refine yi_D_if2 true rfl (yi_ge_t h2) ?_
    refine yi_D_run 2 (24, [(2, .inl (if x < 1 then 1 else x)), (0, .inr (.inr (some p))), (1, .inl x)], [.inl (if x < 1 then 1 else x), .inr (.inr (some p))], (I, L, R, Y), 0, 0) (fun _ => rfl) ?_
    refine yi_D_pi rfl (fun _ => ?_)
    generalize w4 : yi_u I p 1 (if x < 1 then 1 else x) = I3
    refine yi_D_retv rfl ?_
    exact ⟨rfl, fun v e => (by cases e), hi, fun p k h => (h.elim (fun h => absurd h.1 Bool.false_ne_true) (fun h => absurd h Bool.false_ne_true)), fun _ _ => ⟨rfl, rfl⟩, Nat.le_refl _⟩
  · refine yi_D_if2 false rfl (yi_ge_f h2) ?_
    refine yi_D_run 2 (17, [(2, .inl (if x < 1 then 1 else x)), (0, .inr (.inr (some p))), (1, .inl x)], [.inl (if x < 1 then 1 else x), .inr (.inr (some p))], (I, L, R, Y), 0, 0) (fun _ => rfl) ?_
    refine yi_D_nwa4 rfl (fun hx9 q5 I6 L7 R8 Y9 m10 mk11 mn12 my14 => ?_)
    obtain ⟨k15, k16, k17, k18, k19, k20⟩ := mk11
    have q5q : q5 = Y.2.2 := k15
    have q5n := k20
    refine yi_D_prw rfl (fun _ => ?_)
    generalize w22 : cl_u R8 p 0 (some q5) = R21
    refine yi_D_run 2 (24, [(2, .inl (if x < 1 then 1 else x)), (0, .inr (.inr (some p))), (1, .inl x)], [.inl (if x < 1 then 1 else x), .inr (.inr (some p))], (I6, L7, R21, Y9), (0 + 1), m10) (fun _ => rfl) ?_
    refine yi_D_pi rfl (fun _ => ?_)
    generalize w24 : yi_u I6 p 1 (if x < 1 then 1 else x) = I23
    refine yi_D_retv rfl ?_
    rw [← w22]
    exact ⟨rfl, fun v e => (by cases e), cz_row hi hp (by omega) ⟨k15, k16, k17, k18, k19, k20⟩ mn12 my14⟩
theorem cz_low195 {d p : Nat} {I L : Nat → Nat → Int} {R : Nat → Nat → Option Nat} {Y : (Nat → Nat) × (Nat → Nat) × Nat} (h : p < 10) : yi_P zi_Ms d 195 [.inr (.inr (some p))] (I, L, R, Y) (fun _ => False) := by
  refine yi_P_of (M := zi_m195) rfl (fun d k => ?_)
  show yi_D zi_Ms d zi_m195 k (0, [(0, .inr (.inr (some p)))], [], (I, L, R, Y), 0, 0) _
  refine yi_D_run 4 (6, [(0, .inr (.inr (some p)))], [.inl 1, .inr (.inr (some p))], (I, L, R, Y), 0, 0) (fun _ => rfl) ?_
  refine yi_D_nwa4 rfl (fun _ q I2 L2 R2 Y2 m _ _ _ => ?_)
  obtain rfl | rfl | rfl | rfl | rfl | rfl | rfl | rfl | rfl | rfl : p = 0 ∨ p = 1 ∨ p = 2 ∨ p = 3 ∨ p = 4 ∨ p = 5 ∨ p = 6 ∨ p = 7 ∨ p = 8 ∨ p = 9 := by omega
  all_goals exact yi_D_no (fun _ => rfl)
theorem cz_low207 {d p : Nat} {x : Int} {I L : Nat → Nat → Int} {R : Nat → Nat → Option Nat} {Y : (Nat → Nat) × (Nat → Nat) × Nat} (h : p < 10) : yi_P zi_Ms d 207 [.inr (.inr (some p)), .inl x] (I, L, R, Y) (fun _ => False) := by
  refine yi_P_of (M := zi_m207) rfl (fun d k => ?_)
  show yi_D zi_Ms d zi_m207 k (0, [(0, .inr (.inr (some p))), (1, .inl x)], [], (I, L, R, Y), 0, 0) _
  refine yi_D_run 5 (7, [(2, .inl (if x < 1 then 1 else x)), (0, .inr (.inr (some p))), (1, .inl x)], [.inr (.inr (some p))], (I, L, R, Y), 0, 0) (fun _ => rfl) ?_
  obtain rfl | rfl | rfl | rfl | rfl | rfl | rfl | rfl | rfl | rfl : p = 0 ∨ p = 1 ∨ p = 2 ∨ p = 3 ∨ p = 4 ∨ p = 5 ∨ p = 6 ∨ p = 7 ∨ p = 8 ∨ p = 9 := by omega
  all_goals exact yi_D_no (fun _ => rfl)
theorem cz_hX (n d mi : Nat) (vs : List yi_V) (H : yi_H) (r : yi_R) (hx : (Nat.beq mi 195 || Nat.beq mi 207) = true) (hv : cz_vs (fun _ => false) H.2.2.2.2.2 (cz_da mi) vs) (hi : cz_I (fun _ => false) (fun _ _ => false) cz_fg cz_fp false H) (e : yi_ev zi_Ms n d mi vs H = some r) : cz_R (fun _ => false) (fun _ _ => false) cz_fg cz_fp false true (cz_dr mi) (cz_vr mi) H r := by
  obtain ⟨I, L, R, Y⟩ := H
  rw [Bool.or_eq_true] at hx
  rcases hx with hx | hx
  · have hm := Nat.eq_of_beq_eq_true hx
    subst hm
    obtain ⟨hb, hl⟩ := hv
    have hl : vs.length = 1 := hl
    match vs, hl, hb, e with
    | [v], _, hb, e =>
      have hv := hb 0 v rfl
      match v, hv, e with
      | .inl z, _, e => exact (yi_P_of (Q := fun _ => False) (M := zi_m195) rfl (fun d k => yi_D_no (fun _ => rfl)) n r e).elim
      | .inr (.inl z), _, e => exact (yi_P_of (Q := fun _ => False) (M := zi_m195) rfl (fun d k => yi_D_no (fun _ => rfl)) n r e).elim
      | .inr (.inr none), _, e => exact (yi_P_of (Q := fun _ => False) (M := zi_m195) rfl (fun d k => yi_D_run 1 (1, [(0, .inr (.inr none))], [.inr (.inr none)], (I, L, R, Y), 0, 0) (fun _ => rfl) (yi_D_no (fun _ => rfl))) n r e).elim
      | .inr (.inr (some p)), hv, e =>
        by_cases h10 : 10 ≤ p
        · exact cz_x195 hi (hv p rfl).1 h10 n r e
        · exact (cz_low195 (by omega) n r e).elim
  · have hm := Nat.eq_of_beq_eq_true hx
    subst hm
    obtain ⟨hb, hl⟩ := hv
    have hl : vs.length = 2 := hl
    match vs, hl, hb, e with
    | [v, w], _, hb, e =>
      have hv := hb 0 v rfl
      match v, w, hv, e with
      | .inr (.inr (some p)), .inl x, hv, e =>
        by_cases h10 : 10 ≤ p
        · exact cz_x207 hi (hv p rfl).1 h10 n r e
        · exact (cz_low207 (by omega) n r e).elim
      | .inl z, .inr (.inl w), _, e => exact (yi_P_of (Q := fun _ => False) (M := zi_m207) rfl (fun d k => yi_D_no (fun _ => rfl)) n r e).elim
      | .inl z, .inr (.inr w), _, e => exact (yi_P_of (Q := fun _ => False) (M := zi_m207) rfl (fun d k => yi_D_no (fun _ => by cases w <;> rfl)) n r e).elim
      | .inr (.inl z), .inr (.inl w), _, e => exact (yi_P_of (Q := fun _ => False) (M := zi_m207) rfl (fun d k => yi_D_no (fun _ => rfl)) n r e).elim
      | .inr (.inl z), .inr (.inr w), _, e => exact (yi_P_of (Q := fun _ => False) (M := zi_m207) rfl (fun d k => yi_D_no (fun _ => rfl)) n r e).elim
      | .inr (.inr z), .inr (.inl w), _, e => exact (yi_P_of (Q := fun _ => False) (M := zi_m207) rfl (fun d k => yi_D_no (fun _ => rfl)) n r e).elim
      | .inr (.inr z), .inr (.inr w), _, e => exact (yi_P_of (Q := fun _ => False) (M := zi_m207) rfl (fun d k => yi_D_no (fun _ => by cases w <;> rfl)) n r e).elim
      | .inr (.inl z), .inl x, _, e => exact (yi_P_of (Q := fun _ => False) (M := zi_m207) rfl (fun d k => yi_D_no (fun _ => rfl)) n r e).elim
      | .inl z, .inl x, _, e => exact (yi_P_of (Q := fun _ => False) (M := zi_m207) rfl (fun d k => yi_D_run 4 (6, [(2, .inl (if x < 1 then 1 else x)), (0, .inl z), (1, .inl x)], [], (I, L, R, Y), 0, 0) (fun _ => rfl) (yi_D_no (fun _ => rfl))) n r e).elim
      | .inr (.inr none), .inl x, _, e => exact (yi_P_of (Q := fun _ => False) (M := zi_m207) rfl (fun d k => yi_D_run 5 (7, [(2, .inl (if x < 1 then 1 else x)), (0, .inr (.inr none)), (1, .inl x)], [.inr (.inr none)], (I, L, R, Y), 0, 0) (fun _ => rfl) (yi_D_no (fun _ => rfl))) n r e).elim
theorem cz_cla (n d : Nat) : cz_cl (fun _ => false) (fun _ _ => false) cz_fg cz_fp false true cz_ff cz_dr cz_vr cz_da (yi_ev zi_Ms n d) := cz_all (fun q h => absurd h Bool.false_ne_true) (fun c k h => absurd h Bool.false_ne_true) ⟨fun c k h => by
  unfold cz_fp at h
  rw [Bool.and_eq_true] at h
  have := Nat.eq_of_beq_eq_true h.1
  omega, rfl⟩ cz_s0 (X := fun mi => Nat.beq mi 195 || Nat.beq mi 207) cz_hX cz_M n d
theorem cz_P {d mi : Nat} {vs : List yi_V} {I L : Nat → Nat → Int} {R : Nat → Nat → Option Nat} {Y : (Nat → Nat) × (Nat → Nat) × Nat} (hi : cz_K R Y) (hf : cz_ff mi = true) (hv : cz_vs (fun _ => false) Y.2.2 (cz_da mi) vs) : yi_P zi_Ms d mi vs (I, L, R, Y) (fun r => cz_K r.2.1.2.2.1 r.2.1.2.2.2) := by
  intro n r e
  exact fun _ _ => (cz_cla n d mi vs (I, L, R, Y) r hf hv (hi I L) e).2.2.1
theorem cy_ve {N mi : Nat} {vs : List yi_V} (hl : vs.length = (cz_da mi).length) (h : ∀ v ∈ vs, ∀ q, v = .inr (.inr (some q)) → q < N) : cz_vs (fun _ => false) N (cz_da mi) vs := ⟨fun j v hj q e => ⟨h v (List.mem_of_getElem? hj) q e, fun _ => rfl⟩, hl⟩
theorem cy_0 {N : Nat} : ∀ v ∈ ([] : List yi_V), ∀ q, v = .inr (.inr (some q)) → q < N := fun v h => by cases h
theorem cy_c {N : Nat} {w : yi_V} {vs : List yi_V} (h1 : ∀ q, w = .inr (.inr (some q)) → q < N) (h2 : ∀ v ∈ vs, ∀ q, v = .inr (.inr (some q)) → q < N) : ∀ v ∈ w :: vs, ∀ q, v = .inr (.inr (some q)) → q < N := fun v h => by
  rcases List.mem_cons.mp h with h | h
  · rw [h]; exact h1
  · exact h2 v h
theorem cy_i {N : Nat} (z : Int) : ∀ q, (.inl z : yi_V) = .inr (.inr (some q)) → q < N := fun q e => by cases e
theorem cy_l {N : Nat} (z : Int) : ∀ q, (.inr (.inl z) : yi_V) = .inr (.inr (some q)) → q < N := fun q e => by cases e
theorem cy_p {N p : Nat} (hp : p < N) : ∀ q, (.inr (.inr (some p)) : yi_V) = .inr (.inr (some q)) → q < N := fun q e => by
  have e : some p = some q := Sum.inr.inj (Sum.inr.inj e)
  cases e
  exact hp
theorem cy_o {R : Nat → Nat → Option Nat} {Y : (Nat → Nat) × (Nat → Nat) × Nat} (hK : cz_K R Y) {p k : Nat} (hp : p < Y.2.2) : ∀ q, (.inr (.inr (R p k)) : yi_V) = .inr (.inr (some q)) → q < Y.2.2 := fun q e => by
  have e : R p k = some q := Sum.inr.inj (Sum.inr.inj e)
  exact ((hK (fun _ _ => 0) (fun _ _ => 0)).1 p k q hp e).1
theorem cz_Kj {R : Nat → Nat → Option Nat} {Y : (Nat → Nat) × (Nat → Nat) × Nat} (hK : cz_K R Y) {f c : Nat} (hf : f < Y.2.2) (h5 : Y.1 f = 5) (e : R f 0 = some c) : (110 ≤ c ∨ c = 36 ∨ c = 38 ∨ c = 42 ∨ c = 59 ∨ c = 61 ∨ c = 63) ∧ (Y.2.1 c ≤ 1000000 ∧ Y.1 c = 21 ∧ c < Y.2.2) ∧ ∀ f', f' < Y.2.2 → Y.1 f' = 5 → R f' 0 = some c → f' = f := (hK (fun _ _ => 0) (fun _ _ => 0)).2.2.2.2 f c hf h5 e
