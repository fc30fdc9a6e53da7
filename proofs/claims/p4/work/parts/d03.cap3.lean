/-! The class's tape and the words that it knows are out of reach of all calls but feed. -/
def cx_pr (q : Nat) : Bool := Nat.beq q 13 || (Nat.beq q 17 || Nat.beq q 18)
def cx_sl (p k : Nat) : Bool := (Nat.beq p 12 && (Nat.beq k 0 || Nat.beq k 4)) || (Nat.beq p 11 && Nat.beq k 1)
def cx_ps (p k : Nat) : Bool := (Nat.beq p 10 && Nat.ble k 1) || ((Nat.beq p 11 && Nat.ble k 2) || (Nat.beq p 12 && Nat.ble k 4))
def cx_ko (p : Nat) : Nat := bif Nat.beq p 10 then 0 else bif Nat.beq p 11 then 1 else 2
def cx_fg (ci k : Nat) : Bool := (Nat.beq ci 2 && (Nat.beq k 0 || Nat.beq k 4)) || (Nat.beq ci 1 && Nat.beq k 1)
def cx_fp (ci k : Nat) : Bool := (Nat.beq ci 0 && Nat.ble k 1) || ((Nat.beq ci 1 && Nat.ble k 2) || (Nat.beq ci 2 && Nat.ble k 4))
def cx_F0 : List Nat := [139, 140, 141, 142, 143, 144, 145, 146, 147, 148, 150, 151, 152, 153, 154, 155, 156, 157, 158, 159, 160, 161, 162, 163, 164, 165, 166, 167, 168, 169, 170, 171, 172, 173, 174, 175, 176, 177, 178, 179, 180, 181, 182, 183, 184, 185]
def cx_F1 : List Nat := [186, 187, 188, 189, 190, 191, 193, 194, 195, 196, 197, 198, 199, 200, 201, 202, 203, 204, 205, 206, 207, 208, 209, 210, 211, 213, 214, 215, 216, 217, 218, 219, 220, 221, 222, 223, 224, 225, 226, 227, 228, 229, 230, 231, 232, 233]
def cx_F2 : List Nat := [234, 235, 236, 237, 238, 239, 240, 241, 243, 244, 245, 247, 248, 249, 250, 251, 252, 253, 254, 255, 256, 257, 258, 259, 260, 261, 262, 263, 264, 265, 266, 267, 268, 269, 270, 271, 272, 273, 274, 275, 276, 277, 278, 279, 280, 281]
def cx_F3 : List Nat := [282, 283, 284, 285, 286, 287, 288, 289, 291, 292, 293, 294, 295, 296, 297, 300, 301, 303, 304, 305, 306, 307, 308, 309, 310, 311, 312, 313, 314, 315, 316, 317, 318, 319, 322, 323, 324, 325, 326, 327, 329, 330, 331, 332]
def cx_ff (mi : Nat) : Bool := cx_F0.any (Nat.beq mi) || cx_F1.any (Nat.beq mi) || cx_F2.any (Nat.beq mi) || cx_F3.any (Nat.beq mi)
def cx_dp (mi : Nat) : Bool := Nat.beq mi 225
def cx_sa (mi pc : Nat) : List Bool := bif Nat.beq pc 0 then [] else match mi, pc with
  | 300, 17 => [true]
  | 300, 25 => [true]
  | 300, 26 => [false, true]
  | 301, 7 => [true]
  | 301, 15 => [true]
  | 301, 16 => [false, true]
  | 261, 14 => [true]
  | 261, 15 => [false, true]
  | 261, 18 => [true, true]
  | 261, 19 => [false, true]
  | 261, 20 => [false, false, true]
  | 261, 23 => [false, false, true]
  | 225, 12 => [true]
  | 225, 17 => [true]
  | 225, 19 => [false, true]
  | _, _ => []
theorem cx_t0 : cx_F0.all (fun mi => (match zi_Ms[mi]? with | some M => cp_tb cx_fg cx_fp cx_ff cx_dp (fun j => cx_dp mi && Nat.beq j 0) (cx_sa mi) M.2.2.2.2.1 | none => true)) = true := by decide +kernel
theorem cx_t1 : cx_F1.all (fun mi => (match zi_Ms[mi]? with | some M => cp_tb cx_fg cx_fp cx_ff cx_dp (fun j => cx_dp mi && Nat.beq j 0) (cx_sa mi) M.2.2.2.2.1 | none => true)) = true := by decide +kernel
theorem cx_t2 : cx_F2.all (fun mi => (match zi_Ms[mi]? with | some M => cp_tb cx_fg cx_fp cx_ff cx_dp (fun j => cx_dp mi && Nat.beq j 0) (cx_sa mi) M.2.2.2.2.1 | none => true)) = true := by decide +kernel
theorem cx_t3 : cx_F3.all (fun mi => (match zi_Ms[mi]? with | some M => cp_tb cx_fg cx_fp cx_ff cx_dp (fun j => cx_dp mi && Nat.beq j 0) (cx_sa mi) M.2.2.2.2.1 | none => true)) = true := by decide +kernel
theorem cx_in {mi : Nat} {M : zi_M} {l : List Nat} (h : l.any (Nat.beq mi) = true) (ha : l.all (fun mi => (match zi_Ms[mi]? with | some M => cp_tb cx_fg cx_fp cx_ff cx_dp (fun j => cx_dp mi && Nat.beq j 0) (cx_sa mi) M.2.2.2.2.1 | none => true)) = true) (hm : zi_Ms[mi]? = some M) : cp_tb cx_fg cx_fp cx_ff cx_dp (fun j => cx_dp mi && Nat.beq j 0) (cx_sa mi) M.2.2.2.2.1 = true := by
  obtain ⟨x, hx, e⟩ := List.any_eq_true.mp h
  have e := Nat.eq_of_beq_eq_true e
  subst e
  have z := List.all_eq_true.mp ha mi hx
  rw [hm] at z
  exact z
theorem cx_M (mi : Nat) (M : zi_M) (h : cx_ff mi = true) (hm : zi_Ms[mi]? = some M) : cp_tb cx_fg cx_fp cx_ff cx_dp (fun j => cx_dp mi && Nat.beq j 0) (cx_sa mi) M.2.2.2.2.1 = true := by
  unfold cx_ff at h
  rw [Bool.or_eq_true, Bool.or_eq_true, Bool.or_eq_true] at h
  rcases h with ((h | h) | h) | h
  · exact cx_in h cx_t0 hm
  · exact cx_in h cx_t1 hm
  · exact cx_in h cx_t2 hm
  · exact cx_in h cx_t3 hm
theorem cx_10 (q : Nat) (h : cx_pr q = true) : 10 ≤ q := by
  unfold cx_pr at h
  rw [Bool.or_eq_true, Bool.or_eq_true] at h
  rcases h with h | h | h <;> (have := Nat.eq_of_beq_eq_true h; omega)
theorem cx_k20 (p k : Nat) (_ : cx_sl p k = true ∨ cx_ps p k = true) : cx_ko p < 20 := by
  unfold cx_ko
  cases Nat.beq p 10 with
  | true => show 0 < 20; omega
  | false =>
    cases Nat.beq p 11 with
    | true => show 1 < 20; omega
    | false => show 2 < 20; omega
theorem cx_g (p k : Nat) (h : cx_sl p k = true) : cx_fg (cx_ko p) k = true := by
  unfold cx_sl at h
  rw [Bool.or_eq_true, Bool.and_eq_true, Bool.and_eq_true] at h
  rcases h with h | h
  · have := Nat.eq_of_beq_eq_true h.1
    subst this
    show ((true && (Nat.beq k 0 || Nat.beq k 4)) || (false && Nat.beq k 1)) = true
    rw [h.2]
    rfl
  · have := Nat.eq_of_beq_eq_true h.1
    subst this
    show ((false && (Nat.beq k 0 || Nat.beq k 4)) || (true && Nat.beq k 1)) = true
    rw [h.2]
    rfl
theorem cx_p (p k : Nat) (h : cx_ps p k = true) : cx_fp (cx_ko p) k = true := by
  unfold cx_ps at h
  rw [Bool.or_eq_true, Bool.or_eq_true, Bool.and_eq_true, Bool.and_eq_true, Bool.and_eq_true] at h
  rcases h with h | h | h
  · have := Nat.eq_of_beq_eq_true h.1
    subst this
    show ((true && Nat.ble k 1) || ((false && Nat.ble k 2) || (false && Nat.ble k 4))) = true
    rw [h.2]
    rfl
  · have := Nat.eq_of_beq_eq_true h.1
    subst this
    show ((false && Nat.ble k 1) || ((true && Nat.ble k 2) || (false && Nat.ble k 4))) = true
    rw [h.2]
    rfl
  · have := Nat.eq_of_beq_eq_true h.1
    subst this
    show ((false && Nat.ble k 1) || ((false && Nat.ble k 2) || (true && Nat.ble k 4))) = true
    rw [h.2]
    rfl
theorem cx_cl (n d : Nat) : cp_cl cx_pr cx_sl cx_ps cx_ko cx_ff cx_dp (yi_ev zi_Ms n d) := cp_all cx_10 cx_k20 cx_g cx_p (fun _ => rfl) cx_M n d
def cx_I (R : Nat → Nat → Option Nat) (Y : (Nat → Nat) × (Nat → Nat) × Nat) : Prop := ∀ I L, cp_I cx_pr cx_sl cx_ps cx_ko (I, L, R, Y)
def cx_H (I L : Nat → Nat → Int) (R : Nat → Nat → Option Nat) (I' L' : Nat → Nat → Int) (R' : Nat → Nat → Option Nat) (Y' : (Nat → Nat) × (Nat → Nat) × Nat) : Prop := cx_I R' Y' ∧ (∀ p k, cx_pr p = true → I' p k = I p k ∧ L' p k = L p k) ∧ (∀ p k, cx_ps p k = true → R' p k = R p k)
theorem cx_P {d mi : Nat} {vs : List yi_V} {I L : Nat → Nat → Int} {R : Nat → Nat → Option Nat} {Y : (Nat → Nat) × (Nat → Nat) × Nat} (hi : cx_I R Y) (hf : cx_ff mi = true) (hv : ∀ v ∈ vs, cp_V cx_pr v) : yi_P zi_Ms d mi vs (I, L, R, Y) (fun r => cx_H I L R r.2.1.1 r.2.1.2.1 r.2.1.2.2.1 r.2.1.2.2.2) := by
  intro n r e
  have h := (cx_cl n d mi vs (I, L, R, Y) r hf (fun j v hj => Or.inr (hv v (List.mem_of_getElem? hj))) (hi I L) e).2
  exact ⟨fun _ _ => h.1, h.2.1, h.2.2⟩
theorem cx_v (x : Int) : cp_V cx_pr (.inl x) := cp_Vi x
theorem cx_v10 : cp_V cx_pr (.inr (.inr (some 10))) := fun q e => by
  have e : some 10 = some q := Sum.inr.inj (Sum.inr.inj e)
  cases e
  rfl
theorem cx_l0 : ∀ v ∈ ([] : List yi_V), cp_V cx_pr v := fun v h => by cases h
theorem cx_lc {v : yi_V} {l : List yi_V} (h : cp_V cx_pr v) (hl : ∀ w ∈ l, cp_V cx_pr w) : ∀ w ∈ v :: l, cp_V cx_pr w := fun w hw => by
  rcases List.mem_cons.mp hw with e | e
  · subst e; exact h
  · exact hl w e
theorem yi_G_D {Ms : List zi_M} {d : Nat} {M : zi_M} {f : yi_F} {Q1 Q2 : yi_R → Prop} (h : yi_G Ms d M f Q1) (h2 : ∀ k, yi_D Ms d M k f Q2) : yi_G Ms d M f (fun r => Q1 r ∧ Q2 r) := by
  obtain ⟨r, q, n0, e⟩ := h
  exact ⟨r, ⟨q, h2 n0 n0 n0 r (Nat.le_refl _) (e n0 n0 (Nat.le_refl _) (Nat.le_refl _))⟩, n0, e⟩
theorem cx_tg : cp_tb cx_fg cx_fp cx_ff cx_dp (fun _ => false) (fun _ => []) zi_mg.2.2.2.2.1 = true := by decide +kernel
theorem cx_first {d k : Nat} {I L : Nat → Nat → Int} {R : Nat → Nat → Option Nat} {Y : (Nat → Nat) × (Nat → Nat) × Nat} (hi : cx_I R Y) {x y w : Int} : yi_D zi_Ms d zi_mg k (0, [(0, .inr (.inr (some 10))), (1, .inl x), (2, .inl y), (3, .inl w)], [], (I, L, R, Y), 0, 0) (fun r => cx_H I L R r.2.1.1 r.2.1.2.1 r.2.1.2.2.1 r.2.1.2.2.2) := by
  intro n j r _ e
  have h := (cp_loop (dl := fun _ => false) (sa := fun _ => []) cx_10 cx_k20 cx_g cx_p (cx_cl n d) cx_tg j (0, [(0, .inr (.inr (some 10))), (1, .inl x), (2, .inl y), (3, .inl w)], [], (I, L, R, Y), 0, 0) (fun q hq _ => by
    rcases List.mem_cons.mp hq with e | hq
    · subst e; exact cx_v10
    rcases List.mem_cons.mp hq with e | hq
    · subst e; exact cx_v _
    rcases List.mem_cons.mp hq with e | hq
    · subst e; exact cx_v _
    rcases List.mem_cons.mp hq with e | hq
    · subst e; exact cx_v _
    cases hq) cp_sf_n (hi I L) e).2
  exact ⟨fun _ _ => h.1, h.2.1, h.2.2⟩
def sp_W32 : List Int := [132915, 542723566, 656780, 5969364, 17800110260, 17484389, 12343, 763496, 6642, 17376357, 638373, 1420, 703541682354, 1315876, 494, 89, 215533, 186546, 14866610, 21279923, 441972, 17171758, 23109285, 212460, 7931332, 24865546418, 14836, 1476, 498]
theorem sp_W32_ok (j : Nat) (h : j < 29) : sp_WR (sp_W32.getD j 0) (sp_W37.getD j 0) := by
  have e : j ∈ List.range 29 := List.mem_range.mpr h
  have all : ∀ j ∈ List.range 29, (([[19, 25, 1, 4], [14, 15, 19, 18, 5, 16], [12, 12, 1, 20], [20, 14, 5, 22, 5], [20, 5, 8, 16, 15, 18, 16], [5, 19, 18, 21, 16], [23, 1, 12], [8, 19, 9, 23], [18, 15, 6], [5, 3, 9, 18, 16], [5, 13, 15, 19], [12, 12, 1], [18, 5, 8, 20, 5, 7, 15, 20], [4, 1, 5, 8, 1], [14, 15], [25, 2], [13, 15, 18, 6], [18, 5, 22, 5], [18, 5, 22, 5, 14], [19, 5, 13, 9, 20], [20, 19, 15, 13], [14, 9, 1, 12, 16], [5, 21, 7, 1, 22], [12, 15, 15, 6], [4, 14, 1, 18, 7], [18, 5, 8, 20, 1, 5, 23], [20, 15, 14], [4, 14, 1], [18, 15]] : List (List Nat)).getD j []).length ≤ 8 ∧ (∀ c ∈ ([[19, 25, 1, 4], [14, 15, 19, 18, 5, 16], [12, 12, 1, 20], [20, 14, 5, 22, 5], [20, 5, 8, 16, 15, 18, 16], [5, 19, 18, 21, 16], [23, 1, 12], [8, 19, 9, 23], [18, 15, 6], [5, 3, 9, 18, 16], [5, 13, 15, 19], [12, 12, 1], [18, 5, 8, 20, 5, 7, 15, 20], [4, 1, 5, 8, 1], [14, 15], [25, 2], [13, 15, 18, 6], [18, 5, 22, 5], [18, 5, 22, 5, 14], [19, 5, 13, 9, 20], [20, 19, 15, 13], [14, 9, 1, 12, 16], [5, 21, 7, 1, 22], [12, 15, 15, 6], [4, 14, 1, 18, 7], [18, 5, 8, 20, 1, 5, 23], [20, 15, 14], [4, 14, 1], [18, 15]] : List (List Nat)).getD j [], 1 ≤ c ∧ c ≤ 26) ∧ sp_W32.getD j 0 = sp_e 32 (([[19, 25, 1, 4], [14, 15, 19, 18, 5, 16], [12, 12, 1, 20], [20, 14, 5, 22, 5], [20, 5, 8, 16, 15, 18, 16], [5, 19, 18, 21, 16], [23, 1, 12], [8, 19, 9, 23], [18, 15, 6], [5, 3, 9, 18, 16], [5, 13, 15, 19], [12, 12, 1], [18, 5, 8, 20, 5, 7, 15, 20], [4, 1, 5, 8, 1], [14, 15], [25, 2], [13, 15, 18, 6], [18, 5, 22, 5], [18, 5, 22, 5, 14], [19, 5, 13, 9, 20], [20, 19, 15, 13], [14, 9, 1, 12, 16], [5, 21, 7, 1, 22], [12, 15, 15, 6], [4, 14, 1, 18, 7], [18, 5, 8, 20, 1, 5, 23], [20, 15, 14], [4, 14, 1], [18, 15]] : List (List Nat)).getD j []) ∧ sp_W37.getD j 0 = sp_e 37 (([[19, 25, 1, 4], [14, 15, 19, 18, 5, 16], [12, 12, 1, 20], [20, 14, 5, 22, 5], [20, 5, 8, 16, 15, 18, 16], [5, 19, 18, 21, 16], [23, 1, 12], [8, 19, 9, 23], [18, 15, 6], [5, 3, 9, 18, 16], [5, 13, 15, 19], [12, 12, 1], [18, 5, 8, 20, 5, 7, 15, 20], [4, 1, 5, 8, 1], [14, 15], [25, 2], [13, 15, 18, 6], [18, 5, 22, 5], [18, 5, 22, 5, 14], [19, 5, 13, 9, 20], [20, 19, 15, 13], [14, 9, 1, 12, 16], [5, 21, 7, 1, 22], [12, 15, 15, 6], [4, 14, 1, 18, 7], [18, 5, 8, 20, 1, 5, 23], [20, 15, 14], [4, 14, 1], [18, 15]] : List (List Nat)).getD j []) := by decide +kernel
  exact ⟨_, all j e⟩
