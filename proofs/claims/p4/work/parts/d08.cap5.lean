/-! The land of the class: its cells are out of reach of all calls but land; in land, what reads it. -/
def cw_pr (q p : Nat) : Bool := Nat.ble q p && Nat.ble p (q + 13)
def cw_ps (p k : Nat) : Bool := Nat.beq p 10 && Nat.ble k 16
def cw_fg (c k : Nat) : Bool := (Nat.beq c 0 && Nat.beq k 16) || ((Nat.beq c 1 && Nat.beq k 6) || (Nat.beq c 99 && Nat.beq k 16))
def cw_fp (c k : Nat) : Bool := Nat.beq c 0 && Nat.ble k 16
def cw_F0 : List Nat := [139, 140, 141, 142, 143, 144, 145, 146, 147, 148, 149, 150, 151, 152, 153, 154, 155, 156, 157, 158, 159, 160, 161, 163, 164, 165, 166, 167, 168, 169, 170, 171, 172, 173, 174, 175, 176, 177, 178, 179, 180, 181, 182, 183, 184, 185]
def cw_F1 : List Nat := [186, 187, 188, 189, 190, 191, 193, 194, 195, 196, 197, 198, 199, 200, 201, 202, 203, 204, 205, 206, 207, 208, 209, 210, 211, 213, 214, 215, 216, 217, 218, 225, 226, 227, 228, 230, 231, 232, 233, 234, 235, 236, 238, 239, 240, 241]
def cw_F2 : List Nat := [243, 244, 245, 247, 248, 249, 250, 252, 256, 257, 260, 265, 266, 268, 269, 271, 272, 273, 274, 275, 276, 277, 278, 279, 280, 281, 282, 283, 284, 285, 286, 287, 288, 289, 291, 292, 293, 294, 295, 296, 297, 299, 300, 301, 303, 304]
def cw_F3 : List Nat := [305, 306, 307, 308, 309, 310, 311, 312, 313, 314, 315, 316, 317, 318, 319, 322, 323, 324, 325, 326, 327, 329, 330, 331, 332]
def cw_ff (mi : Nat) : Bool := cw_F0.any (Nat.beq mi) || cw_F1.any (Nat.beq mi) || cw_F2.any (Nat.beq mi) || cw_F3.any (Nat.beq mi)
def cw_dr (mi : Nat) : Bool := ([] : List Nat).any (Nat.beq mi)
def cw_vr (mi : Nat) : Bool := match zi_Ms[mi]? with | some M => M.2.2.2.1.isSome | none => false
def cw_da (mi : Nat) : List Bool := match mi with
  | 225 => [true]
  | 226 => [true]
  | 227 => [true]
  | 228 => [true]
  | 230 => [true]
  | 231 => [true]
  | 232 => [true]
  | 233 => [true]
  | 234 => [true]
  | 235 => [true]
  | 236 => [true]
  | 238 => [true]
  | 239 => [true]
  | 240 => [true]
  | 241 => [true]
  | 245 => [false, true]
  | 248 => [false, true]
  | 252 => [false, true]
  | 265 => [false, true]
  | 269 => [false, true]
  | 277 => [false, true]
  | 303 => [false, true, false]
  | 309 => [false, true]
  | 310 => [false, true]
  | _ => []
def cw_dk (mi : Nat) : List Nat := match mi with
  | 225 => [0]
  | 226 => [0]
  | 227 => [0]
  | 228 => [0]
  | 230 => [0]
  | 231 => [0]
  | 232 => [0]
  | 233 => [0]
  | 234 => [0]
  | 235 => [0]
  | 236 => [0]
  | 238 => [0]
  | 239 => [0]
  | 240 => [0]
  | 241 => [0]
  | 245 => [1, 2]
  | 248 => [1, 2]
  | 252 => [1, 2]
  | 265 => [1, 2]
  | 269 => [1, 2]
  | 277 => [1, 2]
  | 303 => [1, 2]
  | 309 => [1, 2]
  | 310 => [1, 2]
  | _ => []
def cw_dl (mi j : Nat) : Bool := (cw_dk mi).any (Nat.beq j)
def cw_s139 (pc : Nat) : List Bool := match pc with
  | 15 => [true]
  | _ => []
def cw_s141 (pc : Nat) : List Bool := match pc with
  | 29 => [true]
  | _ => []
def cw_s142 (pc : Nat) : List Bool := match pc with
  | 4 => [true]
  | 5 => [false, true]
  | 15 => [true]
  | 16 => [false, true]
  | _ => []
def cw_s144 (pc : Nat) : List Bool := match pc with
  | 9 => [true]
  | 25 => [true]
  | 26 => [false, true]
  | _ => []
def cw_s145 (pc : Nat) : List Bool := match pc with
  | 12 => [true]
  | 13 => [false, true]
  | 14 => [false, false, true]
  | 15 => [false, false, false, true]
  | 79 => [true]
  | _ => []
def cw_s146 (pc : Nat) : List Bool := match pc with
  | 68 => [true]
  | 76 => [true]
  | 84 => [true]
  | 92 => [true]
  | 100 => [true]
  | 108 => [true]
  | _ => []
def cw_s147 (pc : Nat) : List Bool := match pc with
  | 4 => [true]
  | 5 => [false, true]
  | 15 => [true]
  | 16 => [false, true]
  | 46 => [true]
  | 47 => [false, true]
  | 56 => [true]
  | 57 => [false, true]
  | 70 => [true]
  | _ => []
def cw_s148 (pc : Nat) : List Bool := match pc with
  | 4 => [true]
  | 5 => [false, true]
  | 15 => [true]
  | 16 => [false, true]
  | 58 => [true]
  | 106 => [true]
  | _ => []
def cw_s155 (pc : Nat) : List Bool := match pc with
  | 9 => [true]
  | 22 => [true]
  | 37 => [true]
  | _ => []
def cw_s156 (pc : Nat) : List Bool := match pc with
  | 14 => [true]
  | _ => []
def cw_s157 (pc : Nat) : List Bool := match pc with
  | 32 => [true]
  | 33 => [false, true]
  | 36 => [false, true]
  | _ => []
def cw_s158 (pc : Nat) : List Bool := match pc with
  | 18 => [true]
  | 31 => [true]
  | 52 => [true]
  | 54 => [false, true]
  | _ => []
def cw_s159 (pc : Nat) : List Bool := match pc with
  | 4 => [true]
  | 5 => [false, true]
  | 6 => [false, false, true]
  | 7 => [false, false, false, true]
  | _ => []
def cw_s160 (pc : Nat) : List Bool := match pc with
  | 4 => [true]
  | 34 => [true]
  | _ => []
def cw_s161 (pc : Nat) : List Bool := match pc with
  | 4 => [true]
  | 5 => [false, true]
  | _ => []
def cw_s164 (pc : Nat) : List Bool := match pc with
  | 4 => [true]
  | 5 => [false, true]
  | 6 => [false, false, true]
  | 7 => [false, false, false, true]
  | _ => []
def cw_s166 (pc : Nat) : List Bool := match pc with
  | 4 => [true]
  | 5 => [false, true]
  | _ => []
def cw_s167 (pc : Nat) : List Bool := match pc with
  | 27 => [true]
  | 50 => [true]
  | 52 => [false, true]
  | _ => []
def cw_s168 (pc : Nat) : List Bool := match pc with
  | 4 => [true]
  | 5 => [false, true]
  | 48 => [true]
  | 49 => [false, true]
  | 75 => [true]
  | 76 => [false, true]
  | _ => []
def cw_s171 (pc : Nat) : List Bool := match pc with
  | 46 => [true]
  | 62 => [true]
  | 80 => [true]
  | 96 => [true]
  | 109 => [true]
  | 111 => [false, true]
  | _ => []
def cw_s174 (pc : Nat) : List Bool := match pc with
  | 4 => [true]
  | 62 => [true]
  | 64 => [false, true]
  | _ => []
def cw_s175 (pc : Nat) : List Bool := match pc with
  | 4 => [true]
  | 5 => [false, true]
  | 15 => [true]
  | 16 => [false, true]
  | 51 => [true]
  | _ => []
def cw_s177 (pc : Nat) : List Bool := match pc with
  | 17 => [true]
  | 18 => [false, true]
  | 21 => [false, true]
  | _ => []
def cw_s179 (pc : Nat) : List Bool := match pc with
  | 4 => [true]
  | 5 => [false, true]
  | _ => []
def cw_s180 (pc : Nat) : List Bool := match pc with
  | 15 => [true]
  | 52 => [true]
  | 53 => [false, true]
  | 129 => [true]
  | 132 => [true]
  | 133 => [false, true]
  | 136 => [false, true]
  | 139 => [false, true]
  | 140 => [false, false, true]
  | 141 => [false, false, false, true]
  | 144 => [false, false, false, true]
  | 147 => [false, false, false, true]
  | _ => []
def cw_s182 (pc : Nat) : List Bool := match pc with
  | 4 => [true]
  | 5 => [false, true]
  | 15 => [true]
  | 16 => [false, true]
  | 53 => [true]
  | _ => []
def cw_s183 (pc : Nat) : List Bool := match pc with
  | 4 => [true]
  | _ => []
def cw_s186 (pc : Nat) : List Bool := match pc with
  | 7 => [true]
  | _ => []
def cw_s187 (pc : Nat) : List Bool := match pc with
  | 4 => [true]
  | 5 => [false, true]
  | 44 => [true]
  | 45 => [false, true]
  | 53 => [true]
  | 54 => [false, true]
  | _ => []
def cw_s188 (pc : Nat) : List Bool := match pc with
  | 13 => [true]
  | 14 => [false, true]
  | 15 => [false, false, true]
  | 16 => [false, false, false, true]
  | _ => []
def cw_s190 (pc : Nat) : List Bool := match pc with
  | 47 => [true]
  | 57 => [true]
  | 67 => [true]
  | 115 => [true]
  | _ => []
def cw_s225 (pc : Nat) : List Bool := match pc with
  | 12 => [true]
  | 17 => [true]
  | 19 => [false, true]
  | _ => []
def cw_s226 (pc : Nat) : List Bool := match pc with
  | 19 => [true]
  | _ => []
def cw_s227 (pc : Nat) : List Bool := match pc with
  | 7 => [true]
  | _ => []
def cw_s228 (pc : Nat) : List Bool := match pc with
  | 6 => [true]
  | _ => []
def cw_s230 (pc : Nat) : List Bool := match pc with
  | 6 => [true]
  | _ => []
def cw_s231 (pc : Nat) : List Bool := match pc with
  | 6 => [true]
  | _ => []
def cw_s232 (pc : Nat) : List Bool := match pc with
  | 6 => [true]
  | _ => []
def cw_s233 (pc : Nat) : List Bool := match pc with
  | 1 => [true]
  | 2 => [false, true]
  | 9 => [true]
  | 10 => [false, true]
  | 17 => [true]
  | 18 => [false, true]
  | _ => []
def cw_s234 (pc : Nat) : List Bool := match pc with
  | 1 => [true]
  | 2 => [false, true]
  | 9 => [true]
  | 12 => [true]
  | 13 => [false, true]
  | _ => []
def cw_s235 (pc : Nat) : List Bool := match pc with
  | 6 => [true]
  | 13 => [true]
  | 14 => [false, true]
  | _ => []
def cw_s236 (pc : Nat) : List Bool := match pc with
  | 1 => [true]
  | 2 => [false, true]
  | 9 => [true]
  | 12 => [true]
  | 13 => [false, true]
  | _ => []
def cw_s238 (pc : Nat) : List Bool := match pc with
  | 1 => [true]
  | 2 => [false, true]
  | 9 => [true]
  | 12 => [true]
  | 13 => [false, true]
  | _ => []
def cw_s239 (pc : Nat) : List Bool := match pc with
  | 1 => [true]
  | 2 => [false, true]
  | 9 => [true]
  | 12 => [true]
  | 13 => [false, true]
  | _ => []
def cw_s240 (pc : Nat) : List Bool := match pc with
  | 1 => [true]
  | 2 => [false, true]
  | 9 => [true]
  | 12 => [true]
  | 13 => [false, true]
  | _ => []
def cw_s241 (pc : Nat) : List Bool := match pc with
  | 6 => [true]
  | 13 => [true]
  | 14 => [false, true]
  | _ => []
def cw_s245 (pc : Nat) : List Bool := match pc with
  | 9 => [true]
  | 14 => [true]
  | 16 => [false, true]
  | 24 => [true]
  | 26 => [false, true]
  | _ => []
def cw_s248 (pc : Nat) : List Bool := match pc with
  | 2 => [true]
  | _ => []
def cw_s250 (pc : Nat) : List Bool := match pc with
  | 118 => [true]
  | _ => []
def cw_s252 (pc : Nat) : List Bool := match pc with
  | 2 => [true]
  | _ => []
def cw_s257 (pc : Nat) : List Bool := match pc with
  | 85 => [true]
  | 88 => [true]
  | 89 => [false, true]
  | 92 => [true, true]
  | 95 => [false, true]
  | 96 => [false, false, true]
  | 99 => [false, false, true]
  | _ => []
def cw_s260 (pc : Nat) : List Bool := match pc with
  | 31 => [true]
  | 34 => [true]
  | 35 => [false, true]
  | 38 => [true, true]
  | 41 => [false, true]
  | 73 => [true]
  | 76 => [true]
  | 77 => [false, true]
  | 80 => [true, true]
  | 83 => [false, true]
  | 93 => [true]
  | 96 => [true]
  | 97 => [false, true]
  | 100 => [true, true]
  | 103 => [false, true]
  | _ => []
def cw_s265 (pc : Nat) : List Bool := match pc with
  | 2 => [true]
  | 8 => [true]
  | 11 => [true]
  | 12 => [true, true]
  | 15 => [false, true]
  | 22 => [true]
  | 23 => [false, true]
  | 26 => [false, true]
  | _ => []
def cw_s266 (pc : Nat) : List Bool := match pc with
  | 28 => [true]
  | 31 => [true]
  | 32 => [false, true]
  | 35 => [true, true]
  | 38 => [false, true]
  | 59 => [true]
  | 62 => [true]
  | 63 => [false, true]
  | 66 => [true, true]
  | 69 => [false, true]
  | 136 => [true]
  | _ => []
def cw_s269 (pc : Nat) : List Bool := match pc with
  | 9 => [true]
  | 10 => [false, true]
  | 11 => [false, false, true]
  | 14 => [false, false, true]
  | _ => []
def cw_s277 (pc : Nat) : List Bool := match pc with
  | 45 => [true]
  | 46 => [false, true]
  | _ => []
def cw_s303 (pc : Nat) : List Bool := match pc with
  | 2 => [true]
  | 10 => [true]
  | 18 => [true]
  | 19 => [true, true]
  | 22 => [false, true]
  | 23 => [true, false, true]
  | 26 => [false, false, true]
  | 50 => [true]
  | 90 => [true]
  | 103 => [true]
  | 104 => [true, true]
  | 107 => [true, true]
  | 108 => [false, true, true]
  | 109 => [false, true]
  | 110 => [true, false, true]
  | 113 => [true, false, true]
  | 114 => [false, true, false, true]
  | 115 => [false, false, true]
  | 116 => [false, false, false, true]
  | 119 => [false, false, false, true]
  | 143 => [true]
  | 179 => [true]
  | 180 => [true, true]
  | 183 => [true, true]
  | 184 => [false, true, true]
  | 185 => [false, true]
  | 186 => [true, false, true]
  | 189 => [true, false, true]
  | 190 => [false, true, false, true]
  | 191 => [false, false, true]
  | 192 => [false, false, false, true]
  | 195 => [false, false, false, true]
  | 196 => [false, false, false, false, true]
  | 197 => [false, false, false, true]
  | _ => []
def cw_s309 (pc : Nat) : List Bool := match pc with
  | 41 => [true]
  | 42 => [false, true]
  | 43 => [false, false, true]
  | 45 => [false, false, false, true]
  | _ => []
def cw_s310 (pc : Nat) : List Bool := match pc with
  | 19 => [true]
  | 24 => [true]
  | 26 => [false, true]
  | 161 => [true]
  | 163 => [false, true]
  | _ => []
def cw_sa (mi pc : Nat) : List Bool := bif Nat.beq pc 0 then [] else match mi with
  | 139 => cw_s139 pc
  | 141 => cw_s141 pc
  | 142 => cw_s142 pc
  | 144 => cw_s144 pc
  | 145 => cw_s145 pc
  | 146 => cw_s146 pc
  | 147 => cw_s147 pc
  | 148 => cw_s148 pc
  | 155 => cw_s155 pc
  | 156 => cw_s156 pc
  | 157 => cw_s157 pc
  | 158 => cw_s158 pc
  | 159 => cw_s159 pc
  | 160 => cw_s160 pc
  | 161 => cw_s161 pc
  | 164 => cw_s164 pc
  | 166 => cw_s166 pc
  | 167 => cw_s167 pc
  | 168 => cw_s168 pc
  | 171 => cw_s171 pc
  | 174 => cw_s174 pc
  | 175 => cw_s175 pc
  | 177 => cw_s177 pc
  | 179 => cw_s179 pc
  | 180 => cw_s180 pc
  | 182 => cw_s182 pc
  | 183 => cw_s183 pc
  | 186 => cw_s186 pc
  | 187 => cw_s187 pc
  | 188 => cw_s188 pc
  | 190 => cw_s190 pc
  | 225 => cw_s225 pc
  | 226 => cw_s226 pc
  | 227 => cw_s227 pc
  | 228 => cw_s228 pc
  | 230 => cw_s230 pc
  | 231 => cw_s231 pc
  | 232 => cw_s232 pc
  | 233 => cw_s233 pc
  | 234 => cw_s234 pc
  | 235 => cw_s235 pc
  | 236 => cw_s236 pc
  | 238 => cw_s238 pc
  | 239 => cw_s239 pc
  | 240 => cw_s240 pc
  | 241 => cw_s241 pc
  | 245 => cw_s245 pc
  | 248 => cw_s248 pc
  | 250 => cw_s250 pc
  | 252 => cw_s252 pc
  | 257 => cw_s257 pc
  | 260 => cw_s260 pc
  | 265 => cw_s265 pc
  | 266 => cw_s266 pc
  | 269 => cw_s269 pc
  | 277 => cw_s277 pc
  | 303 => cw_s303 pc
  | 309 => cw_s309 pc
  | 310 => cw_s310 pc
  | _ => []
theorem cw_t0 : cw_F0.all (fun mi => (match zi_Ms[mi]? with | some M => cq_dk (cw_dl mi) 0 (cw_da mi) && cq_tb cw_fg cw_fp false true (cw_dr mi) cw_ff cw_dr cw_vr cw_da (cw_dl mi) (cw_sa mi) M.2.2.2.2.1 | none => true)) = true := by decide +kernel
theorem cw_t1 : cw_F1.all (fun mi => (match zi_Ms[mi]? with | some M => cq_dk (cw_dl mi) 0 (cw_da mi) && cq_tb cw_fg cw_fp false true (cw_dr mi) cw_ff cw_dr cw_vr cw_da (cw_dl mi) (cw_sa mi) M.2.2.2.2.1 | none => true)) = true := by decide +kernel
theorem cw_t2 : cw_F2.all (fun mi => (match zi_Ms[mi]? with | some M => cq_dk (cw_dl mi) 0 (cw_da mi) && cq_tb cw_fg cw_fp false true (cw_dr mi) cw_ff cw_dr cw_vr cw_da (cw_dl mi) (cw_sa mi) M.2.2.2.2.1 | none => true)) = true := by decide +kernel
theorem cw_t3 : cw_F3.all (fun mi => (match zi_Ms[mi]? with | some M => cq_dk (cw_dl mi) 0 (cw_da mi) && cq_tb cw_fg cw_fp false true (cw_dr mi) cw_ff cw_dr cw_vr cw_da (cw_dl mi) (cw_sa mi) M.2.2.2.2.1 | none => true)) = true := by decide +kernel
theorem cw_in {mi : Nat} {M : zi_M} {l : List Nat} (h : l.any (Nat.beq mi) = true) (ha : l.all (fun mi => (match zi_Ms[mi]? with | some M => cq_dk (cw_dl mi) 0 (cw_da mi) && cq_tb cw_fg cw_fp false true (cw_dr mi) cw_ff cw_dr cw_vr cw_da (cw_dl mi) (cw_sa mi) M.2.2.2.2.1 | none => true)) = true) (hm : zi_Ms[mi]? = some M) : M.2.2.2.1.isSome = cw_vr mi ∧ cq_dk (cw_dl mi) 0 (cw_da mi) = true ∧ cq_tb cw_fg cw_fp false true (cw_dr mi) cw_ff cw_dr cw_vr cw_da (cw_dl mi) (cw_sa mi) M.2.2.2.2.1 = true := by
  obtain ⟨x, hx, e⟩ := List.any_eq_true.mp h
  have e := Nat.eq_of_beq_eq_true e
  subst e
  have z := List.all_eq_true.mp ha mi hx
  rw [hm] at z
  have z := (Bool.and_eq_true _ _).mp z
  refine ⟨?_, z.1, z.2⟩
  unfold cw_vr
  rw [hm]
theorem cw_M (mi : Nat) (M : zi_M) (h : cw_ff mi = true) (hm : zi_Ms[mi]? = some M) : M.2.2.2.1.isSome = cw_vr mi ∧ cq_dk (cw_dl mi) 0 (cw_da mi) = true ∧ cq_tb cw_fg cw_fp false true (cw_dr mi) cw_ff cw_dr cw_vr cw_da (cw_dl mi) (cw_sa mi) M.2.2.2.2.1 = true := by
  unfold cw_ff at h
  repeat rw [Bool.or_eq_true] at h
  rcases h with ((h | h) | h) | h
  · exact cw_in h cw_t0 hm
  · exact cw_in h cw_t1 hm
  · exact cw_in h cw_t2 hm
  · exact cw_in h cw_t3 hm
theorem cw_s0 (mi : Nat) : cw_sa mi 0 = [] := rfl
def cv_F0 : List Nat := [143, 219, 220, 221, 222, 223, 224, 225, 226, 229, 231, 234, 237, 247, 248, 249, 250, 251, 253, 254, 255, 256, 257, 258, 259, 260, 261, 262, 263, 264, 266, 267, 268, 269, 270, 271, 272]
def cv_ff (mi : Nat) : Bool := cv_F0.any (Nat.beq mi)
def cv_dr (mi : Nat) : Bool := ([] : List Nat).any (Nat.beq mi)
def cv_vr (mi : Nat) : Bool := match zi_Ms[mi]? with | some M => M.2.2.2.1.isSome | none => false
def cv_da (mi : Nat) : List Bool := match mi with
  | 219 => [true]
  | 220 => [true]
  | 221 => [true]
  | 222 => [true]
  | 223 => [true]
  | 224 => [true]
  | 225 => [true]
  | 226 => [true]
  | 229 => [true]
  | 231 => [true]
  | 234 => [true]
  | 237 => [true]
  | 248 => [false, true]
  | 258 => [false, true]
  | 269 => [false, true]
  | _ => []
def cv_dk (mi : Nat) : List Nat := match mi with
  | 219 => [0]
  | 220 => [0]
  | 221 => [0]
  | 222 => [0]
  | 223 => [0]
  | 224 => [0]
  | 225 => [0]
  | 226 => [0]
  | 229 => [0]
  | 231 => [0]
  | 234 => [0]
  | 237 => [0]
  | 248 => [1, 2]
  | 258 => [1, 2]
  | 269 => [1, 2]
  | _ => []
def cv_dl (mi j : Nat) : Bool := (cv_dk mi).any (Nat.beq j)
def cv_s219 (pc : Nat) : List Bool := match pc with
  | 1 => [true]
  | 5 => [true]
  | 6 => [false, true]
  | 8 => [false, true]
  | 12 => [true]
  | 13 => [false, true]
  | 15 => [false, true]
  | 19 => [true]
  | 20 => [false, true]
  | 22 => [false, true]
  | 26 => [true]
  | 27 => [false, true]
  | 29 => [false, true]
  | 33 => [true]
  | 34 => [false, true]
  | 36 => [false, true]
  | 40 => [true]
  | 41 => [false, true]
  | 43 => [false, true]
  | 47 => [true]
  | 49 => [false, true]
  | 51 => [false, true]
  | 55 => [true]
  | 57 => [false, true]
  | 59 => [false, true]
  | 63 => [true]
  | 64 => [false, true]
  | 66 => [false, true]
  | 70 => [true]
  | 71 => [false, true]
  | 73 => [false, true]
  | 77 => [true]
  | 79 => [false, true]
  | 81 => [false, true]
  | 85 => [true]
  | 87 => [false, true]
  | 89 => [false, true]
  | 93 => [true]
  | 94 => [false, true]
  | 96 => [false, true]
  | 97 => [false, false, true]
  | 98 => [false, false, false, true]
  | 101 => [false, false, false, false, true]
  | 102 => [false, true]
  | 106 => [true]
  | 107 => [false, true]
  | _ => []
def cv_s220 (pc : Nat) : List Bool := match pc with
  | 1 => [true]
  | 9 => [true]
  | 12 => [true]
  | 13 => [true, true]
  | 16 => [false, true]
  | 17 => [false, false, true]
  | 19 => [true]
  | 20 => [true, true]
  | 23 => [false, true]
  | 24 => [false, false, true]
  | 25 => [false, true]
  | _ => []
def cv_s221 (pc : Nat) : List Bool := match pc with
  | 1 => [true]
  | 9 => [true]
  | 12 => [true]
  | 13 => [true, true]
  | 16 => [false, true]
  | 17 => [false, false, true]
  | 19 => [true]
  | 22 => [true]
  | 23 => [true, true]
  | 26 => [false, true]
  | 27 => [false, false, true]
  | 29 => [true]
  | 30 => [true, true]
  | 33 => [false, true]
  | 34 => [false, false, true]
  | 35 => [false, true]
  | _ => []
def cv_s222 (pc : Nat) : List Bool := match pc with
  | 1 => [true]
  | 9 => [true]
  | 12 => [true]
  | 13 => [true, true]
  | 16 => [false, true]
  | 17 => [false, false, true]
  | 19 => [true]
  | 22 => [true]
  | 23 => [true, true]
  | 26 => [false, true]
  | 27 => [false, false, true]
  | 29 => [true]
  | 30 => [true, true]
  | 33 => [false, true]
  | 34 => [false, false, true]
  | 35 => [false, true]
  | _ => []
def cv_s223 (pc : Nat) : List Bool := match pc with
  | 1 => [true]
  | 9 => [true]
  | 12 => [true]
  | 13 => [true, true]
  | 16 => [false, true]
  | 17 => [false, false, true]
  | 19 => [true]
  | 22 => [true]
  | 23 => [true, true]
  | 26 => [false, true]
  | 27 => [false, false, true]
  | 29 => [true]
  | 32 => [true]
  | 33 => [true, true]
  | 36 => [false, true]
  | 38 => [false, false, true]
  | 40 => [true]
  | 41 => [true, true]
  | 44 => [false, true]
  | 45 => [false, false, true]
  | 46 => [false, true]
  | _ => []
def cv_s224 (pc : Nat) : List Bool := match pc with
  | 1 => [true]
  | 10 => [true]
  | 13 => [true]
  | 14 => [true, true]
  | 17 => [false, true]
  | 18 => [false, false, true]
  | 20 => [true]
  | 23 => [true]
  | 24 => [true, true]
  | 27 => [false, true]
  | 28 => [false, false, true]
  | 30 => [true]
  | 33 => [true]
  | 34 => [true, true]
  | 37 => [false, true]
  | 38 => [false, false, true]
  | 40 => [true]
  | 43 => [true]
  | 44 => [true, true]
  | 47 => [false, true]
  | 49 => [false, false, true]
  | 51 => [true]
  | 52 => [true, true]
  | 55 => [false, true]
  | 56 => [false, false, true]
  | 57 => [false, true]
  | _ => []
def cv_s225 (pc : Nat) : List Bool := match pc with
  | 12 => [true]
  | 17 => [true]
  | 19 => [false, true]
  | _ => []
def cv_s226 (pc : Nat) : List Bool := match pc with
  | 19 => [true]
  | _ => []
def cv_s229 (pc : Nat) : List Bool := match pc with
  | 1 => [true]
  | 4 => [true]
  | 5 => [true, true]
  | 8 => [false, true]
  | 9 => [false, false, true]
  | 17 => [true]
  | 20 => [true]
  | 21 => [true, true]
  | 24 => [false, true]
  | 25 => [false, false, true]
  | 33 => [true]
  | 36 => [true]
  | 37 => [true, true]
  | 40 => [false, true]
  | 41 => [false, false, true]
  | _ => []
def cv_s231 (pc : Nat) : List Bool := match pc with
  | 6 => [true]
  | _ => []
def cv_s234 (pc : Nat) : List Bool := match pc with
  | 1 => [true]
  | 2 => [false, true]
  | 9 => [true]
  | 12 => [true]
  | 13 => [false, true]
  | _ => []
def cv_s237 (pc : Nat) : List Bool := match pc with
  | 1 => [true]
  | 2 => [false, true]
  | 21 => [true]
  | 22 => [false, true]
  | 23 => [false, false, true]
  | 24 => [false, true]
  | 26 => [false, true]
  | 35 => [true]
  | 38 => [true]
  | 43 => [true]
  | 46 => [true]
  | 48 => [false, true]
  | 49 => [false, false, true]
  | 50 => [false, false, false, true]
  | 52 => [false, false, false, false, true]
  | 53 => [false, false, false, true]
  | 54 => [false, false, true]
  | _ => []
def cv_s248 (pc : Nat) : List Bool := match pc with
  | 2 => [true]
  | _ => []
def cv_s250 (pc : Nat) : List Bool := match pc with
  | 118 => [true]
  | _ => []
def cv_s253 (pc : Nat) : List Bool := match pc with
  | 30 => [true]
  | 31 => [false, true]
  | _ => []
def cv_s254 (pc : Nat) : List Bool := match pc with
  | 4 => [true]
  | 15 => [true]
  | 16 => [false, true]
  | 19 => [true, true]
  | 22 => [false, true]
  | 23 => [false, false, true]
  | 26 => [true, false, true]
  | 29 => [false, false, true]
  | 30 => [false, false, false, true]
  | 31 => [false, false, true]
  | 72 => [true]
  | 73 => [false, true]
  | _ => []
def cv_s257 (pc : Nat) : List Bool := match pc with
  | 85 => [true]
  | 88 => [true]
  | 89 => [false, true]
  | 92 => [true, true]
  | 95 => [false, true]
  | 96 => [false, false, true]
  | 99 => [false, false, true]
  | _ => []
def cv_s258 (pc : Nat) : List Bool := match pc with
  | 2 => [true]
  | _ => []
def cv_s259 (pc : Nat) : List Bool := match pc with
  | 4 => [true]
  | 49 => [true]
  | 50 => [false, true]
  | 51 => [false, false, true]
  | 54 => [false, false, true]
  | _ => []
def cv_s260 (pc : Nat) : List Bool := match pc with
  | 31 => [true]
  | 34 => [true]
  | 35 => [false, true]
  | 38 => [true, true]
  | 41 => [false, true]
  | 73 => [true]
  | 76 => [true]
  | 77 => [false, true]
  | 80 => [true, true]
  | 83 => [false, true]
  | 93 => [true]
  | 96 => [true]
  | 97 => [false, true]
  | 100 => [true, true]
  | 103 => [false, true]
  | _ => []
def cv_s262 (pc : Nat) : List Bool := match pc with
  | 4 => [true]
  | 15 => [true]
  | 16 => [false, true]
  | 19 => [true, true]
  | 22 => [false, true]
  | 23 => [false, false, true]
  | 24 => [false, true]
  | 25 => [false, false, true]
  | 28 => [true, false, true]
  | 31 => [false, false, true]
  | 85 => [true]
  | 86 => [false, true]
  | 87 => [false, false, true]
  | _ => []
def cv_s263 (pc : Nat) : List Bool := match pc with
  | 4 => [true]
  | 49 => [true]
  | 50 => [false, true]
  | 53 => [false, true]
  | 54 => [false, false, true]
  | 55 => [false, false, false, true]
  | 58 => [false, false, false, true]
  | _ => []
def cv_s264 (pc : Nat) : List Bool := match pc with
  | 4 => [true]
  | 95 => [true]
  | 96 => [false, true]
  | 97 => [false, false, true]
  | 99 => [false, false, false, true]
  | _ => []
def cv_s266 (pc : Nat) : List Bool := match pc with
  | 28 => [true]
  | 31 => [true]
  | 32 => [false, true]
  | 35 => [true, true]
  | 38 => [false, true]
  | 59 => [true]
  | 62 => [true]
  | 63 => [false, true]
  | 66 => [true, true]
  | 69 => [false, true]
  | 136 => [true]
  | _ => []
def cv_s267 (pc : Nat) : List Bool := match pc with
  | 4 => [true]
  | 28 => [true]
  | 31 => [true]
  | 32 => [false, true]
  | 35 => [true, true]
  | 38 => [false, true]
  | 46 => [true]
  | 47 => [false, true]
  | 149 => [true]
  | 150 => [false, true]
  | 151 => [false, false, true]
  | 153 => [false, false, false, true]
  | 154 => [false, false, false, false, true]
  | 157 => [false, false, false, false, true]
  | _ => []
def cv_s269 (pc : Nat) : List Bool := match pc with
  | 9 => [true]
  | 10 => [false, true]
  | 11 => [false, false, true]
  | 14 => [false, false, true]
  | _ => []
def cv_s270 (pc : Nat) : List Bool := match pc with
  | 25 => [true]
  | 26 => [false, true]
  | _ => []
def cv_sa (mi pc : Nat) : List Bool := bif Nat.beq pc 0 then [] else match mi with
  | 219 => cv_s219 pc
  | 220 => cv_s220 pc
  | 221 => cv_s221 pc
  | 222 => cv_s222 pc
  | 223 => cv_s223 pc
  | 224 => cv_s224 pc
  | 225 => cv_s225 pc
  | 226 => cv_s226 pc
  | 229 => cv_s229 pc
  | 231 => cv_s231 pc
  | 234 => cv_s234 pc
  | 237 => cv_s237 pc
  | 248 => cv_s248 pc
  | 250 => cv_s250 pc
  | 253 => cv_s253 pc
  | 254 => cv_s254 pc
  | 257 => cv_s257 pc
  | 258 => cv_s258 pc
  | 259 => cv_s259 pc
  | 260 => cv_s260 pc
  | 262 => cv_s262 pc
  | 263 => cv_s263 pc
  | 264 => cv_s264 pc
  | 266 => cv_s266 pc
  | 267 => cv_s267 pc
  | 269 => cv_s269 pc
  | 270 => cv_s270 pc
  | _ => []
theorem cv_t0 : cv_F0.all (fun mi => (match zi_Ms[mi]? with | some M => cq_dk (cv_dl mi) 0 (cv_da mi) && cq_tb cw_fg cw_fp false false (cv_dr mi) cv_ff cv_dr cv_vr cv_da (cv_dl mi) (cv_sa mi) M.2.2.2.2.1 | none => true)) = true := by decide +kernel
theorem cv_in {mi : Nat} {M : zi_M} {l : List Nat} (h : l.any (Nat.beq mi) = true) (ha : l.all (fun mi => (match zi_Ms[mi]? with | some M => cq_dk (cv_dl mi) 0 (cv_da mi) && cq_tb cw_fg cw_fp false false (cv_dr mi) cv_ff cv_dr cv_vr cv_da (cv_dl mi) (cv_sa mi) M.2.2.2.2.1 | none => true)) = true) (hm : zi_Ms[mi]? = some M) : M.2.2.2.1.isSome = cv_vr mi ∧ cq_dk (cv_dl mi) 0 (cv_da mi) = true ∧ cq_tb cw_fg cw_fp false false (cv_dr mi) cv_ff cv_dr cv_vr cv_da (cv_dl mi) (cv_sa mi) M.2.2.2.2.1 = true := by
  obtain ⟨x, hx, e⟩ := List.any_eq_true.mp h
  have e := Nat.eq_of_beq_eq_true e
  subst e
  have z := List.all_eq_true.mp ha mi hx
  rw [hm] at z
  have z := (Bool.and_eq_true _ _).mp z
  refine ⟨?_, z.1, z.2⟩
  unfold cv_vr
  rw [hm]
theorem cv_M (mi : Nat) (M : zi_M) (h : cv_ff mi = true) (hm : zi_Ms[mi]? = some M) : M.2.2.2.1.isSome = cv_vr mi ∧ cq_dk (cv_dl mi) 0 (cv_da mi) = true ∧ cq_tb cw_fg cw_fp false false (cv_dr mi) cv_ff cv_dr cv_vr cv_da (cv_dl mi) (cv_sa mi) M.2.2.2.2.1 = true := by
  unfold cv_ff at h
  repeat rw [Bool.or_eq_true] at h
  exact cv_in h cv_t0 hm
theorem cv_s0 (mi : Nat) : cv_sa mi 0 = [] := rfl
theorem cw_10 {q : Nat} (hq : 10 ≤ q) (p : Nat) (h : cw_pr q p = true) : 10 ≤ p := by
  unfold cw_pr at h
  rw [Bool.and_eq_true] at h
  have := Nat.le_of_ble_eq_true h.1
  omega
theorem cw_c1 (c k : Nat) (h : cw_fg c k = true) : c < 20 ∨ 26 < c := by
  unfold cw_fg at h
  rw [Bool.or_eq_true, Bool.or_eq_true, Bool.and_eq_true, Bool.and_eq_true, Bool.and_eq_true] at h
  rcases h with h | h | h <;> (have := Nat.eq_of_beq_eq_true h.1; omega)
theorem cw_c2 (c k : Nat) (h : cw_fp c k = true) : c < 20 := by
  unfold cw_fp at h
  rw [Bool.and_eq_true] at h
  have := Nat.eq_of_beq_eq_true h.1
  omega
def cw_I (q : Nat) (R : Nat → Nat → Option Nat) (Y : (Nat → Nat) × (Nat → Nat) × Nat) : Prop := ∀ I L, cq_I (cw_pr q) cw_ps cw_fg cw_fp false (I, L, R, Y)
def cw_H (q : Nat) (I L : Nat → Nat → Int) (R : Nat → Nat → Option Nat) (Y : (Nat → Nat) × (Nat → Nat) × Nat) (I' L' : Nat → Nat → Int) (R' : Nat → Nat → Option Nat) (Y' : (Nat → Nat) × (Nat → Nat) × Nat) : Prop := cw_I q R' Y' ∧ (∀ p k, cw_pr q p = true ∨ cw_ps p k = true → I' p k = I p k ∧ L' p k = L p k ∧ R' p k = R p k) ∧ (∀ p, p < Y.2.2 → Y'.1 p = Y.1 p ∧ Y'.2.1 p = Y.2.1 p) ∧ Y.2.2 ≤ Y'.2.2
def cv_H (q : Nat) (I L : Nat → Nat → Int) (R : Nat → Nat → Option Nat) (Y : (Nat → Nat) × (Nat → Nat) × Nat) (I' L' : Nat → Nat → Int) (R' : Nat → Nat → Option Nat) (Y' : (Nat → Nat) × (Nat → Nat) × Nat) : Prop := cw_I q R' Y' ∧ (∀ p k, cw_ps p k = true → I' p k = I p k ∧ L' p k = L p k ∧ R' p k = R p k) ∧ (∀ p, p < Y.2.2 → Y'.1 p = Y.1 p ∧ Y'.2.1 p = Y.2.1 p) ∧ Y.2.2 ≤ Y'.2.2
theorem cw_of {q : Nat} {I L : Nat → Nat → Int} {R : Nat → Nat → Option Nat} {Y : (Nat → Nat) × (Nat → Nat) × Nat} {H' : yi_H} (h : cq_H (cw_pr q) cw_ps cw_fg cw_fp false true (I, L, R, Y) H') : cw_H q I L R Y H'.1 H'.2.1 H'.2.2.1 H'.2.2.2 := ⟨fun _ _ => h.1, fun p k hp => h.2.1 p k (hp.imp (fun a => ⟨a, rfl⟩) id), h.2.2.1, h.2.2.2⟩
theorem cv_of {q : Nat} {I L : Nat → Nat → Int} {R : Nat → Nat → Option Nat} {Y : (Nat → Nat) × (Nat → Nat) × Nat} {H' : yi_H} (h : cq_H (cw_pr q) cw_ps cw_fg cw_fp false false (I, L, R, Y) H') : cv_H q I L R Y H'.1 H'.2.1 H'.2.2.1 H'.2.2.2 := ⟨fun _ _ => h.1, fun p k hp => h.2.1 p k (Or.inr hp), h.2.2.1, h.2.2.2⟩
theorem cw_cl {q : Nat} (hq : 10 ≤ q) (n d : Nat) : cq_cl (cw_pr q) cw_ps cw_fg cw_fp false true cw_ff cw_dr cw_vr cw_da (yi_ev zi_Ms n d) := cq_all (cw_10 hq) cw_c1 cw_c2 cw_s0 cw_M n d
theorem cv_cl {q : Nat} (hq : 10 ≤ q) (n d : Nat) : cq_cl (cw_pr q) cw_ps cw_fg cw_fp false false cv_ff cv_dr cv_vr cv_da (yi_ev zi_Ms n d) := cq_all (cw_10 hq) cw_c1 cw_c2 cv_s0 cv_M n d
/-- what is given to a call: bounded, and guarded where it may be -/
def cw_vs (q N : Nat) (da : List Bool) (vs : List yi_V) : Prop := cq_vs (cw_pr q) N da vs
theorem cw_P {q d mi : Nat} {vs : List yi_V} {I L : Nat → Nat → Int} {R : Nat → Nat → Option Nat} {Y : (Nat → Nat) × (Nat → Nat) × Nat} (hq : 10 ≤ q) (hi : cw_I q R Y) (hf : cw_ff mi = true) (hv : cw_vs q Y.2.2 (cw_da mi) vs) : yi_P zi_Ms d mi vs (I, L, R, Y) (fun r => cw_H q I L R Y r.2.1.1 r.2.1.2.1 r.2.1.2.2.1 r.2.1.2.2.2) := by
  intro n r e
  exact cw_of (cw_cl hq n d mi vs (I, L, R, Y) r hf hv (hi I L) e).2.2
theorem cv_P {q d mi : Nat} {vs : List yi_V} {I L : Nat → Nat → Int} {R : Nat → Nat → Option Nat} {Y : (Nat → Nat) × (Nat → Nat) × Nat} (hq : 10 ≤ q) (hi : cw_I q R Y) (hf : cv_ff mi = true) (hv : cw_vs q Y.2.2 (cv_da mi) vs) : yi_P zi_Ms d mi vs (I, L, R, Y) (fun r => cv_H q I L R Y r.2.1.1 r.2.1.2.1 r.2.1.2.2.1 r.2.1.2.2.2) := by
  intro n r e
  exact cv_of (cv_cl hq n d mi vs (I, L, R, Y) r hf hv (hi I L) e).2.2
theorem cw_v0 {q N : Nat} {da : List Bool} : cw_vs q N da [] := fun j v h => by cases h
theorem cw_vc {q N : Nat} {b : Bool} {da : List Bool} {v : yi_V} {vs : List yi_V} (h : cq_V (cw_pr q) N b v) (h2 : cw_vs q N da vs) : cw_vs q N (b :: da) (v :: vs) := fun j w hw => by
  cases j with
  | zero => cases hw; exact h
  | succ j => exact h2 j w hw
theorem cw_vn {q N : Nat} {v : yi_V} {vs : List yi_V} (h : cq_V (cw_pr q) N false v) (h2 : cw_vs q N [] vs) : cw_vs q N [] (v :: vs) := fun j w hw => by
  cases j with
  | zero => cases hw; exact h
  | succ j => exact h2 j w hw
theorem cw_vi {q N : Nat} {f : Bool} (x : Int) : cq_V (cw_pr q) N f (.inl x) := cq_Vi x
theorem cw_vl {q N : Nat} {f : Bool} (x : Int) : cq_V (cw_pr q) N f (.inr (.inl x)) := cq_Vl x
theorem cw_v10 {q N p : Nat} {f : Bool} (hq : p < q) (hN : p < N) : cq_V (cw_pr q) N f (.inr (.inr (some p))) := fun x e => by
  have e : some p = some x := Sum.inr.inj (Sum.inr.inj e)
  cases e
  refine ⟨hN, fun _ => ?_⟩
  unfold cw_pr
  cases h : Nat.ble q p with
  | true => have := Nat.le_of_ble_eq_true h; omega
  | false => rfl
def cw_sg (pc : Nat) : List Bool := bif Nat.beq pc 0 then [] else match pc with | 4 => [true] | 5 => [false, true] | 6 => [false, false, true] | 7 => [false, false, false, true] | _ => []
theorem cw_tg : cq_tb cw_fg cw_fp false true false cw_ff cw_dr cw_vr cw_da (fun _ => false) cw_sg zi_mg.2.2.2.2.1 = true := by decide +kernel
theorem cw_first {q d k : Nat} {I L : Nat → Nat → Int} {R : Nat → Nat → Option Nat} {Y : (Nat → Nat) × (Nat → Nat) × Nat} (hq : 11 ≤ q) (hi : cw_I q R Y) {x y w : Int} (hY : 11 ≤ Y.2.2) : yi_D zi_Ms d zi_mg k (0, [(0, .inr (.inr (some 10))), (1, .inl x), (2, .inl y), (3, .inl w)], [], (I, L, R, Y), 0, 0) (fun r => cw_H q I L R Y r.2.1.1 r.2.1.2.1 r.2.1.2.2.1 r.2.1.2.2.2) := by
  intro n j r _ e
  have h := (cq_loop (dl := fun _ => false) (sa := cw_sg) (rd := false) (rv := zi_mg.2.2.2.1.isSome) (cw_10 (by omega)) cw_c1 cw_c2 (cw_cl (by omega) n d) cw_tg rfl j (0, [(0, .inr (.inr (some 10))), (1, .inl x), (2, .inl y), (3, .inl w)], [], (I, L, R, Y), 0, 0) (fun q hq => by
    rcases List.mem_cons.mp hq with e | hq
    · subst e; exact cw_v10 (by omega) (by show 10 < Y.2.2; omega)
    rcases List.mem_cons.mp hq with e | hq
    · subst e; exact cw_vi _
    rcases List.mem_cons.mp hq with e | hq
    · subst e; exact cw_vi _
    rcases List.mem_cons.mp hq with e | hq
    · subst e; exact cw_vi _
    cases hq) cq_sf_n (hi I L) e).2.2
  exact cw_of h
/-! The check's land: its rows are out of reach of all calls but its own land. -/
def cm_pr (p : Nat) : Bool := Nat.beq p 88 || (Nat.beq p 91 || Nat.beq p 93)
def cm_ps (p k : Nat) : Bool := Nat.beq p 82 && (Nat.beq k 10 || (Nat.beq k 14 || (Nat.beq k 16 || Nat.beq k 18)))
def cm_fg (c k : Nat) : Bool := Nat.beq c 11 && (Nat.beq k 10 || (Nat.beq k 14 || Nat.beq k 16))
def cm_fp (c k : Nat) : Bool := Nat.beq c 11 && (Nat.beq k 10 || (Nat.beq k 14 || (Nat.beq k 16 || Nat.beq k 18)))
def cm_F0 : List Nat := [1, 2, 3, 4, 5, 6, 7, 8, 9, 10, 11, 12, 13, 14, 15, 16, 17, 18, 19, 20, 21, 22, 23, 24, 25, 26, 27, 28, 29, 30, 31, 32, 33, 34, 35, 36, 37, 38, 39, 40, 41, 42, 43, 44, 45, 46]
def cm_F1 : List Nat := [47, 48, 49, 50, 51, 52, 53, 54, 55, 56, 57, 58, 59, 60, 61, 62, 63, 64, 65, 66, 67, 68, 69, 70, 71, 73, 74, 75, 76, 77, 78, 79, 80, 81, 82, 83, 84, 85, 86, 88, 90, 91, 92, 93, 94, 96]
def cm_F2 : List Nat := [97, 104, 106, 107, 108, 109, 110, 112, 113, 116, 118, 119, 121, 122, 124, 125, 126, 127, 128, 129, 130, 131, 132, 133, 134, 135, 136, 137, 139, 140, 141, 142, 143, 144, 145, 146, 147, 148, 149, 150, 151, 152, 153, 154, 155, 156]
def cm_F3 : List Nat := [157, 158, 159, 160, 161, 162, 163, 164, 165, 166, 167, 168, 169, 170, 171, 172, 173, 174, 175, 176, 177, 178, 179, 180, 181, 182, 183, 184, 185, 186, 187, 188, 189, 190, 191, 193, 194, 195, 196, 197, 198, 199, 200, 201, 202, 203]
def cm_F4 : List Nat := [204, 205, 206, 207, 208, 209, 210, 211, 213, 214, 215, 216, 217, 218, 219, 220, 221, 222, 223, 224, 225, 226, 227, 228, 229, 230, 231, 232, 233, 234, 235, 236, 237, 238, 239, 240, 241, 243, 244, 245, 247, 248, 249, 250, 251, 252]
def cm_F5 : List Nat := [253, 254, 255, 256, 257, 258, 259, 260, 261, 262, 263, 264, 265, 266, 267, 268, 269, 270, 271, 272, 273, 274, 275, 276, 277, 278, 279, 280, 281, 282, 283, 284, 285, 286, 287, 288, 289, 291, 292, 293, 294, 295, 296, 297, 299, 300]
def cm_F6 : List Nat := [301, 303, 304, 305, 306, 307, 308, 309, 310, 311, 312, 313, 314, 315, 316, 317, 318, 319, 322, 323, 324, 325, 326, 327, 329, 330, 331, 332]
def cm_ff (mi : Nat) : Bool := cm_F0.any (Nat.beq mi) || cm_F1.any (Nat.beq mi) || cm_F2.any (Nat.beq mi) || cm_F3.any (Nat.beq mi) || cm_F4.any (Nat.beq mi) || cm_F5.any (Nat.beq mi) || cm_F6.any (Nat.beq mi)
def cm_dr (mi : Nat) : Bool := ([] : List Nat).any (Nat.beq mi)
def cm_vr (mi : Nat) : Bool := match zi_Ms[mi]? with | some M => M.2.2.2.1.isSome | none => false
def cm_da (mi : Nat) : List Bool := match mi with
  | _ => []
def cm_dk (mi : Nat) : List Nat := match mi with
  | _ => []
def cm_dl (mi j : Nat) : Bool := (cm_dk mi).any (Nat.beq j)
def cm_s3 (pc : Nat) : List Bool := match pc with
  | 35 => [true]
  | 36 => [false, true]
  | 53 => [true]
  | 54 => [false, true]
  | 74 => [true]
  | 76 => [false, true]
  | 77 => [false, false, true]
  | 79 => [false, false, false, true]
  | 80 => [false, false, true]
  | 81 => [false, true]
  | 82 => [false, false, true]
  | 83 => [false, true]
  | _ => []
def cm_s4 (pc : Nat) : List Bool := match pc with
  | 66 => [true]
  | 68 => [false, true]
  | 69 => [false, false, true]
  | 70 => [false, false, false, true]
  | 71 => [false, false, true]
  | 72 => [false, true]
  | 73 => [false, false, true]
  | 74 => [false, true]
  | _ => []
def cm_s8 (pc : Nat) : List Bool := match pc with
  | 15 => [true]
  | 16 => [false, true]
  | _ => []
def cm_s15 (pc : Nat) : List Bool := match pc with
  | 87 => [true]
  | 88 => [false, true]
  | 94 => [true]
  | 95 => [false, true]
  | 101 => [true]
  | 102 => [false, true]
  | _ => []
def cm_s17 (pc : Nat) : List Bool := match pc with
  | 4 => [true]
  | 5 => [false, true]
  | _ => []
def cm_s22 (pc : Nat) : List Bool := match pc with
  | 4 => [true]
  | 5 => [false, true]
  | _ => []
def cm_s26 (pc : Nat) : List Bool := match pc with
  | 35 => [true]
  | 36 => [false, true]
  | 70 => [true]
  | 71 => [false, true]
  | _ => []
def cm_s32 (pc : Nat) : List Bool := match pc with
  | 176 => [true]
  | 177 => [false, true]
  | 191 => [true]
  | 193 => [false, true]
  | 195 => [false, false, true]
  | 196 => [false, true]
  | 241 => [true]
  | 242 => [false, true]
  | 250 => [true]
  | 252 => [false, true]
  | 253 => [false, false, true]
  | 254 => [false, false, false, true]
  | 255 => [false, false, true]
  | 256 => [false, true]
  | 268 => [true]
  | 270 => [false, true]
  | 271 => [false, false, true]
  | 272 => [false, false, false, true]
  | 273 => [false, false, true]
  | 274 => [false, true]
  | 275 => [false, false, true]
  | 276 => [false, true]
  | _ => []
def cm_s59 (pc : Nat) : List Bool := match pc with
  | 9 => [true]
  | 10 => [false, true]
  | _ => []
def cm_s70 (pc : Nat) : List Bool := match pc with
  | 4 => [true]
  | 6 => [false, true]
  | 7 => [false, false, true]
  | 8 => [false, false, false, true]
  | 9 => [false, false, true]
  | 10 => [false, true]
  | _ => []
def cm_s83 (pc : Nat) : List Bool := match pc with
  | 19 => [true]
  | 21 => [false, true]
  | 22 => [false, false, true]
  | 23 => [false, true]
  | _ => []
def cm_s88 (pc : Nat) : List Bool := match pc with
  | 4 => [true]
  | 5 => [false, true]
  | _ => []
def cm_s91 (pc : Nat) : List Bool := match pc with
  | 87 => [true]
  | 88 => [false, true]
  | 102 => [true]
  | 104 => [false, true]
  | 105 => [false, false, true]
  | 107 => [false, false, false, true]
  | 108 => [false, false, true]
  | 109 => [false, true]
  | _ => []
def cm_s94 (pc : Nat) : List Bool := match pc with
  | 4 => [true]
  | 5 => [false, true]
  | 8 => [false, true]
  | 9 => [false, false, true]
  | 10 => [false, true]
  | _ => []
def cm_s109 (pc : Nat) : List Bool := match pc with
  | 105 => [true]
  | 107 => [false, true]
  | 109 => [false, false, true]
  | 110 => [false, true]
  | _ => []
def cm_s121 (pc : Nat) : List Bool := match pc with
  | 17 => [true]
  | 19 => [false, true]
  | 20 => [false, false, true]
  | 21 => [false, true]
  | _ => []
def cm_s122 (pc : Nat) : List Bool := match pc with
  | 155 => [true]
  | 157 => [false, true]
  | 170 => [true]
  | 172 => [false, true]
  | _ => []
def cm_s129 (pc : Nat) : List Bool := match pc with
  | 9 => [true]
  | 10 => [false, true]
  | 18 => [true]
  | 20 => [false, true]
  | 21 => [false, false, true]
  | 23 => [false, false, false, true]
  | 24 => [false, false, true]
  | 25 => [false, true]
  | _ => []
def cm_s130 (pc : Nat) : List Bool := match pc with
  | 11 => [true]
  | 12 => [false, true]
  | 46 => [true]
  | 48 => [false, true]
  | 49 => [false, false, true]
  | 50 => [false, false, false, true]
  | 51 => [false, false, true]
  | 52 => [false, true]
  | 53 => [false, false, true]
  | 54 => [false, true]
  | _ => []
def cm_s137 (pc : Nat) : List Bool := match pc with
  | 39 => [true]
  | 40 => [false, true]
  | 111 => [true]
  | 112 => [false, true]
  | _ => []
def cm_sa (mi pc : Nat) : List Bool := bif Nat.beq pc 0 then [] else match mi with
  | 3 => cm_s3 pc
  | 4 => cm_s4 pc
  | 8 => cm_s8 pc
  | 15 => cm_s15 pc
  | 17 => cm_s17 pc
  | 22 => cm_s22 pc
  | 26 => cm_s26 pc
  | 32 => cm_s32 pc
  | 59 => cm_s59 pc
  | 70 => cm_s70 pc
  | 83 => cm_s83 pc
  | 88 => cm_s88 pc
  | 91 => cm_s91 pc
  | 94 => cm_s94 pc
  | 109 => cm_s109 pc
  | 121 => cm_s121 pc
  | 122 => cm_s122 pc
  | 129 => cm_s129 pc
  | 130 => cm_s130 pc
  | 137 => cm_s137 pc
  | _ => []
theorem cm_t0 : cm_F0.all (fun mi => (match zi_Ms[mi]? with | some M => cq_dk (cm_dl mi) 0 (cm_da mi) && cq_tb cm_fg cm_fp false true (cm_dr mi) cm_ff cm_dr cm_vr cm_da (cm_dl mi) (cm_sa mi) M.2.2.2.2.1 | none => true)) = true := by decide +kernel
theorem cm_t1 : cm_F1.all (fun mi => (match zi_Ms[mi]? with | some M => cq_dk (cm_dl mi) 0 (cm_da mi) && cq_tb cm_fg cm_fp false true (cm_dr mi) cm_ff cm_dr cm_vr cm_da (cm_dl mi) (cm_sa mi) M.2.2.2.2.1 | none => true)) = true := by decide +kernel
theorem cm_t2 : cm_F2.all (fun mi => (match zi_Ms[mi]? with | some M => cq_dk (cm_dl mi) 0 (cm_da mi) && cq_tb cm_fg cm_fp false true (cm_dr mi) cm_ff cm_dr cm_vr cm_da (cm_dl mi) (cm_sa mi) M.2.2.2.2.1 | none => true)) = true := by decide +kernel
theorem cm_t3 : cm_F3.all (fun mi => (match zi_Ms[mi]? with | some M => cq_dk (cm_dl mi) 0 (cm_da mi) && cq_tb cm_fg cm_fp false true (cm_dr mi) cm_ff cm_dr cm_vr cm_da (cm_dl mi) (cm_sa mi) M.2.2.2.2.1 | none => true)) = true := by decide +kernel
theorem cm_t4 : cm_F4.all (fun mi => (match zi_Ms[mi]? with | some M => cq_dk (cm_dl mi) 0 (cm_da mi) && cq_tb cm_fg cm_fp false true (cm_dr mi) cm_ff cm_dr cm_vr cm_da (cm_dl mi) (cm_sa mi) M.2.2.2.2.1 | none => true)) = true := by decide +kernel
theorem cm_t5 : cm_F5.all (fun mi => (match zi_Ms[mi]? with | some M => cq_dk (cm_dl mi) 0 (cm_da mi) && cq_tb cm_fg cm_fp false true (cm_dr mi) cm_ff cm_dr cm_vr cm_da (cm_dl mi) (cm_sa mi) M.2.2.2.2.1 | none => true)) = true := by decide +kernel
theorem cm_t6 : cm_F6.all (fun mi => (match zi_Ms[mi]? with | some M => cq_dk (cm_dl mi) 0 (cm_da mi) && cq_tb cm_fg cm_fp false true (cm_dr mi) cm_ff cm_dr cm_vr cm_da (cm_dl mi) (cm_sa mi) M.2.2.2.2.1 | none => true)) = true := by decide +kernel
theorem cm_in {mi : Nat} {M : zi_M} {l : List Nat} (h : l.any (Nat.beq mi) = true) (ha : l.all (fun mi => (match zi_Ms[mi]? with | some M => cq_dk (cm_dl mi) 0 (cm_da mi) && cq_tb cm_fg cm_fp false true (cm_dr mi) cm_ff cm_dr cm_vr cm_da (cm_dl mi) (cm_sa mi) M.2.2.2.2.1 | none => true)) = true) (hm : zi_Ms[mi]? = some M) : M.2.2.2.1.isSome = cm_vr mi ∧ cq_dk (cm_dl mi) 0 (cm_da mi) = true ∧ cq_tb cm_fg cm_fp false true (cm_dr mi) cm_ff cm_dr cm_vr cm_da (cm_dl mi) (cm_sa mi) M.2.2.2.2.1 = true := by
  obtain ⟨x, hx, e⟩ := List.any_eq_true.mp h
  have e := Nat.eq_of_beq_eq_true e
  subst e
  have z := List.all_eq_true.mp ha mi hx
  rw [hm] at z
  have z := (Bool.and_eq_true _ _).mp z
  refine ⟨?_, z.1, z.2⟩
  unfold cm_vr
  rw [hm]
theorem cm_M (mi : Nat) (M : zi_M) (h : cm_ff mi = true) (hm : zi_Ms[mi]? = some M) : M.2.2.2.1.isSome = cm_vr mi ∧ cq_dk (cm_dl mi) 0 (cm_da mi) = true ∧ cq_tb cm_fg cm_fp false true (cm_dr mi) cm_ff cm_dr cm_vr cm_da (cm_dl mi) (cm_sa mi) M.2.2.2.2.1 = true := by
  unfold cm_ff at h
  repeat rw [Bool.or_eq_true] at h
  rcases h with (((((h | h) | h) | h) | h) | h) | h
  · exact cm_in h cm_t0 hm
  · exact cm_in h cm_t1 hm
  · exact cm_in h cm_t2 hm
  · exact cm_in h cm_t3 hm
  · exact cm_in h cm_t4 hm
  · exact cm_in h cm_t5 hm
  · exact cm_in h cm_t6 hm
theorem cm_s0 (mi : Nat) : cm_sa mi 0 = [] := rfl
theorem cm_10 (p : Nat) (h : cm_pr p = true) : 10 ≤ p := by
  unfold cm_pr at h
  rw [Bool.or_eq_true, Bool.or_eq_true] at h
  rcases h with h | h | h <;> (have := Nat.eq_of_beq_eq_true h; omega)
theorem cm_c1 (c k : Nat) (h : cm_fg c k = true) : c < 20 ∨ 26 < c := by
  unfold cm_fg at h
  rw [Bool.and_eq_true] at h
  have := Nat.eq_of_beq_eq_true h.1
  omega
theorem cm_c2 (c k : Nat) (h : cm_fp c k = true) : c < 20 := by
  unfold cm_fp at h
  rw [Bool.and_eq_true] at h
  have := Nat.eq_of_beq_eq_true h.1
  omega
theorem cm_pr_n {p : Nat} (h : ¬ (p = 88 ∨ p = 91 ∨ p = 93)) : cm_pr p = false := by
  cases e : cm_pr p with
  | true =>
    unfold cm_pr at e
    rw [Bool.or_eq_true, Bool.or_eq_true] at e
    exact absurd (e.imp Nat.eq_of_beq_eq_true (fun e => e.imp Nat.eq_of_beq_eq_true Nat.eq_of_beq_eq_true)) h
  | false => rfl
def cm_I (R : Nat → Nat → Option Nat) (Y : (Nat → Nat) × (Nat → Nat) × Nat) : Prop := ∀ I L, cq_I cm_pr cm_ps cm_fg cm_fp false (I, L, R, Y)
def cm_H (I L : Nat → Nat → Int) (I' L' : Nat → Nat → Int) (R' : Nat → Nat → Option Nat) (Y' : (Nat → Nat) × (Nat → Nat) × Nat) : Prop := cm_I R' Y' ∧ ((∀ p k, cm_pr p = true → I' p k = I p k ∧ L' p k = L p k) ∧ I' 82 18 = I 82 18)
theorem cm_of {I L : Nat → Nat → Int} {R : Nat → Nat → Option Nat} {Y : (Nat → Nat) × (Nat → Nat) × Nat} {H' : yi_H} (h : cq_H cm_pr cm_ps cm_fg cm_fp false true (I, L, R, Y) H') : cm_H I L H'.1 H'.2.1 H'.2.2.1 H'.2.2.2 := ⟨fun _ _ => h.1, fun p k hp => ⟨(h.2.1 p k (Or.inl ⟨hp, rfl⟩)).1, (h.2.1 p k (Or.inl ⟨hp, rfl⟩)).2.1⟩, (h.2.1 82 18 (Or.inr rfl)).1⟩
theorem cm_cl (n d : Nat) : cq_cl cm_pr cm_ps cm_fg cm_fp false true cm_ff cm_dr cm_vr cm_da (yi_ev zi_Ms n d) := cq_all cm_10 cm_c1 cm_c2 cm_s0 cm_M n d
def cm_vs (N : Nat) (da : List Bool) (vs : List yi_V) : Prop := cq_vs cm_pr N da vs
theorem cm_P {d mi : Nat} {vs : List yi_V} {I L : Nat → Nat → Int} {R : Nat → Nat → Option Nat} {Y : (Nat → Nat) × (Nat → Nat) × Nat} (hi : cm_I R Y) (hf : cm_ff mi = true) (hv : cm_vs Y.2.2 (cm_da mi) vs) : yi_P zi_Ms d mi vs (I, L, R, Y) (fun r => cm_H I L r.2.1.1 r.2.1.2.1 r.2.1.2.2.1 r.2.1.2.2.2) := by
  intro n r e
  exact cm_of (cm_cl n d mi vs (I, L, R, Y) r hf hv (hi I L) e).2.2
theorem cm_v0 {N : Nat} {da : List Bool} : cm_vs N da [] := fun j v h => by cases h
theorem cm_vn {N : Nat} {v : yi_V} {vs : List yi_V} (h : cq_V cm_pr N false v) (h2 : cm_vs N [] vs) : cm_vs N [] (v :: vs) := fun j w hw => by
  cases j with
  | zero => cases hw; exact h
  | succ j => exact h2 j w hw
theorem cm_vi {N : Nat} {f : Bool} (x : Int) : cq_V cm_pr N f (.inl x) := cq_Vi x
theorem cm_vl {N : Nat} {f : Bool} (x : Int) : cq_V cm_pr N f (.inr (.inl x)) := cq_Vl x
theorem cm_vp {N p : Nat} {f : Bool} (hq : p < 88) (hN : p < N) : cq_V cm_pr N f (.inr (.inr (some p))) := fun x e => by
  have e : some p = some x := Sum.inr.inj (Sum.inr.inj e)
  cases e
  exact ⟨hN, fun _ => cm_pr_n (by omega)⟩
theorem cm_tg : cq_tb cm_fg cm_fp false true false cm_ff cm_dr cm_vr cm_da (fun _ => false) (fun _ => []) zi_mg.2.2.2.2.1 = true := by decide +kernel
theorem cm_first {d k : Nat} {I L : Nat → Nat → Int} {R : Nat → Nat → Option Nat} {Y : (Nat → Nat) × (Nat → Nat) × Nat} (hi : cm_I R Y) {x y w : Int} (hY : 11 ≤ Y.2.2) : yi_D zi_Ms d zi_mg k (0, [(0, .inr (.inr (some 10))), (1, .inl x), (2, .inl y), (3, .inl w)], [], (I, L, R, Y), 0, 0) (fun r => cm_H I L r.2.1.1 r.2.1.2.1 r.2.1.2.2.1 r.2.1.2.2.2) := by
  intro n j r _ e
  have h := (cq_loop (dl := fun _ => false) (sa := fun _ => []) (rd := false) (rv := zi_mg.2.2.2.1.isSome) cm_10 cm_c1 cm_c2 (cm_cl n d) cm_tg rfl j (0, [(0, .inr (.inr (some 10))), (1, .inl x), (2, .inl y), (3, .inl w)], [], (I, L, R, Y), 0, 0) (fun q hq => by
    rcases List.mem_cons.mp hq with e | hq
    · subst e; exact cm_vp (by omega) (by show 10 < Y.2.2; omega)
    rcases List.mem_cons.mp hq with e | hq
    · subst e; exact cm_vi _
    rcases List.mem_cons.mp hq with e | hq
    · subst e; exact cm_vi _
    rcases List.mem_cons.mp hq with e | hq
    · subst e; exact cm_vi _
    cases hq) cq_sf_n (hi I L) e).2.2
  exact cm_of h
