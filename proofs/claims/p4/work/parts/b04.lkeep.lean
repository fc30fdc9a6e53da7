/-! What the class keeps, call by call; what the law keeps. -/
def cl_KX (mi : Nat) (vs : List yi_V) : Prop := ∀ (I L : cl_I) (R : cl_Rr) (Y : cl_Y), cl_C [] I L R Y → yi_E zi_Ms 60 mi (.inr (.inr (some 10)) :: vs) (I, L, R, Y) (fun r => ∃ z I' L' R' Y' nc ns, r = (some (.inl z), (I', L', R', Y'), nc, ns) ∧ cl_P [] I L R Y I' L' R' Y' ∧ nc ≤ 700 ∧ ns ≤ 13896)
def cl_KX0 (mi : Nat) (vs : List yi_V) : Prop := ∀ (I L : cl_I) (R : cl_Rr) (Y : cl_Y), cl_C [] I L R Y → yi_E zi_Ms 60 mi (.inr (.inr (some 10)) :: vs) (I, L, R, Y) (fun r => ∃ z I' L' R' Y' nc ns, r = (some (.inl z), (I', L', R', Y'), nc, ns) ∧ cl_P [] (yi_u I 12 5 0) L R Y I' L' R' Y' ∧ (nc ≤ 1350 ∧ ns ≤ 22800) ∧ (I 12 5 = 0 → nc ≤ 700 ∧ ns ≤ 13896))
theorem x_tall {x : Int} : cl_KX 179 [.inl x] := fun I L R Y hC => (k_tallA 60 (by omega) hC).imp (fun r ⟨z, e⟩ => ⟨z, I, L, R, Y, 0, 0, e, cl_P_r hC, by omega, by omega⟩)
theorem x_futures {x : Int} : cl_KX 153 [.inl x] := fun I L R Y hC => (k_futuresA 60 (by omega) hC).imp (fun r ⟨z, e⟩ => ⟨z, I, L, R, Y, 0, 0, e, cl_P_r hC, by omega, by omega⟩)
theorem x_asked {x : Int} : cl_KX 140 [.inl x] := fun I L R Y hC => (k_askedA 60 (by omega) hC).imp (fun r ⟨z, e⟩ => ⟨z, I, L, R, Y, 0, 0, e, cl_P_r hC, by omega, by omega⟩)
theorem x_prophet {x y : Int} : cl_KX 168 [.inl x, .inl y] := fun I L R Y hC => (k_prophetA 60 (by omega) hC).imp (fun r ⟨z, e⟩ => ⟨z, I, L, R, Y, 0, 0, e, cl_P_r hC, by omega, by omega⟩)
theorem x_saying {x y : Int} : cl_KX 172 [.inl x, .inl y] := fun I L R Y hC => (k_sayingA 60 (by omega) hC).imp (fun r ⟨z, e⟩ => ⟨z, I, L, R, Y, 0, 0, e, cl_P_r hC, by omega, by omega⟩)
theorem x_came {x y : Int} : cl_KX 142 [.inl x, .inl y] := fun I L R Y hC => (k_cameA 60 (by omega) hC).imp (fun r ⟨z, e⟩ => ⟨z, I, L, R, Y, 0, 0, e, cl_P_r hC, by omega, by omega⟩)
theorem x_word {x y w : Int} : cl_KX 188 [.inl x, .inl y, .inl w] := fun I L R Y hC => (k_wordA 60 (by omega) hC).imp (fun r ⟨z, e⟩ => ⟨z, I, L, R, Y, 0, 0, e, cl_P_r hC, by omega, by omega⟩)
theorem x_holds {x y w : Int} : cl_KX 159 [.inl x, .inl y, .inl w] := fun I L R Y hC => (k_holdsA 60 (by omega) hC).imp (fun r ⟨z, e⟩ => ⟨z, I, L, R, Y, 0, 0, e, cl_P_r hC, by omega, by omega⟩)
theorem x_strike {x : Int} : cl_KX 177 [.inl x] := fun I L R Y hC => (k_strikeA 60 (by omega) hC).imp (fun r ⟨z, I', L', R', Y', nc, ns, e, p_, a_, b_, x11_⟩ => ⟨z, I', L', R', Y', nc, ns, e, p_, by omega, by omega⟩)
theorem x_come {x y : Int} : cl_KX 145 [.inl x, .inl y] := fun I L R Y hC => (k_comeA 60 (by omega) hC).imp (fun r ⟨z, I', L', R', Y', nc, ns, e, p_, a_, b_, x11_⟩ => ⟨z, I', L', R', Y', nc, ns, e, p_, by omega, by omega⟩)
theorem x_promise {x y : Int} : cl_KX 166 [.inl x, .inl y] := fun I L R Y hC => (k_promiseA 60 (by omega) hC).imp (fun r ⟨z, I', L', R', Y', nc, ns, e, p_, a_, b_⟩ => ⟨z, I', L', R', Y', nc, ns, e, p_, by omega, by omega⟩)
theorem x_undo : cl_KX 181 [] := fun I L R Y hC => (k_undoA 60 (by omega) hC).imp (fun r ⟨z, I', L', R', Y', nc, ns, e, p_, a_, b_, x11_⟩ => ⟨z, I', L', R', Y', nc, ns, e, p_, by omega, by omega⟩)
theorem x_count {x : Int} : cl_KX 146 [.inl x] := fun I L R Y hC => (k_countA 60 (by omega) hC).imp (fun r ⟨z, e⟩ => ⟨z, I, L, R, Y, 0, 0, e, cl_P_r hC, by omega, by omega⟩)
theorem x_wish {x y : Int} : cl_KX 187 [.inl x, .inl y] := fun I L R Y hC => (k_wishA 60 (by omega) hC).imp (fun r ⟨z, e⟩ => ⟨z, I, L, R, Y, 0, 0, e, cl_P_r hC, by omega, by omega⟩)
theorem x_making {x y w v : Int} : cl_KX 164 [.inl x, .inl y, .inl w, .inl v] := fun I L R Y hC => (k_makingA 60 (by omega) hC).imp (fun r ⟨z, I', L', R', Y', nc, ns, e, p_, a_, b_⟩ => ⟨z, I', L', R', Y', nc, ns, e, p_, by omega, by omega⟩)
theorem x_widest {x : Int} : cl_KX 185 [.inl x] := fun I L R Y hC => (k_widestA 60 (by omega) hC).imp (fun r ⟨z, I', e, p_⟩ => ⟨z, I', L, R, Y, 0, 0, e, p_, by omega, by omega⟩)
theorem x_shorted : cl_KX 174 [] := fun I L R Y hC => (k_shortedA 60 (by omega) hC).imp (fun r ⟨z, e⟩ => ⟨z, I, L, R, Y, 0, 0, e, cl_P_r hC, by omega, by omega⟩)
theorem x_why : cl_KX 184 [] := fun I L R Y hC => (k_whyA 60 (by omega) hC).imp (fun r ⟨z, I', L', R', Y', nc, ns, e, p_, a_, b_⟩ => ⟨z, I', L', R', Y', nc, ns, e, p_, by omega, by omega⟩)
theorem x_struck : cl_KX 178 [] := fun I L R Y hC => (k_struckA 60 (by omega) hC).imp (fun r ⟨z, I', L', R', Y', nc, ns, e, p_, a_, b_⟩ => ⟨z, I', L', R', Y', nc, ns, e, p_, by omega, by omega⟩)
theorem x_auction {x : Int} : cl_KX 141 [.inl x] := fun I L R Y hC => (k_auctionA 60 (by omega) hC).imp (fun r ⟨z, I', L', R', Y', nc, ns, e, p_, a_, b_⟩ => ⟨z, I', L', R', Y', nc, ns, e, p_, by omega, by omega⟩)
theorem x_kept : cl_KX 160 [] := fun I L R Y hC => (k_keptA 60 (by omega) hC).imp (fun r ⟨z, e⟩ => ⟨z, I, L, R, Y, 0, 0, e, cl_P_r hC, by omega, by omega⟩)
theorem x_mark {x y : Int} : cl_KX 165 [.inl x, .inl y] := fun I L R Y hC => (k_markA 60 (by omega) hC).imp (fun r ⟨z, I', L', R', Y', nc, ns, e, p_, a_, b_, x11_⟩ => ⟨z, I', L', R', Y', nc, ns, e, p_, by omega, by omega⟩)
theorem x_vague {x y w : Int} : cl_KX 182 [.inl x, .inl y, .inl w] := fun I L R Y hC => (k_vagueA 60 (by omega) hC).imp (fun r ⟨z, I', L', R', Y', nc, ns, e, p_, a_, b_⟩ => ⟨z, I', L', R', Y', nc, ns, e, p_, by omega, by omega⟩)
theorem x_span {x y w : Int} : cl_KX 175 [.inl x, .inl y, .inl w] := fun I L R Y hC => (k_spanA 60 (by omega) hC).imp (fun r ⟨z, I', L', R', Y', nc, ns, e, p_, a_, b_⟩ => ⟨z, I', L', R', Y', nc, ns, e, p_, by omega, by omega⟩)
theorem x_year {x y w : Int} : cl_KX 190 [.inl x, .inl y, .inl w] := fun I L R Y hC => (k_yearA 60 (by omega) hC).imp (fun r ⟨z, I', L', R', Y', nc, ns, e, p_, a_, b_⟩ => ⟨z, I', L', R', Y', nc, ns, e, p_, by omega, by omega⟩)
theorem x_duel {x y w : Int} : cl_KX 147 [.inl x, .inl y, .inl w] := fun I L R Y hC => (k_duelA 60 (by omega) hC).imp (fun r ⟨z, I', L', R', Y', nc, ns, e, p_, a_, b_⟩ => ⟨z, I', L', R', Y', nc, ns, e, p_, by omega, by omega⟩)
theorem x_knew {x w : Int} : cl_KX 161 [.inl x, .inl w] := fun I L R Y hC => (k_knewA 60 (by omega) hC).imp (fun r ⟨z, I', L', R', Y', nc, ns, e, p_, a_, b_⟩ => ⟨z, I', L', R', Y', nc, ns, e, p_, by omega, by omega⟩)
theorem x_ask : cl_KX0 139 [] := fun I L R Y hC => (k_askA 60 (by omega) hC).imp (fun r ⟨z, I', L', R', Y', nc, ns, e, p_, a_, b_⟩ => ⟨z, I', L', R', Y', nc, ns, e, p_, ⟨by omega, by omega⟩, fun h0_ => by omega⟩)
theorem x_tell : cl_KX0 180 [] := fun I L R Y hC => (k_tellA 60 (by omega) hC).imp (fun r ⟨z, I', L', R', Y', nc, ns, e, p_, a_, b_⟩ => ⟨z, I', L', R', Y', nc, ns, e, p_, ⟨by omega, by omega⟩, fun h0_ => by omega⟩)
theorem x_fair {x y w : Int} : cl_KX 148 [.inl x, .inl y, .inl w] := fun I L R Y hC => (k_fairA 60 (by omega) hC).imp (fun r ⟨z, L', e, p_⟩ => ⟨z, I, L', R, Y, 0, 0, e, p_, by omega, by omega⟩)
theorem x_land : cl_KX0 162 [] := fun I L R Y hC => (k_landA 60 (by omega) hC).imp (fun r ⟨z, I', L', R', Y', nc, ns, e, p_, a_, b_, x11_⟩ => ⟨z, I', L', R', Y', nc, ns, e, p_, ⟨by omega, by omega⟩, fun h0_ => by omega⟩)
/-- bytes of a long, both ways -/
theorem y_and255 (x : Int) : yi_iand x 255 = x % 256 := by
  unfold yi_iand
  show (BitVec.ofInt 32 x &&& BitVec.ofInt 32 255).toInt = x % 256
  have e : (BitVec.ofInt 32 x &&& BitVec.ofInt 32 255).toNat = (x % 256).toNat := by
    rw [BitVec.toNat_and, BitVec.toNat_ofInt, show (BitVec.ofInt 32 255).toNat = 2 ^ 8 - 1 by decide, Nat.and_two_pow_sub_one_eq_mod]
    show (x % 4294967296).toNat % 256 = _
    omega
  rw [BitVec.toInt_eq_toNat_cond, e, if_pos (by omega)]
  omega
theorem y_lshr {v : Int} {i : Nat} (hi : i < 64) : yi_lshr v (i : Int) = (BitVec.ofInt 64 v).toInt / ((2 ^ i : Nat) : Int) := by
  show (Int64.ofInt v >>> ((Int32.ofInt (i : Int)).toInt64 &&& 63)).toBitVec.toInt = _
  rw [Int64.toBitVec_shiftRight]
  show ((BitVec.ofInt 64 v).sshiftRight (((Int32.ofInt (i : Int)).toInt64 &&& 63).toBitVec.smod 64).toNat).toInt = _
  rw [y_sh i hi, BitVec.toInt_sshiftRight, Int.shiftRight_eq_div_pow]
theorem y_us : ∀ n : Nat, n < 64 → ((Int32.ofInt ((n : Nat) : Int)).toInt64.toUInt64 &&& Int64.toUInt64 63).toNat % 64 = n := by decide +kernel
theorem y_lushr {v : Int} {i : Nat} (hi : i < 64) : yu (yi_lushr v (i : Int)) = yu v / 2 ^ i := by
  have hb := y_us i hi
  unfold yi_lushr
  generalize ((Int32.ofInt (i : Int)).toInt64.toUInt64 &&& Int64.toUInt64 63) = c at hb ⊢
  show (BitVec.ofInt 64 (((Int64.ofInt v).toUInt64 >>> c).toBitVec.toInt)).toNat = _
  rw [BitVec.ofInt_toInt]
  show ((Int64.ofInt v).toUInt64 >>> c).toNat = _
  rw [UInt64.toNat_shiftRight, hb, Nat.shiftRight_eq_div_pow]
  rfl
theorem lw_by {v k : Int} (hk : k = 0 ∨ k = 8 ∨ k = 16 ∨ k = 24 ∨ k = 32 ∨ k = 40 ∨ k = 48 ∨ k = 56) : yi_iand (yi_w (yi_lshr v k)) 255 = yi_w (yi_land (yi_lushr v k) 255) := by
  have hl := yu_lt v
  have hx : (BitVec.ofInt 64 v).toInt = (yu v : Int) ∨ (BitVec.ofInt 64 v).toInt = (yu v : Int) - 18446744073709551616 := by
    by_cases h : 2 * (BitVec.ofInt 64 v).toNat < 2 ^ 64
    · left
      rw [BitVec.toInt_eq_toNat_cond, if_pos h]
      rfl
    · right
      rw [BitVec.toInt_eq_toNat_cond, if_neg h]
      rfl
  have key : ∀ i : Nat, i < 64 → ((BitVec.ofInt 64 v).toInt / ((2 ^ i : Nat) : Int)) % 256 = ((yu v / 2 ^ i % 256 : Nat) : Int) → yi_iand (yi_w (yi_lshr v (i : Int))) 255 = yi_w (yi_land (yi_lushr v (i : Int)) 255) := by
    intro i hi hq
    have e2 : yu (yi_land (yi_lushr v (i : Int)) 255) = yu v / 2 ^ i % 256 := by
      rw [yu_land, y_lushr hi, show yu 255 = 2 ^ 8 - 1 by rw [yu_e]; rfl, Nat.and_two_pow_sub_one_eq_mod]
    have hb : -9223372036854775808 ≤ yi_land (yi_lushr v (i : Int)) 255 ∧ yi_land (yi_lushr v (i : Int)) 255 < 9223372036854775808 := by
      unfold yi_land
      exact ⟨by have := Int64.le_toInt (Int64.ofInt (yi_lushr v (i : Int)) &&& Int64.ofInt 255); omega, by have := Int64.toInt_lt (Int64.ofInt (yi_lushr v (i : Int)) &&& Int64.ofInt 255); omega⟩
    rw [yu_e] at e2
    rw [y_and255, y_lshr hi]
    generalize (BitVec.ofInt 64 v).toInt / ((2 ^ i : Nat) : Int) = a at hq ⊢
    generalize yi_land (yi_lushr v (i : Int)) 255 = b at e2 hb ⊢
    generalize yu v / 2 ^ i % 256 = c at e2 hq
    have hc : c < 18446744073709551616 := by omega
    unfold yi_w
    omega
  rcases hk with z | z | z | z | z | z | z | z <;> subst z
  · exact key 0 (by omega) (by show (BitVec.ofInt 64 v).toInt / 1 % 256 = ((yu v / 1 % 256 : Nat) : Int); omega)
  · exact key 8 (by omega) (by show (BitVec.ofInt 64 v).toInt / 256 % 256 = ((yu v / 256 % 256 : Nat) : Int); omega)
  · exact key 16 (by omega) (by show (BitVec.ofInt 64 v).toInt / 65536 % 256 = ((yu v / 65536 % 256 : Nat) : Int); omega)
  · exact key 24 (by omega) (by show (BitVec.ofInt 64 v).toInt / 16777216 % 256 = ((yu v / 16777216 % 256 : Nat) : Int); omega)
  · exact key 32 (by omega) (by show (BitVec.ofInt 64 v).toInt / 4294967296 % 256 = ((yu v / 4294967296 % 256 : Nat) : Int); omega)
  · exact key 40 (by omega) (by show (BitVec.ofInt 64 v).toInt / 1099511627776 % 256 = ((yu v / 1099511627776 % 256 : Nat) : Int); omega)
  · exact key 48 (by omega) (by show (BitVec.ofInt 64 v).toInt / 281474976710656 % 256 = ((yu v / 281474976710656 % 256 : Nat) : Int); omega)
  · exact key 56 (by omega) (by show (BitVec.ofInt 64 v).toInt / 72057594037927936 % 256 = ((yu v / 72057594037927936 % 256 : Nat) : Int); omega)
theorem lw_ly {va t : Int} : ∀ j : Nat, j ≤ 8 → ym_ly (fun k => yi_iand (yi_w (yi_lshr va k)) 255) t j = ym_ly (fun k => yi_w (yi_land (yi_lushr va k) 255)) t j
  | 0, _ => rfl
  | j + 1, h => by
    have ih := lw_ly (va := va) (t := t) j (by omega)
    have e := lw_by (v := va) (k := 56 - 8 * (j : Int)) (by omega)
    show (if (yi_iand (yi_w (yi_lshr va (56 - 8 * (j : Int)))) 255 = 10 ∨ (32 ≤ yi_iand (yi_w (yi_lshr va (56 - 8 * (j : Int)))) 255 ∧ yi_iand (yi_w (yi_lshr va (56 - 8 * (j : Int)))) 255 ≤ 126)) ∧ ym_ly (fun k => yi_iand (yi_w (yi_lshr va k)) 255) t j < 1000 then ym_ly (fun k => yi_iand (yi_w (yi_lshr va k)) 255) t j + 1 else ym_ly (fun k => yi_iand (yi_w (yi_lshr va k)) 255) t j) = (if (yi_w (yi_land (yi_lushr va (56 - 8 * (j : Int))) 255) = 10 ∨ (32 ≤ yi_w (yi_land (yi_lushr va (56 - 8 * (j : Int))) 255) ∧ yi_w (yi_land (yi_lushr va (56 - 8 * (j : Int))) 255) ≤ 126)) ∧ ym_ly (fun k => yi_w (yi_land (yi_lushr va k) 255)) t j < 1000 then ym_ly (fun k => yi_w (yi_land (yi_lushr va k) 255)) t j + 1 else ym_ly (fun k => yi_w (yi_land (yi_lushr va k) 255)) t j)
    rw [ih, e]
/-- what holds between calls: class, check, tape, room -/
def lw_J (n : Nat) (I L : cl_I) (R : cl_Rr) (Y : cl_Y) (nc ns : Nat) : Prop := cl_C [] I L R Y ∧ ym_S (R, Y) ∧ ym_IV I ∧ I 12 5 = I 82 2 ∧ (Y.1 109 = 21 ∧ Y.2.1 109 = 1) ∧ (nc ≤ 100 + 700 * n ∧ (¬ I 12 5 = 0 → nc + 700 ≤ 100 + 700 * n)) ∧ (ns ≤ 177797 + 13896 * n ∧ (¬ I 12 5 = 0 → ns + 13896 ≤ 177797 + 13896 * n))
section LWJ
variable {I L I1 L1 I2 L2 : cl_I} {R R1 : cl_Rr} {Y Y1 : cl_Y} {n nc ns c1 s1 : Nat}
theorem lw_S {I0 : cl_I} (hS : ym_S (R, Y)) (hC : cl_C [] I L R Y) (h : cl_P [] I0 L R Y I1 L1 R1 Y1) : ym_S (R1, Y1) := by
  have hl : ∀ p, p < 110 → p < Y.2.2 := fun p hp => Nat.lt_of_lt_of_le hp hC.2.2.1.1
  have b : ∀ q ∈ ym_T, 83 ≤ q.2.1 ∧ q.2.1 ≤ 108 := by decide
  refine ⟨(h.2.1.2 82 (hl 82 (by omega))).1.trans hS.1, fun q hq => ?_⟩
  have z := hS.2 q hq
  have bq := b q hq
  exact ⟨(h.2.2.1 82 q.1 (by omega) (by omega)).2.2.trans z.1, (h.2.1.2 _ (hl _ (by omega))).1.trans z.2.1, (h.2.1.2 _ (hl _ (by omega))).2.trans z.2.2⟩
theorem lw_C (hC : cl_C [] I1 L1 R1 Y1) (h : ym_MF I1 L1 I2 L2) : cl_C [] I2 L2 R1 Y1 := by
  obtain ⟨a1, a2, a3, a4, a5, a6⟩ := hC
  refine ⟨fun p t ht k b hb => ?_, a2, a3, a4, a5, fun p ht => ?_⟩
  · rw [(h p k ht.2.2.1).1]
    exact a1 p t ht k b hb
  · rw [(h p 0 ht.2.2.1).2]
    exact a6 p ht
theorem lw_out (hC : cl_C [] I L R Y) (h : Y.1 109 = 21 ∧ Y.2.1 109 = 1) (x : cl_X Y Y1) : Y1.1 109 = 21 ∧ Y1.2.1 109 = 1 := by
  have hl : 109 < Y.2.2 := by have := hC.2.2.1.1; omega
  exact ⟨(x.2 109 hl).1.trans h.1, (x.2 109 hl).2.trans h.2⟩
theorem lw_J_s (hJ : lw_J n I L R Y nc ns) (hP : cl_P [] I L R Y I1 L1 R1 Y1) (hc : c1 ≤ 700) (hs : s1 ≤ 13896) (mf : ym_MF I1 L1 I2 L2) (iv : ym_IV I2) (e2 : I2 82 2 = I1 82 2) : lw_J (n + 1) I2 L2 R1 Y1 (nc + c1 + 0) (ns + s1 + 0) := by
  obtain ⟨j1, j2, j3, j4, j5, j6, j7⟩ := hJ
  have e5 : I2 12 5 = I 12 5 := ((mf 12 5 (by omega)).1).trans hP.2.2.2
  have e82 : I1 82 2 = I 82 2 := (hP.2.2.1 82 2 (by omega) (by omega)).1
  refine ⟨lw_C hP.1 mf, lw_S j2 j1 hP, iv, by omega, lw_out j1 j5 hP.2.1, ⟨by omega, fun h => ?_⟩, ⟨by omega, fun h => ?_⟩⟩
  · have := j6.2 (by omega)
    omega
  · have := j7.2 (by omega)
    omega
theorem lw_J_0 (hJ : lw_J n I L R Y nc ns) (hP : cl_P [] (yi_u I 12 5 0) L R Y I1 L1 R1 Y1) (hc : c1 ≤ 1350 ∧ s1 ≤ 22800) (h0 : I 12 5 = 0 → c1 ≤ 700 ∧ s1 ≤ 13896) (mf : ym_MF I1 L1 I2 L2) (iv : ym_IV I2) (e2 : I2 82 2 = 0) : lw_J (n + 1) I2 L2 R1 Y1 (nc + c1 + 0) (ns + s1 + 0) := by
  obtain ⟨j1, j2, j3, j4, j5, j6, j7⟩ := hJ
  have e5 : I2 12 5 = 0 := ((mf 12 5 (by omega)).1).trans (hP.2.2.2.trans (yi_u_eq _ _ _ _))
  refine ⟨lw_C hP.1 mf, lw_S j2 j1 hP, iv, by omega, lw_out j1 j5 hP.2.1, ?_, ?_⟩
  · by_cases z : I 12 5 = 0
    · have := h0 z
      exact ⟨by omega, fun h => absurd e5 h⟩
    · have := j6.2 z
      exact ⟨by omega, fun h => absurd e5 h⟩
  · by_cases z : I 12 5 = 0
    · have := h0 z
      exact ⟨by omega, fun h => absurd e5 h⟩
    · have := j7.2 z
      exact ⟨by omega, fun h => absurd e5 h⟩
/-- the check's own invariant behind a call of the class -/
theorem lw_IV {I0 : cl_I} (iv : ym_IV I0) (hP : cl_P [] I0 L R Y I1 L1 R1 Y1) : ym_IV I1 := ym_IV_r iv (fun p k a b => (hP.2.2.1 p k a b).1)
theorem lw_IV0 {v : Int} (iv : ym_IV I) : ym_IV (yi_u I 12 5 v) := ym_IV_r iv (fun p k a b => yi_u_ne _ _ (by omega))
theorem lw_J_f (hJ : lw_J n I L R Y nc ns) (hP : cl_P [] (yi_u I 12 5 (I1 12 5)) L R Y I1 L R Y) (mf : ym_MF I1 L I2 L) (iv : ym_IV I2) (e2 : I2 82 2 = I1 12 5) : lw_J (n + 1) I2 L R Y (nc + 0 + 0) (ns + 0 + 0) := by
  obtain ⟨j1, j2, j3, j4, j5, j6, j7⟩ := hJ
  have e5 : I2 12 5 = I1 12 5 := (mf 12 5 (by omega)).1
  exact ⟨lw_C hP.1 mf, lw_S j2 j1 hP, iv, by omega, j5, ⟨by omega, fun _ => by omega⟩, ⟨by omega, fun _ => by omega⟩⟩
end LWJ
