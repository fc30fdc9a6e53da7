/-! The class's rows of futures, one by one. -/
/-- a row of futures: its cells lie at c, n of them are in use -/
def rw_S (I : Nat → Nat → Int) (R : Nat → Nat → Option Nat) (Y : (Nat → Nat) × (Nat → Nat) × Nat) (p c n : Nat) : Prop := (10 ≤ p ∧ 10 ≤ c ∧ p < Y.2.2 ∧ c < Y.2.2 ∧ Y.1 p = 5 ∧ Y.1 c = 21) ∧ R p 0 = some c ∧ I p 1 = (n : Int) ∧ n ≤ Y.2.1 c ∧ n ≤ 512
def rw_any (f g : Nat → Int) (n : Nat) : Prop := ∃ k, k < n ∧ ¬ yi_land (f k) (g k) = 0
def rw_all (f g : Nat → Int) (n : Nat) : Prop := ∀ k, k < n → yi_land (f k) (yi_lxor (g k) (-1)) = 0
def rw_by (f b g : Nat → Int) (n : Nat) : Prop := ∀ k, k < n → yi_land (yi_land (f k) (b k)) (yi_lxor (g k) (-1)) = 0
/-- a row that has (so many) cells of its own now -/
def rz_H (I : Nat → Nat → Int) (R : Nat → Nat → Option Nat) (Y : (Nat → Nat) × (Nat → Nat) × Nat) (I' : Nat → Nat → Int) (R' : Nat → Nat → Option Nat) (Y' : (Nat → Nat) × (Nat → Nat) × Nat) (p m c c' : Nat) : Prop := (R' p 0 = some c' ∧ I' p 1 = (m : Int) ∧ m ≤ Y'.2.1 c' ∧ 10 ≤ c' ∧ c' < Y'.2.2 ∧ Y'.1 c' = 21) ∧ (∀ q k, q < Y.2.2 → (¬ (q = p ∧ k = 1) → I' q k = I q k) ∧ (¬ (q = p ∧ k = 0) → R' q k = R q k)) ∧ (Y.2.2 ≤ Y'.2.2 ∧ ∀ q, q < Y.2.2 → Y'.1 q = Y.1 q ∧ Y'.2.1 q = Y.2.1 q) ∧ ((c' = c ∧ Y' = Y ∧ m ≤ Y.2.1 c) ∨ (c' = Y.2.2 ∧ Y'.2.2 = Y.2.2 + 1 ∧ (∀ k, R' Y.2.2 k = none) ∧ Y.2.1 c < m))
/-- cells of a row are written -/
def cf_w (L : Nat → Nat → Int) (c n : Nat) (g : Nat → Int) : Nat → Nat → Int := fun q k => if q = c ∧ k < n then g k else L q k
theorem cf_w_0 (L : Nat → Nat → Int) (c : Nat) (g : Nat → Int) : cf_w L c 0 g = L := by
  funext q k
  exact if_neg (fun h => absurd h.2 (Nat.not_lt_zero k))
theorem cf_w_i (L : Nat → Nat → Int) {c n k : Nat} (g : Nat → Int) (h : k < n) : cf_w L c n g c k = g k := if_pos ⟨rfl, h⟩
theorem cf_w_o (L : Nat → Nat → Int) {c n q k : Nat} (g : Nat → Int) (h : ¬ (q = c ∧ k < n)) : cf_w L c n g q k = L q k := if_neg h
theorem cf_w_s {L : Nat → Nat → Int} {c n : Nat} {g : Nat → Int} {v : Int} (hv : v = g n) : yi_u (cf_w L c n g) c n v = cf_w L c (n + 1) g := by
  funext q k
  by_cases e : q = c ∧ k = n
  · obtain ⟨rfl, rfl⟩ := e
    rw [yi_u_eq, cf_w_i _ _ (by omega)]
    exact hv
  · rw [yi_u_ne _ _ e]
    by_cases f : q = c ∧ k < n
    · obtain ⟨rfl, f⟩ := f
      rw [cf_w_i _ _ f, cf_w_i _ _ (by omega)]
    · rw [cf_w_o _ _ f, cf_w_o _ _ (by omega)]
theorem y_and127 (x : Int) : yi_iand x 127 = x % 128 := by
  unfold yi_iand
  show (BitVec.ofInt 32 x &&& BitVec.ofInt 32 127).toInt = x % 128
  have e : (BitVec.ofInt 32 x &&& BitVec.ofInt 32 127).toNat = (x % 128).toNat := by
    rw [BitVec.toNat_and, BitVec.toNat_ofInt, show (BitVec.ofInt 32 127).toNat = 2 ^ 7 - 1 by decide, Nat.and_two_pow_sub_one_eq_mod]
    show (x % 4294967296).toNat % 128 = _
    omega
  rw [BitVec.toInt_eq_toNat_cond, e, if_pos (by omega)]
  omega
theorem y_land_c (a b : Int) : yi_land a b = yi_land b a := by
  unfold yi_land
  rw [Int64.and_comm]
theorem y_land_s (a : Int) : yi_land (yi_land a a) = yi_land a := by
  funext b
  unfold yi_land
  rw [Int64.ofInt_toInt, Int64.and_self]
def cf_bc (v : Int) : Int := yi_iand (yi_w (yi_W ((yi_W ((yi_W ((yi_land (yi_W ((yi_W ((yi_land (yi_W (v - (yi_land (yi_lushr v 1) 6148914691236517205))) 3689348814741910323) + (yi_land (yi_lushr (yi_W (v - (yi_land (yi_lushr v 1) 6148914691236517205))) 2) 3689348814741910323))) + (yi_lushr (yi_W ((yi_land (yi_W (v - (yi_land (yi_lushr v 1) 6148914691236517205))) 3689348814741910323) + (yi_land (yi_lushr (yi_W (v - (yi_land (yi_lushr v 1) 6148914691236517205))) 2) 3689348814741910323))) 4))) 1085102592571150095) + (yi_lushr (yi_land (yi_W ((yi_W ((yi_land (yi_W (v - (yi_land (yi_lushr v 1) 6148914691236517205))) 3689348814741910323) + (yi_land (yi_lushr (yi_W (v - (yi_land (yi_lushr v 1) 6148914691236517205))) 2) 3689348814741910323))) + (yi_lushr (yi_W ((yi_land (yi_W (v - (yi_land (yi_lushr v 1) 6148914691236517205))) 3689348814741910323) + (yi_land (yi_lushr (yi_W (v - (yi_land (yi_lushr v 1) 6148914691236517205))) 2) 3689348814741910323))) 4))) 1085102592571150095) 8))) + (yi_lushr (yi_W ((yi_land (yi_W ((yi_W ((yi_land (yi_W (v - (yi_land (yi_lushr v 1) 6148914691236517205))) 3689348814741910323) + (yi_land (yi_lushr (yi_W (v - (yi_land (yi_lushr v 1) 6148914691236517205))) 2) 3689348814741910323))) + (yi_lushr (yi_W ((yi_land (yi_W (v - (yi_land (yi_lushr v 1) 6148914691236517205))) 3689348814741910323) + (yi_land (yi_lushr (yi_W (v - (yi_land (yi_lushr v 1) 6148914691236517205))) 2) 3689348814741910323))) 4))) 1085102592571150095) + (yi_lushr (yi_land (yi_W ((yi_W ((yi_land (yi_W (v - (yi_land (yi_lushr v 1) 6148914691236517205))) 3689348814741910323) + (yi_land (yi_lushr (yi_W (v - (yi_land (yi_lushr v 1) 6148914691236517205))) 2) 3689348814741910323))) + (yi_lushr (yi_W ((yi_land (yi_W (v - (yi_land (yi_lushr v 1) 6148914691236517205))) 3689348814741910323) + (yi_land (yi_lushr (yi_W (v - (yi_land (yi_lushr v 1) 6148914691236517205))) 2) 3689348814741910323))) 4))) 1085102592571150095) 8))) 16))) + (yi_lushr (yi_W ((yi_W ((yi_land (yi_W ((yi_W ((yi_land (yi_W (v - (yi_land (yi_lushr v 1) 6148914691236517205))) 3689348814741910323) + (yi_land (yi_lushr (yi_W (v - (yi_land (yi_lushr v 1) 6148914691236517205))) 2) 3689348814741910323))) + (yi_lushr (yi_W ((yi_land (yi_W (v - (yi_land (yi_lushr v 1) 6148914691236517205))) 3689348814741910323) + (yi_land (yi_lushr (yi_W (v - (yi_land (yi_lushr v 1) 6148914691236517205))) 2) 3689348814741910323))) 4))) 1085102592571150095) + (yi_lushr (yi_land (yi_W ((yi_W ((yi_land (yi_W (v - (yi_land (yi_lushr v 1) 6148914691236517205))) 3689348814741910323) + (yi_land (yi_lushr (yi_W (v - (yi_land (yi_lushr v 1) 6148914691236517205))) 2) 3689348814741910323))) + (yi_lushr (yi_W ((yi_land (yi_W (v - (yi_land (yi_lushr v 1) 6148914691236517205))) 3689348814741910323) + (yi_land (yi_lushr (yi_W (v - (yi_land (yi_lushr v 1) 6148914691236517205))) 2) 3689348814741910323))) 4))) 1085102592571150095) 8))) + (yi_lushr (yi_W ((yi_land (yi_W ((yi_W ((yi_land (yi_W (v - (yi_land (yi_lushr v 1) 6148914691236517205))) 3689348814741910323) + (yi_land (yi_lushr (yi_W (v - (yi_land (yi_lushr v 1) 6148914691236517205))) 2) 3689348814741910323))) + (yi_lushr (yi_W ((yi_land (yi_W (v - (yi_land (yi_lushr v 1) 6148914691236517205))) 3689348814741910323) + (yi_land (yi_lushr (yi_W (v - (yi_land (yi_lushr v 1) 6148914691236517205))) 2) 3689348814741910323))) 4))) 1085102592571150095) + (yi_lushr (yi_land (yi_W ((yi_W ((yi_land (yi_W (v - (yi_land (yi_lushr v 1) 6148914691236517205))) 3689348814741910323) + (yi_land (yi_lushr (yi_W (v - (yi_land (yi_lushr v 1) 6148914691236517205))) 2) 3689348814741910323))) + (yi_lushr (yi_W ((yi_land (yi_W (v - (yi_land (yi_lushr v 1) 6148914691236517205))) 3689348814741910323) + (yi_land (yi_lushr (yi_W (v - (yi_land (yi_lushr v 1) 6148914691236517205))) 2) 3689348814741910323))) 4))) 1085102592571150095) 8))) 16))) 32)))) 127
theorem cf_low {p0 p1 p2 p3 p4 p5 p6 p7 : Nat} (h0 : p0 ≤ 8) (h1 : p1 ≤ 8) (h2 : p2 ≤ 8) (h3 : p3 ≤ 8) (h4 : p4 ≤ 8) (h5 : p5 ≤ 8) (h6 : p6 ≤ 8) (h7 : p7 ≤ 8) {a b c : Nat} (ha : a = y8 p0 p1 p2 p3 p4 p5 p6 p7 + y8 p0 p1 p2 p3 p4 p5 p6 p7 / 256) (hb : b = a + a / 65536) (hc : c = b + b / 4294967296) : a < 18446744073709551616 ∧ b < 18446744073709551616 ∧ c < 18446744073709551616 ∧ c % 128 = p0 + p1 + p2 + p3 + p4 + p5 + p6 + p7 := by
  have ea : a = y8 (p0 + p1) (p1 + p2) (p2 + p3) (p3 + p4) (p4 + p5) (p5 + p6) (p6 + p7) p7 := by
    rw [ha]
    unfold y8
    omega
  have eb : b = y8 (p0 + p1 + p2 + p3) (p1 + p2 + p3 + p4) (p2 + p3 + p4 + p5) (p3 + p4 + p5 + p6) (p4 + p5 + p6 + p7) (p5 + p6 + p7) (p6 + p7) p7 := by
    rw [hb, ea]
    unfold y8
    omega
  have ec : c = y8 (p0 + p1 + p2 + p3 + p4 + p5 + p6 + p7) (p1 + p2 + p3 + p4 + p5 + p6 + p7) (p2 + p3 + p4 + p5 + p6 + p7) (p3 + p4 + p5 + p6 + p7) (p4 + p5 + p6 + p7) (p5 + p6 + p7) (p6 + p7) p7 := by
    rw [hc, eb]
    unfold y8
    omega
  rw [ea, eb, ec]
  unfold y8
  omega
theorem cf_bc_on {v : Int} {b0 b1 b2 b3 b4 b5 b6 b7 : Nat} (h0 : b0 < 256) (h1 : b1 < 256) (h2 : b2 < 256) (h3 : b3 < 256) (h4 : b4 < 256) (h5 : b5 < 256) (h6 : b6 < 256) (h7 : b7 < 256) (hv : yu v = y8 b0 b1 b2 b3 b4 b5 b6 b7) : cf_bc v = ((y_p b0 + y_p b1 + y_p b2 + y_p b3 + y_p b4 + y_p b5 + y_p b6 + y_p b7 : Nat) : Int) := by
  have m1 : yu 6148914691236517205 = 6148914691236517205 := by rw [yu_e]; rfl
  have m2 : yu 3689348814741910323 = 3689348814741910323 := by rw [yu_e]; rfl
  have m4 : yu 1085102592571150095 = 1085102592571150095 := by rw [yu_e]; rfl
  obtain ⟨s0, t0, u0, p0, c0⟩ := y_t3 b0 h0
  obtain ⟨s1, t1, u1, p1, c1⟩ := y_t3 b1 h1
  obtain ⟨s2, t2, u2, p2, c2⟩ := y_t3 b2 h2
  obtain ⟨s3, t3, u3, p3, c3⟩ := y_t3 b3 h3
  obtain ⟨s4, t4, u4, p4, c4⟩ := y_t3 b4 h4
  obtain ⟨s5, t5, u5, p5, c5⟩ := y_t3 b5 h5
  obtain ⟨s6, t6, u6, p6, c6⟩ := y_t3 b6 h6
  obtain ⟨s7, t7, u7, p7, c7⟩ := y_t3 b7 h7
  have x1 : yu (yi_land (yi_lushr v 1) 6148914691236517205) = (yu v / 2 &&& 6148914691236517205) := by rw [yu_land, yu_us1, m1]
  have le1 : yu (yi_land (yi_lushr v 1) 6148914691236517205) ≤ yu v := by
    rw [x1]
    exact Nat.le_trans Nat.and_le_left (Nat.div_le_self _ _)
  have eA : yu (yi_W (v - yi_land (yi_lushr v 1) 6148914691236517205)) = y8 (y1 b0) (y1 b1) (y1 b2) (y1 b3) (y1 b4) (y1 b5) (y1 b6) (y1 b7) := by
    rw [yu_W, yu_sub le1, x1, hv]
    exact y_s1 h0 h1 h2 h3 h4 h5 h6 h7
  unfold cf_bc
  generalize yi_W (v - yi_land (yi_lushr v 1) 6148914691236517205) = a at eA ⊢
  have eB : yu (yi_W (yi_land a 3689348814741910323 + yi_land (yi_lushr a 2) 3689348814741910323)) = y8 (y2 (y1 b0)) (y2 (y1 b1)) (y2 (y1 b2)) (y2 (y1 b3)) (y2 (y1 b4)) (y2 (y1 b5)) (y2 (y1 b6)) (y2 (y1 b7)) := by
    have z := y_s2 c0 c1 c2 c3 c4 c5 c6 c7
    have l0 : y8 (y2 (y1 b0)) (y2 (y1 b1)) (y2 (y1 b2)) (y2 (y1 b3)) (y2 (y1 b4)) (y2 (y1 b5)) (y2 (y1 b6)) (y2 (y1 b7)) < 18446744073709551616 := by
      unfold y8
      omega
    rw [yu_W, yu_add (by rw [yu_land, yu_land, yu_us2, m2, eA, z]; exact l0), yu_land, yu_land, yu_us2, m2, eA, z]
  generalize yi_W (yi_land a 3689348814741910323 + yi_land (yi_lushr a 2) 3689348814741910323) = b at eB ⊢
  have eC : yu (yi_land (yi_W (b + yi_lushr b 4)) 1085102592571150095) = y8 (y_p b0) (y_p b1) (y_p b2) (y_p b3) (y_p b4) (y_p b5) (y_p b6) (y_p b7) := by
    have z := y_s3 s0 t0 s1 t1 s2 t2 s3 t3 s4 t4 s5 t5 s6 t6 s7 t7
    have l0 : (y8 (y2 (y1 b0)) (y2 (y1 b1)) (y2 (y1 b2)) (y2 (y1 b3)) (y2 (y1 b4)) (y2 (y1 b5)) (y2 (y1 b6)) (y2 (y1 b7))) + (y8 (y2 (y1 b0)) (y2 (y1 b1)) (y2 (y1 b2)) (y2 (y1 b3)) (y2 (y1 b4)) (y2 (y1 b5)) (y2 (y1 b6)) (y2 (y1 b7))) / 16 < 18446744073709551616 := by
      unfold y8
      omega
    rw [yu_land, yu_W, yu_add (by rw [yu_us4, eB]; exact l0), yu_us4, eB, m4, z, u0, u1, u2, u3, u4, u5, u6, u7]
  generalize yi_land (yi_W (b + yi_lushr b 4)) 1085102592571150095 = c at eC ⊢
  obtain ⟨k1, k2, k3, k4⟩ := cf_low p0 p1 p2 p3 p4 p5 p6 p7 (a := yu c + yu c / 256) (by rw [eC]) rfl rfl
  have e8 : yu (yi_lushr c 8) = yu c / 256 := y_lushr (i := 8) (by omega)
  have f1 : yu (yi_W (c + yi_lushr c 8)) = yu c + yu c / 256 := by rw [yu_W, yu_add (by rw [e8]; exact k1), e8]
  generalize yi_W (c + yi_lushr c 8) = c1 at f1 ⊢
  have e16 : yu (yi_lushr c1 16) = yu c1 / 65536 := y_lushr (i := 16) (by omega)
  have f2 : yu (yi_W (c1 + yi_lushr c1 16)) = yu c1 + yu c1 / 65536 := by rw [yu_W, yu_add (by rw [e16, f1]; exact k2), e16]
  rw [f1] at f2
  generalize yi_W (c1 + yi_lushr c1 16) = c2 at f2 ⊢
  have e32 : yu (yi_lushr c2 32) = yu c2 / 4294967296 := y_lushr (i := 32) (by omega)
  have f3 : yu (yi_W (c2 + yi_lushr c2 32)) = yu c2 + yu c2 / 4294967296 := by rw [yu_W, yu_add (by rw [e32, f2]; exact k3), e32]
  rw [f2] at f3
  generalize yi_W (c2 + yi_lushr c2 32) = c3 at f3 ⊢
  have hy := yu_e c3
  rw [y_and127, ← k4]
  have k4' := k4
  rw [← f3] at k4'
  rw [← f3, hy]
  unfold yi_w
  omega
theorem cf_bc_e (v : Int) : cf_bc v = ym_on v := by
  have hl := yu_lt v
  rw [y_pop, y_c64]
  exact cf_bc_on (Nat.mod_lt _ (by decide)) (Nat.mod_lt _ (by decide)) (Nat.mod_lt _ (by decide)) (Nat.mod_lt _ (by decide)) (Nat.mod_lt _ (by decide)) (Nat.mod_lt _ (by decide)) (Nat.mod_lt _ (by decide)) (Nat.mod_lt _ (by decide)) (by unfold y8; omega)
theorem p_bitCount {d : Nat} {I L : Nat → Nat → Int} {R : Nat → Nat → Option Nat} {Y : (Nat → Nat) × (Nat → Nat) × Nat} {v : Int} : yi_P zi_Ms d 317 [.inr (.inl v)] (I, L, R, Y) (fun r => r = (some (.inl (ym_on v)), (I, L, R, Y), 0, 0)) := by
  refine yi_P_of (M := zi_m317) rfl (fun d k => ?_)
  show yi_D zi_Ms d zi_m317 k (0, [(0, .inr (.inl v))], [], (I, L, R, Y), 0, 0) _
  refine yi_D_run 4 (4, [(0, .inr (.inl v))], [.inr (.inl (yi_lushr v 1)), .inr (.inl v)], (I, L, R, Y), 0, 0) (fun _ => rfl) ?_
  refine yi_D_ldc2 (6148914691236517205) rfl (by decide +kernel) ?_
  refine yi_D_run 4 (11, [(0, .inr (.inl (yi_W (v - (yi_land (yi_lushr v 1) 6148914691236517205)))))], [.inr (.inl (yi_W (v - (yi_land (yi_lushr v 1) 6148914691236517205))))], (I, L, R, Y), 0, 0) (fun _ => rfl) ?_
  refine yi_D_ldc2 (3689348814741910323) rfl (by decide +kernel) ?_
  refine yi_D_run 4 (18, [(0, .inr (.inl (yi_W (v - (yi_land (yi_lushr v 1) 6148914691236517205)))))], [.inr (.inl (yi_lushr (yi_W (v - (yi_land (yi_lushr v 1) 6148914691236517205))) 2)), .inr (.inl (yi_land (yi_W (v - (yi_land (yi_lushr v 1) 6148914691236517205))) 3689348814741910323))], (I, L, R, Y), 0, 0) (fun _ => rfl) ?_
  refine yi_D_ldc2 (3689348814741910323) rfl (by decide +kernel) ?_
  refine yi_D_run 8 (29, [(0, .inr (.inl (yi_W ((yi_land (yi_W (v - (yi_land (yi_lushr v 1) 6148914691236517205))) 3689348814741910323) + (yi_land (yi_lushr (yi_W (v - (yi_land (yi_lushr v 1) 6148914691236517205))) 2) 3689348814741910323)))))], [.inr (.inl (yi_W ((yi_W ((yi_land (yi_W (v - (yi_land (yi_lushr v 1) 6148914691236517205))) 3689348814741910323) + (yi_land (yi_lushr (yi_W (v - (yi_land (yi_lushr v 1) 6148914691236517205))) 2) 3689348814741910323))) + (yi_lushr (yi_W ((yi_land (yi_W (v - (yi_land (yi_lushr v 1) 6148914691236517205))) 3689348814741910323) + (yi_land (yi_lushr (yi_W (v - (yi_land (yi_lushr v 1) 6148914691236517205))) 2) 3689348814741910323))) 4))))], (I, L, R, Y), 0, 0) (fun _ => rfl) ?_
  refine yi_D_ldc2 (1085102592571150095) rfl (by decide +kernel) ?_
  refine yi_D_run 14 (48, [(0, .inr (.inl (yi_W ((yi_W ((yi_land (yi_W ((yi_W ((yi_land (yi_W (v - (yi_land (yi_lushr v 1) 6148914691236517205))) 3689348814741910323) + (yi_land (yi_lushr (yi_W (v - (yi_land (yi_lushr v 1) 6148914691236517205))) 2) 3689348814741910323))) + (yi_lushr (yi_W ((yi_land (yi_W (v - (yi_land (yi_lushr v 1) 6148914691236517205))) 3689348814741910323) + (yi_land (yi_lushr (yi_W (v - (yi_land (yi_lushr v 1) 6148914691236517205))) 2) 3689348814741910323))) 4))) 1085102592571150095) + (yi_lushr (yi_land (yi_W ((yi_W ((yi_land (yi_W (v - (yi_land (yi_lushr v 1) 6148914691236517205))) 3689348814741910323) + (yi_land (yi_lushr (yi_W (v - (yi_land (yi_lushr v 1) 6148914691236517205))) 2) 3689348814741910323))) + (yi_lushr (yi_W ((yi_land (yi_W (v - (yi_land (yi_lushr v 1) 6148914691236517205))) 3689348814741910323) + (yi_land (yi_lushr (yi_W (v - (yi_land (yi_lushr v 1) 6148914691236517205))) 2) 3689348814741910323))) 4))) 1085102592571150095) 8))) + (yi_lushr (yi_W ((yi_land (yi_W ((yi_W ((yi_land (yi_W (v - (yi_land (yi_lushr v 1) 6148914691236517205))) 3689348814741910323) + (yi_land (yi_lushr (yi_W (v - (yi_land (yi_lushr v 1) 6148914691236517205))) 2) 3689348814741910323))) + (yi_lushr (yi_W ((yi_land (yi_W (v - (yi_land (yi_lushr v 1) 6148914691236517205))) 3689348814741910323) + (yi_land (yi_lushr (yi_W (v - (yi_land (yi_lushr v 1) 6148914691236517205))) 2) 3689348814741910323))) 4))) 1085102592571150095) + (yi_lushr (yi_land (yi_W ((yi_W ((yi_land (yi_W (v - (yi_land (yi_lushr v 1) 6148914691236517205))) 3689348814741910323) + (yi_land (yi_lushr (yi_W (v - (yi_land (yi_lushr v 1) 6148914691236517205))) 2) 3689348814741910323))) + (yi_lushr (yi_W ((yi_land (yi_W (v - (yi_land (yi_lushr v 1) 6148914691236517205))) 3689348814741910323) + (yi_land (yi_lushr (yi_W (v - (yi_land (yi_lushr v 1) 6148914691236517205))) 2) 3689348814741910323))) 4))) 1085102592571150095) 8))) 16)))))], [], (I, L, R, Y), 0, 0) (fun _ => rfl) ?_
  refine yi_D_run 10 (60, [(0, .inr (.inl (yi_W ((yi_W ((yi_W ((yi_land (yi_W ((yi_W ((yi_land (yi_W (v - (yi_land (yi_lushr v 1) 6148914691236517205))) 3689348814741910323) + (yi_land (yi_lushr (yi_W (v - (yi_land (yi_lushr v 1) 6148914691236517205))) 2) 3689348814741910323))) + (yi_lushr (yi_W ((yi_land (yi_W (v - (yi_land (yi_lushr v 1) 6148914691236517205))) 3689348814741910323) + (yi_land (yi_lushr (yi_W (v - (yi_land (yi_lushr v 1) 6148914691236517205))) 2) 3689348814741910323))) 4))) 1085102592571150095) + (yi_lushr (yi_land (yi_W ((yi_W ((yi_land (yi_W (v - (yi_land (yi_lushr v 1) 6148914691236517205))) 3689348814741910323) + (yi_land (yi_lushr (yi_W (v - (yi_land (yi_lushr v 1) 6148914691236517205))) 2) 3689348814741910323))) + (yi_lushr (yi_W ((yi_land (yi_W (v - (yi_land (yi_lushr v 1) 6148914691236517205))) 3689348814741910323) + (yi_land (yi_lushr (yi_W (v - (yi_land (yi_lushr v 1) 6148914691236517205))) 2) 3689348814741910323))) 4))) 1085102592571150095) 8))) + (yi_lushr (yi_W ((yi_land (yi_W ((yi_W ((yi_land (yi_W (v - (yi_land (yi_lushr v 1) 6148914691236517205))) 3689348814741910323) + (yi_land (yi_lushr (yi_W (v - (yi_land (yi_lushr v 1) 6148914691236517205))) 2) 3689348814741910323))) + (yi_lushr (yi_W ((yi_land (yi_W (v - (yi_land (yi_lushr v 1) 6148914691236517205))) 3689348814741910323) + (yi_land (yi_lushr (yi_W (v - (yi_land (yi_lushr v 1) 6148914691236517205))) 2) 3689348814741910323))) 4))) 1085102592571150095) + (yi_lushr (yi_land (yi_W ((yi_W ((yi_land (yi_W (v - (yi_land (yi_lushr v 1) 6148914691236517205))) 3689348814741910323) + (yi_land (yi_lushr (yi_W (v - (yi_land (yi_lushr v 1) 6148914691236517205))) 2) 3689348814741910323))) + (yi_lushr (yi_W ((yi_land (yi_W (v - (yi_land (yi_lushr v 1) 6148914691236517205))) 3689348814741910323) + (yi_land (yi_lushr (yi_W (v - (yi_land (yi_lushr v 1) 6148914691236517205))) 2) 3689348814741910323))) 4))) 1085102592571150095) 8))) 16))) + (yi_lushr (yi_W ((yi_W ((yi_land (yi_W ((yi_W ((yi_land (yi_W (v - (yi_land (yi_lushr v 1) 6148914691236517205))) 3689348814741910323) + (yi_land (yi_lushr (yi_W (v - (yi_land (yi_lushr v 1) 6148914691236517205))) 2) 3689348814741910323))) + (yi_lushr (yi_W ((yi_land (yi_W (v - (yi_land (yi_lushr v 1) 6148914691236517205))) 3689348814741910323) + (yi_land (yi_lushr (yi_W (v - (yi_land (yi_lushr v 1) 6148914691236517205))) 2) 3689348814741910323))) 4))) 1085102592571150095) + (yi_lushr (yi_land (yi_W ((yi_W ((yi_land (yi_W (v - (yi_land (yi_lushr v 1) 6148914691236517205))) 3689348814741910323) + (yi_land (yi_lushr (yi_W (v - (yi_land (yi_lushr v 1) 6148914691236517205))) 2) 3689348814741910323))) + (yi_lushr (yi_W ((yi_land (yi_W (v - (yi_land (yi_lushr v 1) 6148914691236517205))) 3689348814741910323) + (yi_land (yi_lushr (yi_W (v - (yi_land (yi_lushr v 1) 6148914691236517205))) 2) 3689348814741910323))) 4))) 1085102592571150095) 8))) + (yi_lushr (yi_W ((yi_land (yi_W ((yi_W ((yi_land (yi_W (v - (yi_land (yi_lushr v 1) 6148914691236517205))) 3689348814741910323) + (yi_land (yi_lushr (yi_W (v - (yi_land (yi_lushr v 1) 6148914691236517205))) 2) 3689348814741910323))) + (yi_lushr (yi_W ((yi_land (yi_W (v - (yi_land (yi_lushr v 1) 6148914691236517205))) 3689348814741910323) + (yi_land (yi_lushr (yi_W (v - (yi_land (yi_lushr v 1) 6148914691236517205))) 2) 3689348814741910323))) 4))) 1085102592571150095) + (yi_lushr (yi_land (yi_W ((yi_W ((yi_land (yi_W (v - (yi_land (yi_lushr v 1) 6148914691236517205))) 3689348814741910323) + (yi_land (yi_lushr (yi_W (v - (yi_land (yi_lushr v 1) 6148914691236517205))) 2) 3689348814741910323))) + (yi_lushr (yi_W ((yi_land (yi_W (v - (yi_land (yi_lushr v 1) 6148914691236517205))) 3689348814741910323) + (yi_land (yi_lushr (yi_W (v - (yi_land (yi_lushr v 1) 6148914691236517205))) 2) 3689348814741910323))) 4))) 1085102592571150095) 8))) 16))) 32)))))], [.inl (yi_iand (yi_w (yi_W ((yi_W ((yi_W ((yi_land (yi_W ((yi_W ((yi_land (yi_W (v - (yi_land (yi_lushr v 1) 6148914691236517205))) 3689348814741910323) + (yi_land (yi_lushr (yi_W (v - (yi_land (yi_lushr v 1) 6148914691236517205))) 2) 3689348814741910323))) + (yi_lushr (yi_W ((yi_land (yi_W (v - (yi_land (yi_lushr v 1) 6148914691236517205))) 3689348814741910323) + (yi_land (yi_lushr (yi_W (v - (yi_land (yi_lushr v 1) 6148914691236517205))) 2) 3689348814741910323))) 4))) 1085102592571150095) + (yi_lushr (yi_land (yi_W ((yi_W ((yi_land (yi_W (v - (yi_land (yi_lushr v 1) 6148914691236517205))) 3689348814741910323) + (yi_land (yi_lushr (yi_W (v - (yi_land (yi_lushr v 1) 6148914691236517205))) 2) 3689348814741910323))) + (yi_lushr (yi_W ((yi_land (yi_W (v - (yi_land (yi_lushr v 1) 6148914691236517205))) 3689348814741910323) + (yi_land (yi_lushr (yi_W (v - (yi_land (yi_lushr v 1) 6148914691236517205))) 2) 3689348814741910323))) 4))) 1085102592571150095) 8))) + (yi_lushr (yi_W ((yi_land (yi_W ((yi_W ((yi_land (yi_W (v - (yi_land (yi_lushr v 1) 6148914691236517205))) 3689348814741910323) + (yi_land (yi_lushr (yi_W (v - (yi_land (yi_lushr v 1) 6148914691236517205))) 2) 3689348814741910323))) + (yi_lushr (yi_W ((yi_land (yi_W (v - (yi_land (yi_lushr v 1) 6148914691236517205))) 3689348814741910323) + (yi_land (yi_lushr (yi_W (v - (yi_land (yi_lushr v 1) 6148914691236517205))) 2) 3689348814741910323))) 4))) 1085102592571150095) + (yi_lushr (yi_land (yi_W ((yi_W ((yi_land (yi_W (v - (yi_land (yi_lushr v 1) 6148914691236517205))) 3689348814741910323) + (yi_land (yi_lushr (yi_W (v - (yi_land (yi_lushr v 1) 6148914691236517205))) 2) 3689348814741910323))) + (yi_lushr (yi_W ((yi_land (yi_W (v - (yi_land (yi_lushr v 1) 6148914691236517205))) 3689348814741910323) + (yi_land (yi_lushr (yi_W (v - (yi_land (yi_lushr v 1) 6148914691236517205))) 2) 3689348814741910323))) 4))) 1085102592571150095) 8))) 16))) + (yi_lushr (yi_W ((yi_W ((yi_land (yi_W ((yi_W ((yi_land (yi_W (v - (yi_land (yi_lushr v 1) 6148914691236517205))) 3689348814741910323) + (yi_land (yi_lushr (yi_W (v - (yi_land (yi_lushr v 1) 6148914691236517205))) 2) 3689348814741910323))) + (yi_lushr (yi_W ((yi_land (yi_W (v - (yi_land (yi_lushr v 1) 6148914691236517205))) 3689348814741910323) + (yi_land (yi_lushr (yi_W (v - (yi_land (yi_lushr v 1) 6148914691236517205))) 2) 3689348814741910323))) 4))) 1085102592571150095) + (yi_lushr (yi_land (yi_W ((yi_W ((yi_land (yi_W (v - (yi_land (yi_lushr v 1) 6148914691236517205))) 3689348814741910323) + (yi_land (yi_lushr (yi_W (v - (yi_land (yi_lushr v 1) 6148914691236517205))) 2) 3689348814741910323))) + (yi_lushr (yi_W ((yi_land (yi_W (v - (yi_land (yi_lushr v 1) 6148914691236517205))) 3689348814741910323) + (yi_land (yi_lushr (yi_W (v - (yi_land (yi_lushr v 1) 6148914691236517205))) 2) 3689348814741910323))) 4))) 1085102592571150095) 8))) + (yi_lushr (yi_W ((yi_land (yi_W ((yi_W ((yi_land (yi_W (v - (yi_land (yi_lushr v 1) 6148914691236517205))) 3689348814741910323) + (yi_land (yi_lushr (yi_W (v - (yi_land (yi_lushr v 1) 6148914691236517205))) 2) 3689348814741910323))) + (yi_lushr (yi_W ((yi_land (yi_W (v - (yi_land (yi_lushr v 1) 6148914691236517205))) 3689348814741910323) + (yi_land (yi_lushr (yi_W (v - (yi_land (yi_lushr v 1) 6148914691236517205))) 2) 3689348814741910323))) 4))) 1085102592571150095) + (yi_lushr (yi_land (yi_W ((yi_W ((yi_land (yi_W (v - (yi_land (yi_lushr v 1) 6148914691236517205))) 3689348814741910323) + (yi_land (yi_lushr (yi_W (v - (yi_land (yi_lushr v 1) 6148914691236517205))) 2) 3689348814741910323))) + (yi_lushr (yi_W ((yi_land (yi_W (v - (yi_land (yi_lushr v 1) 6148914691236517205))) 3689348814741910323) + (yi_land (yi_lushr (yi_W (v - (yi_land (yi_lushr v 1) 6148914691236517205))) 2) 3689348814741910323))) 4))) 1085102592571150095) 8))) 16))) 32)))) 127)], (I, L, R, Y), 0, 0) (fun _ => rfl) ?_
  refine yi_D_reti rfl ?_
  rw [← cf_bc_e]
  rfl
theorem p_cellAt {d : Nat} {I L : Nat → Nat → Int} {R : Nat → Nat → Option Nat} {Y : (Nat → Nat) × (Nat → Nat) × Nat} {p c n : Nat} (hf : rw_S I R Y p c n) {x : Int} : yi_P zi_Ms d 198 [.inr (.inr (some p)), .inl x] (I, L, R, Y) (fun r => ∃ z, r = (some (.inr (.inl z)), (I, L, R, Y), 0, 0) ∧ (0 ≤ x ∧ x < n → z = L c x.toNat) ∧ (¬ (0 ≤ x ∧ x < n) → z = 0)) := by
  refine yi_P_of (M := zi_m198) rfl (fun d k => ?_)
  obtain ⟨⟨hp10, hc10, hpN, hcN, hp5, hc5⟩, -, -, hn9, hn5⟩ := id hf
  show yi_D zi_Ms d zi_m198 k (0, [(0, .inr (.inr (some p))), (1, .inl x)], [], (I, L, R, Y), 0, 0) _
  refine yi_D_run 1 (1, [(0, .inr (.inr (some p))), (1, .inl x)], [.inl x], (I, L, R, Y), 0, 0) (fun _ => rfl) ?_
  by_cases h1 : x < 0
  · refine yi_D_if1 true rfl (yi_lt_t h1) ?_
    refine yi_D_run 1 (31, [(0, .inr (.inr (some p))), (1, .inl x)], [.inr (.inl 0)], (I, L, R, Y), 0, 0) (fun _ => rfl) ?_
    refine yi_D_retl rfl ?_
    first
    | (exfalso; omega)
    | exact ⟨_, rfl, fun _ => rfl, fun h => absurd ⟨by omega, by omega⟩ h⟩
    | exact ⟨_, rfl, fun h => by exfalso; omega, fun _ => rfl⟩
  · refine yi_D_if1 false rfl (yi_lt_f h1) ?_
    refine yi_D_run 2 (6, [(0, .inr (.inr (some p))), (1, .inl x)], [.inr (.inr (some p)), .inl x], (I, L, R, Y), 0, 0) (fun _ => rfl) ?_
    refine yi_D_gi (v := (n : Int)) rfl rfl (Nat.ble_eq_true_of_le (by omega)) hf.2.2.1 (fun _ => ?_)
    by_cases h2 : (n : Int) ≤ x
    · refine yi_D_if2 true rfl (yi_ge_t h2) ?_
      refine yi_D_run 1 (31, [(0, .inr (.inr (some p))), (1, .inl x)], [.inr (.inl 0)], (I, L, R, Y), 0, 0) (fun _ => rfl) ?_
      refine yi_D_retl rfl ?_
      first
      | (exfalso; omega)
      | exact ⟨_, rfl, fun _ => rfl, fun h => absurd ⟨by omega, by omega⟩ h⟩
      | exact ⟨_, rfl, fun h => by exfalso; omega, fun _ => rfl⟩
    · refine yi_D_if2 false rfl (yi_ge_f h2) ?_
      refine yi_D_run 2 (14, [(0, .inr (.inr (some p))), (1, .inl x)], [.inr (.inr (some p)), .inl x], (I, L, R, Y), 0, 0) (fun _ => rfl) ?_
      refine yi_D_gr (v := some c) rfl rfl (Nat.ble_eq_true_of_le (by omega)) hf.2.1 (fun _ => ?_)
      refine yi_D_len (v := (Y.2.1 c : Int)) rfl (Nat.ble_eq_true_of_le (by omega)) rfl ?_
      by_cases h3 : (Y.2.1 c : Int) ≤ x
      · refine yi_D_if2 true rfl (yi_ge_t h3) ?_
        refine yi_D_run 1 (31, [(0, .inr (.inr (some p))), (1, .inl x)], [.inr (.inl 0)], (I, L, R, Y), 0, 0) (fun _ => rfl) ?_
        refine yi_D_retl rfl ?_
        first
        | (exfalso; omega)
        | exact ⟨_, rfl, fun _ => rfl, fun h => absurd ⟨by omega, by omega⟩ h⟩
        | exact ⟨_, rfl, fun h => by exfalso; omega, fun _ => rfl⟩
      · refine yi_D_if2 false rfl (yi_ge_f h3) ?_
        refine yi_D_run 1 (22, [(0, .inr (.inr (some p))), (1, .inl x)], [.inr (.inr (some p))], (I, L, R, Y), 0, 0) (fun _ => rfl) ?_
        refine yi_D_gr (v := some c) rfl rfl (Nat.ble_eq_true_of_le (by omega)) hf.2.1 (fun _ => ?_)
        refine yi_D_run 1 (26, [(0, .inr (.inr (some p))), (1, .inl x)], [.inl x, .inr (.inr (some c))], (I, L, R, Y), 0, 0) (fun _ => rfl) ?_
        refine yi_D_ll (v := L c (x.toNat)) rfl (Nat.ble_eq_true_of_le (by omega)) rfl (fun _ _ => ?_)
        refine yi_D_run 1 (31, [(0, .inr (.inr (some p))), (1, .inl x)], [.inr (.inl (L c (x.toNat)))], (I, L, R, Y), 0, 0) (fun _ => rfl) ?_
        refine yi_D_retl rfl ?_
        first
        | (exfalso; omega)
        | exact ⟨_, rfl, fun _ => rfl, fun h => absurd ⟨by omega, by omega⟩ h⟩
        | exact ⟨_, rfl, fun h => by exfalso; omega, fun _ => rfl⟩
theorem p_keep {d : Nat} {I L : Nat → Nat → Int} {R : Nat → Nat → Option Nat} {Y : (Nat → Nat) × (Nat → Nat) × Nat} {p c n : Nat} (hf : rw_S I R Y p c n) {r c2 : Nat} (hr : rw_S I R Y r c2 n) : yi_P zi_Ms d 204 [.inr (.inr (some p)), .inr (.inr (some r))] (I, L, R, Y) (fun r => ∃ L', r = (none, (I, L', R, Y), 0, 0) ∧ (∀ k, k < n → L' c k = yi_land (L c k) (L c2 k)) ∧ (∀ q k, ¬ (q = c ∧ k < n) → L' q k = L q k)) := by
  refine yi_P_of (M := zi_m204) rfl (fun d k => ?_)
  obtain ⟨⟨hp10, hc10, hpN, hcN, hp5, hc5⟩, -, -, hn9, hn5⟩ := id hf
  obtain ⟨⟨hr10, hd10, hrN, hdN, hr5, hd5⟩, -, -, hm9, hm5⟩ := id hr
  show yi_D zi_Ms d zi_m204 k (0, [(0, .inr (.inr (some p))), (1, .inr (.inr (some r)))], [], (I, L, R, Y), 0, 0) _
  refine yi_D_run 2 (2, [(2, .inl 0), (0, .inr (.inr (some p))), (1, .inr (.inr (some r)))], [], (I, L, R, Y), 0, 0) (fun _ => rfl) ?_
  have pt2 : ∀ j2, j2 ≤ k → ∀ (y2 : Int) (G1 : Nat → Nat → Int), (0 ≤ y2 ∧ y2 ≤ (n : Int)) → (G1 = cf_w L c y2.toNat (fun k => yi_land (L c k) (L c2 k))) → yi_D zi_Ms d zi_m204 j2 (2, [(2, .inl y2), (0, .inr (.inr (some p))), (1, .inr (.inr (some r)))], [], (I, G1, R, Y), 0, 0) (fun r => ∃ L', r = (none, (I, L', R, Y), 0, 0) ∧ (∀ k, k < n → L' c k = yi_land (L c k) (L c2 k)) ∧ (∀ q k, ¬ (q = c ∧ k < n) → L' q k = L q k)) := by
    intro j2
    induction j2 with
    | zero => intros; exact yi_D_0
    | succ j2 ih2 =>
    intro hk2 y2 G1 hy hG
    refine yi_D_run1 1 (4, [(2, .inl y2), (0, .inr (.inr (some p))), (1, .inr (.inr (some r)))], [.inr (.inr (some p)), .inl y2], (I, G1, R, Y), 0, 0) (fun _ => rfl) ?_
    refine yi_D_gi (v := (n : Int)) rfl rfl (Nat.ble_eq_true_of_le (by omega)) hf.2.2.1 (fun _ => ?_)
    by_cases h1 : (n : Int) ≤ y2
    · refine yi_D_if2 true rfl (yi_ge_t h1) ?_
      refine yi_D_retv rfl ?_
      have hn2 : y2.toNat = n := by omega
      exact ⟨_, rfl, fun k hk => by rw [hG, hn2]; exact cf_w_i _ _ hk, fun q k h => by rw [hG, hn2]; exact cf_w_o _ _ h⟩
    · refine yi_D_if2 false rfl (yi_ge_f h1) ?_
      refine yi_D_run 2 (12, [(2, .inl y2), (0, .inr (.inr (some p))), (1, .inr (.inr (some r)))], [.inr (.inr (some p)), .inl y2], (I, G1, R, Y), 0, 0) (fun _ => rfl) ?_
      refine yi_D_gr (v := some c) rfl rfl (Nat.ble_eq_true_of_le (by omega)) hf.2.1 (fun _ => ?_)
      refine yi_D_len (v := (Y.2.1 c : Int)) rfl (Nat.ble_eq_true_of_le (by omega)) rfl ?_
      by_cases h2 : (Y.2.1 c : Int) ≤ y2
      · refine yi_D_if2 true rfl (yi_ge_t h2) ?_
        refine yi_D_retv rfl ?_
        have hn2 : y2.toNat = n := by omega
        exact ⟨_, rfl, fun k hk => by rw [hG, hn2]; exact cf_w_i _ _ hk, fun q k h => by rw [hG, hn2]; exact cf_w_o _ _ h⟩
      · refine yi_D_if2 false rfl (yi_ge_f h2) ?_
        refine yi_D_run 1 (20, [(2, .inl y2), (0, .inr (.inr (some p))), (1, .inr (.inr (some r)))], [.inr (.inr (some p))], (I, G1, R, Y), 0, 0) (fun _ => rfl) ?_
        refine yi_D_gr (v := some c) rfl rfl (Nat.ble_eq_true_of_le (by omega)) hf.2.1 (fun _ => ?_)
        refine yi_D_run 2 (25, [(2, .inl y2), (0, .inr (.inr (some p))), (1, .inr (.inr (some r)))], [.inl y2, .inr (.inr (some c)), .inl y2, .inr (.inr (some c))], (I, G1, R, Y), 0, 0) (fun _ => rfl) ?_
        refine yi_D_ll (v := G1 c (y2.toNat)) rfl (Nat.ble_eq_true_of_le (by omega)) rfl (fun _ _ => ?_)
        refine yi_D_run 2 (28, [(2, .inl y2), (0, .inr (.inr (some p))), (1, .inr (.inr (some r)))], [.inl y2, .inr (.inr (some r)), .inr (.inl (G1 c (y2.toNat))), .inl y2, .inr (.inr (some c))], (I, G1, R, Y), 0, 0) (fun _ => rfl) ?_
        refine yi_D_callv rfl (p_cellAt hr (x := y2)) ?_
        rintro _ ⟨z3, rfl, hz4, hy5⟩
        rw [hz4 ⟨by omega, by omega⟩]
        show yi_D zi_Ms d zi_m204 j2 (31, [(2, .inl y2), (0, .inr (.inr (some p))), (1, .inr (.inr (some r)))], [.inr (.inl (G1 c2 (y2.toNat))), .inr (.inl (G1 c (y2.toNat))), .inl y2, .inr (.inr (some c))], (I, G1, R, Y), 0, 0) _
        refine yi_D_run 1 (32, [(2, .inl y2), (0, .inr (.inr (some p))), (1, .inr (.inr (some r)))], [.inr (.inl (yi_land (G1 c (y2.toNat)) (G1 c2 (y2.toNat)))), .inl y2, .inr (.inr (some c))], (I, G1, R, Y), 0, 0) (fun _ => rfl) ?_
        refine yi_D_ls rfl (fun _ _ => ?_)
        generalize w7 : yi_u G1 c (y2.toNat) (yi_land (G1 c (y2.toNat)) (G1 c2 (y2.toNat))) = L6
        have e1 : G1 c y2.toNat = L c y2.toNat := by rw [hG]; exact cf_w_o _ _ (by omega)
        have e2 : G1 c2 y2.toNat = L c2 y2.toNat := by rw [hG]; by_cases z : c2 = c; rw [z]; exact cf_w_o _ _ (by omega); exact cf_w_o _ _ (by omega)
        refine yi_D_iinc [(2, .inl (y2 + 1)), (0, .inr (.inr (some p))), (1, .inr (.inr (some r)))] rfl rfl rfl (by rw [show yi_w (y2 + 1) = y2 + 1 from (yi_wn (by omega) (by omega)).trans (by omega)]; rfl) ?_
        refine yi_D_run 1 (2, [(2, .inl (y2 + 1)), (0, .inr (.inr (some p))), (1, .inr (.inr (some r)))], [], (I, L6, R, Y), 0, 0) (fun _ => rfl) ?_
        exact yi_D_mono (ih2 (by omega) (y2 + 1) L6 (by omega) (by rw [← w7, e1, e2, hG, show (y2 + 1).toNat = y2.toNat + 1 by omega]; exact cf_w_s rfl)) (by omega)
  exact pt2 k (Nat.le_refl _) 0 L (by omega) (cf_w_0 _ _ _).symm
theorem p_sizeWith {d : Nat} {I L : Nat → Nat → Int} {R : Nat → Nat → Option Nat} {Y : (Nat → Nat) × (Nat → Nat) × Nat} {p c n : Nat} (hf : rw_S I R Y p c n) {r c2 : Nat} (hr : rw_S I R Y r c2 n) : yi_P zi_Ms d 209 [.inr (.inr (some p)), .inr (.inr (some r))] (I, L, R, Y) (fun r => r = (some (.inl (ym_ct (fun k => yi_land (L c k) (L c2 k)) n)), (I, L, R, Y), 0, 0)) := by
  refine yi_P_of (M := zi_m209) rfl (fun d k => ?_)
  obtain ⟨⟨hp10, hc10, hpN, hcN, hp5, hc5⟩, -, -, hn9, hn5⟩ := id hf
  obtain ⟨⟨hr10, hd10, hrN, hdN, hr5, hd5⟩, -, -, hm9, hm5⟩ := id hr
  show yi_D zi_Ms d zi_m209 k (0, [(0, .inr (.inr (some p))), (1, .inr (.inr (some r)))], [], (I, L, R, Y), 0, 0) _
  refine yi_D_run 4 (4, [(3, .inl 0), (2, .inl 0), (0, .inr (.inr (some p))), (1, .inr (.inr (some r)))], [], (I, L, R, Y), 0, 0) (fun _ => rfl) ?_
  have pt4 : ∀ j4, j4 ≤ k → ∀ (y3 : Int) (y2 : Int), (0 ≤ y3 ∧ y3 ≤ (n : Int)) → (y2 = ym_ct (fun k => yi_land (L c k) (L c2 k)) y3.toNat) → yi_D zi_Ms d zi_m209 j4 (4, [(3, .inl y3), (2, .inl y2), (0, .inr (.inr (some p))), (1, .inr (.inr (some r)))], [], (I, L, R, Y), 0, 0) (fun r => r = (some (.inl (ym_ct (fun k => yi_land (L c k) (L c2 k)) n)), (I, L, R, Y), 0, 0)) := by
    intro j4
    induction j4 with
    | zero => intros; exact yi_D_0
    | succ j4 ih4 =>
    intro hk4 y3 y2 hy hs
    refine yi_D_run1 1 (6, [(3, .inl y3), (2, .inl y2), (0, .inr (.inr (some p))), (1, .inr (.inr (some r)))], [.inr (.inr (some p)), .inl y3], (I, L, R, Y), 0, 0) (fun _ => rfl) ?_
    refine yi_D_gi (v := (n : Int)) rfl rfl (Nat.ble_eq_true_of_le (by omega)) hf.2.2.1 (fun _ => ?_)
    by_cases h1 : (n : Int) ≤ y3
    · refine yi_D_if2 true rfl (yi_ge_t h1) ?_
      refine yi_D_run 1 (46, [(3, .inl y3), (2, .inl y2), (0, .inr (.inr (some p))), (1, .inr (.inr (some r)))], [.inl y2], (I, L, R, Y), 0, 0) (fun _ => rfl) ?_
      refine yi_D_reti rfl ?_
      have hn2 : y3.toNat = n := by omega
      rw [hs, hn2]
    · refine yi_D_if2 false rfl (yi_ge_f h1) ?_
      refine yi_D_run 2 (14, [(3, .inl y3), (2, .inl y2), (0, .inr (.inr (some p))), (1, .inr (.inr (some r)))], [.inr (.inr (some p)), .inl y3], (I, L, R, Y), 0, 0) (fun _ => rfl) ?_
      refine yi_D_gr (v := some c) rfl rfl (Nat.ble_eq_true_of_le (by omega)) hf.2.1 (fun _ => ?_)
      refine yi_D_len (v := (Y.2.1 c : Int)) rfl (Nat.ble_eq_true_of_le (by omega)) rfl ?_
      by_cases h2 : (Y.2.1 c : Int) ≤ y3
      · refine yi_D_if2 true rfl (yi_ge_t h2) ?_
        refine yi_D_run 1 (46, [(3, .inl y3), (2, .inl y2), (0, .inr (.inr (some p))), (1, .inr (.inr (some r)))], [.inl y2], (I, L, R, Y), 0, 0) (fun _ => rfl) ?_
        refine yi_D_reti rfl ?_
        have hn2 : y3.toNat = n := by omega
        rw [hs, hn2]
      · refine yi_D_if2 false rfl (yi_ge_f h2) ?_
        refine yi_D_run 2 (23, [(3, .inl y3), (2, .inl y2), (0, .inr (.inr (some p))), (1, .inr (.inr (some r)))], [.inr (.inr (some p)), .inl y2], (I, L, R, Y), 0, 0) (fun _ => rfl) ?_
        refine yi_D_gr (v := some c) rfl rfl (Nat.ble_eq_true_of_le (by omega)) hf.2.1 (fun _ => ?_)
        refine yi_D_run 1 (27, [(3, .inl y3), (2, .inl y2), (0, .inr (.inr (some p))), (1, .inr (.inr (some r)))], [.inl y3, .inr (.inr (some c)), .inl y2], (I, L, R, Y), 0, 0) (fun _ => rfl) ?_
        refine yi_D_ll (v := L c (y3.toNat)) rfl (Nat.ble_eq_true_of_le (by omega)) rfl (fun _ _ => ?_)
        refine yi_D_run 2 (30, [(3, .inl y3), (2, .inl y2), (0, .inr (.inr (some p))), (1, .inr (.inr (some r)))], [.inl y3, .inr (.inr (some r)), .inr (.inl (L c (y3.toNat))), .inl y2], (I, L, R, Y), 0, 0) (fun _ => rfl) ?_
        refine yi_D_callv rfl (p_cellAt hr (x := y3)) ?_
        rintro _ ⟨z3, rfl, hz4, hy5⟩
        rw [hz4 ⟨by omega, by omega⟩]
        show yi_D zi_Ms d zi_m209 j4 (33, [(3, .inl y3), (2, .inl y2), (0, .inr (.inr (some p))), (1, .inr (.inr (some r)))], [.inr (.inl (L c2 (y3.toNat))), .inr (.inl (L c (y3.toNat))), .inl y2], (I, L, R, Y), 0, 0) _
        refine yi_D_run 1 (34, [(3, .inl y3), (2, .inl y2), (0, .inr (.inr (some p))), (1, .inr (.inr (some r)))], [.inr (.inl (yi_land (L c (y3.toNat)) (L c2 (y3.toNat)))), .inl y2], (I, L, R, Y), 0, 0) (fun _ => rfl) ?_
        refine yi_D_calls rfl (p_bitCount) ?_
        rintro _ rfl
        show yi_D zi_Ms d zi_m209 j4 (37, [(3, .inl y3), (2, .inl y2), (0, .inr (.inr (some p))), (1, .inr (.inr (some r)))], [.inl (ym_on (yi_land (L c (y3.toNat)) (L c2 (y3.toNat)))), .inl y2], (I, L, R, Y), 0, 0) _
        refine yi_D_run 2 (39, [(2, .inl (yi_w (y2 + (ym_on (yi_land (L c (y3.toNat)) (L c2 (y3.toNat))))))), (3, .inl y3), (0, .inr (.inr (some p))), (1, .inr (.inr (some r)))], [], (I, L, R, Y), 0, 0) (fun _ => rfl) ?_
        refine yi_D_iinc [(3, .inl (y3 + 1)), (2, .inl (yi_w (y2 + (ym_on (yi_land (L c (y3.toNat)) (L c2 (y3.toNat))))))), (0, .inr (.inr (some p))), (1, .inr (.inr (some r)))] rfl rfl rfl (by rw [show yi_w (y3 + 1) = y3 + 1 from (yi_wn (by omega) (by omega)).trans (by omega)]; rfl) ?_
        refine yi_D_run 1 (4, [(3, .inl (y3 + 1)), (2, .inl (yi_w (y2 + (ym_on (yi_land (L c (y3.toNat)) (L c2 (y3.toNat))))))), (0, .inr (.inr (some p))), (1, .inr (.inr (some r)))], [], (I, L, R, Y), 0, 0) (fun _ => rfl) ?_
        exact yi_D_mono (ih4 (by omega) (y3 + 1) (yi_w (y2 + (ym_on (yi_land (L c (y3.toNat)) (L c2 (y3.toNat)))))) (by omega) (by rw [hs, show (y3 + 1).toNat = y3.toNat + 1 by omega]; rfl)) (by omega)
  exact pt4 k (Nat.le_refl _) 0 0 (by omega) rfl
theorem p_size {d : Nat} {I L : Nat → Nat → Int} {R : Nat → Nat → Option Nat} {Y : (Nat → Nat) × (Nat → Nat) × Nat} {p c n : Nat} (hf : rw_S I R Y p c n) : yi_P zi_Ms d 208 [.inr (.inr (some p))] (I, L, R, Y) (fun r => r = (some (.inl (ym_ct (fun k => yi_land (L c k) (L c k)) n)), (I, L, R, Y), 0, 0)) := by
  refine yi_P_of (M := zi_m208) rfl (fun d k => ?_)
  obtain ⟨⟨hp10, hc10, hpN, hcN, hp5, hc5⟩, -, -, hn9, hn5⟩ := id hf
  show yi_D zi_Ms d zi_m208 k (0, [(0, .inr (.inr (some p)))], [], (I, L, R, Y), 0, 0) _
  refine yi_D_run 2 (2, [(0, .inr (.inr (some p)))], [.inr (.inr (some p)), .inr (.inr (some p))], (I, L, R, Y), 0, 0) (fun _ => rfl) ?_
  refine yi_D_callv rfl (p_sizeWith hf hf) ?_
  rintro _ rfl
  show yi_D zi_Ms d zi_m208 k (5, [(0, .inr (.inr (some p)))], [.inl (ym_ct (fun k => yi_land (L c k) (L c k)) n)], (I, L, R, Y), 0, 0) _
  refine yi_D_reti rfl ?_
  rfl
theorem p_meets {d : Nat} {I L : Nat → Nat → Int} {R : Nat → Nat → Option Nat} {Y : (Nat → Nat) × (Nat → Nat) × Nat} {p c n : Nat} (hf : rw_S I R Y p c n) {r c2 : Nat} (hr : rw_S I R Y r c2 n) : yi_P zi_Ms d 205 [.inr (.inr (some p)), .inr (.inr (some r))] (I, L, R, Y) (fun r => ((rw_any (fun k => L c k) (fun k => L c2 k) n) ∧ r = (some (.inl 1), (I, L, R, Y), 0, 0)) ∨ (¬ (rw_any (fun k => L c k) (fun k => L c2 k) n) ∧ r = (some (.inl 0), (I, L, R, Y), 0, 0))) := by
  refine yi_P_of (M := zi_m205) rfl (fun d k => ?_)
  obtain ⟨⟨hp10, hc10, hpN, hcN, hp5, hc5⟩, -, -, hn9, hn5⟩ := id hf
  obtain ⟨⟨hr10, hd10, hrN, hdN, hr5, hd5⟩, -, -, hm9, hm5⟩ := id hr
  show yi_D zi_Ms d zi_m205 k (0, [(0, .inr (.inr (some p))), (1, .inr (.inr (some r)))], [], (I, L, R, Y), 0, 0) _
  refine yi_D_run 2 (2, [(2, .inl 0), (0, .inr (.inr (some p))), (1, .inr (.inr (some r)))], [], (I, L, R, Y), 0, 0) (fun _ => rfl) ?_
  have pt2 : ∀ j2, j2 ≤ k → ∀ (y2 : Int), (0 ≤ y2 ∧ y2 ≤ (n : Int)) → (∀ k : Nat, (k : Int) < y2 → yi_land (L c k) (L c2 k) = 0) → yi_D zi_Ms d zi_m205 j2 (2, [(2, .inl y2), (0, .inr (.inr (some p))), (1, .inr (.inr (some r)))], [], (I, L, R, Y), 0, 0) (fun r => ((rw_any (fun k => L c k) (fun k => L c2 k) n) ∧ r = (some (.inl 1), (I, L, R, Y), 0, 0)) ∨ (¬ (rw_any (fun k => L c k) (fun k => L c2 k) n) ∧ r = (some (.inl 0), (I, L, R, Y), 0, 0))) := by
    intro j2
    induction j2 with
    | zero => intros; exact yi_D_0
    | succ j2 ih2 =>
    intro hk2 y2 hy hn
    refine yi_D_run1 1 (4, [(2, .inl y2), (0, .inr (.inr (some p))), (1, .inr (.inr (some r)))], [.inr (.inr (some p)), .inl y2], (I, L, R, Y), 0, 0) (fun _ => rfl) ?_
    refine yi_D_gi (v := (n : Int)) rfl rfl (Nat.ble_eq_true_of_le (by omega)) hf.2.2.1 (fun _ => ?_)
    by_cases h1 : (n : Int) ≤ y2
    · refine yi_D_if2 true rfl (yi_ge_t h1) ?_
      refine yi_D_run 1 (45, [(2, .inl y2), (0, .inr (.inr (some p))), (1, .inr (.inr (some r)))], [.inl 0], (I, L, R, Y), 0, 0) (fun _ => rfl) ?_
      refine yi_D_reti rfl ?_
      exact Or.inr ⟨fun ⟨k, hk, h⟩ => h (hn k (by omega)), rfl⟩
    · refine yi_D_if2 false rfl (yi_ge_f h1) ?_
      refine yi_D_run 2 (12, [(2, .inl y2), (0, .inr (.inr (some p))), (1, .inr (.inr (some r)))], [.inr (.inr (some p)), .inl y2], (I, L, R, Y), 0, 0) (fun _ => rfl) ?_
      refine yi_D_gr (v := some c) rfl rfl (Nat.ble_eq_true_of_le (by omega)) hf.2.1 (fun _ => ?_)
      refine yi_D_len (v := (Y.2.1 c : Int)) rfl (Nat.ble_eq_true_of_le (by omega)) rfl ?_
      by_cases h2 : (Y.2.1 c : Int) ≤ y2
      · refine yi_D_if2 true rfl (yi_ge_t h2) ?_
        refine yi_D_run 1 (45, [(2, .inl y2), (0, .inr (.inr (some p))), (1, .inr (.inr (some r)))], [.inl 0], (I, L, R, Y), 0, 0) (fun _ => rfl) ?_
        refine yi_D_reti rfl ?_
        exact Or.inr ⟨fun ⟨k, hk, h⟩ => h (hn k (by omega)), rfl⟩
      · refine yi_D_if2 false rfl (yi_ge_f h2) ?_
        refine yi_D_run 1 (20, [(2, .inl y2), (0, .inr (.inr (some p))), (1, .inr (.inr (some r)))], [.inr (.inr (some p))], (I, L, R, Y), 0, 0) (fun _ => rfl) ?_
        refine yi_D_gr (v := some c) rfl rfl (Nat.ble_eq_true_of_le (by omega)) hf.2.1 (fun _ => ?_)
        refine yi_D_run 1 (24, [(2, .inl y2), (0, .inr (.inr (some p))), (1, .inr (.inr (some r)))], [.inl y2, .inr (.inr (some c))], (I, L, R, Y), 0, 0) (fun _ => rfl) ?_
        refine yi_D_ll (v := L c (y2.toNat)) rfl (Nat.ble_eq_true_of_le (by omega)) rfl (fun _ _ => ?_)
        refine yi_D_run 2 (27, [(2, .inl y2), (0, .inr (.inr (some p))), (1, .inr (.inr (some r)))], [.inl y2, .inr (.inr (some r)), .inr (.inl (L c (y2.toNat)))], (I, L, R, Y), 0, 0) (fun _ => rfl) ?_
        refine yi_D_callv rfl (p_cellAt hr (x := y2)) ?_
        rintro _ ⟨z3, rfl, hz4, hy5⟩
        rw [hz4 ⟨by omega, by omega⟩]
        show yi_D zi_Ms d zi_m205 j2 (30, [(2, .inl y2), (0, .inr (.inr (some p))), (1, .inr (.inr (some r)))], [.inr (.inl (L c2 (y2.toNat))), .inr (.inl (L c (y2.toNat)))], (I, L, R, Y), 0, 0) _
        refine yi_D_run 3 (33, [(2, .inl y2), (0, .inr (.inr (some p))), (1, .inr (.inr (some r)))], [.inl (yi_lcmp (yi_land (L c (y2.toNat)) (L c2 (y2.toNat))) 0)], (I, L, R, Y), 0, 0) (fun _ => rfl) ?_
        by_cases h6 : (yi_land (L c (y2.toNat)) (L c2 (y2.toNat))) = 0
        · refine yi_D_if1 true rfl (yi_Leq_t h6) ?_
          refine yi_D_iinc [(2, .inl (y2 + 1)), (0, .inr (.inr (some p))), (1, .inr (.inr (some r)))] rfl rfl rfl (by rw [show yi_w (y2 + 1) = y2 + 1 from (yi_wn (by omega) (by omega)).trans (by omega)]; rfl) ?_
          refine yi_D_run 1 (2, [(2, .inl (y2 + 1)), (0, .inr (.inr (some p))), (1, .inr (.inr (some r)))], [], (I, L, R, Y), 0, 0) (fun _ => rfl) ?_
          exact yi_D_mono (ih2 (by omega) (y2 + 1) (by omega) (fun k hk => by by_cases e : (k : Int) = y2; rw [show k = y2.toNat by omega]; assumption; exact hn k (by omega))) (by omega)
        · refine yi_D_if1 false rfl (yi_Leq_f h6) ?_
          refine yi_D_run 1 (37, [(2, .inl y2), (0, .inr (.inr (some p))), (1, .inr (.inr (some r)))], [.inl 1], (I, L, R, Y), 0, 0) (fun _ => rfl) ?_
          refine yi_D_reti rfl ?_
          exact Or.inl ⟨⟨y2.toNat, by omega, by assumption⟩, rfl⟩
  exact pt2 k (Nat.le_refl _) 0 (by omega) (fun k hk => by omega)
theorem p_withinBy {d : Nat} {I L : Nat → Nat → Int} {R : Nat → Nat → Option Nat} {Y : (Nat → Nat) × (Nat → Nat) × Nat} {p c n : Nat} (hf : rw_S I R Y p c n) {r c2 : Nat} (hr : rw_S I R Y r c2 n) {t c3 : Nat} (ht : rw_S I R Y t c3 n) : yi_P zi_Ms d 211 [.inr (.inr (some p)), .inr (.inr (some r)), .inr (.inr (some t))] (I, L, R, Y) (fun r => ((rw_by (fun k => L c k) (fun k => L c2 k) (fun k => L c3 k) n) ∧ r = (some (.inl 1), (I, L, R, Y), 0, 0)) ∨ (¬ (rw_by (fun k => L c k) (fun k => L c2 k) (fun k => L c3 k) n) ∧ r = (some (.inl 0), (I, L, R, Y), 0, 0))) := by
  refine yi_P_of (M := zi_m211) rfl (fun d k => ?_)
  obtain ⟨⟨hp10, hc10, hpN, hcN, hp5, hc5⟩, -, -, hn9, hn5⟩ := id hf
  obtain ⟨⟨hr10, hd10, hrN, hdN, hr5, hd5⟩, -, -, hm9, hm5⟩ := id hr
  obtain ⟨⟨ht10, he10, htN, heN, ht5, he5⟩, -, -, hl9, hl5⟩ := id ht
  show yi_D zi_Ms d zi_m211 k (0, [(0, .inr (.inr (some p))), (1, .inr (.inr (some r))), (2, .inr (.inr (some t)))], [], (I, L, R, Y), 0, 0) _
  refine yi_D_run 2 (2, [(3, .inl 0), (0, .inr (.inr (some p))), (1, .inr (.inr (some r))), (2, .inr (.inr (some t)))], [], (I, L, R, Y), 0, 0) (fun _ => rfl) ?_
  have pt2 : ∀ j2, j2 ≤ k → ∀ (y2 : Int), (0 ≤ y2 ∧ y2 ≤ (n : Int)) → (∀ k : Nat, (k : Int) < y2 → yi_land (yi_land (L c k) (L c2 k)) (yi_lxor (L c3 k) (-1)) = 0) → yi_D zi_Ms d zi_m211 j2 (2, [(3, .inl y2), (0, .inr (.inr (some p))), (1, .inr (.inr (some r))), (2, .inr (.inr (some t)))], [], (I, L, R, Y), 0, 0) (fun r => ((rw_by (fun k => L c k) (fun k => L c2 k) (fun k => L c3 k) n) ∧ r = (some (.inl 1), (I, L, R, Y), 0, 0)) ∨ (¬ (rw_by (fun k => L c k) (fun k => L c2 k) (fun k => L c3 k) n) ∧ r = (some (.inl 0), (I, L, R, Y), 0, 0))) := by
    intro j2
    induction j2 with
    | zero => intros; exact yi_D_0
    | succ j2 ih2 =>
    intro hk2 y2 hy hn
    refine yi_D_run1 1 (4, [(3, .inl y2), (0, .inr (.inr (some p))), (1, .inr (.inr (some r))), (2, .inr (.inr (some t)))], [.inr (.inr (some p)), .inl y2], (I, L, R, Y), 0, 0) (fun _ => rfl) ?_
    refine yi_D_gi (v := (n : Int)) rfl rfl (Nat.ble_eq_true_of_le (by omega)) hf.2.2.1 (fun _ => ?_)
    by_cases h1 : (n : Int) ≤ y2
    · refine yi_D_if2 true rfl (yi_ge_t h1) ?_
      refine yi_D_run 1 (55, [(3, .inl y2), (0, .inr (.inr (some p))), (1, .inr (.inr (some r))), (2, .inr (.inr (some t)))], [.inl 1], (I, L, R, Y), 0, 0) (fun _ => rfl) ?_
      refine yi_D_reti rfl ?_
      exact Or.inl ⟨fun k hk => hn k (by omega), rfl⟩
    · refine yi_D_if2 false rfl (yi_ge_f h1) ?_
      refine yi_D_run 2 (12, [(3, .inl y2), (0, .inr (.inr (some p))), (1, .inr (.inr (some r))), (2, .inr (.inr (some t)))], [.inr (.inr (some p)), .inl y2], (I, L, R, Y), 0, 0) (fun _ => rfl) ?_
      refine yi_D_gr (v := some c) rfl rfl (Nat.ble_eq_true_of_le (by omega)) hf.2.1 (fun _ => ?_)
      refine yi_D_len (v := (Y.2.1 c : Int)) rfl (Nat.ble_eq_true_of_le (by omega)) rfl ?_
      by_cases h2 : (Y.2.1 c : Int) ≤ y2
      · refine yi_D_if2 true rfl (yi_ge_t h2) ?_
        refine yi_D_run 1 (55, [(3, .inl y2), (0, .inr (.inr (some p))), (1, .inr (.inr (some r))), (2, .inr (.inr (some t)))], [.inl 1], (I, L, R, Y), 0, 0) (fun _ => rfl) ?_
        refine yi_D_reti rfl ?_
        exact Or.inl ⟨fun k hk => hn k (by omega), rfl⟩
      · refine yi_D_if2 false rfl (yi_ge_f h2) ?_
        refine yi_D_run 1 (20, [(3, .inl y2), (0, .inr (.inr (some p))), (1, .inr (.inr (some r))), (2, .inr (.inr (some t)))], [.inr (.inr (some p))], (I, L, R, Y), 0, 0) (fun _ => rfl) ?_
        refine yi_D_gr (v := some c) rfl rfl (Nat.ble_eq_true_of_le (by omega)) hf.2.1 (fun _ => ?_)
        refine yi_D_run 1 (24, [(3, .inl y2), (0, .inr (.inr (some p))), (1, .inr (.inr (some r))), (2, .inr (.inr (some t)))], [.inl y2, .inr (.inr (some c))], (I, L, R, Y), 0, 0) (fun _ => rfl) ?_
        refine yi_D_ll (v := L c (y2.toNat)) rfl (Nat.ble_eq_true_of_le (by omega)) rfl (fun _ _ => ?_)
        refine yi_D_run 2 (27, [(3, .inl y2), (0, .inr (.inr (some p))), (1, .inr (.inr (some r))), (2, .inr (.inr (some t)))], [.inl y2, .inr (.inr (some r)), .inr (.inl (L c (y2.toNat)))], (I, L, R, Y), 0, 0) (fun _ => rfl) ?_
        refine yi_D_callv rfl (p_cellAt hr (x := y2)) ?_
        rintro _ ⟨z3, rfl, hz4, hy5⟩
        rw [hz4 ⟨by omega, by omega⟩]
        show yi_D zi_Ms d zi_m211 j2 (30, [(3, .inl y2), (0, .inr (.inr (some p))), (1, .inr (.inr (some r))), (2, .inr (.inr (some t)))], [.inr (.inl (L c2 (y2.toNat))), .inr (.inl (L c (y2.toNat)))], (I, L, R, Y), 0, 0) _
        refine yi_D_run 3 (33, [(3, .inl y2), (0, .inr (.inr (some p))), (1, .inr (.inr (some r))), (2, .inr (.inr (some t)))], [.inl y2, .inr (.inr (some t)), .inr (.inl (yi_land (L c (y2.toNat)) (L c2 (y2.toNat))))], (I, L, R, Y), 0, 0) (fun _ => rfl) ?_
        refine yi_D_callv rfl (p_cellAt ht (x := y2)) ?_
        rintro _ ⟨z6, rfl, hz7, hy8⟩
        rw [hz7 ⟨by omega, by omega⟩]
        show yi_D zi_Ms d zi_m211 j2 (36, [(3, .inl y2), (0, .inr (.inr (some p))), (1, .inr (.inr (some r))), (2, .inr (.inr (some t)))], [.inr (.inl (L c3 (y2.toNat))), .inr (.inl (yi_land (L c (y2.toNat)) (L c2 (y2.toNat))))], (I, L, R, Y), 0, 0) _
        refine yi_D_ldc2 ((-1)) rfl (by decide +kernel) ?_
        refine yi_D_run 4 (43, [(3, .inl y2), (0, .inr (.inr (some p))), (1, .inr (.inr (some r))), (2, .inr (.inr (some t)))], [.inl (yi_lcmp (yi_land (yi_land (L c (y2.toNat)) (L c2 (y2.toNat))) (yi_lxor (L c3 (y2.toNat)) (-1))) 0)], (I, L, R, Y), 0, 0) (fun _ => rfl) ?_
        by_cases h9 : (yi_land (yi_land (L c (y2.toNat)) (L c2 (y2.toNat))) (yi_lxor (L c3 (y2.toNat)) (-1))) = 0
        · refine yi_D_if1 true rfl (yi_Leq_t h9) ?_
          refine yi_D_iinc [(3, .inl (y2 + 1)), (0, .inr (.inr (some p))), (1, .inr (.inr (some r))), (2, .inr (.inr (some t)))] rfl rfl rfl (by rw [show yi_w (y2 + 1) = y2 + 1 from (yi_wn (by omega) (by omega)).trans (by omega)]; rfl) ?_
          refine yi_D_run 1 (2, [(3, .inl (y2 + 1)), (0, .inr (.inr (some p))), (1, .inr (.inr (some r))), (2, .inr (.inr (some t)))], [], (I, L, R, Y), 0, 0) (fun _ => rfl) ?_
          exact yi_D_mono (ih2 (by omega) (y2 + 1) (by omega) (fun k hk => by by_cases e : (k : Int) = y2; rw [show k = y2.toNat by omega]; assumption; exact hn k (by omega))) (by omega)
        · refine yi_D_if1 false rfl (yi_Leq_f h9) ?_
          refine yi_D_run 1 (47, [(3, .inl y2), (0, .inr (.inr (some p))), (1, .inr (.inr (some r))), (2, .inr (.inr (some t)))], [.inl 0], (I, L, R, Y), 0, 0) (fun _ => rfl) ?_
          refine yi_D_reti rfl ?_
          have h0 : ¬ yi_land (yi_land (L c y2.toNat) (L c2 y2.toNat)) (yi_lxor (L c3 y2.toNat) (-1)) = 0 := by assumption
          exact Or.inr ⟨fun h => h0 (h y2.toNat (by omega)), rfl⟩
  exact pt2 k (Nat.le_refl _) 0 (by omega) (fun k hk => by omega)
theorem p_within {d : Nat} {I L : Nat → Nat → Int} {R : Nat → Nat → Option Nat} {Y : (Nat → Nat) × (Nat → Nat) × Nat} {p c n : Nat} (hf : rw_S I R Y p c n) {r c2 : Nat} (hr : rw_S I R Y r c2 n) : yi_P zi_Ms d 210 [.inr (.inr (some p)), .inr (.inr (some r))] (I, L, R, Y) (fun r => ((rw_all (fun k => L c k) (fun k => L c2 k) n) ∧ r = (some (.inl 1), (I, L, R, Y), 0, 0)) ∨ (¬ (rw_all (fun k => L c k) (fun k => L c2 k) n) ∧ r = (some (.inl 0), (I, L, R, Y), 0, 0))) := by
  refine yi_P_of (M := zi_m210) rfl (fun d k => ?_)
  obtain ⟨⟨hp10, hc10, hpN, hcN, hp5, hc5⟩, -, -, hn9, hn5⟩ := id hf
  obtain ⟨⟨hr10, hd10, hrN, hdN, hr5, hd5⟩, -, -, hm9, hm5⟩ := id hr
  show yi_D zi_Ms d zi_m210 k (0, [(0, .inr (.inr (some p))), (1, .inr (.inr (some r)))], [], (I, L, R, Y), 0, 0) _
  refine yi_D_run 3 (3, [(0, .inr (.inr (some p))), (1, .inr (.inr (some r)))], [.inr (.inr (some r)), .inr (.inr (some p)), .inr (.inr (some p))], (I, L, R, Y), 0, 0) (fun _ => rfl) ?_
  refine yi_D_callv rfl (p_withinBy hf hf hr) ?_
  rintro _ (⟨hb1, rfl⟩ | ⟨hb2, rfl⟩)
  · show yi_D zi_Ms d zi_m210 k (6, [(0, .inr (.inr (some p))), (1, .inr (.inr (some r)))], [.inl 1], (I, L, R, Y), 0, 0) _
    refine yi_D_reti rfl ?_
    exact Or.inl ⟨fun k hk => by have z := hb1 k hk; rw [y_land_s] at z; exact z, rfl⟩
  · show yi_D zi_Ms d zi_m210 k (6, [(0, .inr (.inr (some p))), (1, .inr (.inr (some r)))], [.inl 0], (I, L, R, Y), 0, 0) _
    refine yi_D_reti rfl ?_
    exact Or.inr ⟨fun h => hb2 (fun k hk => by rw [y_land_s]; exact h k hk), rfl⟩
theorem p_resize {d : Nat} {I L : Nat → Nat → Int} {R : Nat → Nat → Option Nat} {Y : (Nat → Nat) × (Nat → Nat) × Nat} {p c m : Nat} (hp : 10 ≤ p ∧ p < Y.2.2 ∧ 10 ≤ c ∧ c < Y.2.2 ∧ Y.1 c = 21) (hR : R p 0 = some c) (hm : 1 ≤ m ∧ m ≤ 512) : yi_P zi_Ms d 207 [.inr (.inr (some p)), .inl (m : Int)] (I, L, R, Y) (fun r => ∃ I' L' R' Y' nc ns c', r = (none, (I', L', R', Y'), nc, ns) ∧ rz_H I R Y I' R' Y' p m c c' ∧ (∀ q k, q < Y.2.2 → L' q k = L q k)) := by
  refine yi_P_of (M := zi_m207) rfl (fun d k => ?_)
  show yi_D zi_Ms d zi_m207 k (0, [(0, .inr (.inr (some p))), (1, .inl (m : Int))], [], (I, L, R, Y), 0, 0) _
  refine yi_D_run 2 (2, [(0, .inr (.inr (some p))), (1, .inl (m : Int))], [.inl 1, .inl (m : Int)], (I, L, R, Y), 0, 0) (fun _ => rfl) ?_
  refine yi_D_run 1 (5, [(0, .inr (.inr (some p))), (1, .inl (m : Int))], [.inl (if (m : Int) < 1 then 1 else (m : Int))], (I, L, R, Y), 0, 0) (fun _ => rfl) ?_
  rw [if_neg (show ¬ ((m : Int) < 1) by omega)]
  refine yi_D_run 2 (7, [(2, .inl (m : Int)), (0, .inr (.inr (some p))), (1, .inl (m : Int))], [.inr (.inr (some p))], (I, L, R, Y), 0, 0) (fun _ => rfl) ?_
  refine yi_D_gr (v := some c) rfl rfl (Nat.ble_eq_true_of_le (by omega)) hR (fun _ => ?_)
  refine yi_D_len (v := (Y.2.1 c : Int)) rfl (Nat.ble_eq_true_of_le (by omega)) rfl ?_
  refine yi_D_run 1 (12, [(2, .inl (m : Int)), (0, .inr (.inr (some p))), (1, .inl (m : Int))], [.inl (m : Int), .inl (Y.2.1 c : Int)], (I, L, R, Y), 0, 0) (fun _ => rfl) ?_
  by_cases h1 : (m : Int) ≤ (Y.2.1 c : Int)
  · refine yi_D_if2 true rfl (yi_ge_t h1) ?_
    refine yi_D_run 2 (24, [(2, .inl (m : Int)), (0, .inr (.inr (some p))), (1, .inl (m : Int))], [.inl (m : Int), .inr (.inr (some p))], (I, L, R, Y), 0, 0) (fun _ => rfl) ?_
    refine yi_D_pi rfl (fun _ => ?_)
    generalize w3 : yi_u I p 1 (m : Int) = I2
    refine yi_D_retv rfl ?_
    refine ⟨_, _, _, _, _, _, c, rfl, ⟨⟨hR, by rw [← w3, yi_u_eq], by omega, by omega, by omega, hp.2.2.2.2⟩, fun q k hq => ⟨fun h => by rw [← w3, yi_u_ne _ _ h], fun _ => rfl⟩, ⟨Nat.le_refl _, fun _ _ => ⟨rfl, rfl⟩⟩, Or.inl ⟨rfl, rfl, by omega⟩⟩, fun _ _ _ => rfl⟩
  · refine yi_D_if2 false rfl (yi_ge_f h1) ?_
    refine yi_D_run 2 (17, [(2, .inl (m : Int)), (0, .inr (.inr (some p))), (1, .inl (m : Int))], [.inl (m : Int), .inr (.inr (some p))], (I, L, R, Y), 0, 0) (fun _ => rfl) ?_
    refine yi_D_nwa3 rfl (fun q4 I5 L6 R7 Y8 m9 mk10 mn11 ml12 my13 => ?_)
    obtain ⟨k14, k15, k16, k17, k18, k19⟩ := mk10
    have q4q : q4 = Y.2.2 := k14
    have q4n := k19
    refine yi_D_prw rfl (fun _ => ?_)
    generalize w21 : cl_u R7 p 0 (some q4) = R20
    refine yi_D_run 2 (24, [(2, .inl (m : Int)), (0, .inr (.inr (some p))), (1, .inl (m : Int))], [.inl (m : Int), .inr (.inr (some p))], (I5, L6, R20, Y8), (0 + 1), m9) (fun _ => rfl) ?_
    refine yi_D_pi rfl (fun _ => ?_)
    generalize w23 : yi_u I5 p 1 (m : Int) = I22
    refine yi_D_retv rfl ?_
    have hqN : q4 = Y.2.2 := k14
    refine ⟨_, _, _, _, _, _, q4, rfl, ⟨⟨by rw [← w21, cl_u_eq], by rw [← w23, yi_u_eq], by rw [k18]; omega, by omega, by omega, my13⟩, fun q k hq => ⟨fun h => by rw [← w23, yi_u_ne _ _ h, (k15 q k (by omega)).1], fun h => by rw [← w21, cl_u_ne _ _ h, (k15 q k (by omega)).2.2]⟩, ⟨by omega, fun q hq => by rw [(k17 q (by omega)).1, (k17 q (by omega)).2]; exact ⟨rfl, rfl⟩⟩, Or.inr ⟨by omega, by omega, fun k => by rw [← hqN, ← w21, cl_u_ne _ _ (by omega), mn11 k], by omega⟩⟩, fun q k hq => by rw [(k15 q k (by omega)).2.1]⟩
theorem p_fillL {d : Nat} {I L : Nat → Nat → Int} {R : Nat → Nat → Option Nat} {Y : (Nat → Nat) × (Nat → Nat) × Nat} {c : Nat} {v : Int} (hc : 10 ≤ c ∧ Y.2.1 c ≤ 1000000) : yi_P zi_Ms d 332 [.inr (.inr (some c)), .inr (.inl v)] (I, L, R, Y) (fun r => ∃ L', r = (none, (I, L', R, Y), 0, 0) ∧ (∀ k, k < Y.2.1 c → L' c k = v) ∧ (∀ q k, ¬ (q = c ∧ k < Y.2.1 c) → L' q k = L q k)) := by
  refine yi_P_of (M := zi_m332) rfl (fun d k => ?_)
  show yi_D zi_Ms d zi_m332 k (0, [(0, .inr (.inr (some c))), (1, .inr (.inl v))], [], (I, L, R, Y), 0, 0) _
  refine yi_D_run 3 (3, [(3, .inl 0), (0, .inr (.inr (some c))), (1, .inr (.inl v))], [.inr (.inr (some c))], (I, L, R, Y), 0, 0) (fun _ => rfl) ?_
  refine yi_D_len (v := (Y.2.1 c : Int)) rfl (Nat.ble_eq_true_of_le (by omega)) rfl ?_
  refine yi_D_run 1 (6, [(4, .inl (Y.2.1 c : Int)), (3, .inl 0), (0, .inr (.inr (some c))), (1, .inr (.inl v))], [], (I, L, R, Y), 0, 0) (fun _ => rfl) ?_
  have pt6 : ∀ j6, j6 ≤ k → ∀ (y3 : Int) (G1 : Nat → Nat → Int), (0 ≤ y3 ∧ y3 ≤ (Y.2.1 c : Int)) → (G1 = cf_w L c y3.toNat (fun _ => v)) → yi_D zi_Ms d zi_m332 j6 (6, [(4, .inl (Y.2.1 c : Int)), (3, .inl y3), (0, .inr (.inr (some c))), (1, .inr (.inl v))], [], (I, G1, R, Y), 0, 0) (fun r => ∃ L', r = (none, (I, L', R, Y), 0, 0) ∧ (∀ k, k < Y.2.1 c → L' c k = v) ∧ (∀ q k, ¬ (q = c ∧ k < Y.2.1 c) → L' q k = L q k)) := by
    intro j6
    induction j6 with
    | zero => intros; exact yi_D_0
    | succ j6 ih6 =>
    intro hk6 y3 G1 hy hG
    refine yi_D_run1 1 (9, [(4, .inl (Y.2.1 c : Int)), (3, .inl y3), (0, .inr (.inr (some c))), (1, .inr (.inl v))], [.inl (Y.2.1 c : Int), .inl y3], (I, G1, R, Y), 0, 0) (fun _ => rfl) ?_
    by_cases h1 : (Y.2.1 c : Int) ≤ y3
    · refine yi_D_if2 true rfl (yi_ge_t h1) ?_
      refine yi_D_retv rfl ?_
      have hn2 : y3.toNat = Y.2.1 c := by omega
      exact ⟨_, rfl, fun k hk => by rw [hG, hn2]; exact cf_w_i _ _ hk, fun q k h => by rw [hG, hn2]; exact cf_w_o _ _ h⟩
    · refine yi_D_if2 false rfl (yi_ge_f h1) ?_
      refine yi_D_run 3 (15, [(4, .inl (Y.2.1 c : Int)), (3, .inl y3), (0, .inr (.inr (some c))), (1, .inr (.inl v))], [.inr (.inl v), .inl y3, .inr (.inr (some c))], (I, G1, R, Y), 0, 0) (fun _ => rfl) ?_
      refine yi_D_ls rfl (fun _ _ => ?_)
      generalize w3 : yi_u G1 c (y3.toNat) v = L2
      refine yi_D_iinc [(3, .inl (y3 + 1)), (4, .inl (Y.2.1 c : Int)), (0, .inr (.inr (some c))), (1, .inr (.inl v))] rfl rfl rfl (by rw [show yi_w (y3 + 1) = y3 + 1 from (yi_wn (by omega) (by omega)).trans (by omega)]; rfl) ?_
      refine yi_D_run 1 (6, [(3, .inl (y3 + 1)), (4, .inl (Y.2.1 c : Int)), (0, .inr (.inr (some c))), (1, .inr (.inl v))], [], (I, L2, R, Y), 0, 0) (fun _ => rfl) ?_
      refine yi_D_al (al := [(4, .inl (Y.2.1 c : Int)), (3, .inl (y3 + 1)), (0, .inr (.inr (some c))), (1, .inr (.inl v))]) (show ([4, 3, 0, 1] : List Nat).Nodup by decide) (show ([3, 4, 0, 1] : List Nat).Nodup by decide) (yi_mc (List.mem_of_getElem? (i := 1) rfl) (yi_mc (List.mem_of_getElem? (i := 0) rfl) (yi_mc (List.mem_of_getElem? (i := 2) rfl) (yi_mc (List.mem_of_getElem? (i := 3) rfl) yi_mn)))) ?_
      exact yi_D_mono (ih6 (by omega) (y3 + 1) L2 (by omega) (by rw [← w3, hG, show (y3 + 1).toNat = y3.toNat + 1 by omega]; exact cf_w_s rfl)) (by omega)
  exact pt6 k (Nat.le_refl _) 0 L (by omega) (cf_w_0 _ _ _).symm
theorem p_copyFrom {d : Nat} {I L : Nat → Nat → Int} {R : Nat → Nat → Option Nat} {Y : (Nat → Nat) × (Nat → Nat) × Nat} {p c m : Nat} (hp : 10 ≤ p ∧ p < Y.2.2 ∧ 10 ≤ c ∧ c < Y.2.2 ∧ Y.1 c = 21) (hR : R p 0 = some c) {r c2 : Nat} (hr : rw_S I R Y r c2 m) (hm : 1 ≤ m) (hne : ¬ p = r ∧ ¬ c = c2) : yi_P zi_Ms d 200 [.inr (.inr (some p)), .inr (.inr (some r))] (I, L, R, Y) (fun r => ∃ I' L' R' Y' nc ns c', r = (none, (I', L', R', Y'), nc, ns) ∧ rz_H I R Y I' R' Y' p m c c' ∧ (∀ k, k < m → L' c' k = L c2 k) ∧ (∀ q k, q < Y.2.2 → ¬ (q = c' ∧ k < m) → L' q k = L q k)) := by
  refine yi_P_of (M := zi_m200) rfl (fun d k => ?_)
  obtain ⟨⟨hr10, hd10, hrN, hdN, hr5, hd5⟩, -, -, hm9, hm5⟩ := id hr
  show yi_D zi_Ms d zi_m200 k (0, [(0, .inr (.inr (some p))), (1, .inr (.inr (some r)))], [], (I, L, R, Y), 0, 0) _
  refine yi_D_run 2 (2, [(0, .inr (.inr (some p))), (1, .inr (.inr (some r)))], [.inr (.inr (some r)), .inr (.inr (some p))], (I, L, R, Y), 0, 0) (fun _ => rfl) ?_
  refine yi_D_gi (v := (m : Int)) rfl rfl (Nat.ble_eq_true_of_le (by omega)) hr.2.2.1 (fun _ => ?_)
  refine yi_D_callv rfl (p_resize hp hR ⟨hm, hm5⟩) ?_
  rintro _ ⟨I1, L2, R3, Y4, n5, m6, c7, rfl, hz8, hL9⟩
  have hfI10 : ∀ q k, (q < Y.2.2 ∧ ¬ (q = p ∧ k = 1)) → I1 q k = I q k := fun q k h => (hz8.2.1 q k h.1).1 h.2
  have hfR11 : ∀ q k, (q < Y.2.2 ∧ ¬ (q = p ∧ k = 0)) → R3 q k = R q k := fun q k h => (hz8.2.1 q k h.1).2 h.2
  have hfY12 : ∀ q, q < Y.2.2 → Y4.1 q = Y.1 q ∧ Y4.2.1 q = Y.2.1 q := hz8.2.2.1.2
  have hNN13 := hz8.2.2.1.1
  obtain ⟨z114, z215, z316, z417, z518, z619⟩ := hz8.1
  show yi_D zi_Ms d zi_m200 k (8, [(0, .inr (.inr (some p))), (1, .inr (.inr (some r)))], [], (I1, L2, R3, Y4), (0 + n5), (0 + m6)) _
  have hne2 : ¬ c7 = c2 := by rcases hz8.2.2.2 with ⟨a, -, -⟩ | ⟨a, -, -, -⟩ <;> omega
  have hl2 : m ≤ Y4.2.1 c2 := by rw [(hz8.2.2.1.2 c2 hdN).2]; exact hm9
  refine yi_D_run 2 (10, [(2, .inl 0), (0, .inr (.inr (some p))), (1, .inr (.inr (some r)))], [], (I1, L2, R3, Y4), (0 + n5), (0 + m6)) (fun _ => rfl) ?_
  have pt10 : ∀ j10, j10 ≤ k → ∀ (y2 : Int) (G1 : Nat → Nat → Int), (0 ≤ y2 ∧ y2 ≤ (m : Int)) → (G1 = cf_w L2 c7 y2.toNat (fun k => L c2 k)) → yi_D zi_Ms d zi_m200 j10 (10, [(2, .inl y2), (0, .inr (.inr (some p))), (1, .inr (.inr (some r)))], [], (I1, G1, R3, Y4), (0 + n5), (0 + m6)) (fun r => ∃ I' L' R' Y' nc ns c', r = (none, (I', L', R', Y'), nc, ns) ∧ rz_H I R Y I' R' Y' p m c c' ∧ (∀ k, k < m → L' c' k = L c2 k) ∧ (∀ q k, q < Y.2.2 → ¬ (q = c' ∧ k < m) → L' q k = L q k)) := by
    intro j10
    induction j10 with
    | zero => intros; exact yi_D_0
    | succ j10 ih10 =>
    intro hk10 y2 G1 hy hG
    refine yi_D_run1 1 (12, [(2, .inl y2), (0, .inr (.inr (some p))), (1, .inr (.inr (some r)))], [.inr (.inr (some p)), .inl y2], (I1, G1, R3, Y4), (0 + n5), (0 + m6)) (fun _ => rfl) ?_
    refine yi_D_gi (v := (m : Int)) rfl rfl (Nat.ble_eq_true_of_le (by omega)) z215 (fun _ => ?_)
    by_cases h20 : (m : Int) ≤ y2
    · refine yi_D_if2 true rfl (yi_ge_t h20) ?_
      refine yi_D_retv rfl ?_
      first
      | (exfalso; omega)
      | (have hn2 : y2.toNat = m := by omega
         exact ⟨_, _, _, _, _, _, c7, rfl, hz8, fun k hk => by rw [hG, hn2]; exact cf_w_i _ _ hk, fun q k hq h => by rw [hG, hn2, cf_w_o _ _ h]; exact hL9 q k hq⟩)
    · refine yi_D_if2 false rfl (yi_ge_f h20) ?_
      refine yi_D_run 2 (20, [(2, .inl y2), (0, .inr (.inr (some p))), (1, .inr (.inr (some r)))], [.inr (.inr (some p)), .inl y2], (I1, G1, R3, Y4), (0 + n5), (0 + m6)) (fun _ => rfl) ?_
      refine yi_D_gr (v := some c7) rfl rfl (Nat.ble_eq_true_of_le (by omega)) z114 (fun _ => ?_)
      refine yi_D_len (v := (Y4.2.1 c7 : Int)) rfl (Nat.ble_eq_true_of_le (by omega)) rfl ?_
      by_cases h21 : (Y4.2.1 c7 : Int) ≤ y2
      · refine yi_D_if2 true rfl (yi_ge_t h21) ?_
        refine yi_D_retv rfl ?_
        first
        | (exfalso; omega)
        | (have hn2 : y2.toNat = m := by omega
           exact ⟨_, _, _, _, _, _, c7, rfl, hz8, fun k hk => by rw [hG, hn2]; exact cf_w_i _ _ hk, fun q k hq h => by rw [hG, hn2, cf_w_o _ _ h]; exact hL9 q k hq⟩)
      · refine yi_D_if2 false rfl (yi_ge_f h21) ?_
        refine yi_D_run 2 (29, [(2, .inl y2), (0, .inr (.inr (some p))), (1, .inr (.inr (some r)))], [.inr (.inr (some r)), .inl y2], (I1, G1, R3, Y4), (0 + n5), (0 + m6)) (fun _ => rfl) ?_
        have r22 : R3 r 0 = some c2 := by rw [hfR11 r 0 (by omega), hr.2.1]
        refine yi_D_gr (v := some c2) rfl rfl (Nat.ble_eq_true_of_le (by omega)) r22 (fun _ => ?_)
        refine yi_D_len (v := (Y4.2.1 c2 : Int)) rfl (Nat.ble_eq_true_of_le (by omega)) rfl ?_
        by_cases h23 : (Y4.2.1 c2 : Int) ≤ y2
        · refine yi_D_if2 true rfl (yi_ge_t h23) ?_
          refine yi_D_retv rfl ?_
          first
          | (exfalso; omega)
          | (have hn2 : y2.toNat = m := by omega
             exact ⟨_, _, _, _, _, _, c7, rfl, hz8, fun k hk => by rw [hG, hn2]; exact cf_w_i _ _ hk, fun q k hq h => by rw [hG, hn2, cf_w_o _ _ h]; exact hL9 q k hq⟩)
        · refine yi_D_if2 false rfl (yi_ge_f h23) ?_
          refine yi_D_run 1 (37, [(2, .inl y2), (0, .inr (.inr (some p))), (1, .inr (.inr (some r)))], [.inr (.inr (some p))], (I1, G1, R3, Y4), (0 + n5), (0 + m6)) (fun _ => rfl) ?_
          refine yi_D_gr (v := some c7) rfl rfl (Nat.ble_eq_true_of_le (by omega)) z114 (fun _ => ?_)
          refine yi_D_run 2 (42, [(2, .inl y2), (0, .inr (.inr (some p))), (1, .inr (.inr (some r)))], [.inr (.inr (some r)), .inl y2, .inr (.inr (some c7))], (I1, G1, R3, Y4), (0 + n5), (0 + m6)) (fun _ => rfl) ?_
          have r24 : R3 r 0 = some c2 := by rw [hfR11 r 0 (by omega), hr.2.1]
          refine yi_D_gr (v := some c2) rfl rfl (Nat.ble_eq_true_of_le (by omega)) r24 (fun _ => ?_)
          refine yi_D_run 1 (46, [(2, .inl y2), (0, .inr (.inr (some p))), (1, .inr (.inr (some r)))], [.inl y2, .inr (.inr (some c2)), .inl y2, .inr (.inr (some c7))], (I1, G1, R3, Y4), (0 + n5), (0 + m6)) (fun _ => rfl) ?_
          have e2 : G1 c2 y2.toNat = L c2 y2.toNat := by rw [hG, cf_w_o _ _ (by omega)]; exact hL9 c2 _ (by omega)
          refine yi_D_ll (v := G1 c2 (y2.toNat)) rfl (Nat.ble_eq_true_of_le (by omega)) rfl (fun _ _ => ?_)
          refine yi_D_ls rfl (fun _ _ => ?_)
          generalize w26 : yi_u G1 c7 (y2.toNat) (G1 c2 (y2.toNat)) = L25
          refine yi_D_iinc [(2, .inl (y2 + 1)), (0, .inr (.inr (some p))), (1, .inr (.inr (some r)))] rfl rfl rfl (by rw [show yi_w (y2 + 1) = y2 + 1 from (yi_wn (by omega) (by omega)).trans (by omega)]; rfl) ?_
          refine yi_D_run 1 (10, [(2, .inl (y2 + 1)), (0, .inr (.inr (some p))), (1, .inr (.inr (some r)))], [], (I1, L25, R3, Y4), (0 + n5), (0 + m6)) (fun _ => rfl) ?_
          exact yi_D_mono (ih10 (by omega) (y2 + 1) L25 (by omega) (by rw [← w26, e2, hG, show (y2 + 1).toNat = y2.toNat + 1 by omega]; exact cf_w_s rfl)) (by omega)
  exact pt10 k (Nat.le_refl _) 0 L2 (by omega) (cf_w_0 _ _ _).symm
theorem p_initSet {d : Nat} {I L : Nat → Nat → Int} {R : Nat → Nat → Option Nat} {Y : (Nat → Nat) × (Nat → Nat) × Nat} {p : Nat} (hp : 10 ≤ p ∧ p < Y.2.2) : yi_P zi_Ms d 195 [.inr (.inr (some p))] (I, L, R, Y) (fun r => ∃ I' L' R' Y' nc ns, r = (none, (I', L', R', Y'), nc, ns) ∧ R' p 0 = some Y.2.2 ∧ I' p 1 = 1 ∧ Y'.2.2 = Y.2.2 + 1 ∧ Y'.2.1 Y.2.2 = 1 ∧ Y'.1 Y.2.2 = 21 ∧ (∀ k, R' Y.2.2 k = none) ∧ (∀ k, L' Y.2.2 k = 0) ∧ (∀ q k, q < Y.2.2 → (¬ (q = p ∧ k = 1) → I' q k = I q k) ∧ L' q k = L q k ∧ (¬ (q = p ∧ k = 0) → R' q k = R q k)) ∧ (∀ q, q < Y.2.2 → Y'.1 q = Y.1 q ∧ Y'.2.1 q = Y.2.1 q)) := by
  refine yi_P_of (M := zi_m195) rfl (fun d k => ?_)
  show yi_D zi_Ms d zi_m195 k (0, [(0, .inr (.inr (some p)))], [], (I, L, R, Y), 0, 0) _
  refine yi_D_run 4 (6, [(0, .inr (.inr (some p)))], [.inl 1, .inr (.inr (some p))], (I, L, R, Y), 0, 0) (fun _ => rfl) ?_
  refine yi_D_nwa3 rfl (fun q1 I2 L3 R4 Y5 m6 mk7 mn8 ml9 my10 => ?_)
  obtain ⟨k11, k12, k13, k14, k15, k16⟩ := mk7
  have q1q : q1 = Y.2.2 := k11
  have q1n := k16
  refine yi_D_prw rfl (fun _ => ?_)
  generalize w18 : cl_u R4 p 0 (some q1) = R17
  refine yi_D_run 2 (13, [(0, .inr (.inr (some p)))], [.inl 1, .inr (.inr (some p))], (I2, L3, R17, Y5), (0 + 1), m6) (fun _ => rfl) ?_
  refine yi_D_pi rfl (fun _ => ?_)
  generalize w20 : yi_u I2 p 1 1 = I19
  refine yi_D_retv rfl ?_
  have hqN : q1 = Y.2.2 := k11
  subst hqN
  refine ⟨_, _, _, _, _, _, rfl, by rw [← w18, cl_u_eq], by rw [← w20, yi_u_eq], k16, k15, my10, fun k => by rw [← w18, cl_u_ne _ _ (by omega), mn8 k], ml9, fun q k hq => ⟨fun h => by rw [← w20, yi_u_ne _ _ h, (k12 q k (by omega)).1], (k12 q k (by omega)).2.1, fun h => by rw [← w18, cl_u_ne _ _ h, (k12 q k (by omega)).2.2]⟩, fun q hq => k14 q (by omega)⟩
theorem p_copyOut {d : Nat} {I L : Nat → Nat → Int} {R : Nat → Nat → Option Nat} {Y : (Nat → Nat) × (Nat → Nat) × Nat} {p c n : Nat} (hf : rw_S I R Y p c n) (hn1 : 1 ≤ n) : yi_P zi_Ms d 201 [.inr (.inr (some p))] (I, L, R, Y) (fun r => ∃ I' L' R' Y' nc ns p' c', r = (some (.inr (.inr (some p'))), (I', L', R', Y'), nc, ns) ∧ p' = Y.2.2 ∧ Y.2.2 < c' ∧ rw_S I' R' Y' p' c' n ∧ (∀ k, k < n → L' c' k = L c k) ∧ (∀ q k, q < Y.2.2 → I' q k = I q k ∧ L' q k = L q k ∧ R' q k = R q k) ∧ Y.2.2 ≤ Y'.2.2 ∧ (∀ q, q < Y.2.2 → Y'.1 q = Y.1 q ∧ Y'.2.1 q = Y.2.1 q) ∧ (∀ q k x, Y.2.2 ≤ q → q < Y'.2.2 → R' q k = some x → q = p' ∧ k = 0 ∧ x = c') ∧ Y'.2.2 ≤ Y.2.2 + 3) := by
  refine yi_P_of (M := zi_m201) rfl (fun d k => ?_)
  obtain ⟨⟨hp10, hc10, hpN, hcN, hp5, hc5⟩, -, -, hn9, hn5⟩ := id hf
  show yi_D zi_Ms d zi_m201 k (0, [(0, .inr (.inr (some p)))], [], (I, L, R, Y), 0, 0) _
  refine yi_D_new3 rfl (fun q1 I2 L3 R4 Y5 m6 mk7 mn8 ml9 my10 => ?_)
  obtain ⟨k11, k12, k13, k14, k15, k16⟩ := mk7
  have q1q : q1 = Y.2.2 := k11
  have q1n := k16
  refine yi_D_run 1 (4, [(0, .inr (.inr (some p)))], [.inr (.inr (some q1)), .inr (.inr (some q1))], (I2, L3, R4, Y5), (0 + 1), m6) (fun _ => rfl) ?_
  refine yi_D_callp rfl rfl (p_initSet ⟨by omega, by omega⟩) ?_
  rintro _ ⟨I17, L18, R19, Y20, n21, m22, rfl, i123, i224, i325, i426, i527, i628, i729, i830, i931⟩
  have hfI32 : ∀ q k, (q < Y5.2.2 ∧ ¬ (q = q1 ∧ k = 1)) → I17 q k = I2 q k := fun q k h => (i830 q k h.1).1 h.2
  have hfR33 : ∀ q k, (q < Y5.2.2 ∧ ¬ (q = q1 ∧ k = 0)) → R19 q k = R4 q k := fun q k h => (i830 q k h.1).2.2 h.2
  have hfL34 : ∀ q k, q < Y5.2.2 → L18 q k = L3 q k := fun q k h => (i830 q k h).2.1
  show yi_D zi_Ms d zi_m201 k (7, [(0, .inr (.inr (some p)))], [.inr (.inr (some q1))], (I17, L18, R19, Y20), ((0 + 1) + n21), (m6 + m22)) _
  refine yi_D_run 3 (10, [(1, .inr (.inr (some q1))), (0, .inr (.inr (some p)))], [.inr (.inr (some p)), .inr (.inr (some q1))], (I17, L18, R19, Y20), ((0 + 1) + n21), (m6 + m22)) (fun _ => rfl) ?_
  have hrn : rw_S I17 R19 Y20 p c n := by
    refine ⟨⟨by omega, by omega, by omega, by omega, ?_, ?_⟩, ?_, ?_, ?_, by omega⟩
    · rw [(i931 p (by omega)).1, (k14 p (by omega)).1]; exact hp5
    · rw [(i931 c (by omega)).1, (k14 c (by omega)).1]; exact hc5
    · rw [hfR33 p 0 (by omega), (k12 p 0 (by omega)).2.2]; exact hf.2.1
    · rw [hfI32 p 1 (by omega), (k12 p 1 (by omega)).1]; exact hf.2.2.1
    · rw [(i931 c (by omega)).2, (k14 c (by omega)).2]; exact hn9
  refine yi_D_callv rfl (p_copyFrom (c := Y5.2.2) ⟨by omega, by omega, by omega, by omega, i527⟩ i123 hrn hn1 ⟨by omega, by omega⟩) ?_
  rintro _ ⟨I35, L36, R37, Y38, n39, m40, c41, rfl, hz42, hL43, hM44⟩
  have hfI45 : ∀ q k, (q < Y20.2.2 ∧ ¬ (q = q1 ∧ k = 1)) → I35 q k = I17 q k := fun q k h => (hz42.2.1 q k h.1).1 h.2
  have hfR46 : ∀ q k, (q < Y20.2.2 ∧ ¬ (q = q1 ∧ k = 0)) → R37 q k = R19 q k := fun q k h => (hz42.2.1 q k h.1).2 h.2
  have hfY47 : ∀ q, q < Y20.2.2 → Y38.1 q = Y20.1 q ∧ Y38.2.1 q = Y20.2.1 q := hz42.2.2.1.2
  have hNN48 := hz42.2.2.1.1
  obtain ⟨z149, z250, z351, z452, z553, z654⟩ := hz42.1
  show yi_D zi_Ms d zi_m201 k (13, [(1, .inr (.inr (some q1))), (0, .inr (.inr (some p)))], [], (I35, L36, R37, Y38), (((0 + 1) + n21) + n39), ((m6 + m22) + m40)) _
  refine yi_D_run 1 (14, [(1, .inr (.inr (some q1))), (0, .inr (.inr (some p)))], [.inr (.inr (some q1))], (I35, L36, R37, Y38), (((0 + 1) + n21) + n39), ((m6 + m22) + m40)) (fun _ => rfl) ?_
  refine yi_D_reta rfl ?_
  have hq : q1 = Y.2.2 := k11
  have hyq : Y38.1 q1 = 5 := by rw [(hfY47 q1 (by omega)).1, (i931 q1 (by omega)).1]; exact my10
  have hcN : Y.2.2 < c41 := by rcases hz42.2.2.2 with ⟨a, -, -⟩ | ⟨a, -, -, -⟩ <;> omega
  refine ⟨_, _, _, _, _, _, q1, c41, rfl, k11, hcN, ⟨⟨by omega, z452, by omega, z553, hyq, z654⟩, z149, z250, z351, by omega⟩, fun k hk => ?_, fun q k hq => ⟨?_, ?_, ?_⟩, by omega, fun q hq => ?_, fun q k x h1 h2 e => ?_, ?_⟩
  · rw [hL43 k hk, hfL34 c k (by omega), (k12 c k (by omega)).2.1]
  · rw [hfI45 q k (by omega), hfI32 q k (by omega), (k12 q k (by omega)).1]
  · rw [hM44 q k (by omega) (by omega), hfL34 q k (by omega), (k12 q k (by omega)).2.1]
  · rw [hfR46 q k (by omega), hfR33 q k (by omega), (k12 q k (by omega)).2.2]
  · rw [(hfY47 q (by omega)).1, (i931 q (by omega)).1, (k14 q (by omega)).1, (hfY47 q (by omega)).2, (i931 q (by omega)).2, (k14 q (by omega)).2]; exact ⟨rfl, rfl⟩
  · by_cases c1 : q = q1 ∧ k = 0
    · rw [c1.1, c1.2, z149] at e; exact ⟨by omega, c1.2, (Option.some.inj e).symm⟩
    · exfalso
      by_cases c2 : q < Y20.2.2
      · rw [hfR46 q k ⟨c2, c1⟩] at e
        by_cases c3 : q = Y5.2.2
        · rw [c3, i628 k] at e; cases e
        · rw [hfR33 q k ⟨by omega, c1⟩] at e
          have c4 : q = q1 := by omega
          rw [c4, mn8 k] at e
          cases e
      · rcases hz42.2.2.2 with ⟨a, b, -⟩ | ⟨a, b, e2, -⟩
        · rw [b] at h2; omega
        · have c5 : q = Y20.2.2 := by omega
          rw [c5, e2 k] at e
          cases e
  · rcases hz42.2.2.2 with ⟨a, b, -⟩ | ⟨a, b, e2, -⟩
    · rw [b]; omega
    · omega
