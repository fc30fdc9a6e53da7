/-! The class reader: prices. -/
theorem sp_w0 : sp_WR 72564293 148383843 := ⟨[5, 18, 15, 6, 5, 2], by decide, by decide, by decide, by decide⟩
theorem sp_w1 : sp_WR 1265842 2205662 := ⟨[18, 5, 20, 6, 1], by decide, by decide, by decide, by decide⟩
theorem sp_w2 : sp_WR 671108 1034043 := ⟨[4, 12, 15, 20], by decide, by decide, by decide, by decide⟩
theorem cs_fact {I L : Nat → Nat → Int} {K P V : Nat → Int} {te a : Nat} {z : Int} (hT : cs_T I L K P V te) (ha : a ≤ te) (hk : K a = 3) (hz : cs_fd L 18 3 (L 16 a) z) : z = sp_fact (V a) ∧ -1 ≤ z := by
  have hw := (hT.2.2.1 a ha).2.2.2.2.1 hk
  obtain ⟨f0, f1, f2⟩ := hT.2.2.2
  unfold sp_fact
  rcases hz with ⟨e, hn⟩ | ⟨b0, b1, e⟩
  · have n0 := hn 0 (by omega)
    have n1 := hn 1 (by omega)
    have n2 := hn 2 (by omega)
    rw [if_neg, if_neg, if_neg]
    · exact ⟨e, by omega⟩
    · intro h
      rw [h] at hw
      have := sp_WR_x hw sp_w2
      omega
    · intro h
      rw [h] at hw
      have := sp_WR_x hw sp_w1
      omega
    · intro h
      rw [h] at hw
      have := sp_WR_x hw sp_w0
      omega
  · obtain rfl | rfl | rfl : z = 0 ∨ z = 1 ∨ z = 2 := by omega
    · have e : L 18 0 = L 16 a := e
      rw [← e, f0] at hw
      have := sp_WR_v hw sp_w0
      rw [if_pos this]
      exact ⟨rfl, by omega⟩
    · have e : L 18 1 = L 16 a := e
      rw [← e, f1] at hw
      have := sp_WR_v hw sp_w1
      rw [if_neg (by omega), if_pos this]
      exact ⟨rfl, by omega⟩
    · have e : L 18 2 = L 16 a := e
      rw [← e, f2] at hw
      have := sp_WR_v hw sp_w2
      rw [if_neg (by omega), if_neg (by omega), if_pos this]
      exact ⟨rfl, by omega⟩
theorem sp_lv_i {k : Int} {l : Nat} (hl : l ≤ 3) : sp_lv k = (l : Int) ↔ sp_lev k = l := by
  unfold sp_lv
  by_cases h : sp_lev k = 99
  · rw [if_pos h, h]
    omega
  · rw [if_neg h]
    omega
theorem sp_lev_n {k : Int} (h : sp_lev k ≤ 3) : ¬ k = 0 := by
  intro e
  rw [e] at h
  exact absurd h (by decide)
section SPS
variable {K P V : Nat → Int} {a dp : Nat} {sk : List Nat} {ld : Nat → Int} {nm : Int → Int} {cs : List (Int × Int)} {l s : Nat}
theorem sp_st13 (hl : l ≤ 3) : sp_step K P V (13, a, dp, (30 + l) :: sk, ld, nm, cs) = if sp_lev (K a) = l then .inl (9 + l, a + 1, dp, (100 + 8 * (K a).toNat + l) :: sk, ld, nm, cs) else .inl (13, a, dp, sk, ld, nm, cs) := by
  obtain rfl | rfl | rfl | rfl : l = 0 ∨ l = 1 ∨ l = 2 ∨ l = 3 := by omega
  · rfl
  · rfl
  · rfl
  · rfl
theorem sp_s13 (f : Nat) : sp_step K P V (13, a, dp, f :: sk, ld, nm, cs) = (if f = 5 then .inl (13, a, dp - 1, sk, ld, nm, cs ++ [(3, 0)]) else if f = 6 then (if K a = 41 then .inl (13, a + 1, dp - 1, sk, ld, nm, cs) else .inr (sp_f P a 1)) else if f = 7 then .inl (1, a, dp, sk.tail, sp_up ld 6 (sk.headD 0 : Nat), nm, cs ++ [(0, 0)]) else if f < 100 then (if sp_lev (K a) = f - 30 then .inl (f - 21, a + 1, dp, (100 + 8 * (K a).toNat + (f - 30)) :: sk, ld, nm, cs) else .inl (13, a, dp, sk, ld, nm, cs)) else if (f - 100) % 8 = 1 then .inl (13, a, dp, sk, ld, nm, cs ++ [(sp_sg ((f - 100) / 8), 0)]) else .inl (13, a, dp, (30 + (f - 100) % 8) :: sk, ld, nm, cs ++ [(sp_sg ((f - 100) / 8), 0)])) := rfl
theorem sp_st13b (hl : l ≤ 3) (h1 : l ≠ 1) : sp_step K P V (13, a, dp, (100 + 8 * s + l) :: sk, ld, nm, cs) = .inl (13, a, dp, (30 + l) :: sk, ld, nm, cs ++ [(sp_sg s, 0)]) := by
  rw [sp_s13]
  rw [if_neg (by omega), if_neg (by omega), if_neg (by omega), if_neg (by omega), if_neg (by omega), show (100 + 8 * s + l - 100) % 8 = l by omega, show (100 + 8 * s + l - 100) / 8 = s by omega]
theorem sp_st13c : sp_step K P V (13, a, dp, (100 + 8 * s + 1) :: sk, ld, nm, cs) = .inl (13, a, dp, sk, ld, nm, cs ++ [(sp_sg s, 0)]) := by
  rw [sp_s13]
  rw [if_neg (by omega), if_neg (by omega), if_neg (by omega), if_neg (by omega), if_pos (by omega), show (100 + 8 * s + 1 - 100) / 8 = s by omega]
end SPS
def cs_RP (d : Nat) : Prop := ∀ {I L : Nat → Nat → Int} {R : Nat → Nat → Option Nat} {Y : (Nat → Nat) × (Nat → Nat) × Nat} {K P V : Nat → Int} {te q a : Nat} {ld : Nat → Int} {nm : Int → Int} (dp : Nat) (sk : List Nat) (cs : List (Int × Int)), cs_W I L R Y K P V te q ld nm → I 11 11 = 0 → cs_A I L K te a → dp ≤ 5 → yi_P zi_Ms d 261 [.inr (.inr (some 11)), .inl (dp : Int)] (I, L, R, Y) (cs_QR I L R Y K P V te (12, a, dp, sk, ld, nm, cs) 13 a dp sk ld nm)
def cs_RE (d l : Nat) : Prop := ∀ {I L : Nat → Nat → Int} {R : Nat → Nat → Option Nat} {Y : (Nat → Nat) × (Nat → Nat) × Nat} {K P V : Nat → Int} {te q a : Nat} {ld : Nat → Int} {nm : Int → Int} (dp : Nat) (sk : List Nat) (cs : List (Int × Int)), cs_W I L R Y K P V te q ld nm → I 11 11 = 0 → cs_A I L K te a → dp ≤ 5 → yi_P zi_Ms d 255 [.inr (.inr (some 11)), .inl (l : Int), .inl (dp : Int)] (I, L, R, Y) (cs_QR I L R Y K P V te (8 + l, a, dp, sk, ld, nm, cs) 13 a dp sk ld nm)
def cs_REf (d : Nat) : Prop := ∀ {I L : Nat → Nat → Int} {R : Nat → Nat → Option Nat} {Y : (Nat → Nat) × (Nat → Nat) × Nat} {K P V : Nat → Int} {te q : Nat} {ld : Nat → Int} {nm : Int → Int} {x y : Int}, cs_W I L R Y K P V te q ld nm → ¬ I 11 11 = 0 → yi_P zi_Ms d 255 [.inr (.inr (some 11)), .inl x, .inl y] (I, L, R, Y) (fun r => r = (none, (I, L, R, Y), 0, 0))
theorem p_readPart_f {d : Nat} {I L : Nat → Nat → Int} {R : Nat → Nat → Option Nat} {Y : (Nat → Nat) × (Nat → Nat) × Nat} {w : Int} {K P V : Nat → Int} {te q : Nat} {ld : Nat → Int} {nm : Int → Int} (hW : cs_W I L R Y K P V te q ld nm) (hf : ¬ I 11 11 = 0) : yi_P zi_Ms d 261 [.inr (.inr (some 11)), .inl w] (I, L, R, Y) (fun r => r = (none, (I, L, R, Y), 0, 0)) := by
  refine yi_P_of (M := zi_m261) rfl (fun d k => ?_)
  have hy18 := hW.1.2.2.2.2.2.2.2.1
  show yi_D zi_Ms d zi_m261 k (0, [(0, .inr (.inr (some 11))), (1, .inl w)], [], (I, L, R, Y), 0, 0) _
  refine yi_D_run 1 (1, [(0, .inr (.inr (some 11))), (1, .inl w)], [.inr (.inr (some 11))], (I, L, R, Y), 0, 0) (fun _ => rfl) ?_
  refine yi_D_gi (v := I 11 9) rfl rfl rfl rfl (fun _ => ?_)
  refine yi_D_run 3 (7, [(2, .inl (I 11 9)), (0, .inr (.inr (some 11))), (1, .inl w)], [.inl 3, .inl (I 11 9)], (I, L, R, Y), 0, 0) (fun _ => rfl) ?_
  by_cases h1 : (I 11 9) = 3
  · refine yi_D_if2 false rfl (yi_ne_f h1) ?_
    refine yi_D_run 1 (11, [(2, .inl (I 11 9)), (0, .inr (.inr (some 11))), (1, .inl w)], [.inr (.inr (some 11))], (I, L, R, Y), 0, 0) (fun _ => rfl) ?_
    refine yi_D_gr (v := some 18) rfl rfl rfl hW.1.1.2.1 (fun _ => ?_)
    refine yi_D_run 1 (15, [(2, .inl (I 11 9)), (0, .inr (.inr (some 11))), (1, .inl w)], [.inr (.inr (some 11)), .inr (.inr (some 18))], (I, L, R, Y), 0, 0) (fun _ => rfl) ?_
    refine yi_D_gr (v := some 18) rfl rfl rfl hW.1.1.2.1 (fun _ => ?_)
    refine yi_D_len (v := 3) rfl rfl (by rw [hW.1.2.2.2.2.2.2.2.1]; rfl) ?_
    refine yi_D_run 1 (20, [(2, .inl (I 11 9)), (0, .inr (.inr (some 11))), (1, .inl w)], [.inr (.inr (some 11)), .inl 3, .inr (.inr (some 18))], (I, L, R, Y), 0, 0) (fun _ => rfl) ?_
    refine yi_D_gl (v := L 11 10) rfl rfl rfl rfl (fun _ => ?_)
    refine yi_D_calls rfl (p_find (by omega) ⟨by omega, by omega, by omega⟩) ?_
    rintro _ ⟨z2, rfl, hz3⟩
    show yi_D zi_Ms d zi_m261 k (26, [(2, .inl (I 11 9)), (0, .inr (.inr (some 11))), (1, .inl w)], [.inl z2], (I, L, R, Y), 0, 0) _
    refine yi_D_run 4 (33, [(3, .inl z2), (2, .inl (I 11 9)), (0, .inr (.inr (some 11))), (1, .inl w)], [.inl 2, .inl (I 11 9)], (I, L, R, Y), 0, 0) (fun _ => rfl) ?_
    have h4 : ¬ ((I 11 9) = 2) := by omega
    refine yi_D_if2 false rfl (yi_eq_f h4) ?_
    refine yi_D_run 2 (39, [(3, .inl z2), (2, .inl (I 11 9)), (0, .inr (.inr (some 11))), (1, .inl w)], [.inl 30, .inl (I 11 9)], (I, L, R, Y), 0, 0) (fun _ => rfl) ?_
    have h5 : ¬ ((I 11 9) = 30) := by omega
    refine yi_D_if2 false rfl (yi_eq_f h5) ?_
    refine yi_D_run 2 (45, [(3, .inl z2), (2, .inl (I 11 9)), (0, .inr (.inr (some 11))), (1, .inl w)], [.inl 40, .inl (I 11 9)], (I, L, R, Y), 0, 0) (fun _ => rfl) ?_
    have h6 : ¬ ((I 11 9) = 40) := by omega
    refine yi_D_if2 false rfl (yi_eq_f h6) ?_
    refine yi_D_run 2 (50, [(3, .inl z2), (2, .inl (I 11 9)), (0, .inr (.inr (some 11))), (1, .inl w)], [.inl (-1), .inl z2], (I, L, R, Y), 0, 0) (fun _ => rfl) ?_
    by_cases h7 : z2 = (-1)
    · refine yi_D_if2 false rfl (yi_ne_f h7) ?_
      refine yi_D_run 2 (55, [(3, .inl z2), (2, .inl (I 11 9)), (0, .inr (.inr (some 11))), (1, .inl w)], [.inl 1, .inr (.inr (some 11))], (I, L, R, Y), 0, 0) (fun _ => rfl) ?_
      refine yi_D_callv rfl (p_wrong_f hW hf) ?_
      rintro _ rfl
      show yi_D zi_Ms d zi_m261 k (58, [(3, .inl z2), (2, .inl (I 11 9)), (0, .inr (.inr (some 11))), (1, .inl w)], [], (I, L, R, Y), 0, 0) _
      refine yi_D_run 2 (72, [(3, .inl z2), (2, .inl (I 11 9)), (0, .inr (.inr (some 11))), (1, .inl w)], [.inr (.inr (some 11))], (I, L, R, Y), 0, 0) (fun _ => rfl) ?_
      refine yi_D_gi (v := I 11 11) rfl rfl rfl rfl (fun _ => ?_)
      have h8 : ¬ ((I 11 11) = 0) := by omega
      refine yi_D_if1 false rfl (yi_eq_f h8) ?_
      refine yi_D_retv rfl ?_
      rfl
    · refine yi_D_if2 true rfl (yi_ne_t h7) ?_
      refine yi_D_run 2 (63, [(3, .inl z2), (2, .inl (I 11 9)), (0, .inr (.inr (some 11))), (1, .inl w)], [.inl 5, .inl w], (I, L, R, Y), 0, 0) (fun _ => rfl) ?_
      by_cases h9 : w < 5
      · refine yi_D_if2 true rfl (yi_lt_t h9) ?_
        refine yi_D_run 1 (72, [(3, .inl z2), (2, .inl (I 11 9)), (0, .inr (.inr (some 11))), (1, .inl w)], [.inr (.inr (some 11))], (I, L, R, Y), 0, 0) (fun _ => rfl) ?_
        refine yi_D_gi (v := I 11 11) rfl rfl rfl rfl (fun _ => ?_)
        have h10 : ¬ ((I 11 11) = 0) := by omega
        refine yi_D_if1 false rfl (yi_eq_f h10) ?_
        refine yi_D_retv rfl ?_
        rfl
      · refine yi_D_if2 false rfl (yi_lt_f h9) ?_
        refine yi_D_run 2 (68, [(3, .inl z2), (2, .inl (I 11 9)), (0, .inr (.inr (some 11))), (1, .inl w)], [.inl 5, .inr (.inr (some 11))], (I, L, R, Y), 0, 0) (fun _ => rfl) ?_
        refine yi_D_callv rfl (p_wrong_f hW hf) ?_
        rintro _ rfl
        show yi_D zi_Ms d zi_m261 k (71, [(3, .inl z2), (2, .inl (I 11 9)), (0, .inr (.inr (some 11))), (1, .inl w)], [], (I, L, R, Y), 0, 0) _
        refine yi_D_run 1 (72, [(3, .inl z2), (2, .inl (I 11 9)), (0, .inr (.inr (some 11))), (1, .inl w)], [.inr (.inr (some 11))], (I, L, R, Y), 0, 0) (fun _ => rfl) ?_
        refine yi_D_gi (v := I 11 11) rfl rfl rfl rfl (fun _ => ?_)
        have h11 : ¬ ((I 11 11) = 0) := by omega
        refine yi_D_if1 false rfl (yi_eq_f h11) ?_
        refine yi_D_retv rfl ?_
        rfl
  · refine yi_D_if2 true rfl (yi_ne_t h1) ?_
    refine yi_D_run 4 (33, [(3, .inl (-1)), (2, .inl (I 11 9)), (0, .inr (.inr (some 11))), (1, .inl w)], [.inl 2, .inl (I 11 9)], (I, L, R, Y), 0, 0) (fun _ => rfl) ?_
    by_cases h12 : (I 11 9) = 2
    · refine yi_D_if2 true rfl (yi_eq_t h12) ?_
      refine yi_D_run 2 (63, [(3, .inl (-1)), (2, .inl (I 11 9)), (0, .inr (.inr (some 11))), (1, .inl w)], [.inl 5, .inl w], (I, L, R, Y), 0, 0) (fun _ => rfl) ?_
      by_cases h13 : w < 5
      · refine yi_D_if2 true rfl (yi_lt_t h13) ?_
        refine yi_D_run 1 (72, [(3, .inl (-1)), (2, .inl (I 11 9)), (0, .inr (.inr (some 11))), (1, .inl w)], [.inr (.inr (some 11))], (I, L, R, Y), 0, 0) (fun _ => rfl) ?_
        refine yi_D_gi (v := I 11 11) rfl rfl rfl rfl (fun _ => ?_)
        have h14 : ¬ ((I 11 11) = 0) := by omega
        refine yi_D_if1 false rfl (yi_eq_f h14) ?_
        refine yi_D_retv rfl ?_
        rfl
      · refine yi_D_if2 false rfl (yi_lt_f h13) ?_
        refine yi_D_run 2 (68, [(3, .inl (-1)), (2, .inl (I 11 9)), (0, .inr (.inr (some 11))), (1, .inl w)], [.inl 5, .inr (.inr (some 11))], (I, L, R, Y), 0, 0) (fun _ => rfl) ?_
        refine yi_D_callv rfl (p_wrong_f hW hf) ?_
        rintro _ rfl
        show yi_D zi_Ms d zi_m261 k (71, [(3, .inl (-1)), (2, .inl (I 11 9)), (0, .inr (.inr (some 11))), (1, .inl w)], [], (I, L, R, Y), 0, 0) _
        refine yi_D_run 1 (72, [(3, .inl (-1)), (2, .inl (I 11 9)), (0, .inr (.inr (some 11))), (1, .inl w)], [.inr (.inr (some 11))], (I, L, R, Y), 0, 0) (fun _ => rfl) ?_
        refine yi_D_gi (v := I 11 11) rfl rfl rfl rfl (fun _ => ?_)
        have h15 : ¬ ((I 11 11) = 0) := by omega
        refine yi_D_if1 false rfl (yi_eq_f h15) ?_
        refine yi_D_retv rfl ?_
        rfl
    · refine yi_D_if2 false rfl (yi_eq_f h12) ?_
      refine yi_D_run 2 (39, [(3, .inl (-1)), (2, .inl (I 11 9)), (0, .inr (.inr (some 11))), (1, .inl w)], [.inl 30, .inl (I 11 9)], (I, L, R, Y), 0, 0) (fun _ => rfl) ?_
      by_cases h16 : (I 11 9) = 30
      · refine yi_D_if2 true rfl (yi_eq_t h16) ?_
        refine yi_D_run 2 (63, [(3, .inl (-1)), (2, .inl (I 11 9)), (0, .inr (.inr (some 11))), (1, .inl w)], [.inl 5, .inl w], (I, L, R, Y), 0, 0) (fun _ => rfl) ?_
        by_cases h17 : w < 5
        · refine yi_D_if2 true rfl (yi_lt_t h17) ?_
          refine yi_D_run 1 (72, [(3, .inl (-1)), (2, .inl (I 11 9)), (0, .inr (.inr (some 11))), (1, .inl w)], [.inr (.inr (some 11))], (I, L, R, Y), 0, 0) (fun _ => rfl) ?_
          refine yi_D_gi (v := I 11 11) rfl rfl rfl rfl (fun _ => ?_)
          have h18 : ¬ ((I 11 11) = 0) := by omega
          refine yi_D_if1 false rfl (yi_eq_f h18) ?_
          refine yi_D_retv rfl ?_
          rfl
        · refine yi_D_if2 false rfl (yi_lt_f h17) ?_
          refine yi_D_run 2 (68, [(3, .inl (-1)), (2, .inl (I 11 9)), (0, .inr (.inr (some 11))), (1, .inl w)], [.inl 5, .inr (.inr (some 11))], (I, L, R, Y), 0, 0) (fun _ => rfl) ?_
          refine yi_D_callv rfl (p_wrong_f hW hf) ?_
          rintro _ rfl
          show yi_D zi_Ms d zi_m261 k (71, [(3, .inl (-1)), (2, .inl (I 11 9)), (0, .inr (.inr (some 11))), (1, .inl w)], [], (I, L, R, Y), 0, 0) _
          refine yi_D_run 1 (72, [(3, .inl (-1)), (2, .inl (I 11 9)), (0, .inr (.inr (some 11))), (1, .inl w)], [.inr (.inr (some 11))], (I, L, R, Y), 0, 0) (fun _ => rfl) ?_
          refine yi_D_gi (v := I 11 11) rfl rfl rfl rfl (fun _ => ?_)
          have h19 : ¬ ((I 11 11) = 0) := by omega
          refine yi_D_if1 false rfl (yi_eq_f h19) ?_
          refine yi_D_retv rfl ?_
          rfl
      · refine yi_D_if2 false rfl (yi_eq_f h16) ?_
        refine yi_D_run 2 (45, [(3, .inl (-1)), (2, .inl (I 11 9)), (0, .inr (.inr (some 11))), (1, .inl w)], [.inl 40, .inl (I 11 9)], (I, L, R, Y), 0, 0) (fun _ => rfl) ?_
        by_cases h20 : (I 11 9) = 40
        · refine yi_D_if2 true rfl (yi_eq_t h20) ?_
          refine yi_D_run 2 (63, [(3, .inl (-1)), (2, .inl (I 11 9)), (0, .inr (.inr (some 11))), (1, .inl w)], [.inl 5, .inl w], (I, L, R, Y), 0, 0) (fun _ => rfl) ?_
          by_cases h21 : w < 5
          · refine yi_D_if2 true rfl (yi_lt_t h21) ?_
            refine yi_D_run 1 (72, [(3, .inl (-1)), (2, .inl (I 11 9)), (0, .inr (.inr (some 11))), (1, .inl w)], [.inr (.inr (some 11))], (I, L, R, Y), 0, 0) (fun _ => rfl) ?_
            refine yi_D_gi (v := I 11 11) rfl rfl rfl rfl (fun _ => ?_)
            have h22 : ¬ ((I 11 11) = 0) := by omega
            refine yi_D_if1 false rfl (yi_eq_f h22) ?_
            refine yi_D_retv rfl ?_
            rfl
          · refine yi_D_if2 false rfl (yi_lt_f h21) ?_
            refine yi_D_run 2 (68, [(3, .inl (-1)), (2, .inl (I 11 9)), (0, .inr (.inr (some 11))), (1, .inl w)], [.inl 5, .inr (.inr (some 11))], (I, L, R, Y), 0, 0) (fun _ => rfl) ?_
            refine yi_D_callv rfl (p_wrong_f hW hf) ?_
            rintro _ rfl
            show yi_D zi_Ms d zi_m261 k (71, [(3, .inl (-1)), (2, .inl (I 11 9)), (0, .inr (.inr (some 11))), (1, .inl w)], [], (I, L, R, Y), 0, 0) _
            refine yi_D_run 1 (72, [(3, .inl (-1)), (2, .inl (I 11 9)), (0, .inr (.inr (some 11))), (1, .inl w)], [.inr (.inr (some 11))], (I, L, R, Y), 0, 0) (fun _ => rfl) ?_
            refine yi_D_gi (v := I 11 11) rfl rfl rfl rfl (fun _ => ?_)
            have h23 : ¬ ((I 11 11) = 0) := by omega
            refine yi_D_if1 false rfl (yi_eq_f h23) ?_
            refine yi_D_retv rfl ?_
            rfl
        · refine yi_D_if2 false rfl (yi_eq_f h20) ?_
          refine yi_D_run 2 (50, [(3, .inl (-1)), (2, .inl (I 11 9)), (0, .inr (.inr (some 11))), (1, .inl w)], [.inl (-1), .inl (-1)], (I, L, R, Y), 0, 0) (fun _ => rfl) ?_
          refine yi_D_if2 false rfl (by decide) ?_
          refine yi_D_run 2 (55, [(3, .inl (-1)), (2, .inl (I 11 9)), (0, .inr (.inr (some 11))), (1, .inl w)], [.inl 1, .inr (.inr (some 11))], (I, L, R, Y), 0, 0) (fun _ => rfl) ?_
          refine yi_D_callv rfl (p_wrong_f hW hf) ?_
          rintro _ rfl
          show yi_D zi_Ms d zi_m261 k (58, [(3, .inl (-1)), (2, .inl (I 11 9)), (0, .inr (.inr (some 11))), (1, .inl w)], [], (I, L, R, Y), 0, 0) _
          refine yi_D_run 2 (72, [(3, .inl (-1)), (2, .inl (I 11 9)), (0, .inr (.inr (some 11))), (1, .inl w)], [.inr (.inr (some 11))], (I, L, R, Y), 0, 0) (fun _ => rfl) ?_
          refine yi_D_gi (v := I 11 11) rfl rfl rfl rfl (fun _ => ?_)
          have h24 : ¬ ((I 11 11) = 0) := by omega
          refine yi_D_if1 false rfl (yi_eq_f h24) ?_
          refine yi_D_retv rfl ?_
          rfl
theorem p_readExpression_fs {d : Nat} {I L : Nat → Nat → Int} {R : Nat → Nat → Option Nat} {Y : (Nat → Nat) × (Nat → Nat) × Nat} {x y : Int} (hE : cs_REf d) {K P V : Nat → Int} {te q : Nat} {ld : Nat → Int} {nm : Int → Int} (hW : cs_W I L R Y K P V te q ld nm) (hf : ¬ I 11 11 = 0) : yi_P zi_Ms (d + 1) 255 [.inr (.inr (some 11)), .inl x, .inl y] (I, L, R, Y) (fun r => r = (none, (I, L, R, Y), 0, 0)) := by
  refine yi_P_s (M := zi_m255) rfl (fun k => ?_)
  show yi_D zi_Ms d zi_m255 k (0, [(0, .inr (.inr (some 11))), (1, .inl x), (2, .inl y)], [], (I, L, R, Y), 0, 0) _
  refine yi_D_run 2 (2, [(0, .inr (.inr (some 11))), (1, .inl x), (2, .inl y)], [.inl 4, .inl x], (I, L, R, Y), 0, 0) (fun _ => rfl) ?_
  by_cases h1 : x < 4
  · refine yi_D_if2 true rfl (yi_lt_t h1) ?_
    refine yi_D_run 5 (16, [(0, .inr (.inr (some 11))), (1, .inl x), (2, .inl y)], [.inl y, .inl (yi_w (x + 1)), .inr (.inr (some 11))], (I, L, R, Y), 0, 0) (fun _ => rfl) ?_
    refine yi_D_callv rfl (hE hW hf) ?_
    rintro _ rfl
    show yi_D zi_Ms d zi_m255 k (19, [(0, .inr (.inr (some 11))), (1, .inl x), (2, .inl y)], [], (I, L, R, Y), 0, 0) _
    refine yi_D_run 2 (21, [(0, .inr (.inr (some 11))), (1, .inl x), (2, .inl y)], [.inl 1, .inl x], (I, L, R, Y), 0, 0) (fun _ => rfl) ?_
    by_cases h2 : x = 1
    · refine yi_D_if2 false rfl (yi_ne_f h2) ?_
      refine yi_D_run 7 (38, [(4, .inl 0), (3, .inl 1), (0, .inr (.inr (some 11))), (1, .inl x), (2, .inl y)], [.inl 1, .inl 0], (I, L, R, Y), 0, 0) (fun _ => rfl) ?_
      refine yi_D_if2 false rfl (by decide) ?_
      refine yi_D_run 1 (42, [(4, .inl 0), (3, .inl 1), (0, .inr (.inr (some 11))), (1, .inl x), (2, .inl y)], [.inr (.inr (some 11))], (I, L, R, Y), 0, 0) (fun _ => rfl) ?_
      refine yi_D_gi (v := I 11 11) rfl rfl rfl rfl (fun _ => ?_)
      have h3 : ¬ ((I 11 11) = 0) := by omega
      refine yi_D_if1 true rfl (yi_ne_t h3) ?_
      refine yi_D_retv rfl ?_
      rfl
    · refine yi_D_if2 true rfl (yi_ne_t h2) ?_
      refine yi_D_run 6 (38, [(4, .inl 0), (3, .inl 1000), (0, .inr (.inr (some 11))), (1, .inl x), (2, .inl y)], [.inl 1000, .inl 0], (I, L, R, Y), 0, 0) (fun _ => rfl) ?_
      refine yi_D_if2 false rfl (by decide) ?_
      refine yi_D_run 1 (42, [(4, .inl 0), (3, .inl 1000), (0, .inr (.inr (some 11))), (1, .inl x), (2, .inl y)], [.inr (.inr (some 11))], (I, L, R, Y), 0, 0) (fun _ => rfl) ?_
      refine yi_D_gi (v := I 11 11) rfl rfl rfl rfl (fun _ => ?_)
      have h4 : ¬ ((I 11 11) = 0) := by omega
      refine yi_D_if1 true rfl (yi_ne_t h4) ?_
      refine yi_D_retv rfl ?_
      rfl
  · refine yi_D_if2 false rfl (yi_lt_f h1) ?_
    refine yi_D_run 2 (7, [(0, .inr (.inr (some 11))), (1, .inl x), (2, .inl y)], [.inl y, .inr (.inr (some 11))], (I, L, R, Y), 0, 0) (fun _ => rfl) ?_
    refine yi_D_callv rfl (p_readPart_f hW hf) ?_
    rintro _ rfl
    show yi_D zi_Ms d zi_m255 k (10, [(0, .inr (.inr (some 11))), (1, .inl x), (2, .inl y)], [], (I, L, R, Y), 0, 0) _
    refine yi_D_retv rfl ?_
    rfl
theorem p_readExpression_f : ∀ d, cs_REf d
  | 0 => fun _ _ => yi_P_0
  | d + 1 => fun hW hf => p_readExpression_fs (p_readExpression_f d) hW hf
theorem p_readPart_s {d : Nat} {I L : Nat → Nat → Int} {R : Nat → Nat → Option Nat} {Y : (Nat → Nat) × (Nat → Nat) × Nat} (hRP : cs_RP d) (hRE : cs_RE d 0) {K P V : Nat → Int} {te q a : Nat} {ld : Nat → Int} {nm : Int → Int} (hW : cs_W I L R Y K P V te q ld nm) (hf : I 11 11 = 0) (hA : cs_A I L K te a) (dp : Nat) (sk : List Nat) (cs : List (Int × Int)) (hd : dp ≤ 5) : yi_P zi_Ms (d + 1) 261 [.inr (.inr (some 11)), .inl (dp : Int)] (I, L, R, Y) (cs_QR I L R Y K P V te (12, a, dp, sk, ld, nm, cs) 13 a dp sk ld nm) := by
  refine yi_P_s (M := zi_m261) rfl (fun k => ?_)
  have hy18 := hW.1.2.2.2.2.2.2.2.1
  show yi_D zi_Ms d zi_m261 k (0, [(0, .inr (.inr (some 11))), (1, .inl (dp : Int))], [], (I, L, R, Y), 0, 0) _
  refine yi_D_run 1 (1, [(0, .inr (.inr (some 11))), (1, .inl (dp : Int))], [.inr (.inr (some 11))], (I, L, R, Y), 0, 0) (fun _ => rfl) ?_
  refine yi_D_gi (v := K a) rfl rfl rfl hA.2.2.1 (fun _ => ?_)
  refine yi_D_run 3 (7, [(2, .inl (K a)), (0, .inr (.inr (some 11))), (1, .inl (dp : Int))], [.inl 3, .inl (K a)], (I, L, R, Y), 0, 0) (fun _ => rfl) ?_
  by_cases h1 : (K a) = 3
  · refine yi_D_if2 false rfl (yi_ne_f h1) ?_
    refine yi_D_run 1 (11, [(2, .inl (K a)), (0, .inr (.inr (some 11))), (1, .inl (dp : Int))], [.inr (.inr (some 11))], (I, L, R, Y), 0, 0) (fun _ => rfl) ?_
    refine yi_D_gr (v := some 18) rfl rfl rfl hW.1.1.2.1 (fun _ => ?_)
    refine yi_D_run 1 (15, [(2, .inl (K a)), (0, .inr (.inr (some 11))), (1, .inl (dp : Int))], [.inr (.inr (some 11)), .inr (.inr (some 18))], (I, L, R, Y), 0, 0) (fun _ => rfl) ?_
    refine yi_D_gr (v := some 18) rfl rfl rfl hW.1.1.2.1 (fun _ => ?_)
    refine yi_D_len (v := 3) rfl rfl (by rw [hW.1.2.2.2.2.2.2.2.1]; rfl) ?_
    refine yi_D_run 1 (20, [(2, .inl (K a)), (0, .inr (.inr (some 11))), (1, .inl (dp : Int))], [.inr (.inr (some 11)), .inl 3, .inr (.inr (some 18))], (I, L, R, Y), 0, 0) (fun _ => rfl) ?_
    refine yi_D_gl (v := L 16 a) rfl rfl rfl hA.2.2.2 (fun _ => ?_)
    refine yi_D_calls rfl (p_find (by omega) ⟨by omega, by omega, by omega⟩) ?_
    rintro _ ⟨z2, rfl, hz3⟩
    show yi_D zi_Ms d zi_m261 k (26, [(2, .inl (K a)), (0, .inr (.inr (some 11))), (1, .inl (dp : Int))], [.inl z2], (I, L, R, Y), 0, 0) _
    refine yi_D_run 4 (33, [(3, .inl z2), (2, .inl (K a)), (0, .inr (.inr (some 11))), (1, .inl (dp : Int))], [.inl 2, .inl (K a)], (I, L, R, Y), 0, 0) (fun _ => rfl) ?_
    have hfz := cs_fact hW.2.1 hA.2.1 (by omega) hz3
    have h4 : ¬ ((K a) = 2) := by omega
    refine yi_D_if2 false rfl (yi_eq_f h4) ?_
    refine yi_D_run 2 (39, [(3, .inl z2), (2, .inl (K a)), (0, .inr (.inr (some 11))), (1, .inl (dp : Int))], [.inl 30, .inl (K a)], (I, L, R, Y), 0, 0) (fun _ => rfl) ?_
    have h5 : ¬ ((K a) = 30) := by omega
    refine yi_D_if2 false rfl (yi_eq_f h5) ?_
    refine yi_D_run 2 (45, [(3, .inl z2), (2, .inl (K a)), (0, .inr (.inr (some 11))), (1, .inl (dp : Int))], [.inl 40, .inl (K a)], (I, L, R, Y), 0, 0) (fun _ => rfl) ?_
    have h6 : ¬ ((K a) = 40) := by omega
    refine yi_D_if2 false rfl (yi_eq_f h6) ?_
    refine yi_D_run 2 (50, [(3, .inl z2), (2, .inl (K a)), (0, .inr (.inr (some 11))), (1, .inl (dp : Int))], [.inl (-1), .inl z2], (I, L, R, Y), 0, 0) (fun _ => rfl) ?_
    by_cases h7 : z2 = (-1)
    · refine yi_D_if2 false rfl (yi_ne_f h7) ?_
      refine yi_D_run 2 (55, [(3, .inl z2), (2, .inl (K a)), (0, .inr (.inr (some 11))), (1, .inl (dp : Int))], [.inl 1, .inr (.inr (some 11))], (I, L, R, Y), 0, 0) (fun _ => rfl) ?_
      refine yi_D_callv rfl (p_wrong_z ⟨by omega, by omega⟩ hW hf hA) ?_
      rintro _ ⟨I8, rfl, hg9, he10⟩
      have hGw11 : cs_G I L I8 L := ⟨fun p k hp => hg9 p k (by omega), fun _ _ _ => rfl⟩
      have hW12 := cs_W_t hW (cs_G_F hGw11)
      have hF13 := (cs_G_F hGw11)
      have hG14 := hGw11
      have hz15 : ¬ sp_f P a 1 = 0 := sp_f_ne hW hA.2.1 (by omega)
      have hn16 : ¬ I8 11 11 = 0 := by rw [he10]; exact hz15
      have hx17 : sp_R K P V (12, a, dp, sk, ld, nm, cs) (.inr (sp_f P a 1)) := sp_R_1 (by
        show sp_part K P V a dp sk ld nm cs = _
        first
        | (exfalso; omega)
        | (unfold sp_part; repeat (first | rw [if_pos (by omega)] | rw [if_neg (by omega)])))
      show yi_D zi_Ms d zi_m261 k (58, [(3, .inl z2), (2, .inl (K a)), (0, .inr (.inr (some 11))), (1, .inl (dp : Int))], [], (I8, L, R, Y), 0, 0) _
      refine yi_D_run 2 (72, [(3, .inl z2), (2, .inl (K a)), (0, .inr (.inr (some 11))), (1, .inl (dp : Int))], [.inr (.inr (some 11))], (I8, L, R, Y), 0, 0) (fun _ => rfl) ?_
      refine yi_D_gi (v := I8 11 11) rfl rfl rfl rfl (fun _ => ?_)
      have h18 : ¬ ((I8 11 11) = 0) := by omega
      refine yi_D_if1 false rfl (yi_eq_f h18) ?_
      refine yi_D_retv rfl ?_
      exact ⟨_, _, rfl, hF13, Or.inr ⟨_, hx17, hz15, he10⟩⟩
    · refine yi_D_if2 true rfl (yi_ne_t h7) ?_
      refine yi_D_run 2 (63, [(3, .inl z2), (2, .inl (K a)), (0, .inr (.inr (some 11))), (1, .inl (dp : Int))], [.inl 5, .inl (dp : Int)], (I, L, R, Y), 0, 0) (fun _ => rfl) ?_
      by_cases h19 : (dp : Int) < 5
      · refine yi_D_if2 true rfl (yi_lt_t h19) ?_
        refine yi_D_run 1 (72, [(3, .inl z2), (2, .inl (K a)), (0, .inr (.inr (some 11))), (1, .inl (dp : Int))], [.inr (.inr (some 11))], (I, L, R, Y), 0, 0) (fun _ => rfl) ?_
        refine yi_D_gi (v := 0) rfl rfl rfl hf (fun _ => ?_)
        refine yi_D_if1 true rfl (by decide) ?_
        refine yi_D_run 2 (81, [(3, .inl z2), (2, .inl (K a)), (0, .inr (.inr (some 11))), (1, .inl (dp : Int))], [.inl 3, .inl (K a)], (I, L, R, Y), 0, 0) (fun _ => rfl) ?_
        have h20 : (K a) = 3 := by omega
        refine yi_D_if2 false rfl (yi_ne_f h20) ?_
        refine yi_D_run 4 (96, [(4, .inl z2), (3, .inl z2), (2, .inl (K a)), (0, .inr (.inr (some 11))), (1, .inl (dp : Int))], [.inr (.inr (some 11))], (I, L, R, Y), 0, 0) (fun _ => rfl) ?_
        refine yi_D_callv rfl (p_advance_z hW hf hA) ?_
        rintro _ ⟨I21, L22, rfl, hGa23, hf24, hA25⟩
        rw [sp_nx_lt (cs_lt hW.2.1 hA.2.1 (by omega))] at hA25
        have hA25 : cs_A I21 L22 K te (a + 1) := hA25
        have hW26 := cs_W_t hW (cs_G_F hGa23)
        have hF27 := (cs_G_F hGa23)
        have hG28 := hGa23
        show yi_D zi_Ms d zi_m261 k (99, [(4, .inl z2), (3, .inl z2), (2, .inl (K a)), (0, .inr (.inr (some 11))), (1, .inl (dp : Int))], [], (I21, L22, R, Y), 0, 0) _
        refine yi_D_run 2 (102, [(4, .inl z2), (3, .inl z2), (2, .inl (K a)), (0, .inr (.inr (some 11))), (1, .inl (dp : Int))], [.inl 30, .inl (K a)], (I21, L22, R, Y), 0, 0) (fun _ => rfl) ?_
        have h29 : ¬ ((K a) = 30) := by omega
        refine yi_D_if2 true rfl (yi_ne_t h29) ?_
        refine yi_D_run 2 (124, [(4, .inl z2), (3, .inl z2), (2, .inl (K a)), (0, .inr (.inr (some 11))), (1, .inl (dp : Int))], [.inl 40, .inl (K a)], (I21, L22, R, Y), 0, 0) (fun _ => rfl) ?_
        have h30 : ¬ ((K a) = 40) := by omega
        refine yi_D_if2 true rfl (yi_ne_t h30) ?_
        refine yi_D_run 6 (152, [(4, .inl z2), (3, .inl z2), (2, .inl (K a)), (0, .inr (.inr (some 11))), (1, .inl (dp : Int))], [.inl (yi_ior (K a) (yi_shl z2 8)), .inr (.inr (some 11))], (I21, L22, R, Y), 0, 0) (fun _ => rfl) ?_
        refine yi_D_callv rfl (p_emit hW26) ?_
        rintro _ ⟨I31, rfl, hE32⟩
        have hW33 := cs_W_t hW26 (cs_E_F (L := L22) hE32)
        have hF34 := cs_F_t hF27 (cs_E_F hE32)
        have hf35 : I31 11 11 = 0 := (hE32 11 11 (by omega) (by omega)).trans hf24
        have hA36 := cs_A_e hA25 hE32
        show yi_D zi_Ms d zi_m261 k (155, [(4, .inl z2), (3, .inl z2), (2, .inl (K a)), (0, .inr (.inr (some 11))), (1, .inl (dp : Int))], [], (I31, L22, R, Y), 0, 0) _
        refine yi_D_retv rfl ?_
        have hst : sp_R K P V (12, a, dp, sk, ld, nm, cs) (.inl (13, a + 1, dp, sk, ld, nm, cs ++ [if K a = 2 then (1, V a) else (2, sp_fact (V a))])) := sp_R_1 (by
          show sp_part K P V a dp sk ld nm cs = _
          unfold sp_part
          rw [if_neg (by omega), if_neg (by omega), if_neg (by omega), if_neg (by omega)])
        exact ⟨_, _, rfl, hF34, Or.inl ⟨_, _, hst, by omega, hf35, hA36⟩⟩
      · refine yi_D_if2 false rfl (yi_lt_f h19) ?_
        refine yi_D_run 2 (68, [(3, .inl z2), (2, .inl (K a)), (0, .inr (.inr (some 11))), (1, .inl (dp : Int))], [.inl 5, .inr (.inr (some 11))], (I, L, R, Y), 0, 0) (fun _ => rfl) ?_
        refine yi_D_callv rfl (p_wrong_z ⟨by omega, by omega⟩ hW hf hA) ?_
        rintro _ ⟨I37, rfl, hg38, he39⟩
        have hGw40 : cs_G I L I37 L := ⟨fun p k hp => hg38 p k (by omega), fun _ _ _ => rfl⟩
        have hW41 := cs_W_t hW (cs_G_F hGw40)
        have hF42 := (cs_G_F hGw40)
        have hG43 := hGw40
        have hz44 : ¬ sp_f P a 5 = 0 := sp_f_ne hW hA.2.1 (by omega)
        have hn45 : ¬ I37 11 11 = 0 := by rw [he39]; exact hz44
        have hx46 : sp_R K P V (12, a, dp, sk, ld, nm, cs) (.inr (sp_f P a 5)) := sp_R_1 (by
          show sp_part K P V a dp sk ld nm cs = _
          first
          | (exfalso; omega)
          | (unfold sp_part; repeat (first | rw [if_pos (by omega)] | rw [if_neg (by omega)])))
        show yi_D zi_Ms d zi_m261 k (71, [(3, .inl z2), (2, .inl (K a)), (0, .inr (.inr (some 11))), (1, .inl (dp : Int))], [], (I37, L, R, Y), 0, 0) _
        refine yi_D_run 1 (72, [(3, .inl z2), (2, .inl (K a)), (0, .inr (.inr (some 11))), (1, .inl (dp : Int))], [.inr (.inr (some 11))], (I37, L, R, Y), 0, 0) (fun _ => rfl) ?_
        refine yi_D_gi (v := I37 11 11) rfl rfl rfl rfl (fun _ => ?_)
        have h47 : ¬ ((I37 11 11) = 0) := by omega
        refine yi_D_if1 false rfl (yi_eq_f h47) ?_
        refine yi_D_retv rfl ?_
        exact ⟨_, _, rfl, hF42, Or.inr ⟨_, hx46, hz44, he39⟩⟩
  · refine yi_D_if2 true rfl (yi_ne_t h1) ?_
    refine yi_D_run 4 (33, [(3, .inl (-1)), (2, .inl (K a)), (0, .inr (.inr (some 11))), (1, .inl (dp : Int))], [.inl 2, .inl (K a)], (I, L, R, Y), 0, 0) (fun _ => rfl) ?_
    
    by_cases h48 : (K a) = 2
    · refine yi_D_if2 true rfl (yi_eq_t h48) ?_
      refine yi_D_run 2 (63, [(3, .inl (-1)), (2, .inl (K a)), (0, .inr (.inr (some 11))), (1, .inl (dp : Int))], [.inl 5, .inl (dp : Int)], (I, L, R, Y), 0, 0) (fun _ => rfl) ?_
      by_cases h49 : (dp : Int) < 5
      · refine yi_D_if2 true rfl (yi_lt_t h49) ?_
        refine yi_D_run 1 (72, [(3, .inl (-1)), (2, .inl (K a)), (0, .inr (.inr (some 11))), (1, .inl (dp : Int))], [.inr (.inr (some 11))], (I, L, R, Y), 0, 0) (fun _ => rfl) ?_
        refine yi_D_gi (v := 0) rfl rfl rfl hf (fun _ => ?_)
        refine yi_D_if1 true rfl (by decide) ?_
        refine yi_D_run 2 (81, [(3, .inl (-1)), (2, .inl (K a)), (0, .inr (.inr (some 11))), (1, .inl (dp : Int))], [.inl 3, .inl (K a)], (I, L, R, Y), 0, 0) (fun _ => rfl) ?_
        have h50 : ¬ ((K a) = 3) := by omega
        refine yi_D_if2 true rfl (yi_ne_t h50) ?_
        refine yi_D_run 1 (89, [(3, .inl (-1)), (2, .inl (K a)), (0, .inr (.inr (some 11))), (1, .inl (dp : Int))], [.inr (.inr (some 11))], (I, L, R, Y), 0, 0) (fun _ => rfl) ?_
        refine yi_D_gl (v := L 16 a) rfl rfl rfl hA.2.2.2 (fun _ => ?_)
        refine yi_D_run 3 (96, [(4, .inl (yi_w (L 16 a))), (3, .inl (-1)), (2, .inl (K a)), (0, .inr (.inr (some 11))), (1, .inl (dp : Int))], [.inr (.inr (some 11))], (I, L, R, Y), 0, 0) (fun _ => rfl) ?_
        refine yi_D_callv rfl (p_advance_z hW hf hA) ?_
        rintro _ ⟨I51, L52, rfl, hGa53, hf54, hA55⟩
        rw [sp_nx_lt (cs_lt hW.2.1 hA.2.1 (by omega))] at hA55
        have hA55 : cs_A I51 L52 K te (a + 1) := hA55
        have hW56 := cs_W_t hW (cs_G_F hGa53)
        have hF57 := (cs_G_F hGa53)
        have hG58 := hGa53
        show yi_D zi_Ms d zi_m261 k (99, [(4, .inl (yi_w (L 16 a))), (3, .inl (-1)), (2, .inl (K a)), (0, .inr (.inr (some 11))), (1, .inl (dp : Int))], [], (I51, L52, R, Y), 0, 0) _
        refine yi_D_run 2 (102, [(4, .inl (yi_w (L 16 a))), (3, .inl (-1)), (2, .inl (K a)), (0, .inr (.inr (some 11))), (1, .inl (dp : Int))], [.inl 30, .inl (K a)], (I51, L52, R, Y), 0, 0) (fun _ => rfl) ?_
        have h59 : ¬ ((K a) = 30) := by omega
        refine yi_D_if2 true rfl (yi_ne_t h59) ?_
        refine yi_D_run 2 (124, [(4, .inl (yi_w (L 16 a))), (3, .inl (-1)), (2, .inl (K a)), (0, .inr (.inr (some 11))), (1, .inl (dp : Int))], [.inl 40, .inl (K a)], (I51, L52, R, Y), 0, 0) (fun _ => rfl) ?_
        have h60 : ¬ ((K a) = 40) := by omega
        refine yi_D_if2 true rfl (yi_ne_t h60) ?_
        refine yi_D_run 6 (152, [(4, .inl (yi_w (L 16 a))), (3, .inl (-1)), (2, .inl (K a)), (0, .inr (.inr (some 11))), (1, .inl (dp : Int))], [.inl (yi_ior (K a) (yi_shl (yi_w (L 16 a)) 8)), .inr (.inr (some 11))], (I51, L52, R, Y), 0, 0) (fun _ => rfl) ?_
        refine yi_D_callv rfl (p_emit hW56) ?_
        rintro _ ⟨I61, rfl, hE62⟩
        have hW63 := cs_W_t hW56 (cs_E_F (L := L52) hE62)
        have hF64 := cs_F_t hF57 (cs_E_F hE62)
        have hf65 : I61 11 11 = 0 := (hE62 11 11 (by omega) (by omega)).trans hf54
        have hA66 := cs_A_e hA55 hE62
        show yi_D zi_Ms d zi_m261 k (155, [(4, .inl (yi_w (L 16 a))), (3, .inl (-1)), (2, .inl (K a)), (0, .inr (.inr (some 11))), (1, .inl (dp : Int))], [], (I61, L52, R, Y), 0, 0) _
        refine yi_D_retv rfl ?_
        have hst : sp_R K P V (12, a, dp, sk, ld, nm, cs) (.inl (13, a + 1, dp, sk, ld, nm, cs ++ [if K a = 2 then (1, V a) else (2, sp_fact (V a))])) := sp_R_1 (by
          show sp_part K P V a dp sk ld nm cs = _
          unfold sp_part
          rw [if_neg (by omega), if_neg (by omega), if_neg (by omega), if_neg (by omega)])
        exact ⟨_, _, rfl, hF64, Or.inl ⟨_, _, hst, by omega, hf65, hA66⟩⟩
      · refine yi_D_if2 false rfl (yi_lt_f h49) ?_
        refine yi_D_run 2 (68, [(3, .inl (-1)), (2, .inl (K a)), (0, .inr (.inr (some 11))), (1, .inl (dp : Int))], [.inl 5, .inr (.inr (some 11))], (I, L, R, Y), 0, 0) (fun _ => rfl) ?_
        refine yi_D_callv rfl (p_wrong_z ⟨by omega, by omega⟩ hW hf hA) ?_
        rintro _ ⟨I67, rfl, hg68, he69⟩
        have hGw70 : cs_G I L I67 L := ⟨fun p k hp => hg68 p k (by omega), fun _ _ _ => rfl⟩
        have hW71 := cs_W_t hW (cs_G_F hGw70)
        have hF72 := (cs_G_F hGw70)
        have hG73 := hGw70
        have hz74 : ¬ sp_f P a 5 = 0 := sp_f_ne hW hA.2.1 (by omega)
        have hn75 : ¬ I67 11 11 = 0 := by rw [he69]; exact hz74
        have hx76 : sp_R K P V (12, a, dp, sk, ld, nm, cs) (.inr (sp_f P a 5)) := sp_R_1 (by
          show sp_part K P V a dp sk ld nm cs = _
          first
          | (exfalso; omega)
          | (unfold sp_part; repeat (first | rw [if_pos (by omega)] | rw [if_neg (by omega)])))
        show yi_D zi_Ms d zi_m261 k (71, [(3, .inl (-1)), (2, .inl (K a)), (0, .inr (.inr (some 11))), (1, .inl (dp : Int))], [], (I67, L, R, Y), 0, 0) _
        refine yi_D_run 1 (72, [(3, .inl (-1)), (2, .inl (K a)), (0, .inr (.inr (some 11))), (1, .inl (dp : Int))], [.inr (.inr (some 11))], (I67, L, R, Y), 0, 0) (fun _ => rfl) ?_
        refine yi_D_gi (v := I67 11 11) rfl rfl rfl rfl (fun _ => ?_)
        have h77 : ¬ ((I67 11 11) = 0) := by omega
        refine yi_D_if1 false rfl (yi_eq_f h77) ?_
        refine yi_D_retv rfl ?_
        exact ⟨_, _, rfl, hF72, Or.inr ⟨_, hx76, hz74, he69⟩⟩
    · refine yi_D_if2 false rfl (yi_eq_f h48) ?_
      refine yi_D_run 2 (39, [(3, .inl (-1)), (2, .inl (K a)), (0, .inr (.inr (some 11))), (1, .inl (dp : Int))], [.inl 30, .inl (K a)], (I, L, R, Y), 0, 0) (fun _ => rfl) ?_
      by_cases h78 : (K a) = 30
      · refine yi_D_if2 true rfl (yi_eq_t h78) ?_
        refine yi_D_run 2 (63, [(3, .inl (-1)), (2, .inl (K a)), (0, .inr (.inr (some 11))), (1, .inl (dp : Int))], [.inl 5, .inl (dp : Int)], (I, L, R, Y), 0, 0) (fun _ => rfl) ?_
        by_cases h79 : (dp : Int) < 5
        · refine yi_D_if2 true rfl (yi_lt_t h79) ?_
          refine yi_D_run 1 (72, [(3, .inl (-1)), (2, .inl (K a)), (0, .inr (.inr (some 11))), (1, .inl (dp : Int))], [.inr (.inr (some 11))], (I, L, R, Y), 0, 0) (fun _ => rfl) ?_
          refine yi_D_gi (v := 0) rfl rfl rfl hf (fun _ => ?_)
          refine yi_D_if1 true rfl (by decide) ?_
          refine yi_D_run 2 (81, [(3, .inl (-1)), (2, .inl (K a)), (0, .inr (.inr (some 11))), (1, .inl (dp : Int))], [.inl 3, .inl (K a)], (I, L, R, Y), 0, 0) (fun _ => rfl) ?_
          have h80 : ¬ ((K a) = 3) := by omega
          refine yi_D_if2 true rfl (yi_ne_t h80) ?_
          refine yi_D_run 1 (89, [(3, .inl (-1)), (2, .inl (K a)), (0, .inr (.inr (some 11))), (1, .inl (dp : Int))], [.inr (.inr (some 11))], (I, L, R, Y), 0, 0) (fun _ => rfl) ?_
          refine yi_D_gl (v := L 16 a) rfl rfl rfl hA.2.2.2 (fun _ => ?_)
          refine yi_D_run 3 (96, [(4, .inl (yi_w (L 16 a))), (3, .inl (-1)), (2, .inl (K a)), (0, .inr (.inr (some 11))), (1, .inl (dp : Int))], [.inr (.inr (some 11))], (I, L, R, Y), 0, 0) (fun _ => rfl) ?_
          refine yi_D_callv rfl (p_advance_z hW hf hA) ?_
          rintro _ ⟨I81, L82, rfl, hGa83, hf84, hA85⟩
          rw [sp_nx_lt (cs_lt hW.2.1 hA.2.1 (by omega))] at hA85
          have hA85 : cs_A I81 L82 K te (a + 1) := hA85
          have hW86 := cs_W_t hW (cs_G_F hGa83)
          have hF87 := (cs_G_F hGa83)
          have hG88 := hGa83
          show yi_D zi_Ms d zi_m261 k (99, [(4, .inl (yi_w (L 16 a))), (3, .inl (-1)), (2, .inl (K a)), (0, .inr (.inr (some 11))), (1, .inl (dp : Int))], [], (I81, L82, R, Y), 0, 0) _
          refine yi_D_run 2 (102, [(4, .inl (yi_w (L 16 a))), (3, .inl (-1)), (2, .inl (K a)), (0, .inr (.inr (some 11))), (1, .inl (dp : Int))], [.inl 30, .inl (K a)], (I81, L82, R, Y), 0, 0) (fun _ => rfl) ?_
          have h89 : (K a) = 30 := by omega
          refine yi_D_if2 false rfl (yi_ne_f h89) ?_
          refine yi_D_run 3 (108, [(4, .inl (yi_w (L 16 a))), (3, .inl (-1)), (2, .inl (K a)), (0, .inr (.inr (some 11))), (1, .inl (dp : Int))], [.inl 1, .inl (dp : Int), .inr (.inr (some 11))], (I81, L82, R, Y), 0, 0) (fun _ => rfl) ?_
          refine yi_D_iadd rfl ((dp : Int) + 1) (yi_wn (by omega) (by omega)) ?_
          have hst90 : sp_R K P V (12, a, dp, sk, ld, nm, cs) (.inl (12, a + 1, dp + 1, 5 :: sk, ld, nm, cs)) := sp_R_1 (by
            show sp_part K P V a dp sk ld nm cs = _
            unfold sp_part
            repeat (first | rw [if_pos (by omega)] | rw [if_neg (by omega)]))
          refine yi_D_callv rfl (hRP (dp + 1) (5 :: sk) cs hW86 hf84 hA85 (by omega)) ?_
          rintro _ ⟨I91, L92, rfl, hFr93, (⟨a94, cs95, hR96, lt97, hf98, hA99⟩ | ⟨f100, hR101, hz102, he103⟩)⟩
          · have hW104 := cs_W_t hW86 hFr93
            have hF105 := cs_F_t hF87 hFr93
            have hF106 : ∀ p k, (p ≠ 11 ∧ p ≠ 19) → I91 p k = I81 p k := fun p k h => hFr93.1 p k h.1 h.2
            have hR107 : sp_R K P V (12, a, dp, sk, ld, nm, cs) (.inl (13, a94, dp, sk, ld, nm, cs95 ++ [(3, 0)])) := sp_R_s (sp_R_t hst90 hR96) rfl
            show yi_D zi_Ms d zi_m261 k (112, [(4, .inl (yi_w (L 16 a))), (3, .inl (-1)), (2, .inl (K a)), (0, .inr (.inr (some 11))), (1, .inl (dp : Int))], [], (I91, L92, R, Y), 0, 0) _
            refine yi_D_run 2 (115, [(4, .inl (yi_w (L 16 a))), (3, .inl (-1)), (2, .inl (K a)), (0, .inr (.inr (some 11))), (1, .inl (dp : Int))], [.inl 30, .inr (.inr (some 11))], (I91, L92, R, Y), 0, 0) (fun _ => rfl) ?_
            refine yi_D_callv rfl (p_emit hW104) ?_
            rintro _ ⟨I108, rfl, hE109⟩
            have hW110 := cs_W_t hW104 (cs_E_F (L := L92) hE109)
            have hF111 := cs_F_t hF105 (cs_E_F hE109)
            have hf112 : I108 11 11 = 0 := (hE109 11 11 (by omega) (by omega)).trans hf98
            have hA113 := cs_A_e hA99 hE109
            show yi_D zi_Ms d zi_m261 k (118, [(4, .inl (yi_w (L 16 a))), (3, .inl (-1)), (2, .inl (K a)), (0, .inr (.inr (some 11))), (1, .inl (dp : Int))], [], (I108, L92, R, Y), 0, 0) _
            refine yi_D_run 1 (155, [(4, .inl (yi_w (L 16 a))), (3, .inl (-1)), (2, .inl (K a)), (0, .inr (.inr (some 11))), (1, .inl (dp : Int))], [], (I108, L92, R, Y), 0, 0) (fun _ => rfl) ?_
            refine yi_D_retv rfl ?_
            exact ⟨_, _, rfl, hF111, Or.inl ⟨_, _, hR107, by omega, hf112, hA113⟩⟩
          · have hW114 := cs_W_t hW86 hFr93
            have hF115 := cs_F_t hF87 hFr93
            have hF116 : ∀ p k, (p ≠ 11 ∧ p ≠ 19) → I91 p k = I81 p k := fun p k h => hFr93.1 p k h.1 h.2
            have hn117 : ¬ I91 11 11 = 0 := by rw [he103]; exact hz102
            have hx118 : sp_R K P V (12, a, dp, sk, ld, nm, cs) (.inr f100) := sp_R_t hst90 hR101
            show yi_D zi_Ms d zi_m261 k (112, [(4, .inl (yi_w (L 16 a))), (3, .inl (-1)), (2, .inl (K a)), (0, .inr (.inr (some 11))), (1, .inl (dp : Int))], [], (I91, L92, R, Y), 0, 0) _
            refine yi_D_run 2 (115, [(4, .inl (yi_w (L 16 a))), (3, .inl (-1)), (2, .inl (K a)), (0, .inr (.inr (some 11))), (1, .inl (dp : Int))], [.inl 30, .inr (.inr (some 11))], (I91, L92, R, Y), 0, 0) (fun _ => rfl) ?_
            refine yi_D_callv rfl (p_emit hW114) ?_
            rintro _ ⟨I119, rfl, hE120⟩
            have hW121 := cs_W_t hW114 (cs_E_F (L := L92) hE120)
            have hF122 := cs_F_t hF115 (cs_E_F hE120)
            have hf123 : ¬ I119 11 11 = 0 := by rw [hE120 11 11 (by omega) (by omega)]; exact hn117
            have he124 := (hE120 11 11 (by omega) (by omega)).trans he103
            show yi_D zi_Ms d zi_m261 k (118, [(4, .inl (yi_w (L 16 a))), (3, .inl (-1)), (2, .inl (K a)), (0, .inr (.inr (some 11))), (1, .inl (dp : Int))], [], (I119, L92, R, Y), 0, 0) _
            refine yi_D_run 1 (155, [(4, .inl (yi_w (L 16 a))), (3, .inl (-1)), (2, .inl (K a)), (0, .inr (.inr (some 11))), (1, .inl (dp : Int))], [], (I119, L92, R, Y), 0, 0) (fun _ => rfl) ?_
            refine yi_D_retv rfl ?_
            exact ⟨_, _, rfl, hF122, Or.inr ⟨_, hx118, hz102, he124⟩⟩
        · refine yi_D_if2 false rfl (yi_lt_f h79) ?_
          refine yi_D_run 2 (68, [(3, .inl (-1)), (2, .inl (K a)), (0, .inr (.inr (some 11))), (1, .inl (dp : Int))], [.inl 5, .inr (.inr (some 11))], (I, L, R, Y), 0, 0) (fun _ => rfl) ?_
          refine yi_D_callv rfl (p_wrong_z ⟨by omega, by omega⟩ hW hf hA) ?_
          rintro _ ⟨I125, rfl, hg126, he127⟩
          have hGw128 : cs_G I L I125 L := ⟨fun p k hp => hg126 p k (by omega), fun _ _ _ => rfl⟩
          have hW129 := cs_W_t hW (cs_G_F hGw128)
          have hF130 := (cs_G_F hGw128)
          have hG131 := hGw128
          have hz132 : ¬ sp_f P a 5 = 0 := sp_f_ne hW hA.2.1 (by omega)
          have hn133 : ¬ I125 11 11 = 0 := by rw [he127]; exact hz132
          have hx134 : sp_R K P V (12, a, dp, sk, ld, nm, cs) (.inr (sp_f P a 5)) := sp_R_1 (by
            show sp_part K P V a dp sk ld nm cs = _
            first
            | (exfalso; omega)
            | (unfold sp_part; repeat (first | rw [if_pos (by omega)] | rw [if_neg (by omega)])))
          show yi_D zi_Ms d zi_m261 k (71, [(3, .inl (-1)), (2, .inl (K a)), (0, .inr (.inr (some 11))), (1, .inl (dp : Int))], [], (I125, L, R, Y), 0, 0) _
          refine yi_D_run 1 (72, [(3, .inl (-1)), (2, .inl (K a)), (0, .inr (.inr (some 11))), (1, .inl (dp : Int))], [.inr (.inr (some 11))], (I125, L, R, Y), 0, 0) (fun _ => rfl) ?_
          refine yi_D_gi (v := I125 11 11) rfl rfl rfl rfl (fun _ => ?_)
          have h135 : ¬ ((I125 11 11) = 0) := by omega
          refine yi_D_if1 false rfl (yi_eq_f h135) ?_
          refine yi_D_retv rfl ?_
          exact ⟨_, _, rfl, hF130, Or.inr ⟨_, hx134, hz132, he127⟩⟩
      · refine yi_D_if2 false rfl (yi_eq_f h78) ?_
        refine yi_D_run 2 (45, [(3, .inl (-1)), (2, .inl (K a)), (0, .inr (.inr (some 11))), (1, .inl (dp : Int))], [.inl 40, .inl (K a)], (I, L, R, Y), 0, 0) (fun _ => rfl) ?_
        by_cases h136 : (K a) = 40
        · refine yi_D_if2 true rfl (yi_eq_t h136) ?_
          refine yi_D_run 2 (63, [(3, .inl (-1)), (2, .inl (K a)), (0, .inr (.inr (some 11))), (1, .inl (dp : Int))], [.inl 5, .inl (dp : Int)], (I, L, R, Y), 0, 0) (fun _ => rfl) ?_
          by_cases h137 : (dp : Int) < 5
          · refine yi_D_if2 true rfl (yi_lt_t h137) ?_
            refine yi_D_run 1 (72, [(3, .inl (-1)), (2, .inl (K a)), (0, .inr (.inr (some 11))), (1, .inl (dp : Int))], [.inr (.inr (some 11))], (I, L, R, Y), 0, 0) (fun _ => rfl) ?_
            refine yi_D_gi (v := 0) rfl rfl rfl hf (fun _ => ?_)
            refine yi_D_if1 true rfl (by decide) ?_
            refine yi_D_run 2 (81, [(3, .inl (-1)), (2, .inl (K a)), (0, .inr (.inr (some 11))), (1, .inl (dp : Int))], [.inl 3, .inl (K a)], (I, L, R, Y), 0, 0) (fun _ => rfl) ?_
            have h138 : ¬ ((K a) = 3) := by omega
            refine yi_D_if2 true rfl (yi_ne_t h138) ?_
            refine yi_D_run 1 (89, [(3, .inl (-1)), (2, .inl (K a)), (0, .inr (.inr (some 11))), (1, .inl (dp : Int))], [.inr (.inr (some 11))], (I, L, R, Y), 0, 0) (fun _ => rfl) ?_
            refine yi_D_gl (v := L 16 a) rfl rfl rfl hA.2.2.2 (fun _ => ?_)
            refine yi_D_run 3 (96, [(4, .inl (yi_w (L 16 a))), (3, .inl (-1)), (2, .inl (K a)), (0, .inr (.inr (some 11))), (1, .inl (dp : Int))], [.inr (.inr (some 11))], (I, L, R, Y), 0, 0) (fun _ => rfl) ?_
            refine yi_D_callv rfl (p_advance_z hW hf hA) ?_
            rintro _ ⟨I139, L140, rfl, hGa141, hf142, hA143⟩
            rw [sp_nx_lt (cs_lt hW.2.1 hA.2.1 (by omega))] at hA143
            have hA143 : cs_A I139 L140 K te (a + 1) := hA143
            have hW144 := cs_W_t hW (cs_G_F hGa141)
            have hF145 := (cs_G_F hGa141)
            have hG146 := hGa141
            show yi_D zi_Ms d zi_m261 k (99, [(4, .inl (yi_w (L 16 a))), (3, .inl (-1)), (2, .inl (K a)), (0, .inr (.inr (some 11))), (1, .inl (dp : Int))], [], (I139, L140, R, Y), 0, 0) _
            refine yi_D_run 2 (102, [(4, .inl (yi_w (L 16 a))), (3, .inl (-1)), (2, .inl (K a)), (0, .inr (.inr (some 11))), (1, .inl (dp : Int))], [.inl 30, .inl (K a)], (I139, L140, R, Y), 0, 0) (fun _ => rfl) ?_
            have h147 : ¬ ((K a) = 30) := by omega
            refine yi_D_if2 true rfl (yi_ne_t h147) ?_
            refine yi_D_run 2 (124, [(4, .inl (yi_w (L 16 a))), (3, .inl (-1)), (2, .inl (K a)), (0, .inr (.inr (some 11))), (1, .inl (dp : Int))], [.inl 40, .inl (K a)], (I139, L140, R, Y), 0, 0) (fun _ => rfl) ?_
            have h148 : (K a) = 40 := by omega
            refine yi_D_if2 false rfl (yi_ne_f h148) ?_
            refine yi_D_run 4 (131, [(4, .inl (yi_w (L 16 a))), (3, .inl (-1)), (2, .inl (K a)), (0, .inr (.inr (some 11))), (1, .inl (dp : Int))], [.inl 1, .inl (dp : Int), .inl 0, .inr (.inr (some 11))], (I139, L140, R, Y), 0, 0) (fun _ => rfl) ?_
            refine yi_D_iadd rfl ((dp : Int) + 1) (yi_wn (by omega) (by omega)) ?_
            have hst149 : sp_R K P V (12, a, dp, sk, ld, nm, cs) (.inl (8, a + 1, dp + 1, 6 :: sk, ld, nm, cs)) := sp_R_1 (by
              show sp_part K P V a dp sk ld nm cs = _
              unfold sp_part
              repeat (first | rw [if_pos (by omega)] | rw [if_neg (by omega)]))
            refine yi_D_callv rfl (hRE (dp + 1) (6 :: sk) cs hW144 hf142 hA143 (by omega)) ?_
            rintro _ ⟨I150, L151, rfl, hFr152, (⟨a153, cs154, hR155, lt156, hf157, hA158⟩ | ⟨f159, hR160, hz161, he162⟩)⟩
            · have hW163 := cs_W_t hW144 hFr152
              have hF164 := cs_F_t hF145 hFr152
              have hF165 : ∀ p k, (p ≠ 11 ∧ p ≠ 19) → I150 p k = I139 p k := fun p k h => hFr152.1 p k h.1 h.2
              have hR166 := sp_R_t hst149 hR155
              show yi_D zi_Ms d zi_m261 k (135, [(4, .inl (yi_w (L 16 a))), (3, .inl (-1)), (2, .inl (K a)), (0, .inr (.inr (some 11))), (1, .inl (dp : Int))], [], (I150, L151, R, Y), 0, 0) _
              refine yi_D_run 2 (138, [(4, .inl (yi_w (L 16 a))), (3, .inl (-1)), (2, .inl (K a)), (0, .inr (.inr (some 11))), (1, .inl (dp : Int))], [.inl 41, .inr (.inr (some 11))], (I150, L151, R, Y), 0, 0) (fun _ => rfl) ?_
              refine yi_D_callv rfl (p_takeKind_z (by omega) hW163 hf157 hA158) ?_
              rintro _ (⟨c167, I168, L169, rfl, hGa170, hf171, hA172⟩ | ⟨c173, I174, L175, rfl, hGa176, he177⟩)
              · have hA172 : cs_A I168 L169 K te (a153 + 1) := hA172
                have hW178 := cs_W_t hW163 (cs_G_F hGa170)
                have hF179 := cs_F_t hF164 (cs_G_F hGa170)
                have hR180 : sp_R K P V (12, a, dp, sk, ld, nm, cs) (.inl (13, a153 + 1, dp, sk, ld, nm, cs154)) := sp_R_s hR166 (by
                  show (if K _ = 41 then _ else _) = _
                  rw [if_pos (by omega)]
                  rfl)
                show yi_D zi_Ms d zi_m261 k (141, [(4, .inl (yi_w (L 16 a))), (3, .inl (-1)), (2, .inl (K a)), (0, .inr (.inr (some 11))), (1, .inl (dp : Int))], [], (I168, L169, R, Y), 0, 0) _
                refine yi_D_run 1 (155, [(4, .inl (yi_w (L 16 a))), (3, .inl (-1)), (2, .inl (K a)), (0, .inr (.inr (some 11))), (1, .inl (dp : Int))], [], (I168, L169, R, Y), 0, 0) (fun _ => rfl) ?_
                refine yi_D_retv rfl ?_
                exact ⟨_, _, rfl, hF179, Or.inl ⟨_, _, hR180, by omega, hf171, hA172⟩⟩
              · have hW181 := cs_W_t hW163 (cs_G_F hGa176)
                have hF182 := cs_F_t hF164 (cs_G_F hGa176)
                have hz183 : ¬ sp_f P a153 1 = 0 := sp_f_ne hW163 hA158.2.1 (by omega)
                have hn184 : ¬ I174 11 11 = 0 := by rw [he177]; exact hz183
                have hx185 : sp_R K P V (12, a, dp, sk, ld, nm, cs) (.inr (sp_f P a153 1)) := sp_R_s hR166 (by
                  show (if K _ = _ then _ else _) = _
                  rw [if_neg (by omega)])
                show yi_D zi_Ms d zi_m261 k (141, [(4, .inl (yi_w (L 16 a))), (3, .inl (-1)), (2, .inl (K a)), (0, .inr (.inr (some 11))), (1, .inl (dp : Int))], [], (I174, L175, R, Y), 0, 0) _
                refine yi_D_run 1 (155, [(4, .inl (yi_w (L 16 a))), (3, .inl (-1)), (2, .inl (K a)), (0, .inr (.inr (some 11))), (1, .inl (dp : Int))], [], (I174, L175, R, Y), 0, 0) (fun _ => rfl) ?_
                refine yi_D_retv rfl ?_
                exact ⟨_, _, rfl, hF182, Or.inr ⟨_, hx185, hz183, he177⟩⟩
            · have hW186 := cs_W_t hW144 hFr152
              have hF187 := cs_F_t hF145 hFr152
              have hF188 : ∀ p k, (p ≠ 11 ∧ p ≠ 19) → I150 p k = I139 p k := fun p k h => hFr152.1 p k h.1 h.2
              have hn189 : ¬ I150 11 11 = 0 := by rw [he162]; exact hz161
              have hx190 : sp_R K P V (12, a, dp, sk, ld, nm, cs) (.inr f159) := sp_R_t hst149 hR160
              show yi_D zi_Ms d zi_m261 k (135, [(4, .inl (yi_w (L 16 a))), (3, .inl (-1)), (2, .inl (K a)), (0, .inr (.inr (some 11))), (1, .inl (dp : Int))], [], (I150, L151, R, Y), 0, 0) _
              refine yi_D_run 2 (138, [(4, .inl (yi_w (L 16 a))), (3, .inl (-1)), (2, .inl (K a)), (0, .inr (.inr (some 11))), (1, .inl (dp : Int))], [.inl 41, .inr (.inr (some 11))], (I150, L151, R, Y), 0, 0) (fun _ => rfl) ?_
              refine yi_D_callv rfl (p_takeKind_f hW186 hn189) ?_
              rintro _ rfl
              show yi_D zi_Ms d zi_m261 k (141, [(4, .inl (yi_w (L 16 a))), (3, .inl (-1)), (2, .inl (K a)), (0, .inr (.inr (some 11))), (1, .inl (dp : Int))], [], (I150, L151, R, Y), 0, 0) _
              refine yi_D_run 1 (155, [(4, .inl (yi_w (L 16 a))), (3, .inl (-1)), (2, .inl (K a)), (0, .inr (.inr (some 11))), (1, .inl (dp : Int))], [], (I150, L151, R, Y), 0, 0) (fun _ => rfl) ?_
              refine yi_D_retv rfl ?_
              exact ⟨_, _, rfl, hF187, Or.inr ⟨_, hx190, hz161, he162⟩⟩
          · refine yi_D_if2 false rfl (yi_lt_f h137) ?_
            refine yi_D_run 2 (68, [(3, .inl (-1)), (2, .inl (K a)), (0, .inr (.inr (some 11))), (1, .inl (dp : Int))], [.inl 5, .inr (.inr (some 11))], (I, L, R, Y), 0, 0) (fun _ => rfl) ?_
            refine yi_D_callv rfl (p_wrong_z ⟨by omega, by omega⟩ hW hf hA) ?_
            rintro _ ⟨I191, rfl, hg192, he193⟩
            have hGw194 : cs_G I L I191 L := ⟨fun p k hp => hg192 p k (by omega), fun _ _ _ => rfl⟩
            have hW195 := cs_W_t hW (cs_G_F hGw194)
            have hF196 := (cs_G_F hGw194)
            have hG197 := hGw194
            have hz198 : ¬ sp_f P a 5 = 0 := sp_f_ne hW hA.2.1 (by omega)
            have hn199 : ¬ I191 11 11 = 0 := by rw [he193]; exact hz198
            have hx200 : sp_R K P V (12, a, dp, sk, ld, nm, cs) (.inr (sp_f P a 5)) := sp_R_1 (by
              show sp_part K P V a dp sk ld nm cs = _
              first
              | (exfalso; omega)
              | (unfold sp_part; repeat (first | rw [if_pos (by omega)] | rw [if_neg (by omega)])))
            show yi_D zi_Ms d zi_m261 k (71, [(3, .inl (-1)), (2, .inl (K a)), (0, .inr (.inr (some 11))), (1, .inl (dp : Int))], [], (I191, L, R, Y), 0, 0) _
            refine yi_D_run 1 (72, [(3, .inl (-1)), (2, .inl (K a)), (0, .inr (.inr (some 11))), (1, .inl (dp : Int))], [.inr (.inr (some 11))], (I191, L, R, Y), 0, 0) (fun _ => rfl) ?_
            refine yi_D_gi (v := I191 11 11) rfl rfl rfl rfl (fun _ => ?_)
            have h201 : ¬ ((I191 11 11) = 0) := by omega
            refine yi_D_if1 false rfl (yi_eq_f h201) ?_
            refine yi_D_retv rfl ?_
            exact ⟨_, _, rfl, hF196, Or.inr ⟨_, hx200, hz198, he193⟩⟩
        · refine yi_D_if2 false rfl (yi_eq_f h136) ?_
          refine yi_D_run 2 (50, [(3, .inl (-1)), (2, .inl (K a)), (0, .inr (.inr (some 11))), (1, .inl (dp : Int))], [.inl (-1), .inl (-1)], (I, L, R, Y), 0, 0) (fun _ => rfl) ?_
          refine yi_D_if2 false rfl (by decide) ?_
          refine yi_D_run 2 (55, [(3, .inl (-1)), (2, .inl (K a)), (0, .inr (.inr (some 11))), (1, .inl (dp : Int))], [.inl 1, .inr (.inr (some 11))], (I, L, R, Y), 0, 0) (fun _ => rfl) ?_
          refine yi_D_callv rfl (p_wrong_z ⟨by omega, by omega⟩ hW hf hA) ?_
          rintro _ ⟨I202, rfl, hg203, he204⟩
          have hGw205 : cs_G I L I202 L := ⟨fun p k hp => hg203 p k (by omega), fun _ _ _ => rfl⟩
          have hW206 := cs_W_t hW (cs_G_F hGw205)
          have hF207 := (cs_G_F hGw205)
          have hG208 := hGw205
          have hz209 : ¬ sp_f P a 1 = 0 := sp_f_ne hW hA.2.1 (by omega)
          have hn210 : ¬ I202 11 11 = 0 := by rw [he204]; exact hz209
          have hx211 : sp_R K P V (12, a, dp, sk, ld, nm, cs) (.inr (sp_f P a 1)) := sp_R_1 (by
            show sp_part K P V a dp sk ld nm cs = _
            first
            | (exfalso; omega)
            | (unfold sp_part; repeat (first | rw [if_pos (by omega)] | rw [if_neg (by omega)])))
          show yi_D zi_Ms d zi_m261 k (58, [(3, .inl (-1)), (2, .inl (K a)), (0, .inr (.inr (some 11))), (1, .inl (dp : Int))], [], (I202, L, R, Y), 0, 0) _
          refine yi_D_run 2 (72, [(3, .inl (-1)), (2, .inl (K a)), (0, .inr (.inr (some 11))), (1, .inl (dp : Int))], [.inr (.inr (some 11))], (I202, L, R, Y), 0, 0) (fun _ => rfl) ?_
          refine yi_D_gi (v := I202 11 11) rfl rfl rfl rfl (fun _ => ?_)
          have h212 : ¬ ((I202 11 11) = 0) := by omega
          refine yi_D_if1 false rfl (yi_eq_f h212) ?_
          refine yi_D_retv rfl ?_
          exact ⟨_, _, rfl, hF207, Or.inr ⟨_, hx211, hz209, he204⟩⟩
theorem p_readExpression_s0 {d : Nat} {I L : Nat → Nat → Int} {R : Nat → Nat → Option Nat} {Y : (Nat → Nat) × (Nat → Nat) × Nat} (hRE : cs_RE d 1) {K P V : Nat → Int} {te q a : Nat} {ld : Nat → Int} {nm : Int → Int} (hW : cs_W I L R Y K P V te q ld nm) (hf : I 11 11 = 0) (hA : cs_A I L K te a) (dp : Nat) (sk : List Nat) (cs : List (Int × Int)) (hd : dp ≤ 5) : yi_P zi_Ms (d + 1) 255 [.inr (.inr (some 11)), .inl 0, .inl (dp : Int)] (I, L, R, Y) (cs_QR I L R Y K P V te (8, a, dp, sk, ld, nm, cs) 13 a dp sk ld nm) := by
  refine yi_P_s (M := zi_m255) rfl (fun k => ?_)
  have jn89f : ∀ (y5 : Int) (y4 : Int) (y3 : Int) (J G : Nat → Nat → Int) (f : Int), cs_F I L J G → J 11 11 = f → ¬ f = 0 → sp_R K P V (8, a, dp, sk, ld, nm, cs) (.inr f) → yi_D zi_Ms d zi_m255 k (89, [(5, .inl y5), (4, .inl y4), (3, .inl y3), (0, .inr (.inr (some 11))), (1, .inl 0), (2, .inl (dp : Int))], [], (J, G, R, Y), 0, 0) (cs_QR I L R Y K P V te (8, a, dp, sk, ld, nm, cs) 13 a dp sk ld nm) := by
    intro y5 y4 y3 J G f jF je jn jsp 
    have jW := cs_W_t hW jF
    have jf : ¬ J 11 11 = 0 := by rw [je]; exact jn
    have jF1 : ∀ p k, (p ≠ 11 ∧ p ≠ 19) → J p k = I p k := fun p k h => jF.1 p k h.1 h.2
    have jF2 := jF.2
    refine yi_D_retv rfl ?_
    exact ⟨_, _, rfl, jF, Or.inr ⟨_, jsp, jn, je⟩⟩
  have jn35f : ∀ (y5 : Int) (y4 : Int) (y3 : Int) (J G : Nat → Nat → Int) (f : Int), cs_F I L J G → J 11 11 = f → ¬ f = 0 → sp_R K P V (8, a, dp, sk, ld, nm, cs) (.inr f) → yi_D zi_Ms d zi_m255 k (35, [(5, .inl y5), (4, .inl y4), (3, .inl y3), (0, .inr (.inr (some 11))), (1, .inl 0), (2, .inl (dp : Int))], [], (J, G, R, Y), 0, 0) (cs_QR I L R Y K P V te (8, a, dp, sk, ld, nm, cs) 13 a dp sk ld nm) := by
    intro y5 y4 y3 J G f jF je jn jsp 
    have jW := cs_W_t hW jF
    have jf : ¬ J 11 11 = 0 := by rw [je]; exact jn
    have jF1 : ∀ p k, (p ≠ 11 ∧ p ≠ 19) → J p k = I p k := fun p k h => jF.1 p k h.1 h.2
    have jF2 := jF.2
    refine yi_D_run 2 (38, [(5, .inl y5), (4, .inl y4), (3, .inl y3), (0, .inr (.inr (some 11))), (1, .inl 0), (2, .inl (dp : Int))], [.inl y3, .inl y4], (J, G, R, Y), 0, 0) (fun _ => rfl) ?_
    by_cases h1 : y3 ≤ y4
    · refine yi_D_if2 true rfl (yi_ge_t h1) ?_
      exact yi_D_mono (jn89f y5 y4 y3 _ _ _ jF je jn jsp ) (by omega)
    · refine yi_D_if2 false rfl (yi_ge_f h1) ?_
      refine yi_D_run 1 (42, [(5, .inl y5), (4, .inl y4), (3, .inl y3), (0, .inr (.inr (some 11))), (1, .inl 0), (2, .inl (dp : Int))], [.inr (.inr (some 11))], (J, G, R, Y), 0, 0) (fun _ => rfl) ?_
      refine yi_D_gi (v := J 11 11) rfl rfl rfl rfl (fun _ => ?_)
      have h2 : ¬ ((J 11 11) = 0) := by omega
      refine yi_D_if1 true rfl (yi_ne_t h2) ?_
      exact yi_D_mono (jn89f y5 y4 y3 _ _ _ jF je jn jsp ) (by omega)
  show yi_D zi_Ms d zi_m255 k (0, [(0, .inr (.inr (some 11))), (1, .inl 0), (2, .inl (dp : Int))], [], (I, L, R, Y), 0, 0) _
  refine yi_D_run 2 (2, [(0, .inr (.inr (some 11))), (1, .inl 0), (2, .inl (dp : Int))], [.inl 4, .inl 0], (I, L, R, Y), 0, 0) (fun _ => rfl) ?_
  refine yi_D_if2 true rfl (by decide) ?_
  refine yi_D_run 3 (14, [(0, .inr (.inr (some 11))), (1, .inl 0), (2, .inl (dp : Int))], [.inl 1, .inl 0, .inr (.inr (some 11))], (I, L, R, Y), 0, 0) (fun _ => rfl) ?_
  refine yi_D_iadd rfl (1) (by decide) ?_
  refine yi_D_run 1 (16, [(0, .inr (.inr (some 11))), (1, .inl 0), (2, .inl (dp : Int))], [.inl (dp : Int), .inl 1, .inr (.inr (some 11))], (I, L, R, Y), 0, 0) (fun _ => rfl) ?_
  have hst3 : sp_R K P V (8, a, dp, sk, ld, nm, cs) (.inl (9, a, dp, 30 :: sk, ld, nm, cs)) := sp_R_1 rfl
  refine yi_D_callv rfl (hRE dp (30 :: sk) cs hW hf hA (by omega)) ?_
  rintro _ ⟨I4, L5, rfl, hFr6, (⟨a7, cs8, hR9, lt10, hf11, hA12⟩ | ⟨f13, hR14, hz15, he16⟩)⟩
  · have hW17 := cs_W_t hW hFr6
    have hF18 := hFr6
    have hF19 : ∀ p k, (p ≠ 11 ∧ p ≠ 19) → I4 p k = I p k := fun p k h => hFr6.1 p k h.1 h.2
    have hR20 := sp_R_t hst3 hR9
    show yi_D zi_Ms d zi_m255 k (19, [(0, .inr (.inr (some 11))), (1, .inl 0), (2, .inl (dp : Int))], [], (I4, L5, R, Y), 0, 0) _
    refine yi_D_run 2 (21, [(0, .inr (.inr (some 11))), (1, .inl 0), (2, .inl (dp : Int))], [.inl 1, .inl 0], (I4, L5, R, Y), 0, 0) (fun _ => rfl) ?_
    refine yi_D_if2 true rfl (by decide) ?_
    refine yi_D_run 4 (35, [(4, .inl 0), (3, .inl 1000), (0, .inr (.inr (some 11))), (1, .inl 0), (2, .inl (dp : Int))], [], (I4, L5, R, Y), 0, 0) (fun _ => rfl) ?_
    have pt35 : ∀ j35, j35 ≤ k → ∀ (y4 : Int) (y5 : Int) (J1 : Nat → Nat → Int) (G1 : Nat → Nat → Int) (a1 : Nat) (cs1 : List (Int × Int)), (0 ≤ y4 ∧ 2 * y4 < (a1 : Int)) → (a < a1) → (cs_F I L J1 G1) → (J1 11 11 = 0) → (cs_A J1 G1 K te a1) → (sp_R K P V (8, a, dp, sk, ld, nm, cs) (.inl (13, a1, dp, 30 :: sk, ld, nm, cs1))) → yi_D zi_Ms d zi_m255 j35 (35, [(4, .inl y4), (3, .inl 1000), (0, .inr (.inr (some 11))), (1, .inl 0), (2, .inl (dp : Int)), (5, .inl y5)], [], (J1, G1, R, Y), 0, 0) (cs_QR I L R Y K P V te (8, a, dp, sk, ld, nm, cs) 13 a dp sk ld nm) := by
      intro j35
      induction j35 with
      | zero => intros; exact yi_D_0
      | succ j35 ih35 =>
      intro hk35 y4 y5 J1 G1 a1 cs1 hn9 lt9 hF9 hf9 hA9 hR9
      have hW9 := cs_W_t hW hF9
      have hF91 : ∀ p k, (p ≠ 11 ∧ p ≠ 19) → J1 p k = I p k := fun p k h => hF9.1 p k h.1 h.2
      have hle9 := hA9.2.1
      have hte9 := hW.2.1.1
      refine yi_D_run1 1 (38, [(4, .inl y4), (3, .inl 1000), (0, .inr (.inr (some 11))), (1, .inl 0), (2, .inl (dp : Int)), (5, .inl y5)], [.inl 1000, .inl y4], (J1, G1, R, Y), 0, 0) (fun _ => rfl) ?_
      have h21 : ¬ (1000 ≤ y4) := by omega
      refine yi_D_if2 false rfl (yi_ge_f h21) ?_
      refine yi_D_run 1 (42, [(4, .inl y4), (3, .inl 1000), (0, .inr (.inr (some 11))), (1, .inl 0), (2, .inl (dp : Int)), (5, .inl y5)], [.inr (.inr (some 11))], (J1, G1, R, Y), 0, 0) (fun _ => rfl) ?_
      refine yi_D_gi (v := 0) rfl rfl rfl hf9 (fun _ => ?_)
      refine yi_D_if1 false rfl (by decide) ?_
      refine yi_D_run 1 (49, [(4, .inl y4), (3, .inl 1000), (0, .inr (.inr (some 11))), (1, .inl 0), (2, .inl (dp : Int)), (5, .inl y5)], [.inr (.inr (some 11))], (J1, G1, R, Y), 0, 0) (fun _ => rfl) ?_
      refine yi_D_gi (v := K a1) rfl rfl rfl hA9.2.2.1 (fun _ => ?_)
      refine yi_D_calls rfl (p_levelOf) ?_
      rintro _ rfl
      show yi_D zi_Ms d zi_m255 j35 (55, [(4, .inl y4), (3, .inl 1000), (0, .inr (.inr (some 11))), (1, .inl 0), (2, .inl (dp : Int)), (5, .inl y5)], [.inl (sp_lv (K a1))], (J1, G1, R, Y), 0, 0) _
      refine yi_D_run 1 (56, [(4, .inl y4), (3, .inl 1000), (0, .inr (.inr (some 11))), (1, .inl 0), (2, .inl (dp : Int)), (5, .inl y5)], [.inl 0, .inl (sp_lv (K a1))], (J1, G1, R, Y), 0, 0) (fun _ => rfl) ?_
      have hlva1 := sp_lv_i (k := K a1) (l := 0) (by omega)
      have hlna1 := sp_lev_n (k := K a1)
      by_cases h22 : (sp_lv (K a1)) = 0
      · refine yi_D_if2 false rfl (yi_ne_f h22) ?_
        refine yi_D_run 1 (60, [(4, .inl y4), (3, .inl 1000), (0, .inr (.inr (some 11))), (1, .inl 0), (2, .inl (dp : Int)), (5, .inl y5)], [.inr (.inr (some 11))], (J1, G1, R, Y), 0, 0) (fun _ => rfl) ?_
        refine yi_D_gi (v := K a1) rfl rfl rfl hA9.2.2.1 (fun _ => ?_)
        refine yi_D_run 2 (66, [(5, .inl (K a1)), (4, .inl y4), (3, .inl 1000), (0, .inr (.inr (some 11))), (1, .inl 0), (2, .inl (dp : Int))], [.inr (.inr (some 11))], (J1, G1, R, Y), 0, 0) (fun _ => rfl) ?_
        refine yi_D_callv rfl (p_advance_z hW9 hf9 hA9) ?_
        rintro _ ⟨I23, L24, rfl, hGa25, hf26, hA27⟩
        rw [sp_nx_lt (cs_lt hW9.2.1 hA9.2.1 (by omega))] at hA27
        have hA27 : cs_A I23 L24 K te (a1 + 1) := hA27
        have hW28 := cs_W_t hW9 (cs_G_F hGa25)
        have hF29 := cs_F_t hF9 (cs_G_F hGa25)
        show yi_D zi_Ms d zi_m255 j35 (69, [(5, .inl (K a1)), (4, .inl y4), (3, .inl 1000), (0, .inr (.inr (some 11))), (1, .inl 0), (2, .inl (dp : Int))], [], (I23, L24, R, Y), 0, 0) _
        refine yi_D_run 3 (72, [(5, .inl (K a1)), (4, .inl y4), (3, .inl 1000), (0, .inr (.inr (some 11))), (1, .inl 0), (2, .inl (dp : Int))], [.inl 1, .inl 0, .inr (.inr (some 11))], (I23, L24, R, Y), 0, 0) (fun _ => rfl) ?_
        refine yi_D_iadd rfl (1) (by decide) ?_
        refine yi_D_run 1 (74, [(5, .inl (K a1)), (4, .inl y4), (3, .inl 1000), (0, .inr (.inr (some 11))), (1, .inl 0), (2, .inl (dp : Int))], [.inl (dp : Int), .inl 1, .inr (.inr (some 11))], (I23, L24, R, Y), 0, 0) (fun _ => rfl) ?_
        have hst30 : sp_R K P V (8, a, dp, sk, ld, nm, cs) (.inl (9, a1 + 1, dp, (100 + 8 * (K a1).toNat + 0) :: sk, ld, nm, cs1)) := sp_R_s hR9 ((sp_st13 (l := 0) (by omega)).trans (if_pos (by omega)))
        refine yi_D_callv rfl (hRE dp ((100 + 8 * (K a1).toNat + 0) :: sk) cs1 hW28 hf26 hA27 (by omega)) ?_
        rintro _ ⟨I31, L32, rfl, hFr33, (⟨a34, cs35, hR36, lt37, hf38, hA39⟩ | ⟨f40, hR41, hz42, he43⟩)⟩
        · have hW44 := cs_W_t hW28 hFr33
          have hF45 := cs_F_t hF29 hFr33
          have hF46 : ∀ p k, (p ≠ 11 ∧ p ≠ 19) → I31 p k = I23 p k := fun p k h => hFr33.1 p k h.1 h.2
          have hR47 := sp_R_s (sp_R_t hst30 hR36) (sp_st13b (l := 0) (by omega) (by omega))
          show yi_D zi_Ms d zi_m255 j35 (77, [(5, .inl (K a1)), (4, .inl y4), (3, .inl 1000), (0, .inr (.inr (some 11))), (1, .inl 0), (2, .inl (dp : Int))], [], (I31, L32, R, Y), 0, 0) _
          refine yi_D_run 2 (80, [(5, .inl (K a1)), (4, .inl y4), (3, .inl 1000), (0, .inr (.inr (some 11))), (1, .inl 0), (2, .inl (dp : Int))], [.inl (K a1), .inr (.inr (some 11))], (I31, L32, R, Y), 0, 0) (fun _ => rfl) ?_
          refine yi_D_callv rfl (p_emit hW44) ?_
          rintro _ ⟨I48, rfl, hE49⟩
          have hW50 := cs_W_t hW44 (cs_E_F (L := L32) hE49)
          have hF51 := cs_F_t hF45 (cs_E_F hE49)
          have hf52 : I48 11 11 = 0 := (hE49 11 11 (by omega) (by omega)).trans hf38
          have hA53 := cs_A_e hA39 hE49
          show yi_D zi_Ms d zi_m255 j35 (83, [(5, .inl (K a1)), (4, .inl y4), (3, .inl 1000), (0, .inr (.inr (some 11))), (1, .inl 0), (2, .inl (dp : Int))], [], (I48, L32, R, Y), 0, 0) _
          refine yi_D_iinc [(4, .inl (y4 + 1)), (5, .inl (K a1)), (3, .inl 1000), (0, .inr (.inr (some 11))), (1, .inl 0), (2, .inl (dp : Int))] rfl rfl rfl (by rw [show yi_w (y4 + 1) = y4 + 1 from (yi_wn (by omega) (by omega)).trans (by omega)]; rfl) ?_
          refine yi_D_run 1 (35, [(4, .inl (y4 + 1)), (5, .inl (K a1)), (3, .inl 1000), (0, .inr (.inr (some 11))), (1, .inl 0), (2, .inl (dp : Int))], [], (I48, L32, R, Y), 0, 0) (fun _ => rfl) ?_
          refine yi_D_al (al := [(4, .inl (y4 + 1)), (3, .inl 1000), (0, .inr (.inr (some 11))), (1, .inl 0), (2, .inl (dp : Int)), (5, .inl (K a1))]) (show ([4, 3, 0, 1, 2, 5] : List Nat).Nodup by decide) (show ([4, 5, 3, 0, 1, 2] : List Nat).Nodup by decide) (yi_mc (List.mem_of_getElem? (i := 0) rfl) (yi_mc (List.mem_of_getElem? (i := 5) rfl) (yi_mc (List.mem_of_getElem? (i := 1) rfl) (yi_mc (List.mem_of_getElem? (i := 2) rfl) (yi_mc (List.mem_of_getElem? (i := 3) rfl) (yi_mc (List.mem_of_getElem? (i := 4) rfl) yi_mn)))))) ?_
          exact yi_D_mono (ih35 (by omega) (y4 + 1) (K a1) I48 L32 a34 (cs35 ++ [(sp_sg (K a1).toNat, 0)]) (by omega) (by omega) hF51 hf52 hA53 hR47) (by omega)
        · have hW54 := cs_W_t hW28 hFr33
          have hF55 := cs_F_t hF29 hFr33
          have hF56 : ∀ p k, (p ≠ 11 ∧ p ≠ 19) → I31 p k = I23 p k := fun p k h => hFr33.1 p k h.1 h.2
          have hn57 : ¬ I31 11 11 = 0 := by rw [he43]; exact hz42
          have hx58 : sp_R K P V (8, a, dp, sk, ld, nm, cs) (.inr f40) := sp_R_t hst30 hR41
          show yi_D zi_Ms d zi_m255 j35 (77, [(5, .inl (K a1)), (4, .inl y4), (3, .inl 1000), (0, .inr (.inr (some 11))), (1, .inl 0), (2, .inl (dp : Int))], [], (I31, L32, R, Y), 0, 0) _
          refine yi_D_run 2 (80, [(5, .inl (K a1)), (4, .inl y4), (3, .inl 1000), (0, .inr (.inr (some 11))), (1, .inl 0), (2, .inl (dp : Int))], [.inl (K a1), .inr (.inr (some 11))], (I31, L32, R, Y), 0, 0) (fun _ => rfl) ?_
          refine yi_D_callv rfl (p_emit hW54) ?_
          rintro _ ⟨I59, rfl, hE60⟩
          have hW61 := cs_W_t hW54 (cs_E_F (L := L32) hE60)
          have hF62 := cs_F_t hF55 (cs_E_F hE60)
          have hf63 : ¬ I59 11 11 = 0 := by rw [hE60 11 11 (by omega) (by omega)]; exact hn57
          have he64 := (hE60 11 11 (by omega) (by omega)).trans he43
          show yi_D zi_Ms d zi_m255 j35 (83, [(5, .inl (K a1)), (4, .inl y4), (3, .inl 1000), (0, .inr (.inr (some 11))), (1, .inl 0), (2, .inl (dp : Int))], [], (I59, L32, R, Y), 0, 0) _
          refine yi_D_iinc [(4, .inl (yi_w (y4 + 1))), (5, .inl (K a1)), (3, .inl 1000), (0, .inr (.inr (some 11))), (1, .inl 0), (2, .inl (dp : Int))] rfl rfl rfl rfl ?_
          refine yi_D_run 1 (35, [(4, .inl (yi_w (y4 + 1))), (5, .inl (K a1)), (3, .inl 1000), (0, .inr (.inr (some 11))), (1, .inl 0), (2, .inl (dp : Int))], [], (I59, L32, R, Y), 0, 0) (fun _ => rfl) ?_
          refine yi_D_al (al := [(5, .inl (K a1)), (4, .inl (yi_w (y4 + 1))), (3, .inl 1000), (0, .inr (.inr (some 11))), (1, .inl 0), (2, .inl (dp : Int))]) (show ([5, 4, 3, 0, 1, 2] : List Nat).Nodup by decide) (show ([4, 5, 3, 0, 1, 2] : List Nat).Nodup by decide) (yi_mc (List.mem_of_getElem? (i := 1) rfl) (yi_mc (List.mem_of_getElem? (i := 0) rfl) (yi_mc (List.mem_of_getElem? (i := 2) rfl) (yi_mc (List.mem_of_getElem? (i := 3) rfl) (yi_mc (List.mem_of_getElem? (i := 4) rfl) (yi_mc (List.mem_of_getElem? (i := 5) rfl) yi_mn)))))) ?_
          exact yi_D_mono (jn35f (K a1) (yi_w (y4 + 1)) 1000 _ _ _ hF62 he64 hz42 hx58 ) (by omega)
      · refine yi_D_if2 true rfl (yi_ne_t h22) ?_
        refine yi_D_retv rfl ?_
        have hstd := sp_R_s hR9 ((sp_st13 (l := 0) (by omega)).trans (if_neg (by omega)))
        exact ⟨_, _, rfl, hF9, Or.inl ⟨_, _, hstd, by omega, hf9, hA9⟩⟩
    refine yi_D_al (al := [(4, .inl 0), (3, .inl 1000), (0, .inr (.inr (some 11))), (1, .inl 0), (2, .inl (dp : Int)), (5, .inl 0)]) (show ([4, 3, 0, 1, 2, 5] : List Nat).Nodup by decide) (show ([4, 3, 0, 1, 2] : List Nat).Nodup by decide) (yi_mc (List.mem_of_getElem? (i := 0) rfl) (yi_mc (List.mem_of_getElem? (i := 1) rfl) (yi_mc (List.mem_of_getElem? (i := 2) rfl) (yi_mc (List.mem_of_getElem? (i := 3) rfl) (yi_mc (List.mem_of_getElem? (i := 4) rfl) yi_mn))))) ?_
    exact pt35 k (Nat.le_refl _) 0 0 I4 L5 a7 cs8 (by omega) (by omega) hF18 hf11 hA12 hR20
  · have hW65 := cs_W_t hW hFr6
    have hF66 := hFr6
    have hF67 : ∀ p k, (p ≠ 11 ∧ p ≠ 19) → I4 p k = I p k := fun p k h => hFr6.1 p k h.1 h.2
    have hn68 : ¬ I4 11 11 = 0 := by rw [he16]; exact hz15
    have hx69 : sp_R K P V (8, a, dp, sk, ld, nm, cs) (.inr f13) := sp_R_t hst3 hR14
    show yi_D zi_Ms d zi_m255 k (19, [(0, .inr (.inr (some 11))), (1, .inl 0), (2, .inl (dp : Int))], [], (I4, L5, R, Y), 0, 0) _
    refine yi_D_run 2 (21, [(0, .inr (.inr (some 11))), (1, .inl 0), (2, .inl (dp : Int))], [.inl 1, .inl 0], (I4, L5, R, Y), 0, 0) (fun _ => rfl) ?_
    refine yi_D_if2 true rfl (by decide) ?_
    refine yi_D_run 4 (35, [(4, .inl 0), (3, .inl 1000), (0, .inr (.inr (some 11))), (1, .inl 0), (2, .inl (dp : Int))], [], (I4, L5, R, Y), 0, 0) (fun _ => rfl) ?_
    refine yi_D_al (al := [(5, .inl 0), (4, .inl 0), (3, .inl 1000), (0, .inr (.inr (some 11))), (1, .inl 0), (2, .inl (dp : Int))]) (show ([5, 4, 3, 0, 1, 2] : List Nat).Nodup by decide) (show ([4, 3, 0, 1, 2] : List Nat).Nodup by decide) (yi_mc (List.mem_of_getElem? (i := 1) rfl) (yi_mc (List.mem_of_getElem? (i := 2) rfl) (yi_mc (List.mem_of_getElem? (i := 3) rfl) (yi_mc (List.mem_of_getElem? (i := 4) rfl) (yi_mc (List.mem_of_getElem? (i := 5) rfl) yi_mn))))) ?_
    exact yi_D_mono (jn35f 0 0 1000 _ _ _ hF66 he16 hz15 hx69 ) (by omega)
theorem p_readExpression_s1 {d : Nat} {I L : Nat → Nat → Int} {R : Nat → Nat → Option Nat} {Y : (Nat → Nat) × (Nat → Nat) × Nat} (hRE : cs_RE d 2) {K P V : Nat → Int} {te q a : Nat} {ld : Nat → Int} {nm : Int → Int} (hW : cs_W I L R Y K P V te q ld nm) (hf : I 11 11 = 0) (hA : cs_A I L K te a) (dp : Nat) (sk : List Nat) (cs : List (Int × Int)) (hd : dp ≤ 5) : yi_P zi_Ms (d + 1) 255 [.inr (.inr (some 11)), .inl 1, .inl (dp : Int)] (I, L, R, Y) (cs_QR I L R Y K P V te (9, a, dp, sk, ld, nm, cs) 13 a dp sk ld nm) := by
  refine yi_P_s (M := zi_m255) rfl (fun k => ?_)
  have jn89f : ∀ (y5 : Int) (y4 : Int) (y3 : Int) (J G : Nat → Nat → Int) (f : Int), cs_F I L J G → J 11 11 = f → ¬ f = 0 → sp_R K P V (9, a, dp, sk, ld, nm, cs) (.inr f) → yi_D zi_Ms d zi_m255 k (89, [(5, .inl y5), (4, .inl y4), (3, .inl y3), (0, .inr (.inr (some 11))), (1, .inl 1), (2, .inl (dp : Int))], [], (J, G, R, Y), 0, 0) (cs_QR I L R Y K P V te (9, a, dp, sk, ld, nm, cs) 13 a dp sk ld nm) := by
    intro y5 y4 y3 J G f jF je jn jsp 
    have jW := cs_W_t hW jF
    have jf : ¬ J 11 11 = 0 := by rw [je]; exact jn
    have jF1 : ∀ p k, (p ≠ 11 ∧ p ≠ 19) → J p k = I p k := fun p k h => jF.1 p k h.1 h.2
    have jF2 := jF.2
    refine yi_D_retv rfl ?_
    exact ⟨_, _, rfl, jF, Or.inr ⟨_, jsp, jn, je⟩⟩
  have jn35f : ∀ (y5 : Int) (y4 : Int) (y3 : Int) (J G : Nat → Nat → Int) (f : Int), cs_F I L J G → J 11 11 = f → ¬ f = 0 → sp_R K P V (9, a, dp, sk, ld, nm, cs) (.inr f) → yi_D zi_Ms d zi_m255 k (35, [(5, .inl y5), (4, .inl y4), (3, .inl y3), (0, .inr (.inr (some 11))), (1, .inl 1), (2, .inl (dp : Int))], [], (J, G, R, Y), 0, 0) (cs_QR I L R Y K P V te (9, a, dp, sk, ld, nm, cs) 13 a dp sk ld nm) := by
    intro y5 y4 y3 J G f jF je jn jsp 
    have jW := cs_W_t hW jF
    have jf : ¬ J 11 11 = 0 := by rw [je]; exact jn
    have jF1 : ∀ p k, (p ≠ 11 ∧ p ≠ 19) → J p k = I p k := fun p k h => jF.1 p k h.1 h.2
    have jF2 := jF.2
    refine yi_D_run 2 (38, [(5, .inl y5), (4, .inl y4), (3, .inl y3), (0, .inr (.inr (some 11))), (1, .inl 1), (2, .inl (dp : Int))], [.inl y3, .inl y4], (J, G, R, Y), 0, 0) (fun _ => rfl) ?_
    by_cases h1 : y3 ≤ y4
    · refine yi_D_if2 true rfl (yi_ge_t h1) ?_
      exact yi_D_mono (jn89f y5 y4 y3 _ _ _ jF je jn jsp ) (by omega)
    · refine yi_D_if2 false rfl (yi_ge_f h1) ?_
      refine yi_D_run 1 (42, [(5, .inl y5), (4, .inl y4), (3, .inl y3), (0, .inr (.inr (some 11))), (1, .inl 1), (2, .inl (dp : Int))], [.inr (.inr (some 11))], (J, G, R, Y), 0, 0) (fun _ => rfl) ?_
      refine yi_D_gi (v := J 11 11) rfl rfl rfl rfl (fun _ => ?_)
      have h2 : ¬ ((J 11 11) = 0) := by omega
      refine yi_D_if1 true rfl (yi_ne_t h2) ?_
      exact yi_D_mono (jn89f y5 y4 y3 _ _ _ jF je jn jsp ) (by omega)
  show yi_D zi_Ms d zi_m255 k (0, [(0, .inr (.inr (some 11))), (1, .inl 1), (2, .inl (dp : Int))], [], (I, L, R, Y), 0, 0) _
  refine yi_D_run 2 (2, [(0, .inr (.inr (some 11))), (1, .inl 1), (2, .inl (dp : Int))], [.inl 4, .inl 1], (I, L, R, Y), 0, 0) (fun _ => rfl) ?_
  refine yi_D_if2 true rfl (by decide) ?_
  refine yi_D_run 3 (14, [(0, .inr (.inr (some 11))), (1, .inl 1), (2, .inl (dp : Int))], [.inl 1, .inl 1, .inr (.inr (some 11))], (I, L, R, Y), 0, 0) (fun _ => rfl) ?_
  refine yi_D_iadd rfl (2) (by decide) ?_
  refine yi_D_run 1 (16, [(0, .inr (.inr (some 11))), (1, .inl 1), (2, .inl (dp : Int))], [.inl (dp : Int), .inl 2, .inr (.inr (some 11))], (I, L, R, Y), 0, 0) (fun _ => rfl) ?_
  have hst3 : sp_R K P V (9, a, dp, sk, ld, nm, cs) (.inl (10, a, dp, 31 :: sk, ld, nm, cs)) := sp_R_1 rfl
  refine yi_D_callv rfl (hRE dp (31 :: sk) cs hW hf hA (by omega)) ?_
  rintro _ ⟨I4, L5, rfl, hFr6, (⟨a7, cs8, hR9, lt10, hf11, hA12⟩ | ⟨f13, hR14, hz15, he16⟩)⟩
  · have hW17 := cs_W_t hW hFr6
    have hF18 := hFr6
    have hF19 : ∀ p k, (p ≠ 11 ∧ p ≠ 19) → I4 p k = I p k := fun p k h => hFr6.1 p k h.1 h.2
    have hR20 := sp_R_t hst3 hR9
    show yi_D zi_Ms d zi_m255 k (19, [(0, .inr (.inr (some 11))), (1, .inl 1), (2, .inl (dp : Int))], [], (I4, L5, R, Y), 0, 0) _
    refine yi_D_run 2 (21, [(0, .inr (.inr (some 11))), (1, .inl 1), (2, .inl (dp : Int))], [.inl 1, .inl 1], (I4, L5, R, Y), 0, 0) (fun _ => rfl) ?_
    refine yi_D_if2 false rfl (by decide) ?_
    refine yi_D_run 7 (38, [(4, .inl 0), (3, .inl 1), (0, .inr (.inr (some 11))), (1, .inl 1), (2, .inl (dp : Int))], [.inl 1, .inl 0], (I4, L5, R, Y), 0, 0) (fun _ => rfl) ?_
    refine yi_D_if2 false rfl (by decide) ?_
    refine yi_D_run 1 (42, [(4, .inl 0), (3, .inl 1), (0, .inr (.inr (some 11))), (1, .inl 1), (2, .inl (dp : Int))], [.inr (.inr (some 11))], (I4, L5, R, Y), 0, 0) (fun _ => rfl) ?_
    refine yi_D_gi (v := 0) rfl rfl rfl hf11 (fun _ => ?_)
    refine yi_D_if1 false rfl (by decide) ?_
    refine yi_D_run 1 (49, [(4, .inl 0), (3, .inl 1), (0, .inr (.inr (some 11))), (1, .inl 1), (2, .inl (dp : Int))], [.inr (.inr (some 11))], (I4, L5, R, Y), 0, 0) (fun _ => rfl) ?_
    refine yi_D_gi (v := K a7) rfl rfl rfl hA12.2.2.1 (fun _ => ?_)
    refine yi_D_calls rfl (p_levelOf) ?_
    rintro _ rfl
    show yi_D zi_Ms d zi_m255 k (55, [(4, .inl 0), (3, .inl 1), (0, .inr (.inr (some 11))), (1, .inl 1), (2, .inl (dp : Int))], [.inl (sp_lv (K a7))], (I4, L5, R, Y), 0, 0) _
    refine yi_D_run 1 (56, [(4, .inl 0), (3, .inl 1), (0, .inr (.inr (some 11))), (1, .inl 1), (2, .inl (dp : Int))], [.inl 1, .inl (sp_lv (K a7))], (I4, L5, R, Y), 0, 0) (fun _ => rfl) ?_
    have hlva7 := sp_lv_i (k := K a7) (l := 1) (by omega)
    have hlna7 := sp_lev_n (k := K a7)
    by_cases h21 : (sp_lv (K a7)) = 1
    · refine yi_D_if2 false rfl (yi_ne_f h21) ?_
      refine yi_D_run 1 (60, [(4, .inl 0), (3, .inl 1), (0, .inr (.inr (some 11))), (1, .inl 1), (2, .inl (dp : Int))], [.inr (.inr (some 11))], (I4, L5, R, Y), 0, 0) (fun _ => rfl) ?_
      refine yi_D_gi (v := K a7) rfl rfl rfl hA12.2.2.1 (fun _ => ?_)
      refine yi_D_run 2 (66, [(5, .inl (K a7)), (4, .inl 0), (3, .inl 1), (0, .inr (.inr (some 11))), (1, .inl 1), (2, .inl (dp : Int))], [.inr (.inr (some 11))], (I4, L5, R, Y), 0, 0) (fun _ => rfl) ?_
      refine yi_D_callv rfl (p_advance_z hW17 hf11 hA12) ?_
      rintro _ ⟨I22, L23, rfl, hGa24, hf25, hA26⟩
      rw [sp_nx_lt (cs_lt hW17.2.1 hA12.2.1 (by omega))] at hA26
      have hA26 : cs_A I22 L23 K te (a7 + 1) := hA26
      have hW27 := cs_W_t hW17 (cs_G_F hGa24)
      have hF28 := cs_F_t hF18 (cs_G_F hGa24)
      show yi_D zi_Ms d zi_m255 k (69, [(5, .inl (K a7)), (4, .inl 0), (3, .inl 1), (0, .inr (.inr (some 11))), (1, .inl 1), (2, .inl (dp : Int))], [], (I22, L23, R, Y), 0, 0) _
      refine yi_D_run 3 (72, [(5, .inl (K a7)), (4, .inl 0), (3, .inl 1), (0, .inr (.inr (some 11))), (1, .inl 1), (2, .inl (dp : Int))], [.inl 1, .inl 1, .inr (.inr (some 11))], (I22, L23, R, Y), 0, 0) (fun _ => rfl) ?_
      refine yi_D_iadd rfl (2) (by decide) ?_
      refine yi_D_run 1 (74, [(5, .inl (K a7)), (4, .inl 0), (3, .inl 1), (0, .inr (.inr (some 11))), (1, .inl 1), (2, .inl (dp : Int))], [.inl (dp : Int), .inl 2, .inr (.inr (some 11))], (I22, L23, R, Y), 0, 0) (fun _ => rfl) ?_
      have hst29 : sp_R K P V (9, a, dp, sk, ld, nm, cs) (.inl (10, a7 + 1, dp, (100 + 8 * (K a7).toNat + 1) :: sk, ld, nm, cs8)) := sp_R_s hR20 ((sp_st13 (l := 1) (by omega)).trans (if_pos (by omega)))
      refine yi_D_callv rfl (hRE dp ((100 + 8 * (K a7).toNat + 1) :: sk) cs8 hW27 hf25 hA26 (by omega)) ?_
      rintro _ ⟨I30, L31, rfl, hFr32, (⟨a33, cs34, hR35, lt36, hf37, hA38⟩ | ⟨f39, hR40, hz41, he42⟩)⟩
      · have hW43 := cs_W_t hW27 hFr32
        have hF44 := cs_F_t hF28 hFr32
        have hF45 : ∀ p k, (p ≠ 11 ∧ p ≠ 19) → I30 p k = I22 p k := fun p k h => hFr32.1 p k h.1 h.2
        have hR46 := sp_R_s (sp_R_t hst29 hR35) sp_st13c
        show yi_D zi_Ms d zi_m255 k (77, [(5, .inl (K a7)), (4, .inl 0), (3, .inl 1), (0, .inr (.inr (some 11))), (1, .inl 1), (2, .inl (dp : Int))], [], (I30, L31, R, Y), 0, 0) _
        refine yi_D_run 2 (80, [(5, .inl (K a7)), (4, .inl 0), (3, .inl 1), (0, .inr (.inr (some 11))), (1, .inl 1), (2, .inl (dp : Int))], [.inl (K a7), .inr (.inr (some 11))], (I30, L31, R, Y), 0, 0) (fun _ => rfl) ?_
        refine yi_D_callv rfl (p_emit hW43) ?_
        rintro _ ⟨I47, rfl, hE48⟩
        have hW49 := cs_W_t hW43 (cs_E_F (L := L31) hE48)
        have hF50 := cs_F_t hF44 (cs_E_F hE48)
        have hf51 : I47 11 11 = 0 := (hE48 11 11 (by omega) (by omega)).trans hf37
        have hA52 := cs_A_e hA38 hE48
        show yi_D zi_Ms d zi_m255 k (83, [(5, .inl (K a7)), (4, .inl 0), (3, .inl 1), (0, .inr (.inr (some 11))), (1, .inl 1), (2, .inl (dp : Int))], [], (I47, L31, R, Y), 0, 0) _
        refine yi_D_iinc [(4, .inl 1), (5, .inl (K a7)), (3, .inl 1), (0, .inr (.inr (some 11))), (1, .inl 1), (2, .inl (dp : Int))] rfl rfl rfl (by rw [show yi_w (0 + 1) = 1 from (yi_wn (by omega) (by omega)).trans (by omega)]; rfl) ?_
        refine yi_D_run 3 (38, [(4, .inl 1), (5, .inl (K a7)), (3, .inl 1), (0, .inr (.inr (some 11))), (1, .inl 1), (2, .inl (dp : Int))], [.inl 1, .inl 1], (I47, L31, R, Y), 0, 0) (fun _ => rfl) ?_
        refine yi_D_if2 true rfl (by decide) ?_
        refine yi_D_retv rfl ?_
        exact ⟨_, _, rfl, hF50, Or.inl ⟨_, _, hR46, by omega, hf51, hA52⟩⟩
      · have hW53 := cs_W_t hW27 hFr32
        have hF54 := cs_F_t hF28 hFr32
        have hF55 : ∀ p k, (p ≠ 11 ∧ p ≠ 19) → I30 p k = I22 p k := fun p k h => hFr32.1 p k h.1 h.2
        have hn56 : ¬ I30 11 11 = 0 := by rw [he42]; exact hz41
        have hx57 : sp_R K P V (9, a, dp, sk, ld, nm, cs) (.inr f39) := sp_R_t hst29 hR40
        show yi_D zi_Ms d zi_m255 k (77, [(5, .inl (K a7)), (4, .inl 0), (3, .inl 1), (0, .inr (.inr (some 11))), (1, .inl 1), (2, .inl (dp : Int))], [], (I30, L31, R, Y), 0, 0) _
        refine yi_D_run 2 (80, [(5, .inl (K a7)), (4, .inl 0), (3, .inl 1), (0, .inr (.inr (some 11))), (1, .inl 1), (2, .inl (dp : Int))], [.inl (K a7), .inr (.inr (some 11))], (I30, L31, R, Y), 0, 0) (fun _ => rfl) ?_
        refine yi_D_callv rfl (p_emit hW53) ?_
        rintro _ ⟨I58, rfl, hE59⟩
        have hW60 := cs_W_t hW53 (cs_E_F (L := L31) hE59)
        have hF61 := cs_F_t hF54 (cs_E_F hE59)
        have hf62 : ¬ I58 11 11 = 0 := by rw [hE59 11 11 (by omega) (by omega)]; exact hn56
        have he63 := (hE59 11 11 (by omega) (by omega)).trans he42
        show yi_D zi_Ms d zi_m255 k (83, [(5, .inl (K a7)), (4, .inl 0), (3, .inl 1), (0, .inr (.inr (some 11))), (1, .inl 1), (2, .inl (dp : Int))], [], (I58, L31, R, Y), 0, 0) _
        refine yi_D_iinc [(4, .inl 1), (5, .inl (K a7)), (3, .inl 1), (0, .inr (.inr (some 11))), (1, .inl 1), (2, .inl (dp : Int))] rfl rfl rfl (by rw [show yi_w (0 + 1) = 1 from (yi_wn (by omega) (by omega)).trans (by omega)]; rfl) ?_
        refine yi_D_run 1 (35, [(4, .inl 1), (5, .inl (K a7)), (3, .inl 1), (0, .inr (.inr (some 11))), (1, .inl 1), (2, .inl (dp : Int))], [], (I58, L31, R, Y), 0, 0) (fun _ => rfl) ?_
        refine yi_D_al (al := [(5, .inl (K a7)), (4, .inl 1), (3, .inl 1), (0, .inr (.inr (some 11))), (1, .inl 1), (2, .inl (dp : Int))]) (show ([5, 4, 3, 0, 1, 2] : List Nat).Nodup by decide) (show ([4, 5, 3, 0, 1, 2] : List Nat).Nodup by decide) (yi_mc (List.mem_of_getElem? (i := 1) rfl) (yi_mc (List.mem_of_getElem? (i := 0) rfl) (yi_mc (List.mem_of_getElem? (i := 2) rfl) (yi_mc (List.mem_of_getElem? (i := 3) rfl) (yi_mc (List.mem_of_getElem? (i := 4) rfl) (yi_mc (List.mem_of_getElem? (i := 5) rfl) yi_mn)))))) ?_
        exact yi_D_mono (jn35f (K a7) 1 1 _ _ _ hF61 he63 hz41 hx57 ) (by omega)
    · refine yi_D_if2 true rfl (yi_ne_t h21) ?_
      refine yi_D_retv rfl ?_
      have hstd := sp_R_s hR20 ((sp_st13 (l := 1) (by omega)).trans (if_neg (by omega)))
      exact ⟨_, _, rfl, hF18, Or.inl ⟨_, _, hstd, by omega, hf11, hA12⟩⟩
  · have hW64 := cs_W_t hW hFr6
    have hF65 := hFr6
    have hF66 : ∀ p k, (p ≠ 11 ∧ p ≠ 19) → I4 p k = I p k := fun p k h => hFr6.1 p k h.1 h.2
    have hn67 : ¬ I4 11 11 = 0 := by rw [he16]; exact hz15
    have hx68 : sp_R K P V (9, a, dp, sk, ld, nm, cs) (.inr f13) := sp_R_t hst3 hR14
    show yi_D zi_Ms d zi_m255 k (19, [(0, .inr (.inr (some 11))), (1, .inl 1), (2, .inl (dp : Int))], [], (I4, L5, R, Y), 0, 0) _
    refine yi_D_run 2 (21, [(0, .inr (.inr (some 11))), (1, .inl 1), (2, .inl (dp : Int))], [.inl 1, .inl 1], (I4, L5, R, Y), 0, 0) (fun _ => rfl) ?_
    refine yi_D_if2 false rfl (by decide) ?_
    refine yi_D_run 5 (35, [(4, .inl 0), (3, .inl 1), (0, .inr (.inr (some 11))), (1, .inl 1), (2, .inl (dp : Int))], [], (I4, L5, R, Y), 0, 0) (fun _ => rfl) ?_
    refine yi_D_al (al := [(5, .inl 0), (4, .inl 0), (3, .inl 1), (0, .inr (.inr (some 11))), (1, .inl 1), (2, .inl (dp : Int))]) (show ([5, 4, 3, 0, 1, 2] : List Nat).Nodup by decide) (show ([4, 3, 0, 1, 2] : List Nat).Nodup by decide) (yi_mc (List.mem_of_getElem? (i := 1) rfl) (yi_mc (List.mem_of_getElem? (i := 2) rfl) (yi_mc (List.mem_of_getElem? (i := 3) rfl) (yi_mc (List.mem_of_getElem? (i := 4) rfl) (yi_mc (List.mem_of_getElem? (i := 5) rfl) yi_mn))))) ?_
    exact yi_D_mono (jn35f 0 0 1 _ _ _ hF65 he16 hz15 hx68 ) (by omega)
theorem p_readExpression_s2 {d : Nat} {I L : Nat → Nat → Int} {R : Nat → Nat → Option Nat} {Y : (Nat → Nat) × (Nat → Nat) × Nat} (hRE : cs_RE d 3) {K P V : Nat → Int} {te q a : Nat} {ld : Nat → Int} {nm : Int → Int} (hW : cs_W I L R Y K P V te q ld nm) (hf : I 11 11 = 0) (hA : cs_A I L K te a) (dp : Nat) (sk : List Nat) (cs : List (Int × Int)) (hd : dp ≤ 5) : yi_P zi_Ms (d + 1) 255 [.inr (.inr (some 11)), .inl 2, .inl (dp : Int)] (I, L, R, Y) (cs_QR I L R Y K P V te (10, a, dp, sk, ld, nm, cs) 13 a dp sk ld nm) := by
  refine yi_P_s (M := zi_m255) rfl (fun k => ?_)
  have jn89f : ∀ (y5 : Int) (y4 : Int) (y3 : Int) (J G : Nat → Nat → Int) (f : Int), cs_F I L J G → J 11 11 = f → ¬ f = 0 → sp_R K P V (10, a, dp, sk, ld, nm, cs) (.inr f) → yi_D zi_Ms d zi_m255 k (89, [(5, .inl y5), (4, .inl y4), (3, .inl y3), (0, .inr (.inr (some 11))), (1, .inl 2), (2, .inl (dp : Int))], [], (J, G, R, Y), 0, 0) (cs_QR I L R Y K P V te (10, a, dp, sk, ld, nm, cs) 13 a dp sk ld nm) := by
    intro y5 y4 y3 J G f jF je jn jsp 
    have jW := cs_W_t hW jF
    have jf : ¬ J 11 11 = 0 := by rw [je]; exact jn
    have jF1 : ∀ p k, (p ≠ 11 ∧ p ≠ 19) → J p k = I p k := fun p k h => jF.1 p k h.1 h.2
    have jF2 := jF.2
    refine yi_D_retv rfl ?_
    exact ⟨_, _, rfl, jF, Or.inr ⟨_, jsp, jn, je⟩⟩
  have jn35f : ∀ (y5 : Int) (y4 : Int) (y3 : Int) (J G : Nat → Nat → Int) (f : Int), cs_F I L J G → J 11 11 = f → ¬ f = 0 → sp_R K P V (10, a, dp, sk, ld, nm, cs) (.inr f) → yi_D zi_Ms d zi_m255 k (35, [(5, .inl y5), (4, .inl y4), (3, .inl y3), (0, .inr (.inr (some 11))), (1, .inl 2), (2, .inl (dp : Int))], [], (J, G, R, Y), 0, 0) (cs_QR I L R Y K P V te (10, a, dp, sk, ld, nm, cs) 13 a dp sk ld nm) := by
    intro y5 y4 y3 J G f jF je jn jsp 
    have jW := cs_W_t hW jF
    have jf : ¬ J 11 11 = 0 := by rw [je]; exact jn
    have jF1 : ∀ p k, (p ≠ 11 ∧ p ≠ 19) → J p k = I p k := fun p k h => jF.1 p k h.1 h.2
    have jF2 := jF.2
    refine yi_D_run 2 (38, [(5, .inl y5), (4, .inl y4), (3, .inl y3), (0, .inr (.inr (some 11))), (1, .inl 2), (2, .inl (dp : Int))], [.inl y3, .inl y4], (J, G, R, Y), 0, 0) (fun _ => rfl) ?_
    by_cases h1 : y3 ≤ y4
    · refine yi_D_if2 true rfl (yi_ge_t h1) ?_
      exact yi_D_mono (jn89f y5 y4 y3 _ _ _ jF je jn jsp ) (by omega)
    · refine yi_D_if2 false rfl (yi_ge_f h1) ?_
      refine yi_D_run 1 (42, [(5, .inl y5), (4, .inl y4), (3, .inl y3), (0, .inr (.inr (some 11))), (1, .inl 2), (2, .inl (dp : Int))], [.inr (.inr (some 11))], (J, G, R, Y), 0, 0) (fun _ => rfl) ?_
      refine yi_D_gi (v := J 11 11) rfl rfl rfl rfl (fun _ => ?_)
      have h2 : ¬ ((J 11 11) = 0) := by omega
      refine yi_D_if1 true rfl (yi_ne_t h2) ?_
      exact yi_D_mono (jn89f y5 y4 y3 _ _ _ jF je jn jsp ) (by omega)
  show yi_D zi_Ms d zi_m255 k (0, [(0, .inr (.inr (some 11))), (1, .inl 2), (2, .inl (dp : Int))], [], (I, L, R, Y), 0, 0) _
  refine yi_D_run 2 (2, [(0, .inr (.inr (some 11))), (1, .inl 2), (2, .inl (dp : Int))], [.inl 4, .inl 2], (I, L, R, Y), 0, 0) (fun _ => rfl) ?_
  refine yi_D_if2 true rfl (by decide) ?_
  refine yi_D_run 3 (14, [(0, .inr (.inr (some 11))), (1, .inl 2), (2, .inl (dp : Int))], [.inl 1, .inl 2, .inr (.inr (some 11))], (I, L, R, Y), 0, 0) (fun _ => rfl) ?_
  refine yi_D_iadd rfl (3) (by decide) ?_
  refine yi_D_run 1 (16, [(0, .inr (.inr (some 11))), (1, .inl 2), (2, .inl (dp : Int))], [.inl (dp : Int), .inl 3, .inr (.inr (some 11))], (I, L, R, Y), 0, 0) (fun _ => rfl) ?_
  have hst3 : sp_R K P V (10, a, dp, sk, ld, nm, cs) (.inl (11, a, dp, 32 :: sk, ld, nm, cs)) := sp_R_1 rfl
  refine yi_D_callv rfl (hRE dp (32 :: sk) cs hW hf hA (by omega)) ?_
  rintro _ ⟨I4, L5, rfl, hFr6, (⟨a7, cs8, hR9, lt10, hf11, hA12⟩ | ⟨f13, hR14, hz15, he16⟩)⟩
  · have hW17 := cs_W_t hW hFr6
    have hF18 := hFr6
    have hF19 : ∀ p k, (p ≠ 11 ∧ p ≠ 19) → I4 p k = I p k := fun p k h => hFr6.1 p k h.1 h.2
    have hR20 := sp_R_t hst3 hR9
    show yi_D zi_Ms d zi_m255 k (19, [(0, .inr (.inr (some 11))), (1, .inl 2), (2, .inl (dp : Int))], [], (I4, L5, R, Y), 0, 0) _
    refine yi_D_run 2 (21, [(0, .inr (.inr (some 11))), (1, .inl 2), (2, .inl (dp : Int))], [.inl 1, .inl 2], (I4, L5, R, Y), 0, 0) (fun _ => rfl) ?_
    refine yi_D_if2 true rfl (by decide) ?_
    refine yi_D_run 4 (35, [(4, .inl 0), (3, .inl 1000), (0, .inr (.inr (some 11))), (1, .inl 2), (2, .inl (dp : Int))], [], (I4, L5, R, Y), 0, 0) (fun _ => rfl) ?_
    have pt35 : ∀ j35, j35 ≤ k → ∀ (y4 : Int) (y5 : Int) (J1 : Nat → Nat → Int) (G1 : Nat → Nat → Int) (a1 : Nat) (cs1 : List (Int × Int)), (0 ≤ y4 ∧ 2 * y4 < (a1 : Int)) → (a < a1) → (cs_F I L J1 G1) → (J1 11 11 = 0) → (cs_A J1 G1 K te a1) → (sp_R K P V (10, a, dp, sk, ld, nm, cs) (.inl (13, a1, dp, 32 :: sk, ld, nm, cs1))) → yi_D zi_Ms d zi_m255 j35 (35, [(4, .inl y4), (3, .inl 1000), (0, .inr (.inr (some 11))), (1, .inl 2), (2, .inl (dp : Int)), (5, .inl y5)], [], (J1, G1, R, Y), 0, 0) (cs_QR I L R Y K P V te (10, a, dp, sk, ld, nm, cs) 13 a dp sk ld nm) := by
      intro j35
      induction j35 with
      | zero => intros; exact yi_D_0
      | succ j35 ih35 =>
      intro hk35 y4 y5 J1 G1 a1 cs1 hn9 lt9 hF9 hf9 hA9 hR9
      have hW9 := cs_W_t hW hF9
      have hF91 : ∀ p k, (p ≠ 11 ∧ p ≠ 19) → J1 p k = I p k := fun p k h => hF9.1 p k h.1 h.2
      have hle9 := hA9.2.1
      have hte9 := hW.2.1.1
      refine yi_D_run1 1 (38, [(4, .inl y4), (3, .inl 1000), (0, .inr (.inr (some 11))), (1, .inl 2), (2, .inl (dp : Int)), (5, .inl y5)], [.inl 1000, .inl y4], (J1, G1, R, Y), 0, 0) (fun _ => rfl) ?_
      have h21 : ¬ (1000 ≤ y4) := by omega
      refine yi_D_if2 false rfl (yi_ge_f h21) ?_
      refine yi_D_run 1 (42, [(4, .inl y4), (3, .inl 1000), (0, .inr (.inr (some 11))), (1, .inl 2), (2, .inl (dp : Int)), (5, .inl y5)], [.inr (.inr (some 11))], (J1, G1, R, Y), 0, 0) (fun _ => rfl) ?_
      refine yi_D_gi (v := 0) rfl rfl rfl hf9 (fun _ => ?_)
      refine yi_D_if1 false rfl (by decide) ?_
      refine yi_D_run 1 (49, [(4, .inl y4), (3, .inl 1000), (0, .inr (.inr (some 11))), (1, .inl 2), (2, .inl (dp : Int)), (5, .inl y5)], [.inr (.inr (some 11))], (J1, G1, R, Y), 0, 0) (fun _ => rfl) ?_
      refine yi_D_gi (v := K a1) rfl rfl rfl hA9.2.2.1 (fun _ => ?_)
      refine yi_D_calls rfl (p_levelOf) ?_
      rintro _ rfl
      show yi_D zi_Ms d zi_m255 j35 (55, [(4, .inl y4), (3, .inl 1000), (0, .inr (.inr (some 11))), (1, .inl 2), (2, .inl (dp : Int)), (5, .inl y5)], [.inl (sp_lv (K a1))], (J1, G1, R, Y), 0, 0) _
      refine yi_D_run 1 (56, [(4, .inl y4), (3, .inl 1000), (0, .inr (.inr (some 11))), (1, .inl 2), (2, .inl (dp : Int)), (5, .inl y5)], [.inl 2, .inl (sp_lv (K a1))], (J1, G1, R, Y), 0, 0) (fun _ => rfl) ?_
      have hlva1 := sp_lv_i (k := K a1) (l := 2) (by omega)
      have hlna1 := sp_lev_n (k := K a1)
      by_cases h22 : (sp_lv (K a1)) = 2
      · refine yi_D_if2 false rfl (yi_ne_f h22) ?_
        refine yi_D_run 1 (60, [(4, .inl y4), (3, .inl 1000), (0, .inr (.inr (some 11))), (1, .inl 2), (2, .inl (dp : Int)), (5, .inl y5)], [.inr (.inr (some 11))], (J1, G1, R, Y), 0, 0) (fun _ => rfl) ?_
        refine yi_D_gi (v := K a1) rfl rfl rfl hA9.2.2.1 (fun _ => ?_)
        refine yi_D_run 2 (66, [(5, .inl (K a1)), (4, .inl y4), (3, .inl 1000), (0, .inr (.inr (some 11))), (1, .inl 2), (2, .inl (dp : Int))], [.inr (.inr (some 11))], (J1, G1, R, Y), 0, 0) (fun _ => rfl) ?_
        refine yi_D_callv rfl (p_advance_z hW9 hf9 hA9) ?_
        rintro _ ⟨I23, L24, rfl, hGa25, hf26, hA27⟩
        rw [sp_nx_lt (cs_lt hW9.2.1 hA9.2.1 (by omega))] at hA27
        have hA27 : cs_A I23 L24 K te (a1 + 1) := hA27
        have hW28 := cs_W_t hW9 (cs_G_F hGa25)
        have hF29 := cs_F_t hF9 (cs_G_F hGa25)
        show yi_D zi_Ms d zi_m255 j35 (69, [(5, .inl (K a1)), (4, .inl y4), (3, .inl 1000), (0, .inr (.inr (some 11))), (1, .inl 2), (2, .inl (dp : Int))], [], (I23, L24, R, Y), 0, 0) _
        refine yi_D_run 3 (72, [(5, .inl (K a1)), (4, .inl y4), (3, .inl 1000), (0, .inr (.inr (some 11))), (1, .inl 2), (2, .inl (dp : Int))], [.inl 1, .inl 2, .inr (.inr (some 11))], (I23, L24, R, Y), 0, 0) (fun _ => rfl) ?_
        refine yi_D_iadd rfl (3) (by decide) ?_
        refine yi_D_run 1 (74, [(5, .inl (K a1)), (4, .inl y4), (3, .inl 1000), (0, .inr (.inr (some 11))), (1, .inl 2), (2, .inl (dp : Int))], [.inl (dp : Int), .inl 3, .inr (.inr (some 11))], (I23, L24, R, Y), 0, 0) (fun _ => rfl) ?_
        have hst30 : sp_R K P V (10, a, dp, sk, ld, nm, cs) (.inl (11, a1 + 1, dp, (100 + 8 * (K a1).toNat + 2) :: sk, ld, nm, cs1)) := sp_R_s hR9 ((sp_st13 (l := 2) (by omega)).trans (if_pos (by omega)))
        refine yi_D_callv rfl (hRE dp ((100 + 8 * (K a1).toNat + 2) :: sk) cs1 hW28 hf26 hA27 (by omega)) ?_
        rintro _ ⟨I31, L32, rfl, hFr33, (⟨a34, cs35, hR36, lt37, hf38, hA39⟩ | ⟨f40, hR41, hz42, he43⟩)⟩
        · have hW44 := cs_W_t hW28 hFr33
          have hF45 := cs_F_t hF29 hFr33
          have hF46 : ∀ p k, (p ≠ 11 ∧ p ≠ 19) → I31 p k = I23 p k := fun p k h => hFr33.1 p k h.1 h.2
          have hR47 := sp_R_s (sp_R_t hst30 hR36) (sp_st13b (l := 2) (by omega) (by omega))
          show yi_D zi_Ms d zi_m255 j35 (77, [(5, .inl (K a1)), (4, .inl y4), (3, .inl 1000), (0, .inr (.inr (some 11))), (1, .inl 2), (2, .inl (dp : Int))], [], (I31, L32, R, Y), 0, 0) _
          refine yi_D_run 2 (80, [(5, .inl (K a1)), (4, .inl y4), (3, .inl 1000), (0, .inr (.inr (some 11))), (1, .inl 2), (2, .inl (dp : Int))], [.inl (K a1), .inr (.inr (some 11))], (I31, L32, R, Y), 0, 0) (fun _ => rfl) ?_
          refine yi_D_callv rfl (p_emit hW44) ?_
          rintro _ ⟨I48, rfl, hE49⟩
          have hW50 := cs_W_t hW44 (cs_E_F (L := L32) hE49)
          have hF51 := cs_F_t hF45 (cs_E_F hE49)
          have hf52 : I48 11 11 = 0 := (hE49 11 11 (by omega) (by omega)).trans hf38
          have hA53 := cs_A_e hA39 hE49
          show yi_D zi_Ms d zi_m255 j35 (83, [(5, .inl (K a1)), (4, .inl y4), (3, .inl 1000), (0, .inr (.inr (some 11))), (1, .inl 2), (2, .inl (dp : Int))], [], (I48, L32, R, Y), 0, 0) _
          refine yi_D_iinc [(4, .inl (y4 + 1)), (5, .inl (K a1)), (3, .inl 1000), (0, .inr (.inr (some 11))), (1, .inl 2), (2, .inl (dp : Int))] rfl rfl rfl (by rw [show yi_w (y4 + 1) = y4 + 1 from (yi_wn (by omega) (by omega)).trans (by omega)]; rfl) ?_
          refine yi_D_run 1 (35, [(4, .inl (y4 + 1)), (5, .inl (K a1)), (3, .inl 1000), (0, .inr (.inr (some 11))), (1, .inl 2), (2, .inl (dp : Int))], [], (I48, L32, R, Y), 0, 0) (fun _ => rfl) ?_
          refine yi_D_al (al := [(4, .inl (y4 + 1)), (3, .inl 1000), (0, .inr (.inr (some 11))), (1, .inl 2), (2, .inl (dp : Int)), (5, .inl (K a1))]) (show ([4, 3, 0, 1, 2, 5] : List Nat).Nodup by decide) (show ([4, 5, 3, 0, 1, 2] : List Nat).Nodup by decide) (yi_mc (List.mem_of_getElem? (i := 0) rfl) (yi_mc (List.mem_of_getElem? (i := 5) rfl) (yi_mc (List.mem_of_getElem? (i := 1) rfl) (yi_mc (List.mem_of_getElem? (i := 2) rfl) (yi_mc (List.mem_of_getElem? (i := 3) rfl) (yi_mc (List.mem_of_getElem? (i := 4) rfl) yi_mn)))))) ?_
          exact yi_D_mono (ih35 (by omega) (y4 + 1) (K a1) I48 L32 a34 (cs35 ++ [(sp_sg (K a1).toNat, 0)]) (by omega) (by omega) hF51 hf52 hA53 hR47) (by omega)
        · have hW54 := cs_W_t hW28 hFr33
          have hF55 := cs_F_t hF29 hFr33
          have hF56 : ∀ p k, (p ≠ 11 ∧ p ≠ 19) → I31 p k = I23 p k := fun p k h => hFr33.1 p k h.1 h.2
          have hn57 : ¬ I31 11 11 = 0 := by rw [he43]; exact hz42
          have hx58 : sp_R K P V (10, a, dp, sk, ld, nm, cs) (.inr f40) := sp_R_t hst30 hR41
          show yi_D zi_Ms d zi_m255 j35 (77, [(5, .inl (K a1)), (4, .inl y4), (3, .inl 1000), (0, .inr (.inr (some 11))), (1, .inl 2), (2, .inl (dp : Int))], [], (I31, L32, R, Y), 0, 0) _
          refine yi_D_run 2 (80, [(5, .inl (K a1)), (4, .inl y4), (3, .inl 1000), (0, .inr (.inr (some 11))), (1, .inl 2), (2, .inl (dp : Int))], [.inl (K a1), .inr (.inr (some 11))], (I31, L32, R, Y), 0, 0) (fun _ => rfl) ?_
          refine yi_D_callv rfl (p_emit hW54) ?_
          rintro _ ⟨I59, rfl, hE60⟩
          have hW61 := cs_W_t hW54 (cs_E_F (L := L32) hE60)
          have hF62 := cs_F_t hF55 (cs_E_F hE60)
          have hf63 : ¬ I59 11 11 = 0 := by rw [hE60 11 11 (by omega) (by omega)]; exact hn57
          have he64 := (hE60 11 11 (by omega) (by omega)).trans he43
          show yi_D zi_Ms d zi_m255 j35 (83, [(5, .inl (K a1)), (4, .inl y4), (3, .inl 1000), (0, .inr (.inr (some 11))), (1, .inl 2), (2, .inl (dp : Int))], [], (I59, L32, R, Y), 0, 0) _
          refine yi_D_iinc [(4, .inl (yi_w (y4 + 1))), (5, .inl (K a1)), (3, .inl 1000), (0, .inr (.inr (some 11))), (1, .inl 2), (2, .inl (dp : Int))] rfl rfl rfl rfl ?_
          refine yi_D_run 1 (35, [(4, .inl (yi_w (y4 + 1))), (5, .inl (K a1)), (3, .inl 1000), (0, .inr (.inr (some 11))), (1, .inl 2), (2, .inl (dp : Int))], [], (I59, L32, R, Y), 0, 0) (fun _ => rfl) ?_
          refine yi_D_al (al := [(5, .inl (K a1)), (4, .inl (yi_w (y4 + 1))), (3, .inl 1000), (0, .inr (.inr (some 11))), (1, .inl 2), (2, .inl (dp : Int))]) (show ([5, 4, 3, 0, 1, 2] : List Nat).Nodup by decide) (show ([4, 5, 3, 0, 1, 2] : List Nat).Nodup by decide) (yi_mc (List.mem_of_getElem? (i := 1) rfl) (yi_mc (List.mem_of_getElem? (i := 0) rfl) (yi_mc (List.mem_of_getElem? (i := 2) rfl) (yi_mc (List.mem_of_getElem? (i := 3) rfl) (yi_mc (List.mem_of_getElem? (i := 4) rfl) (yi_mc (List.mem_of_getElem? (i := 5) rfl) yi_mn)))))) ?_
          exact yi_D_mono (jn35f (K a1) (yi_w (y4 + 1)) 1000 _ _ _ hF62 he64 hz42 hx58 ) (by omega)
      · refine yi_D_if2 true rfl (yi_ne_t h22) ?_
        refine yi_D_retv rfl ?_
        have hstd := sp_R_s hR9 ((sp_st13 (l := 2) (by omega)).trans (if_neg (by omega)))
        exact ⟨_, _, rfl, hF9, Or.inl ⟨_, _, hstd, by omega, hf9, hA9⟩⟩
    refine yi_D_al (al := [(4, .inl 0), (3, .inl 1000), (0, .inr (.inr (some 11))), (1, .inl 2), (2, .inl (dp : Int)), (5, .inl 0)]) (show ([4, 3, 0, 1, 2, 5] : List Nat).Nodup by decide) (show ([4, 3, 0, 1, 2] : List Nat).Nodup by decide) (yi_mc (List.mem_of_getElem? (i := 0) rfl) (yi_mc (List.mem_of_getElem? (i := 1) rfl) (yi_mc (List.mem_of_getElem? (i := 2) rfl) (yi_mc (List.mem_of_getElem? (i := 3) rfl) (yi_mc (List.mem_of_getElem? (i := 4) rfl) yi_mn))))) ?_
    exact pt35 k (Nat.le_refl _) 0 0 I4 L5 a7 cs8 (by omega) (by omega) hF18 hf11 hA12 hR20
  · have hW65 := cs_W_t hW hFr6
    have hF66 := hFr6
    have hF67 : ∀ p k, (p ≠ 11 ∧ p ≠ 19) → I4 p k = I p k := fun p k h => hFr6.1 p k h.1 h.2
    have hn68 : ¬ I4 11 11 = 0 := by rw [he16]; exact hz15
    have hx69 : sp_R K P V (10, a, dp, sk, ld, nm, cs) (.inr f13) := sp_R_t hst3 hR14
    show yi_D zi_Ms d zi_m255 k (19, [(0, .inr (.inr (some 11))), (1, .inl 2), (2, .inl (dp : Int))], [], (I4, L5, R, Y), 0, 0) _
    refine yi_D_run 2 (21, [(0, .inr (.inr (some 11))), (1, .inl 2), (2, .inl (dp : Int))], [.inl 1, .inl 2], (I4, L5, R, Y), 0, 0) (fun _ => rfl) ?_
    refine yi_D_if2 true rfl (by decide) ?_
    refine yi_D_run 4 (35, [(4, .inl 0), (3, .inl 1000), (0, .inr (.inr (some 11))), (1, .inl 2), (2, .inl (dp : Int))], [], (I4, L5, R, Y), 0, 0) (fun _ => rfl) ?_
    refine yi_D_al (al := [(5, .inl 0), (4, .inl 0), (3, .inl 1000), (0, .inr (.inr (some 11))), (1, .inl 2), (2, .inl (dp : Int))]) (show ([5, 4, 3, 0, 1, 2] : List Nat).Nodup by decide) (show ([4, 3, 0, 1, 2] : List Nat).Nodup by decide) (yi_mc (List.mem_of_getElem? (i := 1) rfl) (yi_mc (List.mem_of_getElem? (i := 2) rfl) (yi_mc (List.mem_of_getElem? (i := 3) rfl) (yi_mc (List.mem_of_getElem? (i := 4) rfl) (yi_mc (List.mem_of_getElem? (i := 5) rfl) yi_mn))))) ?_
    exact yi_D_mono (jn35f 0 0 1000 _ _ _ hF66 he16 hz15 hx69 ) (by omega)
theorem p_readExpression_s3 {d : Nat} {I L : Nat → Nat → Int} {R : Nat → Nat → Option Nat} {Y : (Nat → Nat) × (Nat → Nat) × Nat} (hRE : cs_RE d 4) {K P V : Nat → Int} {te q a : Nat} {ld : Nat → Int} {nm : Int → Int} (hW : cs_W I L R Y K P V te q ld nm) (hf : I 11 11 = 0) (hA : cs_A I L K te a) (dp : Nat) (sk : List Nat) (cs : List (Int × Int)) (hd : dp ≤ 5) : yi_P zi_Ms (d + 1) 255 [.inr (.inr (some 11)), .inl 3, .inl (dp : Int)] (I, L, R, Y) (cs_QR I L R Y K P V te (11, a, dp, sk, ld, nm, cs) 13 a dp sk ld nm) := by
  refine yi_P_s (M := zi_m255) rfl (fun k => ?_)
  have jn89f : ∀ (y5 : Int) (y4 : Int) (y3 : Int) (J G : Nat → Nat → Int) (f : Int), cs_F I L J G → J 11 11 = f → ¬ f = 0 → sp_R K P V (11, a, dp, sk, ld, nm, cs) (.inr f) → yi_D zi_Ms d zi_m255 k (89, [(5, .inl y5), (4, .inl y4), (3, .inl y3), (0, .inr (.inr (some 11))), (1, .inl 3), (2, .inl (dp : Int))], [], (J, G, R, Y), 0, 0) (cs_QR I L R Y K P V te (11, a, dp, sk, ld, nm, cs) 13 a dp sk ld nm) := by
    intro y5 y4 y3 J G f jF je jn jsp 
    have jW := cs_W_t hW jF
    have jf : ¬ J 11 11 = 0 := by rw [je]; exact jn
    have jF1 : ∀ p k, (p ≠ 11 ∧ p ≠ 19) → J p k = I p k := fun p k h => jF.1 p k h.1 h.2
    have jF2 := jF.2
    refine yi_D_retv rfl ?_
    exact ⟨_, _, rfl, jF, Or.inr ⟨_, jsp, jn, je⟩⟩
  have jn35f : ∀ (y5 : Int) (y4 : Int) (y3 : Int) (J G : Nat → Nat → Int) (f : Int), cs_F I L J G → J 11 11 = f → ¬ f = 0 → sp_R K P V (11, a, dp, sk, ld, nm, cs) (.inr f) → yi_D zi_Ms d zi_m255 k (35, [(5, .inl y5), (4, .inl y4), (3, .inl y3), (0, .inr (.inr (some 11))), (1, .inl 3), (2, .inl (dp : Int))], [], (J, G, R, Y), 0, 0) (cs_QR I L R Y K P V te (11, a, dp, sk, ld, nm, cs) 13 a dp sk ld nm) := by
    intro y5 y4 y3 J G f jF je jn jsp 
    have jW := cs_W_t hW jF
    have jf : ¬ J 11 11 = 0 := by rw [je]; exact jn
    have jF1 : ∀ p k, (p ≠ 11 ∧ p ≠ 19) → J p k = I p k := fun p k h => jF.1 p k h.1 h.2
    have jF2 := jF.2
    refine yi_D_run 2 (38, [(5, .inl y5), (4, .inl y4), (3, .inl y3), (0, .inr (.inr (some 11))), (1, .inl 3), (2, .inl (dp : Int))], [.inl y3, .inl y4], (J, G, R, Y), 0, 0) (fun _ => rfl) ?_
    by_cases h1 : y3 ≤ y4
    · refine yi_D_if2 true rfl (yi_ge_t h1) ?_
      exact yi_D_mono (jn89f y5 y4 y3 _ _ _ jF je jn jsp ) (by omega)
    · refine yi_D_if2 false rfl (yi_ge_f h1) ?_
      refine yi_D_run 1 (42, [(5, .inl y5), (4, .inl y4), (3, .inl y3), (0, .inr (.inr (some 11))), (1, .inl 3), (2, .inl (dp : Int))], [.inr (.inr (some 11))], (J, G, R, Y), 0, 0) (fun _ => rfl) ?_
      refine yi_D_gi (v := J 11 11) rfl rfl rfl rfl (fun _ => ?_)
      have h2 : ¬ ((J 11 11) = 0) := by omega
      refine yi_D_if1 true rfl (yi_ne_t h2) ?_
      exact yi_D_mono (jn89f y5 y4 y3 _ _ _ jF je jn jsp ) (by omega)
  show yi_D zi_Ms d zi_m255 k (0, [(0, .inr (.inr (some 11))), (1, .inl 3), (2, .inl (dp : Int))], [], (I, L, R, Y), 0, 0) _
  refine yi_D_run 2 (2, [(0, .inr (.inr (some 11))), (1, .inl 3), (2, .inl (dp : Int))], [.inl 4, .inl 3], (I, L, R, Y), 0, 0) (fun _ => rfl) ?_
  refine yi_D_if2 true rfl (by decide) ?_
  refine yi_D_run 3 (14, [(0, .inr (.inr (some 11))), (1, .inl 3), (2, .inl (dp : Int))], [.inl 1, .inl 3, .inr (.inr (some 11))], (I, L, R, Y), 0, 0) (fun _ => rfl) ?_
  refine yi_D_iadd rfl (4) (by decide) ?_
  refine yi_D_run 1 (16, [(0, .inr (.inr (some 11))), (1, .inl 3), (2, .inl (dp : Int))], [.inl (dp : Int), .inl 4, .inr (.inr (some 11))], (I, L, R, Y), 0, 0) (fun _ => rfl) ?_
  have hst3 : sp_R K P V (11, a, dp, sk, ld, nm, cs) (.inl (12, a, dp, 33 :: sk, ld, nm, cs)) := sp_R_1 rfl
  refine yi_D_callv rfl (hRE dp (33 :: sk) cs hW hf hA (by omega)) ?_
  rintro _ ⟨I4, L5, rfl, hFr6, (⟨a7, cs8, hR9, lt10, hf11, hA12⟩ | ⟨f13, hR14, hz15, he16⟩)⟩
  · have hW17 := cs_W_t hW hFr6
    have hF18 := hFr6
    have hF19 : ∀ p k, (p ≠ 11 ∧ p ≠ 19) → I4 p k = I p k := fun p k h => hFr6.1 p k h.1 h.2
    have hR20 := sp_R_t hst3 hR9
    show yi_D zi_Ms d zi_m255 k (19, [(0, .inr (.inr (some 11))), (1, .inl 3), (2, .inl (dp : Int))], [], (I4, L5, R, Y), 0, 0) _
    refine yi_D_run 2 (21, [(0, .inr (.inr (some 11))), (1, .inl 3), (2, .inl (dp : Int))], [.inl 1, .inl 3], (I4, L5, R, Y), 0, 0) (fun _ => rfl) ?_
    refine yi_D_if2 true rfl (by decide) ?_
    refine yi_D_run 4 (35, [(4, .inl 0), (3, .inl 1000), (0, .inr (.inr (some 11))), (1, .inl 3), (2, .inl (dp : Int))], [], (I4, L5, R, Y), 0, 0) (fun _ => rfl) ?_
    have pt35 : ∀ j35, j35 ≤ k → ∀ (y4 : Int) (y5 : Int) (J1 : Nat → Nat → Int) (G1 : Nat → Nat → Int) (a1 : Nat) (cs1 : List (Int × Int)), (0 ≤ y4 ∧ 2 * y4 < (a1 : Int)) → (a < a1) → (cs_F I L J1 G1) → (J1 11 11 = 0) → (cs_A J1 G1 K te a1) → (sp_R K P V (11, a, dp, sk, ld, nm, cs) (.inl (13, a1, dp, 33 :: sk, ld, nm, cs1))) → yi_D zi_Ms d zi_m255 j35 (35, [(4, .inl y4), (3, .inl 1000), (0, .inr (.inr (some 11))), (1, .inl 3), (2, .inl (dp : Int)), (5, .inl y5)], [], (J1, G1, R, Y), 0, 0) (cs_QR I L R Y K P V te (11, a, dp, sk, ld, nm, cs) 13 a dp sk ld nm) := by
      intro j35
      induction j35 with
      | zero => intros; exact yi_D_0
      | succ j35 ih35 =>
      intro hk35 y4 y5 J1 G1 a1 cs1 hn9 lt9 hF9 hf9 hA9 hR9
      have hW9 := cs_W_t hW hF9
      have hF91 : ∀ p k, (p ≠ 11 ∧ p ≠ 19) → J1 p k = I p k := fun p k h => hF9.1 p k h.1 h.2
      have hle9 := hA9.2.1
      have hte9 := hW.2.1.1
      refine yi_D_run1 1 (38, [(4, .inl y4), (3, .inl 1000), (0, .inr (.inr (some 11))), (1, .inl 3), (2, .inl (dp : Int)), (5, .inl y5)], [.inl 1000, .inl y4], (J1, G1, R, Y), 0, 0) (fun _ => rfl) ?_
      have h21 : ¬ (1000 ≤ y4) := by omega
      refine yi_D_if2 false rfl (yi_ge_f h21) ?_
      refine yi_D_run 1 (42, [(4, .inl y4), (3, .inl 1000), (0, .inr (.inr (some 11))), (1, .inl 3), (2, .inl (dp : Int)), (5, .inl y5)], [.inr (.inr (some 11))], (J1, G1, R, Y), 0, 0) (fun _ => rfl) ?_
      refine yi_D_gi (v := 0) rfl rfl rfl hf9 (fun _ => ?_)
      refine yi_D_if1 false rfl (by decide) ?_
      refine yi_D_run 1 (49, [(4, .inl y4), (3, .inl 1000), (0, .inr (.inr (some 11))), (1, .inl 3), (2, .inl (dp : Int)), (5, .inl y5)], [.inr (.inr (some 11))], (J1, G1, R, Y), 0, 0) (fun _ => rfl) ?_
      refine yi_D_gi (v := K a1) rfl rfl rfl hA9.2.2.1 (fun _ => ?_)
      refine yi_D_calls rfl (p_levelOf) ?_
      rintro _ rfl
      show yi_D zi_Ms d zi_m255 j35 (55, [(4, .inl y4), (3, .inl 1000), (0, .inr (.inr (some 11))), (1, .inl 3), (2, .inl (dp : Int)), (5, .inl y5)], [.inl (sp_lv (K a1))], (J1, G1, R, Y), 0, 0) _
      refine yi_D_run 1 (56, [(4, .inl y4), (3, .inl 1000), (0, .inr (.inr (some 11))), (1, .inl 3), (2, .inl (dp : Int)), (5, .inl y5)], [.inl 3, .inl (sp_lv (K a1))], (J1, G1, R, Y), 0, 0) (fun _ => rfl) ?_
      have hlva1 := sp_lv_i (k := K a1) (l := 3) (by omega)
      have hlna1 := sp_lev_n (k := K a1)
      by_cases h22 : (sp_lv (K a1)) = 3
      · refine yi_D_if2 false rfl (yi_ne_f h22) ?_
        refine yi_D_run 1 (60, [(4, .inl y4), (3, .inl 1000), (0, .inr (.inr (some 11))), (1, .inl 3), (2, .inl (dp : Int)), (5, .inl y5)], [.inr (.inr (some 11))], (J1, G1, R, Y), 0, 0) (fun _ => rfl) ?_
        refine yi_D_gi (v := K a1) rfl rfl rfl hA9.2.2.1 (fun _ => ?_)
        refine yi_D_run 2 (66, [(5, .inl (K a1)), (4, .inl y4), (3, .inl 1000), (0, .inr (.inr (some 11))), (1, .inl 3), (2, .inl (dp : Int))], [.inr (.inr (some 11))], (J1, G1, R, Y), 0, 0) (fun _ => rfl) ?_
        refine yi_D_callv rfl (p_advance_z hW9 hf9 hA9) ?_
        rintro _ ⟨I23, L24, rfl, hGa25, hf26, hA27⟩
        rw [sp_nx_lt (cs_lt hW9.2.1 hA9.2.1 (by omega))] at hA27
        have hA27 : cs_A I23 L24 K te (a1 + 1) := hA27
        have hW28 := cs_W_t hW9 (cs_G_F hGa25)
        have hF29 := cs_F_t hF9 (cs_G_F hGa25)
        show yi_D zi_Ms d zi_m255 j35 (69, [(5, .inl (K a1)), (4, .inl y4), (3, .inl 1000), (0, .inr (.inr (some 11))), (1, .inl 3), (2, .inl (dp : Int))], [], (I23, L24, R, Y), 0, 0) _
        refine yi_D_run 3 (72, [(5, .inl (K a1)), (4, .inl y4), (3, .inl 1000), (0, .inr (.inr (some 11))), (1, .inl 3), (2, .inl (dp : Int))], [.inl 1, .inl 3, .inr (.inr (some 11))], (I23, L24, R, Y), 0, 0) (fun _ => rfl) ?_
        refine yi_D_iadd rfl (4) (by decide) ?_
        refine yi_D_run 1 (74, [(5, .inl (K a1)), (4, .inl y4), (3, .inl 1000), (0, .inr (.inr (some 11))), (1, .inl 3), (2, .inl (dp : Int))], [.inl (dp : Int), .inl 4, .inr (.inr (some 11))], (I23, L24, R, Y), 0, 0) (fun _ => rfl) ?_
        have hst30 : sp_R K P V (11, a, dp, sk, ld, nm, cs) (.inl (12, a1 + 1, dp, (100 + 8 * (K a1).toNat + 3) :: sk, ld, nm, cs1)) := sp_R_s hR9 ((sp_st13 (l := 3) (by omega)).trans (if_pos (by omega)))
        refine yi_D_callv rfl (hRE dp ((100 + 8 * (K a1).toNat + 3) :: sk) cs1 hW28 hf26 hA27 (by omega)) ?_
        rintro _ ⟨I31, L32, rfl, hFr33, (⟨a34, cs35, hR36, lt37, hf38, hA39⟩ | ⟨f40, hR41, hz42, he43⟩)⟩
        · have hW44 := cs_W_t hW28 hFr33
          have hF45 := cs_F_t hF29 hFr33
          have hF46 : ∀ p k, (p ≠ 11 ∧ p ≠ 19) → I31 p k = I23 p k := fun p k h => hFr33.1 p k h.1 h.2
          have hR47 := sp_R_s (sp_R_t hst30 hR36) (sp_st13b (l := 3) (by omega) (by omega))
          show yi_D zi_Ms d zi_m255 j35 (77, [(5, .inl (K a1)), (4, .inl y4), (3, .inl 1000), (0, .inr (.inr (some 11))), (1, .inl 3), (2, .inl (dp : Int))], [], (I31, L32, R, Y), 0, 0) _
          refine yi_D_run 2 (80, [(5, .inl (K a1)), (4, .inl y4), (3, .inl 1000), (0, .inr (.inr (some 11))), (1, .inl 3), (2, .inl (dp : Int))], [.inl (K a1), .inr (.inr (some 11))], (I31, L32, R, Y), 0, 0) (fun _ => rfl) ?_
          refine yi_D_callv rfl (p_emit hW44) ?_
          rintro _ ⟨I48, rfl, hE49⟩
          have hW50 := cs_W_t hW44 (cs_E_F (L := L32) hE49)
          have hF51 := cs_F_t hF45 (cs_E_F hE49)
          have hf52 : I48 11 11 = 0 := (hE49 11 11 (by omega) (by omega)).trans hf38
          have hA53 := cs_A_e hA39 hE49
          show yi_D zi_Ms d zi_m255 j35 (83, [(5, .inl (K a1)), (4, .inl y4), (3, .inl 1000), (0, .inr (.inr (some 11))), (1, .inl 3), (2, .inl (dp : Int))], [], (I48, L32, R, Y), 0, 0) _
          refine yi_D_iinc [(4, .inl (y4 + 1)), (5, .inl (K a1)), (3, .inl 1000), (0, .inr (.inr (some 11))), (1, .inl 3), (2, .inl (dp : Int))] rfl rfl rfl (by rw [show yi_w (y4 + 1) = y4 + 1 from (yi_wn (by omega) (by omega)).trans (by omega)]; rfl) ?_
          refine yi_D_run 1 (35, [(4, .inl (y4 + 1)), (5, .inl (K a1)), (3, .inl 1000), (0, .inr (.inr (some 11))), (1, .inl 3), (2, .inl (dp : Int))], [], (I48, L32, R, Y), 0, 0) (fun _ => rfl) ?_
          refine yi_D_al (al := [(4, .inl (y4 + 1)), (3, .inl 1000), (0, .inr (.inr (some 11))), (1, .inl 3), (2, .inl (dp : Int)), (5, .inl (K a1))]) (show ([4, 3, 0, 1, 2, 5] : List Nat).Nodup by decide) (show ([4, 5, 3, 0, 1, 2] : List Nat).Nodup by decide) (yi_mc (List.mem_of_getElem? (i := 0) rfl) (yi_mc (List.mem_of_getElem? (i := 5) rfl) (yi_mc (List.mem_of_getElem? (i := 1) rfl) (yi_mc (List.mem_of_getElem? (i := 2) rfl) (yi_mc (List.mem_of_getElem? (i := 3) rfl) (yi_mc (List.mem_of_getElem? (i := 4) rfl) yi_mn)))))) ?_
          exact yi_D_mono (ih35 (by omega) (y4 + 1) (K a1) I48 L32 a34 (cs35 ++ [(sp_sg (K a1).toNat, 0)]) (by omega) (by omega) hF51 hf52 hA53 hR47) (by omega)
        · have hW54 := cs_W_t hW28 hFr33
          have hF55 := cs_F_t hF29 hFr33
          have hF56 : ∀ p k, (p ≠ 11 ∧ p ≠ 19) → I31 p k = I23 p k := fun p k h => hFr33.1 p k h.1 h.2
          have hn57 : ¬ I31 11 11 = 0 := by rw [he43]; exact hz42
          have hx58 : sp_R K P V (11, a, dp, sk, ld, nm, cs) (.inr f40) := sp_R_t hst30 hR41
          show yi_D zi_Ms d zi_m255 j35 (77, [(5, .inl (K a1)), (4, .inl y4), (3, .inl 1000), (0, .inr (.inr (some 11))), (1, .inl 3), (2, .inl (dp : Int))], [], (I31, L32, R, Y), 0, 0) _
          refine yi_D_run 2 (80, [(5, .inl (K a1)), (4, .inl y4), (3, .inl 1000), (0, .inr (.inr (some 11))), (1, .inl 3), (2, .inl (dp : Int))], [.inl (K a1), .inr (.inr (some 11))], (I31, L32, R, Y), 0, 0) (fun _ => rfl) ?_
          refine yi_D_callv rfl (p_emit hW54) ?_
          rintro _ ⟨I59, rfl, hE60⟩
          have hW61 := cs_W_t hW54 (cs_E_F (L := L32) hE60)
          have hF62 := cs_F_t hF55 (cs_E_F hE60)
          have hf63 : ¬ I59 11 11 = 0 := by rw [hE60 11 11 (by omega) (by omega)]; exact hn57
          have he64 := (hE60 11 11 (by omega) (by omega)).trans he43
          show yi_D zi_Ms d zi_m255 j35 (83, [(5, .inl (K a1)), (4, .inl y4), (3, .inl 1000), (0, .inr (.inr (some 11))), (1, .inl 3), (2, .inl (dp : Int))], [], (I59, L32, R, Y), 0, 0) _
          refine yi_D_iinc [(4, .inl (yi_w (y4 + 1))), (5, .inl (K a1)), (3, .inl 1000), (0, .inr (.inr (some 11))), (1, .inl 3), (2, .inl (dp : Int))] rfl rfl rfl rfl ?_
          refine yi_D_run 1 (35, [(4, .inl (yi_w (y4 + 1))), (5, .inl (K a1)), (3, .inl 1000), (0, .inr (.inr (some 11))), (1, .inl 3), (2, .inl (dp : Int))], [], (I59, L32, R, Y), 0, 0) (fun _ => rfl) ?_
          refine yi_D_al (al := [(5, .inl (K a1)), (4, .inl (yi_w (y4 + 1))), (3, .inl 1000), (0, .inr (.inr (some 11))), (1, .inl 3), (2, .inl (dp : Int))]) (show ([5, 4, 3, 0, 1, 2] : List Nat).Nodup by decide) (show ([4, 5, 3, 0, 1, 2] : List Nat).Nodup by decide) (yi_mc (List.mem_of_getElem? (i := 1) rfl) (yi_mc (List.mem_of_getElem? (i := 0) rfl) (yi_mc (List.mem_of_getElem? (i := 2) rfl) (yi_mc (List.mem_of_getElem? (i := 3) rfl) (yi_mc (List.mem_of_getElem? (i := 4) rfl) (yi_mc (List.mem_of_getElem? (i := 5) rfl) yi_mn)))))) ?_
          exact yi_D_mono (jn35f (K a1) (yi_w (y4 + 1)) 1000 _ _ _ hF62 he64 hz42 hx58 ) (by omega)
      · refine yi_D_if2 true rfl (yi_ne_t h22) ?_
        refine yi_D_retv rfl ?_
        have hstd := sp_R_s hR9 ((sp_st13 (l := 3) (by omega)).trans (if_neg (by omega)))
        exact ⟨_, _, rfl, hF9, Or.inl ⟨_, _, hstd, by omega, hf9, hA9⟩⟩
    refine yi_D_al (al := [(4, .inl 0), (3, .inl 1000), (0, .inr (.inr (some 11))), (1, .inl 3), (2, .inl (dp : Int)), (5, .inl 0)]) (show ([4, 3, 0, 1, 2, 5] : List Nat).Nodup by decide) (show ([4, 3, 0, 1, 2] : List Nat).Nodup by decide) (yi_mc (List.mem_of_getElem? (i := 0) rfl) (yi_mc (List.mem_of_getElem? (i := 1) rfl) (yi_mc (List.mem_of_getElem? (i := 2) rfl) (yi_mc (List.mem_of_getElem? (i := 3) rfl) (yi_mc (List.mem_of_getElem? (i := 4) rfl) yi_mn))))) ?_
    exact pt35 k (Nat.le_refl _) 0 0 I4 L5 a7 cs8 (by omega) (by omega) hF18 hf11 hA12 hR20
  · have hW65 := cs_W_t hW hFr6
    have hF66 := hFr6
    have hF67 : ∀ p k, (p ≠ 11 ∧ p ≠ 19) → I4 p k = I p k := fun p k h => hFr6.1 p k h.1 h.2
    have hn68 : ¬ I4 11 11 = 0 := by rw [he16]; exact hz15
    have hx69 : sp_R K P V (11, a, dp, sk, ld, nm, cs) (.inr f13) := sp_R_t hst3 hR14
    show yi_D zi_Ms d zi_m255 k (19, [(0, .inr (.inr (some 11))), (1, .inl 3), (2, .inl (dp : Int))], [], (I4, L5, R, Y), 0, 0) _
    refine yi_D_run 2 (21, [(0, .inr (.inr (some 11))), (1, .inl 3), (2, .inl (dp : Int))], [.inl 1, .inl 3], (I4, L5, R, Y), 0, 0) (fun _ => rfl) ?_
    refine yi_D_if2 true rfl (by decide) ?_
    refine yi_D_run 4 (35, [(4, .inl 0), (3, .inl 1000), (0, .inr (.inr (some 11))), (1, .inl 3), (2, .inl (dp : Int))], [], (I4, L5, R, Y), 0, 0) (fun _ => rfl) ?_
    refine yi_D_al (al := [(5, .inl 0), (4, .inl 0), (3, .inl 1000), (0, .inr (.inr (some 11))), (1, .inl 3), (2, .inl (dp : Int))]) (show ([5, 4, 3, 0, 1, 2] : List Nat).Nodup by decide) (show ([4, 3, 0, 1, 2] : List Nat).Nodup by decide) (yi_mc (List.mem_of_getElem? (i := 1) rfl) (yi_mc (List.mem_of_getElem? (i := 2) rfl) (yi_mc (List.mem_of_getElem? (i := 3) rfl) (yi_mc (List.mem_of_getElem? (i := 4) rfl) (yi_mc (List.mem_of_getElem? (i := 5) rfl) yi_mn))))) ?_
    exact yi_D_mono (jn35f 0 0 1000 _ _ _ hF66 he16 hz15 hx69 ) (by omega)
theorem p_readExpression_s4 {d : Nat} {I L : Nat → Nat → Int} {R : Nat → Nat → Option Nat} {Y : (Nat → Nat) × (Nat → Nat) × Nat} (hRP : cs_RP d) {K P V : Nat → Int} {te q a : Nat} {ld : Nat → Int} {nm : Int → Int} (hW : cs_W I L R Y K P V te q ld nm) (hf : I 11 11 = 0) (hA : cs_A I L K te a) (dp : Nat) (sk : List Nat) (cs : List (Int × Int)) (hd : dp ≤ 5) : yi_P zi_Ms (d + 1) 255 [.inr (.inr (some 11)), .inl 4, .inl (dp : Int)] (I, L, R, Y) (cs_QR I L R Y K P V te (12, a, dp, sk, ld, nm, cs) 13 a dp sk ld nm) := by
  refine yi_P_s (M := zi_m255) rfl (fun k => ?_)
  show yi_D zi_Ms d zi_m255 k (0, [(0, .inr (.inr (some 11))), (1, .inl 4), (2, .inl (dp : Int))], [], (I, L, R, Y), 0, 0) _
  refine yi_D_run 2 (2, [(0, .inr (.inr (some 11))), (1, .inl 4), (2, .inl (dp : Int))], [.inl 4, .inl 4], (I, L, R, Y), 0, 0) (fun _ => rfl) ?_
  refine yi_D_if2 false rfl (by decide) ?_
  refine yi_D_run 2 (7, [(0, .inr (.inr (some 11))), (1, .inl 4), (2, .inl (dp : Int))], [.inl (dp : Int), .inr (.inr (some 11))], (I, L, R, Y), 0, 0) (fun _ => rfl) ?_
  refine yi_D_callv rfl (hRP dp sk cs hW hf hA (by omega)) ?_
  rintro _ ⟨I1, L2, rfl, hFr3, (⟨a4, cs5, hR6, lt7, hf8, hA9⟩ | ⟨f10, hR11, hz12, he13⟩)⟩
  · have hW14 := cs_W_t hW hFr3
    have hF15 := hFr3
    have hF16 : ∀ p k, (p ≠ 11 ∧ p ≠ 19) → I1 p k = I p k := fun p k h => hFr3.1 p k h.1 h.2
    have hR17 := hR6
    show yi_D zi_Ms d zi_m255 k (10, [(0, .inr (.inr (some 11))), (1, .inl 4), (2, .inl (dp : Int))], [], (I1, L2, R, Y), 0, 0) _
    refine yi_D_retv rfl ?_
    exact ⟨_, _, rfl, hF15, Or.inl ⟨_, _, hR17, by omega, hf8, hA9⟩⟩
  · have hW18 := cs_W_t hW hFr3
    have hF19 := hFr3
    have hF20 : ∀ p k, (p ≠ 11 ∧ p ≠ 19) → I1 p k = I p k := fun p k h => hFr3.1 p k h.1 h.2
    have hn21 : ¬ I1 11 11 = 0 := by rw [he13]; exact hz12
    have hx22 : sp_R K P V (12, a, dp, sk, ld, nm, cs) (.inr f10) := hR11
    show yi_D zi_Ms d zi_m255 k (10, [(0, .inr (.inr (some 11))), (1, .inl 4), (2, .inl (dp : Int))], [], (I1, L2, R, Y), 0, 0) _
    refine yi_D_retv rfl ?_
    exact ⟨_, _, rfl, hF19, Or.inr ⟨_, hx22, hz12, he13⟩⟩
theorem p_readExpr : ∀ d, cs_RP d ∧ cs_RE d 0 ∧ cs_RE d 1 ∧ cs_RE d 2 ∧ cs_RE d 3 ∧ cs_RE d 4
  | 0 => ⟨fun _ _ _ _ _ _ _ => yi_P_0, fun _ _ _ _ _ _ _ => yi_P_0, fun _ _ _ _ _ _ _ => yi_P_0, fun _ _ _ _ _ _ _ => yi_P_0, fun _ _ _ _ _ _ _ => yi_P_0, fun _ _ _ _ _ _ _ => yi_P_0⟩
  | d + 1 => by
    obtain ⟨hp, h0, h1, h2, h3, h4⟩ := p_readExpr d
    exact ⟨fun dp sk cs hW hf hA hd => p_readPart_s hp h0 hW hf hA dp sk cs hd, fun dp sk cs hW hf hA hd => p_readExpression_s0 h1 hW hf hA dp sk cs hd, fun dp sk cs hW hf hA hd => p_readExpression_s1 h2 hW hf hA dp sk cs hd, fun dp sk cs hW hf hA hd => p_readExpression_s2 h3 hW hf hA dp sk cs hd, fun dp sk cs hW hf hA hd => p_readExpression_s3 h4 hW hf hA dp sk cs hd, fun dp sk cs hW hf hA hd => p_readExpression_s4 hp hW hf hA dp sk cs hd⟩
theorem p_readExpression_z {d : Nat} : cs_RE d 0 := (p_readExpr d).2.1
